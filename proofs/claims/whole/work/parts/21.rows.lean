/-! Walks of the small machine, goal first. -/
section
variable (fm : Value) (d : Nat) (M : q_M) (o : q_O) (σ' : q_H)
def q_G (pc : Nat) (ls : q_L) (st : List Value) (σ : q_H) : Prop := ∃ n, q_run fm q_Ms (q_Rel fm q_Ms d) (d + 1) M o σ' n pc ls st σ
end
/-- e comes to what E says of: then G -/
def q_J {T : Type} (E : T → q_H → Prop) (e : Option (T × q_H)) (G : Prop) : Prop := ∀ t σ1, e = some (t, σ1) → E t σ1 → G
section
variable {T S : Type} {E : T → q_H → Prop} {G G' : Prop}
theorem q_J.step {e : Option (T × q_H)} (h : G' → G) (j : q_J E e G') : q_J E e G := fun t σ1 h1 h2 => h (j t σ1 h1 h2)
theorem J_some {t : T} {σ : q_H} (h : E t σ → G) : q_J E (some (t, σ)) G := fun t1 σ1 h1 h2 => by cases h1; exact h h2
theorem J_none : q_J E none G := fun _ _ h1 _ => by cases h1
theorem J_ite {c : Prop} [Decidable c] {a b : Option (T × q_H)} (h1 : c → q_J E a G) (h2 : ¬ c → q_J E b G) : q_J E (if c then a else b) G := by
  by_cases h : c
  · rw [if_pos h]; exact h1 h
  · rw [if_neg h]; exact h2 h
theorem J_bind {α : Type} {r : Option α} {k : α → Option (T × q_H)} (h : ∀ x, r = some x → q_J E (k x) G) : q_J E (r.bind k) G := by
  cases r with
  | none => exact J_none
  | some x => exact h x rfl
theorem J_seq {e : Option (S × q_H)} {k : S × q_H → Option (T × q_H)} {F : S → q_H → Prop} (h1 : q_J F e G) (h2 : ∀ t σ1, q_J E (k (t, σ1)) (F t σ1)) : q_J E (e.bind k) G := by
  intro t σ1 h3 h4
  obtain ⟨r, h5, h6⟩ := Option.bind_eq_some_iff.mp h3
  obtain ⟨s, σ2⟩ := r
  exact h1 s σ2 h5 (h2 s σ2 t σ1 h6 h4)
theorem J_eq {e e2 : Option (T × q_H)} (h : e = e2) (j : q_J E e2 G) : q_J E e G := h ▸ j
end
/-- typed reads -/
theorem q_gi_some {v : Option Value} {x : Int32} (h : q_gi v = some x) : v = some (.int x) := by
  unfold q_gi at h
  split at h
  · cases h; rfl
  · cases h
theorem q_gl_some {v : Option Value} {x : Int64} (h : q_gl' v = some x) : v = some (.long x) := by
  unfold q_gl' at h
  split at h
  · cases h; rfl
  · cases h
theorem q_gr_some {v : Option Value} {x : Nat} (h : q_gr v = some x) : v = some (.ref x) := by
  unfold q_gr at h
  split at h
  · cases h; rfl
  · cases h
theorem q_go_some {v : Option Value} {x : Option Nat} (h : q_go v = some x) : v = some (q_rf x) := by
  unfold q_go at h
  split at h
  · cases h; rfl
  · cases h; rfl
  · cases h
theorem q_le_tr : ∀ {a b c : q_L}, q_le a b → q_le b c → q_le a c
  | [], [], [], _, _ => trivial
  | x :: a, y :: b, w :: c, h, k => by
    refine ⟨?_, q_le_tr h.2 k.2⟩
    rcases h.1 with h1 | h1
    · exact Or.inl h1
    · rcases k.1 with k1 | k1
      · exact Or.inl (h1.trans k1)
      · exact Or.inr (h1.trans k1)
  | [], _ :: _, _, h, _ => by simp [q_le] at h
  | _ :: _, [], _, h, _ => by simp [q_le] at h
  | _, [], _ :: _, _, h => by simp [q_le] at h
  | _, _ :: _, [], _, h => by simp [q_le] at h
section
variable {fm : Value} {d : Nat} {M : q_M} {o : q_O} {σ' σ : q_H} {pc nx a1 a2 : Nat} {z : Int} {ls l : q_L} {st t : List Value}
theorem j_one {r : q_R} (h : q_lk M.2.2.2.2.2 pc = some r) {K : Nat → q_L → List Value → q_H → Prop} (hm : ∀ n, q_one fm q_Ms (q_Rel fm q_Ms d) (d + 1) M r (q_run fm q_Ms (q_Rel fm q_Ms d) (d + 1) M o σ' n) ls st σ o σ') : q_G fm d M o σ' pc ls st σ := ⟨1, r, ls, h, q_le_refl _, hm 0⟩
theorem j_weak (h : q_le l ls) (g : q_G fm d M o σ' pc l st σ) : q_G fm d M o σ' pc ls st σ := by
  obtain ⟨n, g⟩ := g
  cases n with
  | zero => exact False.elim g
  | succ n =>
    obtain ⟨r, l0, h1, h2, h3⟩ := g
    exact ⟨n + 1, r, l0, h1, q_le_tr h2 h, h3⟩
/-- a step whose K holds where the walk goes on -/
theorem j_go {r : q_R} {pc' : Nat} {ls' : q_L} {st' : List Value} {σ1 : q_H} (h : q_lk M.2.2.2.2.2 pc = some r) (hs : ∀ K : Nat → q_L → List Value → q_H → Prop, K pc' ls' st' σ1 → q_one fm q_Ms (q_Rel fm q_Ms d) (d + 1) M r K ls st σ o σ') (g : q_G fm d M o σ' pc' ls' st' σ1) : q_G fm d M o σ' pc ls st σ := by
  obtain ⟨n, g⟩ := g
  exact ⟨n + 1, r, ls, h, q_le_refl _, hs _ g⟩
theorem j_null (h : q_lk M.2.2.2.2.2 pc = some (pc, .aconst_null, nx, a1, a2, z)) (g : q_G fm d M o σ' nx ls (.null :: st) σ) : q_G fm d M o σ' pc ls st σ := j_go h (fun _ k => k) g
theorem j_iconst {n : Int} (v : Int32) (h : q_lk M.2.2.2.2.2 pc = some (pc, .iconst n, nx, a1, a2, z)) (hv : Int32.ofInt n = v) (g : q_G fm d M o σ' nx ls (.int v :: st) σ) : q_G fm d M o σ' pc ls st σ := j_go h (fun _ k => by subst hv; exact k) g
theorem j_lconst {n : Fin 2} (v : Int64) (h : q_lk M.2.2.2.2.2 pc = some (pc, .lconst n, nx, a1, a2, z)) (hv : Int64.ofNat n = v) (g : q_G fm d M o σ' nx ls (.long v :: st) σ) : q_G fm d M o σ' pc ls st σ := j_go h (fun _ k => by subst hv; exact k) g
theorem j_bipush {n : Int} (v : Int32) (h : q_lk M.2.2.2.2.2 pc = some (pc, .bipush n, nx, a1, a2, z)) (hv : (Int8.ofInt n).toInt32 = v) (g : q_G fm d M o σ' nx ls (.int v :: st) σ) : q_G fm d M o σ' pc ls st σ := j_go h (fun _ k => by subst hv; exact k) g
theorem j_sipush {n : Int} (v : Int32) (h : q_lk M.2.2.2.2.2 pc = some (pc, .sipush n, nx, a1, a2, z)) (hv : (Int16.ofInt n).toInt32 = v) (g : q_G fm d M o σ' nx ls (.int v :: st) σ) : q_G fm d M o σ' pc ls st σ := j_go h (fun _ k => by subst hv; exact k) g
theorem j_ldc {k : Nat} (h : q_lk M.2.2.2.2.2 pc = some (pc, .ldc k, nx, a1, a2, z)) (g : q_G fm d M o σ' nx ls (.ref a1 :: st) σ) : q_G fm d M o σ' pc ls st σ := j_go h (fun _ k => k) g
theorem j_ldc2 {k : Nat} (v : Int64) (h : q_lk M.2.2.2.2.2 pc = some (pc, .ldc2_w k, nx, a1, a2, z)) (hv : Int64.ofInt z = v) (g : q_G fm d M o σ' nx ls (.long v :: st) σ) : q_G fm d M o σ' pc ls st σ := j_go h (fun _ k => by subst hv; exact k) g
theorem j_iload {k : Nat} {x : Int32} (h : q_lk M.2.2.2.2.2 pc = some (pc, .iload k, nx, a1, a2, z)) (hl : ls[k]? = some (some (.int x))) (g : q_G fm d M o σ' nx ls (.int x :: st) σ) : q_G fm d M o σ' pc ls st σ := j_go h (fun _ k => ⟨x, hl, k⟩) g
theorem j_iload_n {k : Fin 4} {x : Int32} (h : q_lk M.2.2.2.2.2 pc = some (pc, .iload_n k, nx, a1, a2, z)) (hl : ls[k.val]? = some (some (.int x))) (g : q_G fm d M o σ' nx ls (.int x :: st) σ) : q_G fm d M o σ' pc ls st σ := j_go h (fun _ k => ⟨x, hl, k⟩) g
theorem j_lload {k : Nat} {x : Int64} (h : q_lk M.2.2.2.2.2 pc = some (pc, .lload k, nx, a1, a2, z)) (hl : ls[k]? = some (some (.long x))) (g : q_G fm d M o σ' nx ls (.long x :: st) σ) : q_G fm d M o σ' pc ls st σ := j_go h (fun _ k => ⟨x, hl, k⟩) g
theorem j_lload_n {k : Fin 4} {x : Int64} (h : q_lk M.2.2.2.2.2 pc = some (pc, .lload_n k, nx, a1, a2, z)) (hl : ls[k.val]? = some (some (.long x))) (g : q_G fm d M o σ' nx ls (.long x :: st) σ) : q_G fm d M o σ' pc ls st σ := j_go h (fun _ k => ⟨x, hl, k⟩) g
theorem j_aload {k x : Nat} (h : q_lk M.2.2.2.2.2 pc = some (pc, .aload k, nx, a1, a2, z)) (hl : ls[k]? = some (some (.ref x))) (g : q_G fm d M o σ' nx ls (.ref x :: st) σ) : q_G fm d M o σ' pc ls st σ := j_go h (fun _ k => ⟨.ref x, hl, Or.inr ⟨x, rfl⟩, k⟩) g
theorem j_aload_n {k : Fin 4} {x : Nat} (h : q_lk M.2.2.2.2.2 pc = some (pc, .aload_n k, nx, a1, a2, z)) (hl : ls[k.val]? = some (some (.ref x))) (g : q_G fm d M o σ' nx ls (.ref x :: st) σ) : q_G fm d M o σ' pc ls st σ := j_go h (fun _ k => ⟨.ref x, hl, Or.inr ⟨x, rfl⟩, k⟩) g
theorem j_aloadO {k : Nat} {x : Option Nat} (h : q_lk M.2.2.2.2.2 pc = some (pc, .aload k, nx, a1, a2, z)) (hl : ls[k]? = some (some (q_rf x))) (g : q_G fm d M o σ' nx ls (q_rf x :: st) σ) : q_G fm d M o σ' pc ls st σ := j_go h (fun _ k => ⟨q_rf x, hl, q_rf_is x, k⟩) g
theorem j_aload_nO {k : Fin 4} {x : Option Nat} (h : q_lk M.2.2.2.2.2 pc = some (pc, .aload_n k, nx, a1, a2, z)) (hl : ls[k.val]? = some (some (q_rf x))) (g : q_G fm d M o σ' nx ls (q_rf x :: st) σ) : q_G fm d M o σ' pc ls st σ := j_go h (fun _ k => ⟨q_rf x, hl, q_rf_is x, k⟩) g
theorem j_istore {k : Nat} {x : Int32} (l : q_L) (h : q_lk M.2.2.2.2.2 pc = some (pc, .istore k, nx, a1, a2, z)) (hk : Nat.blt k ls.length = true) (hc : q_c1 ls k) (hs : ls.set k (some (.int x)) = l) (g : q_G fm d M o σ' nx l st σ) : q_G fm d M o σ' pc ls (.int x :: st) σ := j_go h (fun _ q => ⟨x, st, rfl, Nat.le_of_ble_eq_true hk, hc, by rw [q_set1, hs]; exact q⟩) g
theorem j_istore_n {k : Fin 4} {x : Int32} (l : q_L) (h : q_lk M.2.2.2.2.2 pc = some (pc, .istore_n k, nx, a1, a2, z)) (hk : Nat.blt k.val ls.length = true) (hc : q_c1 ls k.val) (hs : ls.set k.val (some (.int x)) = l) (g : q_G fm d M o σ' nx l st σ) : q_G fm d M o σ' pc ls (.int x :: st) σ := j_go h (fun _ q => ⟨x, st, rfl, Nat.le_of_ble_eq_true hk, hc, by rw [q_set1, hs]; exact q⟩) g
theorem j_lstore {k : Nat} {x : Int64} (l : q_L) (h : q_lk M.2.2.2.2.2 pc = some (pc, .lstore k, nx, a1, a2, z)) (hk : Nat.blt (k + 1) ls.length = true) (hc : q_c1 ls k) (hs : (ls.set k (some (.long x))).set (k + 1) none = l) (g : q_G fm d M o σ' nx l st σ) : q_G fm d M o σ' pc ls (.long x :: st) σ := j_go h (fun _ q => ⟨x, st, rfl, Nat.le_of_ble_eq_true hk, hc, by rw [q_set2, hs]; exact q⟩) g
theorem j_lstore_n {k : Fin 4} {x : Int64} (l : q_L) (h : q_lk M.2.2.2.2.2 pc = some (pc, .lstore_n k, nx, a1, a2, z)) (hk : Nat.blt (k.val + 1) ls.length = true) (hc : q_c1 ls k.val) (hs : (ls.set k.val (some (.long x))).set (k.val + 1) none = l) (g : q_G fm d M o σ' nx l st σ) : q_G fm d M o σ' pc ls (.long x :: st) σ := j_go h (fun _ q => ⟨x, st, rfl, Nat.le_of_ble_eq_true hk, hc, by rw [q_set2, hs]; exact q⟩) g
theorem j_astore {k x : Nat} (l : q_L) (h : q_lk M.2.2.2.2.2 pc = some (pc, .astore k, nx, a1, a2, z)) (hk : Nat.blt k ls.length = true) (hc : q_c1 ls k) (hs : ls.set k (some (.ref x)) = l) (g : q_G fm d M o σ' nx l st σ) : q_G fm d M o σ' pc ls (.ref x :: st) σ := j_go h (fun _ q => ⟨.ref x, st, rfl, Or.inr ⟨x, rfl⟩, Nat.le_of_ble_eq_true hk, hc, by rw [q_set1, hs]; exact q⟩) g
theorem j_astore_n {k : Fin 4} {x : Nat} (l : q_L) (h : q_lk M.2.2.2.2.2 pc = some (pc, .astore_n k, nx, a1, a2, z)) (hk : Nat.blt k.val ls.length = true) (hc : q_c1 ls k.val) (hs : ls.set k.val (some (.ref x)) = l) (g : q_G fm d M o σ' nx l st σ) : q_G fm d M o σ' pc ls (.ref x :: st) σ := j_go h (fun _ q => ⟨.ref x, st, rfl, Or.inr ⟨x, rfl⟩, Nat.le_of_ble_eq_true hk, hc, by rw [q_set1, hs]; exact q⟩) g
theorem j_astoreO {k : Nat} {x : Option Nat} (l : q_L) (h : q_lk M.2.2.2.2.2 pc = some (pc, .astore k, nx, a1, a2, z)) (hk : Nat.blt k ls.length = true) (hc : q_c1 ls k) (hs : ls.set k (some (q_rf x)) = l) (g : q_G fm d M o σ' nx l st σ) : q_G fm d M o σ' pc ls (q_rf x :: st) σ := j_go h (fun _ q => ⟨q_rf x, st, rfl, q_rf_is x, Nat.le_of_ble_eq_true hk, hc, by rw [q_set1, hs]; exact q⟩) g
theorem j_astore_nO {k : Fin 4} {x : Option Nat} (l : q_L) (h : q_lk M.2.2.2.2.2 pc = some (pc, .astore_n k, nx, a1, a2, z)) (hk : Nat.blt k.val ls.length = true) (hc : q_c1 ls k.val) (hs : ls.set k.val (some (q_rf x)) = l) (g : q_G fm d M o σ' nx l st σ) : q_G fm d M o σ' pc ls (q_rf x :: st) σ := j_go h (fun _ q => ⟨q_rf x, st, rfl, q_rf_is x, Nat.le_of_ble_eq_true hk, hc, by rw [q_set1, hs]; exact q⟩) g
theorem j_iinc {k : Nat} {x : Int32} {n : Int} (l : q_L) (v : Int32) (h : q_lk M.2.2.2.2.2 pc = some (pc, .iinc k n, nx, a1, a2, z)) (hl : ls[k]? = some (some (.int x))) (hv : x + Int32.ofInt n = v) (hc : q_c1 ls k) (hs : ls.set k (some (.int v)) = l) (g : q_G fm d M o σ' nx l st σ) : q_G fm d M o σ' pc ls st σ := j_go h (fun _ q => ⟨x, hl, hc, by rw [q_set1, hv, hs]; exact q⟩) g
theorem j_pop {v : Value} (h : q_lk M.2.2.2.2.2 pc = some (pc, .pop, nx, a1, a2, z)) (hv : v.category = 1) (g : q_G fm d M o σ' nx ls st σ) : q_G fm d M o σ' pc ls (v :: st) σ := j_go h (fun _ q => ⟨v, st, rfl, hv, q⟩) g
theorem j_dup {v : Value} (h : q_lk M.2.2.2.2.2 pc = some (pc, .dup, nx, a1, a2, z)) (hv : v.category = 1) (g : q_G fm d M o σ' nx ls (v :: v :: st) σ) : q_G fm d M o σ' pc ls (v :: st) σ := j_go h (fun _ q => ⟨v, st, rfl, hv, q⟩) g
theorem j_dup2 {v w : Value} (h : q_lk M.2.2.2.2.2 pc = some (pc, .dup2, nx, a1, a2, z)) (hv : v.category = 1) (hw : w.category = 1) (g : q_G fm d M o σ' nx ls (v :: w :: v :: w :: st) σ) : q_G fm d M o σ' pc ls (v :: w :: st) σ := j_go h (fun _ q => ⟨v, w, st, rfl, hv, hw, q⟩) g
theorem j_iadd {x y : Int32} (h : q_lk M.2.2.2.2.2 pc = some (pc, .iadd, nx, a1, a2, z)) (g : q_G fm d M o σ' nx ls (.int (x + y) :: st) σ) : q_G fm d M o σ' pc ls (.int y :: .int x :: st) σ := j_go h (fun _ q => ⟨x, y, st, rfl, q⟩) g
theorem j_isub {x y : Int32} (h : q_lk M.2.2.2.2.2 pc = some (pc, .isub, nx, a1, a2, z)) (g : q_G fm d M o σ' nx ls (.int (x - y) :: st) σ) : q_G fm d M o σ' pc ls (.int y :: .int x :: st) σ := j_go h (fun _ q => ⟨x, y, st, rfl, q⟩) g
theorem j_imul {x y : Int32} (h : q_lk M.2.2.2.2.2 pc = some (pc, .imul, nx, a1, a2, z)) (g : q_G fm d M o σ' nx ls (.int (x * y) :: st) σ) : q_G fm d M o σ' pc ls (.int y :: .int x :: st) σ := j_go h (fun _ q => ⟨x, y, st, rfl, q⟩) g
theorem j_iand {x y : Int32} (h : q_lk M.2.2.2.2.2 pc = some (pc, .iand, nx, a1, a2, z)) (g : q_G fm d M o σ' nx ls (.int (x &&& y) :: st) σ) : q_G fm d M o σ' pc ls (.int y :: .int x :: st) σ := j_go h (fun _ q => ⟨x, y, st, rfl, q⟩) g
theorem j_ior {x y : Int32} (h : q_lk M.2.2.2.2.2 pc = some (pc, .ior, nx, a1, a2, z)) (g : q_G fm d M o σ' nx ls (.int (x ||| y) :: st) σ) : q_G fm d M o σ' pc ls (.int y :: .int x :: st) σ := j_go h (fun _ q => ⟨x, y, st, rfl, q⟩) g
theorem j_ishl {x y : Int32} (h : q_lk M.2.2.2.2.2 pc = some (pc, .ishl, nx, a1, a2, z)) (g : q_G fm d M o σ' nx ls (.int (x <<< (y &&& 31)) :: st) σ) : q_G fm d M o σ' pc ls (.int y :: .int x :: st) σ := j_go h (fun _ q => ⟨x, y, st, rfl, q⟩) g
theorem j_ishr {x y : Int32} (h : q_lk M.2.2.2.2.2 pc = some (pc, .ishr, nx, a1, a2, z)) (g : q_G fm d M o σ' nx ls (.int (x >>> (y &&& 31)) :: st) σ) : q_G fm d M o σ' pc ls (.int y :: .int x :: st) σ := j_go h (fun _ q => ⟨x, y, st, rfl, q⟩) g
theorem j_idiv {x y : Int32} (h : q_lk M.2.2.2.2.2 pc = some (pc, .idiv, nx, a1, a2, z)) (hy : ¬ y = 0) (g : q_G fm d M o σ' nx ls (.int (x / y) :: st) σ) : q_G fm d M o σ' pc ls (.int y :: .int x :: st) σ := j_go h (fun _ q => ⟨x, y, st, rfl, hy, q⟩) g
theorem j_irem {x y : Int32} (h : q_lk M.2.2.2.2.2 pc = some (pc, .irem, nx, a1, a2, z)) (hy : ¬ y = 0) (g : q_G fm d M o σ' nx ls (.int (x - x / y * y) :: st) σ) : q_G fm d M o σ' pc ls (.int y :: .int x :: st) σ := j_go h (fun _ q => ⟨x, y, st, rfl, hy, q⟩) g
theorem j_ineg {x : Int32} (h : q_lk M.2.2.2.2.2 pc = some (pc, .ineg, nx, a1, a2, z)) (g : q_G fm d M o σ' nx ls (.int (-x) :: st) σ) : q_G fm d M o σ' pc ls (.int x :: st) σ := j_go h (fun _ q => ⟨x, st, rfl, q⟩) g
theorem j_ladd {x y : Int64} (h : q_lk M.2.2.2.2.2 pc = some (pc, .ladd, nx, a1, a2, z)) (g : q_G fm d M o σ' nx ls (.long (x + y) :: st) σ) : q_G fm d M o σ' pc ls (.long y :: .long x :: st) σ := j_go h (fun _ q => ⟨x, y, st, rfl, q⟩) g
theorem j_lsub {x y : Int64} (h : q_lk M.2.2.2.2.2 pc = some (pc, .lsub, nx, a1, a2, z)) (g : q_G fm d M o σ' nx ls (.long (x - y) :: st) σ) : q_G fm d M o σ' pc ls (.long y :: .long x :: st) σ := j_go h (fun _ q => ⟨x, y, st, rfl, q⟩) g
theorem j_lmul {x y : Int64} (h : q_lk M.2.2.2.2.2 pc = some (pc, .lmul, nx, a1, a2, z)) (g : q_G fm d M o σ' nx ls (.long (x * y) :: st) σ) : q_G fm d M o σ' pc ls (.long y :: .long x :: st) σ := j_go h (fun _ q => ⟨x, y, st, rfl, q⟩) g
theorem j_land {x y : Int64} (h : q_lk M.2.2.2.2.2 pc = some (pc, .land, nx, a1, a2, z)) (g : q_G fm d M o σ' nx ls (.long (x &&& y) :: st) σ) : q_G fm d M o σ' pc ls (.long y :: .long x :: st) σ := j_go h (fun _ q => ⟨x, y, st, rfl, q⟩) g
theorem j_lor {x y : Int64} (h : q_lk M.2.2.2.2.2 pc = some (pc, .lor, nx, a1, a2, z)) (g : q_G fm d M o σ' nx ls (.long (x ||| y) :: st) σ) : q_G fm d M o σ' pc ls (.long y :: .long x :: st) σ := j_go h (fun _ q => ⟨x, y, st, rfl, q⟩) g
theorem j_lshl {x : Int64} {y : Int32} (h : q_lk M.2.2.2.2.2 pc = some (pc, .lshl, nx, a1, a2, z)) (g : q_G fm d M o σ' nx ls (.long (x <<< (y.toInt64 &&& 63)) :: st) σ) : q_G fm d M o σ' pc ls (.int y :: .long x :: st) σ := j_go h (fun _ q => ⟨x, y, st, rfl, q⟩) g
theorem j_lushr {x : Int64} {y : Int32} (h : q_lk M.2.2.2.2.2 pc = some (pc, .lushr, nx, a1, a2, z)) (g : q_G fm d M o σ' nx ls (.long (x.toUInt64 >>> (y.toInt64.toUInt64 &&& Int64.toUInt64 63)).toInt64 :: st) σ) : q_G fm d M o σ' pc ls (.int y :: .long x :: st) σ := j_go h (fun _ q => ⟨x, y, st, rfl, q⟩) g
theorem j_ldiv {x y : Int64} (h : q_lk M.2.2.2.2.2 pc = some (pc, .ldiv, nx, a1, a2, z)) (hy : ¬ y = 0) (g : q_G fm d M o σ' nx ls (.long (x / y) :: st) σ) : q_G fm d M o σ' pc ls (.long y :: .long x :: st) σ := j_go h (fun _ q => ⟨x, y, st, rfl, hy, q⟩) g
theorem j_lrem {x y : Int64} (h : q_lk M.2.2.2.2.2 pc = some (pc, .lrem, nx, a1, a2, z)) (hy : ¬ y = 0) (g : q_G fm d M o σ' nx ls (.long (x - x / y * y) :: st) σ) : q_G fm d M o σ' pc ls (.long y :: .long x :: st) σ := j_go h (fun _ q => ⟨x, y, st, rfl, hy, q⟩) g
theorem j_lneg {x : Int64} (h : q_lk M.2.2.2.2.2 pc = some (pc, .lneg, nx, a1, a2, z)) (g : q_G fm d M o σ' nx ls (.long (-x) :: st) σ) : q_G fm d M o σ' pc ls (.long x :: st) σ := j_go h (fun _ q => ⟨x, st, rfl, q⟩) g
theorem j_lcmp {x y : Int64} (h : q_lk M.2.2.2.2.2 pc = some (pc, .lcmp, nx, a1, a2, z)) (g : q_G fm d M o σ' nx ls (.int (lg_cmp x y) :: st) σ) : q_G fm d M o σ' pc ls (.long y :: .long x :: st) σ := j_go h (fun _ q => ⟨x, y, st, rfl, q⟩) g
theorem j_i2l {x : Int32} (h : q_lk M.2.2.2.2.2 pc = some (pc, .i2l, nx, a1, a2, z)) (g : q_G fm d M o σ' nx ls (.long x.toInt64 :: st) σ) : q_G fm d M o σ' pc ls (.int x :: st) σ := j_go h (fun _ q => ⟨x, st, rfl, q⟩) g
theorem j_l2i {x : Int64} (h : q_lk M.2.2.2.2.2 pc = some (pc, .l2i, nx, a1, a2, z)) (g : q_G fm d M o σ' nx ls (.int x.toInt32 :: st) σ) : q_G fm d M o σ' pc ls (.long x :: st) σ := j_go h (fun _ q => ⟨x, st, rfl, q⟩) g
theorem j_i2c {x : Int32} (h : q_lk M.2.2.2.2.2 pc = some (pc, .i2c, nx, a1, a2, z)) (g : q_G fm d M o σ' nx ls (.int (x.toUInt32 % 65536).toInt32 :: st) σ) : q_G fm d M o σ' pc ls (.int x :: st) σ := j_go h (fun _ q => ⟨x, st, rfl, q⟩) g
theorem j_i2b {x : Int32} (h : q_lk M.2.2.2.2.2 pc = some (pc, .i2b, nx, a1, a2, z)) (g : q_G fm d M o σ' nx ls (.int x.toInt8.toInt32 :: st) σ) : q_G fm d M o σ' pc ls (.int x :: st) σ := j_go h (fun _ q => ⟨x, st, rfl, q⟩) g
theorem j_if_t {c : Jvm.ClassFile.Cond} {off : Int} {x : Int32} (h : q_lk M.2.2.2.2.2 pc = some (pc, .ifCond c off, nx, a1, a2, z)) (hc : q_cc c x 0 = true) (g : q_G fm d M o σ' a1 ls st σ) : q_G fm d M o σ' pc ls (.int x :: st) σ := j_go h (fun _ q => ⟨x, st, rfl, by rw [if_pos hc]; exact q⟩) g
theorem j_if_f {c : Jvm.ClassFile.Cond} {off : Int} {x : Int32} (h : q_lk M.2.2.2.2.2 pc = some (pc, .ifCond c off, nx, a1, a2, z)) (hc : ¬ q_cc c x 0 = true) (g : q_G fm d M o σ' nx ls st σ) : q_G fm d M o σ' pc ls (.int x :: st) σ := j_go h (fun _ q => ⟨x, st, rfl, by rw [if_neg hc]; exact q⟩) g
theorem j_icmp_t {c : Jvm.ClassFile.Cond} {off : Int} {x y : Int32} (h : q_lk M.2.2.2.2.2 pc = some (pc, .if_icmp c off, nx, a1, a2, z)) (hc : q_cc c x y = true) (g : q_G fm d M o σ' a1 ls st σ) : q_G fm d M o σ' pc ls (.int y :: .int x :: st) σ := j_go h (fun _ q => ⟨x, y, st, rfl, by rw [if_pos hc]; exact q⟩) g
theorem j_icmp_f {c : Jvm.ClassFile.Cond} {off : Int} {x y : Int32} (h : q_lk M.2.2.2.2.2 pc = some (pc, .if_icmp c off, nx, a1, a2, z)) (hc : ¬ q_cc c x y = true) (g : q_G fm d M o σ' nx ls st σ) : q_G fm d M o σ' pc ls (.int y :: .int x :: st) σ := j_go h (fun _ q => ⟨x, y, st, rfl, by rw [if_neg hc]; exact q⟩) g
theorem j_nul_t {off : Int} (h : q_lk M.2.2.2.2.2 pc = some (pc, .ifnull off, nx, a1, a2, z)) (g : q_G fm d M o σ' a1 ls st σ) : q_G fm d M o σ' pc ls (.null :: st) σ := j_go h (fun _ q => ⟨.null, st, rfl, Or.inl ⟨rfl, q⟩⟩) g
theorem j_nul_f {off : Int} {x : Nat} (h : q_lk M.2.2.2.2.2 pc = some (pc, .ifnull off, nx, a1, a2, z)) (g : q_G fm d M o σ' nx ls st σ) : q_G fm d M o σ' pc ls (.ref x :: st) σ := j_go h (fun _ q => ⟨.ref x, st, rfl, Or.inr ⟨⟨x, rfl⟩, q⟩⟩) g
theorem j_non_f {off : Int} (h : q_lk M.2.2.2.2.2 pc = some (pc, .ifnonnull off, nx, a1, a2, z)) (g : q_G fm d M o σ' nx ls st σ) : q_G fm d M o σ' pc ls (.null :: st) σ := j_go h (fun _ q => ⟨.null, st, rfl, Or.inl ⟨rfl, q⟩⟩) g
theorem j_non_t {off : Int} {x : Nat} (h : q_lk M.2.2.2.2.2 pc = some (pc, .ifnonnull off, nx, a1, a2, z)) (g : q_G fm d M o σ' a1 ls st σ) : q_G fm d M o σ' pc ls (.ref x :: st) σ := j_go h (fun _ q => ⟨.ref x, st, rfl, Or.inr ⟨⟨x, rfl⟩, q⟩⟩) g
theorem j_goto {off : Int} (h : q_lk M.2.2.2.2.2 pc = some (pc, .goto off, nx, a1, a2, z)) (g : q_G fm d M o σ' a1 ls st σ) : q_G fm d M o σ' pc ls st σ := j_go h (fun _ q => q) g
theorem j_sw {df lo hi : Int} {offs : Array Int} {x : Int32} (tgt : Nat) (h : q_lk M.2.2.2.2.2 pc = some (pc, .tableswitch df lo hi offs, nx, a1, a2, z)) (h1 : (pc : Int) + (if x.toInt < lo ∨ hi < x.toInt then df else (offs.getD (x.toInt - lo).toNat df)) = (tgt : Int)) (h2 : x.toInt < lo ∨ hi < x.toInt ∨ (x.toInt - lo).toNat < offs.size) (g : q_G fm d M o σ' tgt ls st σ) : q_G fm d M o σ' pc ls (.int x :: st) σ := j_go h (fun _ q => ⟨x, st, rfl, tgt, h1, h2, q⟩) g
theorem j_swd {df lo hi : Int} {offs : Array Int} {x : Int32} (tgt : Nat) (h : q_lk M.2.2.2.2.2 pc = some (pc, .tableswitch df lo hi offs, nx, a1, a2, z)) (hx : x.toInt < lo ∨ hi < x.toInt) (h1 : (pc : Int) + df = (tgt : Int)) (g : q_G fm d M o σ' tgt ls st σ) : q_G fm d M o σ' pc ls (.int x :: st) σ := j_go h (fun _ q => ⟨x, st, rfl, tgt, by rw [if_pos hx]; exact h1, by rcases hx with hx | hx; exact Or.inl hx; exact Or.inr (Or.inl hx), q⟩) g
/-- fields -/
theorem j_getf {k a : Nat} {v : Value} (h : q_lk M.2.2.2.2.2 pc = some (pc, .getfield k, nx, a1, a2, z)) (hv : q_gf σ a1 a a2 = some v) (g : q_G fm d M o σ' nx ls (v :: st) σ) : q_G fm d M o σ' pc ls (.ref a :: st) σ := j_go h (fun _ q => ⟨a, st, v, rfl, hv, q⟩) g
theorem j_gfi {k a : Nat} {v : Int32} (h : q_lk M.2.2.2.2.2 pc = some (pc, .getfield k, nx, a1, a2, z)) (hv : q_gi (q_gf σ a1 a a2) = some v) (g : q_G fm d M o σ' nx ls (.int v :: st) σ) : q_G fm d M o σ' pc ls (.ref a :: st) σ := j_getf h (q_gi_some hv) g
theorem j_gfl {k a : Nat} {v : Int64} (h : q_lk M.2.2.2.2.2 pc = some (pc, .getfield k, nx, a1, a2, z)) (hv : q_gl' (q_gf σ a1 a a2) = some v) (g : q_G fm d M o σ' nx ls (.long v :: st) σ) : q_G fm d M o σ' pc ls (.ref a :: st) σ := j_getf h (q_gl_some hv) g
theorem j_gfr {k a v : Nat} (h : q_lk M.2.2.2.2.2 pc = some (pc, .getfield k, nx, a1, a2, z)) (hv : q_gr (q_gf σ a1 a a2) = some v) (g : q_G fm d M o σ' nx ls (.ref v :: st) σ) : q_G fm d M o σ' pc ls (.ref a :: st) σ := j_getf h (q_gr_some hv) g
theorem j_putf {k a : Nat} {v : Value} {f : Nat → FieldType} {σ1 : q_H} (h : q_lk M.2.2.2.2.2 pc = some (pc, .putfield k, nx, a1, a2, z)) (hf : q_cty[a1]? = some f) (hn : narrow (f a2) v = v) (hi : fits (f a2) v = true) (hs : q_sf σ a1 a a2 v = some σ1) (g : q_G fm d M o σ' nx ls st σ1) : q_G fm d M o σ' pc ls (v :: .ref a :: st) σ := j_go h (fun _ q => ⟨a, v, st, f a2, f, σ1, rfl, hf, rfl, hn, hi, hs, q⟩) g
theorem j_gets {k : Nat} (v : Value) (h : q_lk M.2.2.2.2.2 pc = some (pc, .getstatic k, nx, a1, a2, z)) (hv : (if a1 = 2 then fm else q_st a1) = v) (g : q_G fm d M o σ' nx ls (v :: st) σ) : q_G fm d M o σ' pc ls st σ := j_go h (fun _ q => by subst hv; exact q) g
/-- arrays -/
theorem j_ial {a : Nat} {i v : Int32} (h : q_lk M.2.2.2.2.2 pc = some (pc, .iaload, nx, a1, a2, z)) (hv : q_gi (q_ga σ 20 a i) = some v) (g : q_G fm d M o σ' nx ls (.int v :: st) σ) : q_G fm d M o σ' pc ls (.int i :: .ref a :: st) σ := j_go h (fun _ q => ⟨a, i, st, _, rfl, q_gi_some hv, q⟩) g
theorem j_lal {a : Nat} {i : Int32} {v : Int64} (h : q_lk M.2.2.2.2.2 pc = some (pc, .laload, nx, a1, a2, z)) (hv : q_gl' (q_ga σ 21 a i) = some v) (g : q_G fm d M o σ' nx ls (.long v :: st) σ) : q_G fm d M o σ' pc ls (.int i :: .ref a :: st) σ := j_go h (fun _ q => ⟨a, i, st, _, rfl, q_gl_some hv, q⟩) g
theorem j_bal {a : Nat} {i v : Int32} (h : q_lk M.2.2.2.2.2 pc = some (pc, .baload, nx, a1, a2, z)) (h2 : (a1 == 22 || a1 == 24) = true) (hv : q_gi (q_ga σ a1 a i) = some v) (g : q_G fm d M o σ' nx ls (.int v :: st) σ) : q_G fm d M o σ' pc ls (.int i :: .ref a :: st) σ := j_go h (fun _ q => ⟨a, i, st, _, rfl, by simpa using h2, q_gi_some hv, q⟩) g
theorem j_cal {a : Nat} {i v : Int32} (h : q_lk M.2.2.2.2.2 pc = some (pc, .caload, nx, a1, a2, z)) (hv : q_gi (q_ga σ 23 a i) = some v) (g : q_G fm d M o σ' nx ls (.int v :: st) σ) : q_G fm d M o σ' pc ls (.int i :: .ref a :: st) σ := j_go h (fun _ q => ⟨a, i, st, _, rfl, q_gi_some hv, q⟩) g
theorem j_aal {a v : Nat} {i : Int32} (h : q_lk M.2.2.2.2.2 pc = some (pc, .aaload, nx, a1, a2, z)) (h2 : (Nat.ble 25 a1 && Nat.ble a1 28) = true) (hv : q_gr (q_ga σ a1 a i) = some v) (g : q_G fm d M o σ' nx ls (.ref v :: st) σ) : q_G fm d M o σ' pc ls (.int i :: .ref a :: st) σ := j_go h (fun _ q => ⟨a, i, st, _, rfl, Nat.le_of_ble_eq_true (Bool.and_eq_true_iff.mp h2).1, Nat.le_of_ble_eq_true (Bool.and_eq_true_iff.mp h2).2, q_gr_some hv, q⟩) g
theorem j_aalO {a : Nat} {v : Option Nat} {i : Int32} (h : q_lk M.2.2.2.2.2 pc = some (pc, .aaload, nx, a1, a2, z)) (h2 : (Nat.ble 25 a1 && Nat.ble a1 28) = true) (hv : q_go (q_ga σ a1 a i) = some v) (g : q_G fm d M o σ' nx ls (q_rf v :: st) σ) : q_G fm d M o σ' pc ls (.int i :: .ref a :: st) σ := j_go h (fun _ q => ⟨a, i, st, _, rfl, Nat.le_of_ble_eq_true (Bool.and_eq_true_iff.mp h2).1, Nat.le_of_ble_eq_true (Bool.and_eq_true_iff.mp h2).2, q_go_some hv, q⟩) g
theorem j_ias {a : Nat} {i x : Int32} {σ1 : q_H} (h : q_lk M.2.2.2.2.2 pc = some (pc, .iastore, nx, a1, a2, z)) (hs : q_sa σ 20 a i (.int x) = some σ1) (g : q_G fm d M o σ' nx ls st σ1) : q_G fm d M o σ' pc ls (.int x :: .int i :: .ref a :: st) σ := j_go h (fun _ q => ⟨a, i, x, st, σ1, rfl, hs, q⟩) g
theorem j_las {a : Nat} {i : Int32} {x : Int64} {σ1 : q_H} (h : q_lk M.2.2.2.2.2 pc = some (pc, .lastore, nx, a1, a2, z)) (hs : q_sa σ 21 a i (.long x) = some σ1) (g : q_G fm d M o σ' nx ls st σ1) : q_G fm d M o σ' pc ls (.long x :: .int i :: .ref a :: st) σ := j_go h (fun _ q => ⟨a, i, x, st, σ1, rfl, hs, q⟩) g
theorem j_bas {a : Nat} {i x : Int32} {σ1 : q_H} (h : q_lk M.2.2.2.2.2 pc = some (pc, .bastore, nx, a1, a2, z)) (hx : x = 0 ∨ x = 1) (hs : q_sa σ 22 a i (.int x) = some σ1) (g : q_G fm d M o σ' nx ls st σ1) : q_G fm d M o σ' pc ls (.int x :: .int i :: .ref a :: st) σ := j_go h (fun _ q => ⟨a, i, x, st, σ1, rfl, hx, hs, q⟩) g
theorem j_cas {a : Nat} {i x : Int32} {σ1 : q_H} (h : q_lk M.2.2.2.2.2 pc = some (pc, .castore, nx, a1, a2, z)) (hx : narrow .char (.int x) = .int x) (hs : q_sa σ 23 a i (.int x) = some σ1) (g : q_G fm d M o σ' nx ls st σ1) : q_G fm d M o σ' pc ls (.int x :: .int i :: .ref a :: st) σ := j_go h (fun _ q => ⟨a, i, x, st, σ1, rfl, hx, hs, q⟩) g
theorem j_aas {a : Nat} {i : Int32} {v : Value} {σ1 : q_H} (h : q_lk M.2.2.2.2.2 pc = some (pc, .aastore, nx, a1, a2, z)) (hk : (a1 = 25 ∧ a2 = 8) ∨ (a1 = 26 ∧ a2 = 2) ∨ (a1 = 27 ∧ a2 = 6)) (hv : v = .null ∨ ∃ b : Nat, ∃ vs, v = .ref b ∧ σ.1 b = some (a2, vs)) (hs : q_sa σ a1 a i v = some σ1) (g : q_G fm d M o σ' nx ls st σ1) : q_G fm d M o σ' pc ls (v :: .int i :: .ref a :: st) σ := j_go h (fun _ q => ⟨a, i, v, st, σ1, rfl, hk, hv, hs, q⟩) g
/-- the length of an array of a tag -/
theorem j_alen {a : Nat} {n : Int32} (h : q_lk M.2.2.2.2.2 pc = some (pc, .arraylength, nx, a1, a2, z)) (hn : q_len' σ a = some n) (g : q_G fm d M o σ' nx ls (.int n :: st) σ) : q_G fm d M o σ' pc ls (.ref a :: st) σ := by
  unfold q_len' at hn
  split at hn
  · next c hc =>
    by_cases h20 : 20 ≤ c.1
    · rw [if_pos h20] at hn
      cases hn
      exact j_go h (fun _ q => ⟨a, st, c, rfl, hc, h20, q⟩) g
    · rw [if_neg h20] at hn; cases hn
  · cases hn
theorem j_newa {at9 : ArrayType} {n : Int32} {ty : FieldType} (v : Value) (h : q_lk M.2.2.2.2.2 pc = some (pc, .newarray at9, nx, a1, a2, z)) (ht : q_aty a1 = some ty) (hv : defaultValue ty = v) (hn : ¬ n < 0 ∧ n.toNatClampNeg ≤ 100000) (g : q_G fm d M o σ' nx ls (.ref σ.2.1 :: st) (q_mk σ a1 (List.replicate n.toNatClampNeg v))) : q_G fm d M o σ' pc ls (.int n :: st) σ := j_go h (fun _ q => ⟨n, st, ty, rfl, ht, hn.1, hn.2, by rw [hv]; exact q⟩) g
theorem j_newr {k : Nat} {n : Int32} (h : q_lk M.2.2.2.2.2 pc = some (pc, .anewarray k, nx, a1, a2, z)) (hn : ¬ n < 0 ∧ n.toNatClampNeg ≤ 100000) (g : q_G fm d M o σ' nx ls (.ref σ.2.1 :: st) (q_mk σ a1 (List.replicate n.toNatClampNeg .null))) : q_G fm d M o σ' pc ls (.int n :: st) σ := j_go h (fun _ q => ⟨n, st, rfl, hn.1, hn.2, q⟩) g
theorem j_mna {i k : Nat} (h : q_lk M.2.2.2.2.2 pc = some (pc, .multianewarray i k, nx, a1, a2, z)) (g : q_G fm d M o σ' nx ls (.ref σ.2.1 :: st) (q_mk5 σ)) : q_G fm d M o σ' pc ls (.int 17 :: .int 4 :: st) σ := j_go h (fun _ q => ⟨4, 17, st, rfl, rfl, rfl, q⟩) g
theorem j_new {k : Nat} (vs : List Value) (h : q_lk M.2.2.2.2.2 pc = some (pc, .new k, nx, a1, a2, z)) (h13 : Nat.blt a1 13 = true) (hv : q_dl[a1]? = some vs) (g : q_G fm d M o σ' nx ls (.ref σ.2.1 :: st) (q_mk σ a1 vs)) : q_G fm d M o σ' pc ls st σ := j_go h (fun _ q => Or.inl ⟨Nat.le_of_ble_eq_true h13, vs, hv, q⟩) g
theorem j_throw {k : Nat} (h : q_lk M.2.2.2.2.2 pc = some (pc, .new k, nx, 99, a2, z)) (h6 : 6 ≤ d + 1) (hc : Nat.ble (q_cat st) 8 = true) (hm : M.2.2.2.2.1 = []) (ho : o = .inr σ.2.1) (he : σ' = (σ.1, σ.2.1 + 1, σ.2.2 + 6)) : q_G fm d M o σ' pc ls st σ := ⟨1, _, ls, h, q_le_refl _, Or.inr ⟨rfl, h6, Nat.le_of_ble_eq_true hc, hm, ho, he⟩⟩
/-- calls -/
theorem j_obj {k a : Nat} (h : q_lk M.2.2.2.2.2 pc = some (pc, .invokespecial k, nx, 999, a2, z)) (hc : Nat.ble (q_cat st) 8 = true) (g : q_G fm d M o σ' nx ls st σ) : q_G fm d M o σ' pc ls (.ref a :: st) σ := j_go h (fun _ q => Or.inl ⟨rfl, a, st, rfl, Nat.le_of_ble_eq_true hc, q⟩) g
theorem j_invi {k a : Nat} {zM : q_M} (as t : List Value) {v : Option Value} {σ1 : q_H} (h : q_lk M.2.2.2.2.2 pc = some (pc, .invokespecial k, nx, a1, a2, z)) (hz : q_Ms a1 = some zM) (hst : st = as.reverse ++ t) (hc : Nat.ble (q_cat t) 8 = true) (hn : as.length = a2) (ha : as.head? = some (.ref a)) (hr : q_Rel fm q_Ms d a1 as σ (.inl v) σ1) (g : q_G fm d M o σ' nx ls (v.toList ++ t) σ1) : q_G fm d M o σ' pc ls st σ := j_go h (fun _ q => Or.inr ⟨zM, as, t, v, σ1, hst, Nat.le_of_ble_eq_true hc, hz, hn, ⟨a, ha⟩, hr, q⟩) g
theorem j_invs {k : Nat} {zM : q_M} (as t : List Value) {v : Option Value} {σ1 : q_H} (h : q_lk M.2.2.2.2.2 pc = some (pc, .invokestatic k, nx, a1, a2, z)) (hz : q_Ms a1 = some zM) (hst : st = as.reverse ++ t) (hc : Nat.ble (q_cat t) 8 = true) (hn : as.length = a2) (hr : q_Rel fm q_Ms d a1 as σ (.inl v) σ1) (g : q_G fm d M o σ' nx ls (v.toList ++ t) σ1) : q_G fm d M o σ' pc ls st σ := j_go h (fun _ q => Or.inr (Or.inr (Or.inr (Or.inr (Or.inr ⟨zM, as, t, v, σ1, hst, Nat.le_of_ble_eq_true hc, hz, hn, hr, q⟩))))) g
theorem j_max {k : Nat} {x y : Int32} (h : q_lk M.2.2.2.2.2 pc = some (pc, .invokestatic k, nx, 990, a2, z)) (hc : Nat.ble (q_cat st) 8 = true) (g : q_G fm d M o σ' nx ls (.int (if x < y then y else x) :: st) σ) : q_G fm d M o σ' pc ls (.int y :: .int x :: st) σ := j_go h (fun _ q => Or.inl ⟨rfl, x, y, st, rfl, Nat.le_of_ble_eq_true hc, q⟩) g
theorem j_min {k : Nat} {x y : Int32} (h : q_lk M.2.2.2.2.2 pc = some (pc, .invokestatic k, nx, 991, a2, z)) (hc : Nat.ble (q_cat st) 8 = true) (g : q_G fm d M o σ' nx ls (.int (if y < x then y else x) :: st) σ) : q_G fm d M o σ' pc ls (.int y :: .int x :: st) σ := j_go h (fun _ q => Or.inr (Or.inl ⟨rfl, x, y, st, rfl, Nat.le_of_ble_eq_true hc, q⟩)) g
theorem j_abs {k : Nat} {x : Int32} (h : q_lk M.2.2.2.2.2 pc = some (pc, .invokestatic k, nx, 992, a2, z)) (hc : Nat.ble (q_cat st) 8 = true) (g : q_G fm d M o σ' nx ls (.int (if 0 ≤ x then x else 0 - x) :: st) σ) : q_G fm d M o σ' pc ls (.int x :: st) σ := j_go h (fun _ q => Or.inr (Or.inr (Or.inl ⟨rfl, x, st, rfl, Nat.le_of_ble_eq_true hc, q⟩))) g
theorem j_labs {k : Nat} {x : Int64} (h : q_lk M.2.2.2.2.2 pc = some (pc, .invokestatic k, nx, 993, a2, z)) (hc : Nat.ble (q_cat st) 8 = true) (g : q_G fm d M o σ' nx ls (.long (if 0 < x then x else -x) :: st) σ) : q_G fm d M o σ' pc ls (.long x :: st) σ := j_go h (fun _ q => Or.inr (Or.inr (Or.inr (Or.inl ⟨rfl, x, st, rfl, Nat.le_of_ble_eq_true hc, q⟩)))) g
theorem j_lmax {k : Nat} {x y : Int64} (h : q_lk M.2.2.2.2.2 pc = some (pc, .invokestatic k, nx, 994, a2, z)) (hc : Nat.ble (q_cat st) 8 = true) (g : q_G fm d M o σ' nx ls (.long (if y < x then x else y) :: st) σ) : q_G fm d M o σ' pc ls (.long y :: .long x :: st) σ := j_go h (fun _ q => Or.inr (Or.inr (Or.inr (Or.inr (Or.inl ⟨rfl, x, y, st, rfl, Nat.le_of_ble_eq_true hc, q⟩))))) g
/-- a receiver of a method's class: its tag -/
theorem j_invv {k a tg : Nat} {zM : q_M} (as t : List Value) {v : Option Value} {vs : List Value} {σ1 : q_H} (h : q_lk M.2.2.2.2.2 pc = some (pc, .invokevirtual k, nx, a1, a2, z)) (hz : q_Ms a1 = some zM) (hst : st = as.reverse ++ t) (hc : Nat.ble (q_cat t) 8 = true) (hn : as.length = a2) (ha : as.head? = some (.ref a)) (hv : σ.1 a = some (tg, vs)) (hcl : q_ct[tg]?.map (fun q => q.1) = some zM.1.cls ∨ (tg = 13 ∧ zM.1.cls = "java/lang/String")) (hr : q_Rel fm q_Ms d a1 as σ (.inl v) σ1) (g : q_G fm d M o σ' nx ls (v.toList ++ t) σ1) : q_G fm d M o σ' pc ls st σ := j_go h (fun _ q => ⟨zM, as, t, .inl v, σ1, hst, Nat.le_of_ble_eq_true hc, hz, hn, ⟨a, (tg, vs), ha, hv, hcl⟩, hr, Or.inl ⟨v, rfl, q⟩⟩) g
theorem j_invx {k a tg : Nat} {zM : q_M} (as t : List Value) {vs : List Value} {σ1 : q_H} {q h9 k9 nx9 n1 n2 : Nat} {z9 : Int} (l : q_L) (h : q_lk M.2.2.2.2.2 pc = some (pc, .invokevirtual k, nx, a1, a2, z)) (hz : q_Ms a1 = some zM) (hst : st = as.reverse ++ t) (hc : Nat.ble (q_cat t) 8 = true) (hn : as.length = a2) (ha : as.head? = some (.ref a)) (hv : σ.1 a = some (tg, vs)) (hcl : q_ct[tg]?.map (fun q => q.1) = some zM.1.cls ∨ (tg = 13 ∧ zM.1.cls = "java/lang/String")) (hr : q_Rel fm q_Ms d a1 as σ (.inr q) σ1) (hh : q_hd M.2.2.2.2.1 pc = some h9) (hk : q_lk M.2.2.2.2.2 h9 = some (h9, .astore k9, nx9, n1, n2, z9) ∨ ∃ k4 : Fin 4, k4.val = k9 ∧ q_lk M.2.2.2.2.2 h9 = some (h9, .astore_n k4, nx9, n1, n2, z9)) (hkl : k9 < ls.length) (hk1 : q_c1 ls k9) (hl : ls.set k9 none = l) (g : q_G fm d M o σ' nx9 l [] σ1) : q_G fm d M o σ' pc ls st σ := j_go h (fun _ w => ⟨zM, as, t, .inr q, σ1, hst, Nat.le_of_ble_eq_true hc, hz, hn, ⟨a, (tg, vs), ha, hv, hcl⟩, hr, Or.inr ⟨q, h9, k9, nx9, n1, n2, z9, rfl, hh, hk, hkl, hk1, by rw [hl]; exact w⟩⟩) g
/-- ends -/
theorem j_iret {x : Int32} (h : q_lk M.2.2.2.2.2 pc = some (pc, .ireturn, nx, a1, a2, z)) (hr : q_ret M.2.2.2.1 (.int x)) (he : o = .inl (some (.int x)) ∧ σ' = σ) : q_G fm d M o σ' pc ls [.int x] σ := ⟨1, _, ls, h, q_le_refl _, x, rfl, hr, he.1, he.2⟩
theorem j_lret {x : Int64} (h : q_lk M.2.2.2.2.2 pc = some (pc, .lreturn, nx, a1, a2, z)) (hr : M.2.2.2.1 = some .long) (he : o = .inl (some (.long x)) ∧ σ' = σ) : q_G fm d M o σ' pc ls [.long x] σ := ⟨1, _, ls, h, q_le_refl _, x, rfl, hr, he.1, he.2⟩
theorem j_aret {x : Option Nat} (h : q_lk M.2.2.2.2.2 pc = some (pc, .areturn, nx, a1, a2, z)) (hr : (∃ n, M.2.2.2.1 = some (.object n)) ∨ ∃ t, M.2.2.2.1 = some (.array t)) (he : o = .inl (some (q_rf x)) ∧ σ' = σ) : q_G fm d M o σ' pc ls [q_rf x] σ := ⟨1, _, ls, h, q_le_refl _, q_rf x, rfl, q_rf_is x, hr, he.1, he.2⟩
theorem j_vret (h : q_lk M.2.2.2.2.2 pc = some (pc, .return_, nx, a1, a2, z)) (hr : M.2.2.2.1 = none) (he : o = .inl none ∧ σ' = σ) : q_G fm d M o σ' pc ls [] σ := ⟨1, _, ls, h, q_le_refl _, rfl, hr, he.1, he.2⟩
end
/-- from the entry -/
theorem q_Rel.of {fm : Value} {d y : Nat} {M : q_M} {as : List Value} {σ σ' : q_H} {o : q_O} (hz : q_Ms y = some M) (hl : Nat.ble (q_args as).length M.2.2.1 = true) (g : q_G fm d M o σ' 0 (q_in M.2.2.1 as) [] σ) : q_Rel fm q_Ms (d + 1) y as σ o σ' := by
  obtain ⟨n, g⟩ := g
  exact ⟨M, n, hz, Nat.le_of_ble_eq_true hl, g⟩
/-! What the printed functions are made of. -/
theorem J_sq {S T : Type} {E : T → q_H → Prop} {G : Prop} {e : Option (S × q_H)} {k : S → q_H → Option (T × q_H)} (F : S → q_H → Prop) (h1 : q_J F e G) (h2 : ∀ t σ1, q_J E (k t σ1) (F t σ1)) : q_J E (q_sq e k) G := by
  intro t σ1 h3 h4
  cases e with
  | none => cases h3
  | some r => exact h1 r.1 r.2 rfl (h2 r.1 r.2 t σ1 h3 h4)
theorem J_cl {S T : Type} {E : T → q_H → Prop} {G : Prop} {e : Option (S × q_H)} {k : S → q_H → Option (T × q_H)} (h : ∀ x σ1, e = some (x, σ1) → q_J E (k x σ1) G) : q_J E (q_sq e k) G := by
  cases e with
  | none => exact J_none
  | some r => exact h r.1 r.2 rfl
theorem J_ma {T : Type} {E : T → q_H → Prop} {G : Prop} {σ : q_H} {t : Nat} {vs : List Value} {k : q_H → Nat → Option (T × q_H)} (h : ∀ σ1 a, q_mk σ t vs = σ1 → σ.2.1 = a → q_J E (k σ1 a) G) : q_J E (q_ma σ t vs k) G := h _ _ rfl rfl
theorem J_ma5 {T : Type} {E : T → q_H → Prop} {G : Prop} {σ : q_H} {k : q_H → Nat → Option (T × q_H)} (h : ∀ σ1 a, q_mk5 σ = σ1 → σ.2.1 = a → q_J E (k σ1 a) G) : q_J E (q_ma5 σ k) G := h _ _ rfl rfl
theorem q_zr {x : Int32} (h : x = 0 ∨ x = 1) : narrow .boolean (.int x) = .int x := by rcases h with rfl | rfl <;> rfl
/-- null, or an object of a tag -/
theorem q_obo_some {σ : q_H} {t : Nat} {x : Option Nat} {w : Unit} (h : q_obo σ t x = some w) : q_rf x = .null ∨ ∃ b : Nat, ∃ vs, q_rf x = .ref b ∧ σ.1 b = some (t, vs) := by
  cases x with
  | none => exact Or.inl rfl
  | some a =>
    obtain ⟨vs, h1, -⟩ := Option.map_eq_some_iff.mp h
    exact Or.inr ⟨a, vs, rfl, q_ob_some.mp h1⟩
theorem cc_eq_t {x y : Int32} (h : x = y) : q_cc .eq x y = true := decide_eq_true h
theorem cc_eq_f {x y : Int32} (h : ¬ x = y) : ¬ q_cc .eq x y = true := fun q => h (of_decide_eq_true q)
theorem cc_ne_t {x y : Int32} (h : ¬ x = y) : q_cc .ne x y = true := decide_eq_true h
theorem cc_ne_f {x y : Int32} (h : x = y) : ¬ q_cc .ne x y = true := fun q => (of_decide_eq_true q) h
theorem cc_lt_t {x y : Int32} (h : x < y) : q_cc .lt x y = true := decide_eq_true h
theorem cc_lt_f {x y : Int32} (h : ¬ x < y) : ¬ q_cc .lt x y = true := fun q => h (of_decide_eq_true q)
theorem cc_ge_t {x y : Int32} (h : ¬ x < y) : q_cc .ge x y = true := decide_eq_true (Int32.not_lt.mp h)
theorem cc_ge_f {x y : Int32} (h : x < y) : ¬ q_cc .ge x y = true := fun q => Int32.not_lt.mpr (of_decide_eq_true q) h
theorem cc_gt_t {x y : Int32} (h : y < x) : q_cc .gt x y = true := decide_eq_true h
theorem cc_gt_f {x y : Int32} (h : ¬ y < x) : ¬ q_cc .gt x y = true := fun q => h (of_decide_eq_true q)
theorem cc_le_t {x y : Int32} (h : ¬ y < x) : q_cc .le x y = true := decide_eq_true (Int32.not_lt.mp h)
theorem cc_le_f {x y : Int32} (h : y < x) : ¬ q_cc .le x y = true := fun q => Int32.not_lt.mpr (of_decide_eq_true q) h
theorem lc_val (x y : Int64) : (x = y ∧ lg_cmp x y = 0) ∨ (x < y ∧ lg_cmp x y = -1) ∨ (y < x ∧ lg_cmp x y = 1) := by
  unfold lg_cmp
  rcases lg_tri x y with h | h | h
  · exact Or.inr (Or.inl ⟨h, by rw [if_neg (lg_lt_not h), if_neg (lg_lt_ne h)]⟩)
  · subst h
    exact Or.inl ⟨rfl, by rw [if_neg (Int64.lt_irrefl), if_pos rfl]⟩
  · exact Or.inr (Or.inr ⟨h, by rw [if_pos h]⟩)
theorem lc_eq_t {x y : Int64} (h : x = y) : q_cc .eq (lg_cmp x y) 0 = true := by
  rcases lc_val x y with ⟨_, e⟩ | ⟨h2, e⟩ | ⟨h2, e⟩
  · rw [e]; decide
  · exact absurd h (lg_lt_ne h2)
  · exact absurd h.symm (lg_lt_ne h2)
theorem lc_eq_f {x y : Int64} (h : ¬ x = y) : ¬ q_cc .eq (lg_cmp x y) 0 = true := by
  rcases lc_val x y with ⟨h2, e⟩ | ⟨h2, e⟩ | ⟨h2, e⟩
  · exact absurd h2 h
  · rw [e]; decide
  · rw [e]; decide
theorem lc_ne_t {x y : Int64} (h : ¬ x = y) : q_cc .ne (lg_cmp x y) 0 = true := by
  rcases lc_val x y with ⟨h2, e⟩ | ⟨h2, e⟩ | ⟨h2, e⟩
  · exact absurd h2 h
  · rw [e]; decide
  · rw [e]; decide
theorem lc_ne_f {x y : Int64} (h : x = y) : ¬ q_cc .ne (lg_cmp x y) 0 = true := by
  rcases lc_val x y with ⟨_, e⟩ | ⟨h2, e⟩ | ⟨h2, e⟩
  · rw [e]; decide
  · exact absurd h (lg_lt_ne h2)
  · exact absurd h.symm (lg_lt_ne h2)
theorem lc_lt_t {x y : Int64} (h : x < y) : q_cc .lt (lg_cmp x y) 0 = true := by
  rcases lc_val x y with ⟨h2, e⟩ | ⟨h2, e⟩ | ⟨h2, e⟩
  · exact absurd h2 (lg_lt_ne h)
  · rw [e]; decide
  · exact absurd h2 (lg_lt_not h)
theorem lc_lt_f {x y : Int64} (h : ¬ x < y) : ¬ q_cc .lt (lg_cmp x y) 0 = true := by
  rcases lc_val x y with ⟨h2, e⟩ | ⟨h2, e⟩ | ⟨h2, e⟩
  · rw [e]; decide
  · exact absurd h2 h
  · rw [e]; decide
theorem lc_ge_t {x y : Int64} (h : ¬ x < y) : q_cc .ge (lg_cmp x y) 0 = true := by
  rcases lc_val x y with ⟨h2, e⟩ | ⟨h2, e⟩ | ⟨h2, e⟩
  · rw [e]; decide
  · exact absurd h2 h
  · rw [e]; decide
theorem lc_ge_f {x y : Int64} (h : x < y) : ¬ q_cc .ge (lg_cmp x y) 0 = true := by
  rcases lc_val x y with ⟨h2, e⟩ | ⟨h2, e⟩ | ⟨h2, e⟩
  · exact absurd h2 (lg_lt_ne h)
  · rw [e]; decide
  · exact absurd h2 (lg_lt_not h)
theorem lc_gt_t {x y : Int64} (h : y < x) : q_cc .gt (lg_cmp x y) 0 = true := by
  rcases lc_val x y with ⟨h2, e⟩ | ⟨h2, e⟩ | ⟨h2, e⟩
  · exact absurd h2.symm (lg_lt_ne h)
  · exact absurd h2 (lg_lt_not h)
  · rw [e]; decide
theorem lc_gt_f {x y : Int64} (h : ¬ y < x) : ¬ q_cc .gt (lg_cmp x y) 0 = true := by
  rcases lc_val x y with ⟨h2, e⟩ | ⟨h2, e⟩ | ⟨h2, e⟩
  · rw [e]; decide
  · rw [e]; decide
  · exact absurd h2 h
theorem lc_le_t {x y : Int64} (h : ¬ y < x) : q_cc .le (lg_cmp x y) 0 = true := by
  rcases lc_val x y with ⟨h2, e⟩ | ⟨h2, e⟩ | ⟨h2, e⟩
  · rw [e]; decide
  · rw [e]; decide
  · exact absurd h2 h
theorem lc_le_f {x y : Int64} (h : y < x) : ¬ q_cc .le (lg_cmp x y) 0 = true := by
  rcases lc_val x y with ⟨h2, e⟩ | ⟨h2, e⟩ | ⟨h2, e⟩
  · exact absurd h2.symm (lg_lt_ne h)
  · exact absurd h2 (lg_lt_not h)
  · rw [e]; decide
section
variable {fm : Value} {d : Nat} {M : q_M} {o : q_O} {σ' σ σ1 : q_H} {pc nx a1 a2 : Nat} {z : Int} {ls l : q_L} {st t : List Value} {a9 : Nat}
theorem j_newk {at9 : ArrayType} {n : Int32} {ty : FieldType} (N : Nat) (v : Value) (h : q_lk M.2.2.2.2.2 pc = some (pc, .newarray at9, nx, a1, a2, z)) (ht : q_aty a1 = some ty) (hv : defaultValue ty = v) (hn : ¬ n < 0 ∧ n.toNatClampNeg ≤ 100000) (hN : n.toNatClampNeg = N) (hs : q_mk σ a1 (List.replicate N v) = σ1) (ha : σ.2.1 = a9) (g : q_G fm d M o σ' nx ls (.ref a9 :: st) σ1) : q_G fm d M o σ' pc ls (.int n :: st) σ := by
  subst hN; subst hs; subst ha
  exact j_newa v h ht hv hn g
theorem j_newrk {k : Nat} {n : Int32} (N : Nat) (h : q_lk M.2.2.2.2.2 pc = some (pc, .anewarray k, nx, a1, a2, z)) (hn : ¬ n < 0 ∧ n.toNatClampNeg ≤ 100000) (hN : n.toNatClampNeg = N) (hs : q_mk σ a1 (List.replicate N .null) = σ1) (ha : σ.2.1 = a9) (g : q_G fm d M o σ' nx ls (.ref a9 :: st) σ1) : q_G fm d M o σ' pc ls (.int n :: st) σ := by
  subst hN; subst hs; subst ha
  exact j_newr h hn g
theorem j_mnak {i k : Nat} (h : q_lk M.2.2.2.2.2 pc = some (pc, .multianewarray i k, nx, a1, a2, z)) (hs : q_mk5 σ = σ1) (ha : σ.2.1 = a9) (g : q_G fm d M o σ' nx ls (.ref a9 :: st) σ1) : q_G fm d M o σ' pc ls (.int 17 :: .int 4 :: st) σ := by
  subst hs; subst ha
  exact j_mna h g
theorem j_newk2 {k : Nat} (vs : List Value) (h : q_lk M.2.2.2.2.2 pc = some (pc, .new k, nx, a1, a2, z)) (h13 : Nat.blt a1 13 = true) (hv : q_dl[a1]? = some vs) (hs : q_mk σ a1 vs = σ1) (ha : σ.2.1 = a9) (g : q_G fm d M o σ' nx ls (.ref a9 :: st) σ1) : q_G fm d M o σ' pc ls st σ := by
  subst hs; subst ha
  exact j_new vs h h13 hv g
theorem j_i0 {k a : Nat} {zM : q_M} (as t : List Value) (h : q_lk M.2.2.2.2.2 pc = some (pc, .invokespecial k, nx, a1, a2, z)) (hz : q_Ms a1 = some zM) (hst : st = as.reverse ++ t) (hc : Nat.ble (q_cat t) 8 = true) (hn : as.length = a2) (ha : as.head? = some (.ref a)) (hr : q_Rel fm q_Ms d a1 as σ (.inl none) σ1) (g : q_G fm d M o σ' nx ls t σ1) : q_G fm d M o σ' pc ls st σ := j_invi as t h hz hst hc hn ha hr g
theorem j_s0 {k : Nat} {zM : q_M} (as t : List Value) (h : q_lk M.2.2.2.2.2 pc = some (pc, .invokestatic k, nx, a1, a2, z)) (hz : q_Ms a1 = some zM) (hst : st = as.reverse ++ t) (hc : Nat.ble (q_cat t) 8 = true) (hn : as.length = a2) (hr : q_Rel fm q_Ms d a1 as σ (.inl none) σ1) (g : q_G fm d M o σ' nx ls t σ1) : q_G fm d M o σ' pc ls st σ := j_invs as t h hz hst hc hn hr g
theorem j_s1 {k : Nat} {zM : q_M} {w : Value} (as t : List Value) (h : q_lk M.2.2.2.2.2 pc = some (pc, .invokestatic k, nx, a1, a2, z)) (hz : q_Ms a1 = some zM) (hst : st = as.reverse ++ t) (hc : Nat.ble (q_cat t) 8 = true) (hn : as.length = a2) (hr : q_Rel fm q_Ms d a1 as σ (.inl (some w)) σ1) (g : q_G fm d M o σ' nx ls (w :: t) σ1) : q_G fm d M o σ' pc ls st σ := j_invs as t h hz hst hc hn hr g
theorem j_v0 {k a tg : Nat} {zM : q_M} (as t : List Value) {vs : List Value} (h : q_lk M.2.2.2.2.2 pc = some (pc, .invokevirtual k, nx, a1, a2, z)) (hz : q_Ms a1 = some zM) (hst : st = as.reverse ++ t) (hc : Nat.ble (q_cat t) 8 = true) (hn : as.length = a2) (ha : as.head? = some (.ref a)) (hv : q_ob σ tg a = some vs) (hcl : q_ct[tg]?.map (fun q => q.1) = some zM.1.cls ∨ (tg = 13 ∧ zM.1.cls = "java/lang/String")) (hr : q_Rel fm q_Ms d a1 as σ (.inl none) σ1) (g : q_G fm d M o σ' nx ls t σ1) : q_G fm d M o σ' pc ls st σ := j_invv as t h hz hst hc hn ha (q_ob_some.mp hv) hcl hr g
theorem j_v1 {k a tg : Nat} {zM : q_M} {w : Value} (as t : List Value) {vs : List Value} (h : q_lk M.2.2.2.2.2 pc = some (pc, .invokevirtual k, nx, a1, a2, z)) (hz : q_Ms a1 = some zM) (hst : st = as.reverse ++ t) (hc : Nat.ble (q_cat t) 8 = true) (hn : as.length = a2) (ha : as.head? = some (.ref a)) (hv : q_ob σ tg a = some vs) (hcl : q_ct[tg]?.map (fun q => q.1) = some zM.1.cls ∨ (tg = 13 ∧ zM.1.cls = "java/lang/String")) (hr : q_Rel fm q_Ms d a1 as σ (.inl (some w)) σ1) (g : q_G fm d M o σ' nx ls (w :: t) σ1) : q_G fm d M o σ' pc ls st σ := j_invv as t h hz hst hc hn ha (q_ob_some.mp hv) hcl hr g
theorem j_vx {k a tg : Nat} {zM : q_M} (as t : List Value) {vs : List Value} {q h9 k9 nx9 n1 n2 : Nat} {z9 : Int} (l : q_L) (h : q_lk M.2.2.2.2.2 pc = some (pc, .invokevirtual k, nx, a1, a2, z)) (hz : q_Ms a1 = some zM) (hst : st = as.reverse ++ t) (hc : Nat.ble (q_cat t) 8 = true) (hn : as.length = a2) (ha : as.head? = some (.ref a)) (hv : q_ob σ tg a = some vs) (hcl : q_ct[tg]?.map (fun q => q.1) = some zM.1.cls ∨ (tg = 13 ∧ zM.1.cls = "java/lang/String")) (hr : q_Rel fm q_Ms d a1 as σ (.inr q) σ1) (hh : q_hd M.2.2.2.2.1 pc = some h9) (hk : q_lk M.2.2.2.2.2 h9 = some (h9, .astore k9, nx9, n1, n2, z9) ∨ ∃ k4 : Fin 4, k4.val = k9 ∧ q_lk M.2.2.2.2.2 h9 = some (h9, .astore_n k4, nx9, n1, n2, z9)) (hkl : Nat.blt k9 ls.length = true) (hk1 : q_c1 ls k9) (hl : ls.set k9 none = l) (g : q_G fm d M o σ' nx9 l [] σ1) : q_G fm d M o σ' pc ls st σ := j_invx as t l h hz hst hc hn ha (q_ob_some.mp hv) hcl hr hh hk (Nat.le_of_ble_eq_true hkl) hk1 hl g
end
/-- a switch's default: none of its numbers -/
theorem q_sw_out {x : Int32} {lo hi : Int} (h : ∀ k : Int, lo ≤ k → k ≤ hi → x.toInt ≠ k) : x.toInt < lo ∨ hi < x.toInt := by
  by_cases h1 : x.toInt < lo
  · exact Or.inl h1
  · by_cases h2 : hi < x.toInt
    · exact Or.inr h2
    · exact absurd rfl (h x.toInt (by omega) (by omega))
