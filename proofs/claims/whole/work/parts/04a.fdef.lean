/-! What the functions of the methods are made of. -/
def q_FU : Nat := 1000000
def q_gi (v : Option Value) : Option Int32 := match v with
  | some (.int x) => some x
  | _ => none
def q_gl' (v : Option Value) : Option Int64 := match v with
  | some (.long x) => some x
  | _ => none
def q_gr (v : Option Value) : Option Nat := match v with
  | some (.ref x) => some x
  | _ => none
def q_go (v : Option Value) : Option (Option Nat) := match v with
  | some (.ref x) => some (some x)
  | some .null => some none
  | _ => none
def q_len' (σ : q_H) (a : Nat) : Option Int32 := match σ.1 a with
  | some c => if 20 ≤ c.1 then some c.2.length.toInt32 else none
  | none => none
def q_mk5 (σ : q_H) : q_H := q_mk (q_mk (q_mk (q_mk (q_mk σ 28 [.ref (σ.2.1 + 1), .ref (σ.2.1 + 2), .ref (σ.2.1 + 3), .ref (σ.2.1 + 4)]) 20 (List.replicate 17 (.int 0))) 20 (List.replicate 17 (.int 0))) 20 (List.replicate 17 (.int 0))) 20 (List.replicate 17 (.int 0))
def q_sq {S T : Type} (e : Option (S × q_H)) (k : S → q_H → Option (T × q_H)) : Option (T × q_H) := match e with
  | some r => k r.1 r.2
  | none => none
def q_ma {T : Type} (σ : q_H) (t : Nat) (vs : List Value) (k : q_H → Nat → Option (T × q_H)) : Option (T × q_H) := k (q_mk σ t vs) σ.2.1
def q_ma5 {T : Type} (σ : q_H) (k : q_H → Nat → Option (T × q_H)) : Option (T × q_H) := k (q_mk5 σ) σ.2.1
def q_th (σ : q_H) : q_H := (σ.1, σ.2.1 + 1, σ.2.2 + 6)
def q_obo (σ : q_H) (t : Nat) (o : Option Nat) : Option Unit := match o with
  | none => some ()
  | some a => (q_ob σ t a).map fun _ => ()
theorem q_ob_some {σ : q_H} {t a : Nat} {vs : List Value} : q_ob σ t a = some vs ↔ σ.1 a = some (t, vs) := by
  unfold q_ob
  cases h : σ.1 a with
  | none => simp
  | some c =>
    obtain ⟨t', v'⟩ := c
    by_cases e : t' = t
    · subst e; simp
    · simp [e]
