/-! LAW: the reference's steps, pure. -/
theorem z_up_o {I : z_MI} {a i b j : Nat} {v : Int32} (h : ¬ (b = a ∧ j = i)) : z_up I a i v b j = I b j := if_neg h
def y_opn (d : Nat) (I : z_MI) : z_MI := z_up (z_up (z_up (z_up (z_up I 111 d (z_n 0)) 113 d (z_n 0)) 114 d (z_n 0)) 115 d (z_n 20)) 117 d (z_n 0)
def y_pd (d : Nat) (I : z_MI) : Int32 := if I 115 d = z_n 21 then I 114 d - I 116 d else I 114 d + I 116 d
def y_sum (d : Nat) (I : z_MI) : z_MI := z_up (z_up I 114 d (y_pd d I)) 117 d (z_n 0)
def y_t0 (d : Nat) (I : z_MI) : Int32 := if I 113 d = z_n 24 then (if I 112 d < y_pd d I then z_n 1 else z_n 0) else if I 113 d = z_n 25 then (if I 112 d = y_pd d I then z_n 1 else z_n 0) else y_pd d I
def y_tv (d : Nat) (I : z_MI) : Int32 := if I 111 d = z_n 26 then k_jn 20002 (I 110 d) (y_t0 d I) else if I 111 d = z_n 27 then k_jn 20003 (I 110 d) (y_t0 d I) else y_t0 d I
def y_tst (d : Nat) (I : z_MI) : z_MI := z_up (z_up (z_up (z_up (y_sum d I) 110 d (y_tv d I)) 113 d (z_n 0)) 114 d (z_n 0)) 115 d (z_n 20)
def y_dl (X : Nat → Int32) : Nat → Int32 → Nat × Int32
  | 0, v => (0, v)
  | d + 1, v => if X (d + 1) = z_n 1 then y_dl X d (k_nt v) else (d + 1, v)
def y_put (I : z_MI) (y : Nat × Int32) : Nat × z_MI := (y.1, z_up I 116 y.1 (if I 117 y.1 = z_n 0 then y.2 else I 116 y.1 * y.2))
def y_dv (d : Nat) (x : Int32) (I : z_MI) : Nat × z_MI := y_put I (y_dl (I 118) d x)
def y_pv (v : l_V) (c : Nat) : Int32 := if 100 ≤ c then z_n (c - 100) else v (c - 1)
def y_cmp (d c : Nat) (I : z_MI) : z_MI := z_up (z_up (z_up (z_up (y_sum d I) 112 d (y_pd d I)) 113 d (z_n c)) 114 d (z_n 0)) 115 d (z_n 20)
def y_1 (v : l_V) (c d : Nat) (I : z_MI) : Option (Nat × z_MI) :=
  if c = 28 ∨ c = 30 then (if d < 6 then some (d + 1, y_opn (d + 1) (z_up I 118 (d + 1) (if c = 30 then z_n 1 else z_n 0))) else none)
  else if c = 20 ∨ c = 21 then some (d, z_up (y_sum d I) 115 d (z_n c))
  else if c = 22 then some (d, z_up I 117 d (z_n c))
  else if c = 24 ∨ c = 25 then some (d, y_cmp d c I)
  else if c = 26 ∨ c = 27 then some (d, z_up (y_tst d I) 111 d (z_n c))
  else if c = 29 then (if 0 < d then some (y_dv (d - 1) (y_tv d I) (y_tst d I)) else none)
  else if (1 ≤ c ∧ c < 14) ∨ (100 ≤ c ∧ c < 20000) then some (y_dv d (y_pv v c) I) else none
def y_r (v : l_V) : List Nat → Nat × z_MI → Option (Nat × z_MI)
  | [], s => some s
  | c :: r, s => (y_1 v c s.1 s.2).bind (y_r v r)
theorem y_r_app (v : l_V) : ∀ (a b : List Nat) (s : Nat × z_MI), y_r v (a ++ b) s = (y_r v a s).bind (y_r v b)
  | [], b, s => rfl
  | c :: r, b, s => by
    show (y_1 v c s.1 s.2).bind (y_r v (r ++ b)) = ((y_1 v c s.1 s.2).bind (y_r v r)).bind (y_r v b)
    cases y_1 v c s.1 s.2 with
    | none => rfl
    | some x => exact y_r_app v r b x
theorem y_r_c {v : l_V} {c : Nat} {r : List Nat} {d : Nat} {I : z_MI} {s : Nat × z_MI} (h : y_1 v c d I = some s) : y_r v (c :: r) (d, I) = y_r v r s := by
  show (y_1 v c d I).bind (y_r v r) = _
  rw [h]; rfl
/-- what a piece of level l at depth d leaves -/
def y_ag (l d : Nat) (I I' : z_MI) : Prop := ∀ r j, (j < d ∨ (j = d ∧ (r < 118 - 2 * l ∨ 117 < r)) ∨ r < 110 ∨ 118 < r) → I' r j = I r j
def y_pre (l d : Nat) (I : z_MI) : Prop := (d = 0 ∨ ¬ I 118 d = z_n 1) ∧ I 117 d = z_n 0 ∧ (2 ≤ l → I 114 d = z_n 0 ∧ I 115 d = z_n 20) ∧ (3 ≤ l → I 113 d = z_n 0) ∧ (4 ≤ l → I 111 d = z_n 0)
def y_val (l d : Nat) (I : z_MI) : Int32 := if l = 1 then I 116 d else if l = 2 then y_pd d I else if l = 3 then y_t0 d I else y_tv d I
def y_e0 (m : Nat) (rc : List Nat) (w : l_V → Int32) : Prop := ∀ v d I, d + m ≤ 6 → ∃ I', y_r v rc (d, I) = some (y_dv d (w v) I') ∧ y_ag 0 d I I'
def y_e (l m : Nat) (rc : List Nat) (w : l_V → Int32) : Prop := ∀ v d I, d + m ≤ 6 → y_pre l d I → ∃ I', y_r v rc (d, I) = some (d, I') ∧ y_val l d I' = w v ∧ y_ag l d I I'
section
variable {m : Nat} {rc a b : List Nat} {w x : l_V → Int32}
theorem y_e0.mono {k : Nat} (h : y_e0 m rc w) (l : m ≤ k) : y_e0 k rc w := fun v d I hd => h v d I (by omega)
theorem y_e.mono {k l : Nat} (h : y_e l m rc w) (le : m ≤ k) : y_e l k rc w := fun v d I hd => h v d I (by omega)
theorem y_leaf {c : Nat} (h : (1 ≤ c ∧ c < 14) ∨ (100 ≤ c ∧ c < 20000)) : y_e0 0 [c] (fun v => y_pv v c) := by
  intro v d I _
  refine ⟨I, ?_, fun _ _ _ => rfl⟩
  have : y_1 v c d I = some (y_dv d (y_pv v c) I) := by
    unfold y_1
    rw [if_neg (by omega), if_neg (by omega), if_neg (by omega), if_neg (by omega), if_neg (by omega), if_neg (by omega), if_pos h]
  rw [y_r_c this]; rfl
theorem y_opn_o {d r j : Nat} {I : z_MI} (h : ¬ j = d ∨ r < 111 ∨ 117 < r) : y_opn d I r j = I r j := by
  unfold y_opn
  rw [z_up_o (by omega), z_up_o (by omega), z_up_o (by omega), z_up_o (by omega), z_up_o (by omega)]
theorem y_sum_o {d r j : Nat} {I : z_MI} (h : ¬ j = d ∨ (r ≠ 114 ∧ r ≠ 117)) : y_sum d I r j = I r j := by
  unfold y_sum
  rw [z_up_o (by omega), z_up_o (by omega)]
theorem y_tst_o {d r j : Nat} {I : z_MI} (h : ¬ j = d ∨ r < 110 ∨ r = 111 ∨ r = 112 ∨ r = 116 ∨ 117 < r) : y_tst d I r j = I r j := by
  unfold y_tst
  rw [z_up_o (by omega), z_up_o (by omega), z_up_o (by omega), z_up_o (by omega), y_sum_o (by omega)]
theorem y_nt (h : y_e0 m rc w) : y_e0 (m + 1) (30 :: rc) (fun v => k_nt (w v)) := by
  intro v d I hd
  have e1 : y_1 v 30 d I = some (d + 1, y_opn (d + 1) (z_up I 118 (d + 1) (z_n 1))) := by
    unfold y_1
    rw [if_pos (by omega), if_pos (by omega)]; rfl
  obtain ⟨I2, h1, h2⟩ := h v (d + 1) (y_opn (d + 1) (z_up I 118 (d + 1) (z_n 1))) (by omega)
  have e2 : I2 118 (d + 1) = z_n 1 := by rw [h2 118 (d + 1) (by omega), y_opn_o (by omega), z_up_s]
  refine ⟨I2, ?_, fun r j hr => ?_⟩
  · rw [y_r_c e1, h1]
    unfold y_dv
    rw [y_dl, if_pos e2]
  · rw [h2 r j (by omega), y_opn_o (by omega), z_up_o (by omega)]
theorem y_pr (h : y_e 4 m rc w) : y_e0 (m + 1) (28 :: (rc ++ [29])) w := by
  intro v d I hd
  have e1 : y_1 v 28 d I = some (d + 1, y_opn (d + 1) (z_up I 118 (d + 1) (z_n 0))) := by
    unfold y_1
    rw [if_pos (by omega), if_pos (by omega)]; rfl
  obtain ⟨I2, h1, h2, h3⟩ := h v (d + 1) (y_opn (d + 1) (z_up I 118 (d + 1) (z_n 0))) (by omega) (by
    refine ⟨Or.inr ?_, ?_, fun _ => ⟨?_, ?_⟩, fun _ => ?_, fun _ => ?_⟩
    · rw [y_opn_o (by omega), z_up_s]; decide
    · unfold y_opn; rw [z_up_s]
    · unfold y_opn; rw [z_up_o (by omega), z_up_o (by omega), z_up_s]
    · unfold y_opn; rw [z_up_o (by omega), z_up_s]
    · unfold y_opn; rw [z_up_o (by omega), z_up_o (by omega), z_up_o (by omega), z_up_s]
    · unfold y_opn; rw [z_up_o (by omega), z_up_o (by omega), z_up_o (by omega), z_up_o (by omega), z_up_s])
  have h2 : y_tv (d + 1) I2 = w v := h2
  have e3 : y_1 v 29 (d + 1) I2 = some (y_dv d (w v) (y_tst (d + 1) I2)) := by
    unfold y_1
    rw [if_neg (by omega), if_neg (by omega), if_neg (by omega), if_neg (by omega), if_neg (by omega), if_pos rfl, if_pos (by omega), h2, Nat.add_sub_cancel]
  refine ⟨y_tst (d + 1) I2, ?_, fun r j hr => ?_⟩
  · rw [y_r_c e1, y_r_app, h1, Option.bind_some, y_r_c e3]; rfl
  · rw [y_tst_o (by omega), h3 r j (by omega), y_opn_o (by omega), z_up_o (by omega)]
theorem y_dl_at {X : Nat → Int32} {d : Nat} {v : Int32} (h : d = 0 ∨ ¬ X d = z_n 1) : y_dl X d v = (d, v) := by
  cases d with
  | zero => rfl
  | succ d => rw [y_dl, if_neg (h.resolve_left (by omega))]
theorem y_dv_at {d : Nat} {x : Int32} {I : z_MI} (h : d = 0 ∨ ¬ I 118 d = z_n 1) : y_dv d x I = (d, z_up I 116 d (if I 117 d = z_n 0 then x else I 116 d * x)) := by
  unfold y_dv
  rw [y_dl_at h]; rfl
theorem y_l1 (h : y_e0 m rc w) : y_e 1 m rc w := by
  intro v d I hd ⟨p1, p2, _⟩
  obtain ⟨I2, h1, h2⟩ := h v d I hd
  refine ⟨_, by rw [h1, y_dv_at (by rw [h2 118 d (by omega)]; exact p1)], ?_, fun r j hr => ?_⟩
  · show z_up I2 116 d (if I2 117 d = z_n 0 then w v else I2 116 d * w v) 116 d = w v
    rw [z_up_s, h2 117 d (by omega), if_pos p2]
  · rw [z_up_o (by omega), h2 r j (by omega)]
theorem y_tm (h : y_e 1 m a w) (g : y_e0 m b x) : y_e 1 m (a ++ 22 :: b) (fun v => k_jn 20008 (w v) (x v)) := by
  intro v d I hd p
  obtain ⟨I1, h1, h2, h3⟩ := h v d I hd p
  have h2 : I1 116 d = w v := h2
  have e1 : y_1 v 22 d I1 = some (d, z_up I1 117 d (z_n 22)) := by
    unfold y_1
    rw [if_neg (by omega), if_neg (by omega), if_pos rfl]
  obtain ⟨I2, g1, g2⟩ := g v d (z_up I1 117 d (z_n 22)) hd
  have e117 : I2 117 d = z_n 22 := by rw [g2 117 d (by omega), z_up_s]
  have e116 : I2 116 d = w v := by rw [g2 116 d (by omega), z_up_o (by omega)]; exact h2
  refine ⟨_, by rw [y_r_app, h1, Option.bind_some, y_r_c e1, g1, y_dv_at (by rw [g2 118 d (by omega), z_up_o (by omega), h3 118 d (by omega)]; exact p.1)], ?_, fun r j hr => ?_⟩
  · show z_up I2 116 d (if I2 117 d = z_n 0 then x v else I2 116 d * x v) 116 d = w v * x v
    rw [z_up_s, e117, if_neg (by decide), e116]
  · rw [z_up_o (by omega), g2 r j (by omega), z_up_o (by omega), h3 r j (by omega)]
theorem y_l2 (h : y_e 1 m rc w) : y_e 2 m rc w := by
  intro v d I hd ⟨p1, p2, p3, p4, p5⟩
  obtain ⟨I2, h1, h2, h3⟩ := h v d I hd ⟨p1, p2, fun l => absurd l (by omega), fun l => absurd l (by omega), fun l => absurd l (by omega)⟩
  have h2 : I2 116 d = w v := h2
  obtain ⟨p6, p7⟩ := p3 (by omega)
  refine ⟨I2, h1, ?_, fun r j hr => h3 r j (by omega)⟩
  show y_pd d I2 = w v
  unfold y_pd
  rw [h3 115 d (by omega), p7, if_neg (by decide), h3 114 d (by omega), p6, h2]
  exact Int32.zero_add _
theorem y_pm {c o : Nat} (hc : (c = 20 ∧ o = 20006) ∨ (c = 21 ∧ o = 20007)) (h : y_e 2 m a w) (g : y_e 1 m b x) : y_e 2 m (a ++ c :: b) (fun v => k_jn o (w v) (x v)) := by
  intro v d I hd p
  obtain ⟨I1, h1, h2, h3⟩ := h v d I hd p
  have h2 : y_pd d I1 = w v := h2
  have e1 : y_1 v c d I1 = some (d, z_up (y_sum d I1) 115 d (z_n c)) := by
    unfold y_1
    rw [if_neg (by omega), if_pos (by omega)]
  obtain ⟨I2, g1, g2, g3⟩ := g v d (z_up (y_sum d I1) 115 d (z_n c)) hd ⟨by rw [z_up_o (by omega), y_sum_o (by omega), h3 118 d (by omega)]; exact p.1, by rw [z_up_o (by omega)]; unfold y_sum; rw [z_up_s], fun l => absurd l (by omega), fun l => absurd l (by omega), fun l => absurd l (by omega)⟩
  have g2 : I2 116 d = x v := g2
  have e115 : I2 115 d = z_n c := by rw [g3 115 d (by omega), z_up_s]
  have e114 : I2 114 d = w v := by rw [g3 114 d (by omega), z_up_o (by omega)]; unfold y_sum; rw [z_up_o (by omega), z_up_s]; exact h2
  refine ⟨I2, by rw [y_r_app, h1, Option.bind_some, y_r_c e1, g1], ?_, fun r j hr => ?_⟩
  · show y_pd d I2 = k_jn o (w v) (x v)
    unfold y_pd
    rw [e115, e114, g2]
    rcases hc with ⟨rfl, rfl⟩ | ⟨rfl, rfl⟩
    · rw [if_neg (by decide)]; rfl
    · rw [if_pos rfl]; rfl
  · rw [g3 r j (by omega), z_up_o (by omega), y_sum_o (by omega), h3 r j (by omega)]
theorem y_l3 (h : y_e 2 m rc w) : y_e 3 m rc w := by
  intro v d I hd ⟨p1, p2, p3, p4, p5⟩
  obtain ⟨I2, h1, h2, h3⟩ := h v d I hd ⟨p1, p2, fun _ => p3 (by omega), fun l => absurd l (by omega), fun l => absurd l (by omega)⟩
  have h2 : y_pd d I2 = w v := h2
  refine ⟨I2, h1, ?_, fun r j hr => h3 r j (by omega)⟩
  show y_t0 d I2 = w v
  unfold y_t0
  rw [h3 113 d (by omega), p4 (by omega), if_neg (by decide), if_neg (by decide), h2]
theorem y_ls {c o : Nat} (hc : (c = 24 ∧ o = 20004) ∨ (c = 25 ∧ o = 20005)) (h : y_e 2 m a w) (g : y_e 2 m b x) : y_e 3 m (a ++ c :: b) (fun v => k_jn o (w v) (x v)) := by
  intro v d I hd ⟨p1, p2, p3, p4, p5⟩
  obtain ⟨I1, h1, h2, h3⟩ := h v d I hd ⟨p1, p2, fun _ => p3 (by omega), fun l => absurd l (by omega), fun l => absurd l (by omega)⟩
  have h2 : y_pd d I1 = w v := h2
  have e1 : y_1 v c d I1 = some (d, y_cmp d c I1) := by
    unfold y_1
    rw [if_neg (by omega), if_neg (by omega), if_neg (by omega), if_pos (by omega)]
  have co : ∀ r j, (¬ j = d ∨ r < 112 ∨ r = 116 ∨ 117 < r) → y_cmp d c I1 r j = I1 r j := fun r j hr => by
    unfold y_cmp
    rw [z_up_o (by omega), z_up_o (by omega), z_up_o (by omega), z_up_o (by omega), y_sum_o (by omega)]
  obtain ⟨I2, g1, g2, g3⟩ := g v d (y_cmp d c I1) hd (by
    refine ⟨by rw [co 118 d (by omega), h3 118 d (by omega)]; exact p1, ?_, fun _ => ⟨?_, ?_⟩, fun l => absurd l (by omega), fun l => absurd l (by omega)⟩
    · unfold y_cmp; rw [z_up_o (by omega), z_up_o (by omega), z_up_o (by omega), z_up_o (by omega)]; unfold y_sum; rw [z_up_s]
    · unfold y_cmp; rw [z_up_o (by omega), z_up_s]
    · unfold y_cmp; rw [z_up_s])
  have g2 : y_pd d I2 = x v := g2
  have e113 : I2 113 d = z_n c := by rw [g3 113 d (by omega)]; unfold y_cmp; rw [z_up_o (by omega), z_up_o (by omega), z_up_s]
  have e112 : I2 112 d = w v := by rw [g3 112 d (by omega)]; unfold y_cmp; rw [z_up_o (by omega), z_up_o (by omega), z_up_o (by omega), z_up_s]; exact h2
  refine ⟨I2, by rw [y_r_app, h1, Option.bind_some, y_r_c e1, g1], ?_, fun r j hr => ?_⟩
  · show y_t0 d I2 = k_jn o (w v) (x v)
    unfold y_t0
    rw [e113, e112, g2]
    rcases hc with ⟨rfl, rfl⟩ | ⟨rfl, rfl⟩
    · rw [if_pos rfl]; rfl
    · rw [if_neg (by decide), if_pos rfl]; rfl
  · rw [g3 r j (by omega), co r j (by omega), h3 r j (by omega)]
theorem y_l4 (h : y_e 3 m rc w) : y_e 4 m rc w := by
  intro v d I hd ⟨p1, p2, p3, p4, p5⟩
  obtain ⟨I2, h1, h2, h3⟩ := h v d I hd ⟨p1, p2, fun _ => p3 (by omega), fun _ => p4 (by omega), fun l => absurd l (by omega)⟩
  have h2 : y_t0 d I2 = w v := h2
  refine ⟨I2, h1, ?_, fun r j hr => h3 r j (by omega)⟩
  show y_tv d I2 = w v
  unfold y_tv
  rw [h3 111 d (by omega), p5 (by omega), if_neg (by decide), if_neg (by decide), h2]
theorem y_ao {c o : Nat} (hc : (c = 26 ∧ o = 20002) ∨ (c = 27 ∧ o = 20003)) (h : y_e 4 m a w) (g : y_e 3 m b x) : y_e 4 m (a ++ c :: b) (fun v => k_jn o (w v) (x v)) := by
  intro v d I hd p
  obtain ⟨I1, h1, h2, h3⟩ := h v d I hd p
  have h2 : y_tv d I1 = w v := h2
  have e1 : y_1 v c d I1 = some (d, z_up (y_tst d I1) 111 d (z_n c)) := by
    unfold y_1
    rw [if_neg (by omega), if_neg (by omega), if_neg (by omega), if_neg (by omega), if_pos (by omega)]
  obtain ⟨I2, g1, g2, g3⟩ := g v d (z_up (y_tst d I1) 111 d (z_n c)) hd (by
    refine ⟨by rw [z_up_o (by omega), y_tst_o (by omega), h3 118 d (by omega)]; exact p.1, ?_, fun _ => ⟨?_, ?_⟩, fun _ => ?_, fun l => absurd l (by omega)⟩
    · rw [z_up_o (by omega)]; unfold y_tst; rw [z_up_o (by omega), z_up_o (by omega), z_up_o (by omega), z_up_o (by omega)]; unfold y_sum; rw [z_up_s]
    · rw [z_up_o (by omega)]; unfold y_tst; rw [z_up_o (by omega), z_up_s]
    · rw [z_up_o (by omega)]; unfold y_tst; rw [z_up_s]
    · rw [z_up_o (by omega)]; unfold y_tst; rw [z_up_o (by omega), z_up_o (by omega), z_up_s])
  have g2 : y_t0 d I2 = x v := g2
  have e111 : I2 111 d = z_n c := by rw [g3 111 d (by omega), z_up_s]
  have e110 : I2 110 d = w v := by rw [g3 110 d (by omega), z_up_o (by omega)]; unfold y_tst; rw [z_up_o (by omega), z_up_o (by omega), z_up_o (by omega), z_up_s]; exact h2
  refine ⟨I2, by rw [y_r_app, h1, Option.bind_some, y_r_c e1, g1], ?_, fun r j hr => ?_⟩
  · show y_tv d I2 = k_jn o (w v) (x v)
    unfold y_tv
    rw [e111, e110, g2]
    rcases hc with ⟨rfl, rfl⟩ | ⟨rfl, rfl⟩
    · rw [if_pos rfl]
    · rw [if_neg (by decide), if_pos rfl]
  · rw [g3 r j (by omega), z_up_o (by omega), y_tst_o (by omega), h3 r j (by omega)]
end
