/-! ONE HOUSES: pure. -/
def h_mg (r : Nat → Nat) (x y : Nat) : Nat → Nat := fun i => if r i = x then y else r i
def h_rs (nj : Nat → Nat → Nat) (r : Nat → Nat) (s t : Nat) : Nat → Nat := if nj s t < 2 then r else h_mg r (r t) (r s)
def h_ms (nj : Nat → Nat → Nat) (r : Nat → Nat) (s t : Nat) : Nat → Nat := if nj s t < 2 ∨ r s = r t then r else h_mg r (if r s < r t then r t else r s) (if r t < r s then r t else r s)
def h_in (g : (Nat → Nat) → Nat → Nat → (Nat → Nat)) (r : Nat → Nat) (s : Nat) : Nat → (Nat → Nat)
  | 0 => r
  | k + 1 => g (h_in g r s k) s (s + 1 + k)
def h_ou (g : (Nat → Nat) → Nat → Nat → (Nat → Nat)) : Nat → (Nat → Nat)
  | 0 => fun i => i
  | s + 1 => h_in g (h_ou g s) s (23 - s)
theorem h_mg_eq (r : Nat → Nat) (x y i j : Nat) : (h_mg r x y i = h_mg r x y j) ↔ (r i = r j ∨ ((r i = x ∨ r i = y) ∧ (r j = x ∨ r j = y))) := by
  unfold h_mg
  split <;> split <;> omega
theorem z_sum_pt {f g : Nat → Nat} {x : Nat} (hx : f x = g x + 1) : ∀ k, x < k → (∀ i, i < k → i ≠ x → f i = g i) → z_sum k f = z_sum k g + 1
  | 0, h, _ => absurd h (Nat.not_lt_zero _)
  | k + 1, h, e => by
    rw [z_sum_s, z_sum_s]
    by_cases h1 : x = k
    · subst h1
      rw [hx, z_sum_eq (fun i hi => e i (by omega) (by omega))]; omega
    · rw [z_sum_pt hx k (by omega) (fun i hi hn => e i (by omega) hn), e k (by omega) (fun q => h1 q.symm)]; omega
def h_g (th : Nat → Bool) (vt : Nat → Int32) (r : Nat → Nat) : Prop := ∀ i, i < 24 → r i < 24 ∧ r (r i) = r i ∧ th (r i) = th i ∧ vt (r i) = vt i
def h_n (th : Nat → Bool) (r : Nat → Nat) : Nat := z_sum 24 (fun i => if th i = true ∧ r i = i then 1 else 0)
theorem h_g.mg {th : Nat → Bool} {vt : Nat → Int32} {r : Nat → Nat} (h : h_g th vt r) {x y : Nat} (hx : x < 24) (hy : y < 24) (ex : r x = x) (ey : r y = y) (tx : th x = true) (ty : th y = true) (v : vt x = vt y) (ne : x ≠ y) : h_g th vt (h_mg r x y) ∧ h_n th r = h_n th (h_mg r x y) + 1 := by
  refine ⟨fun i hi => ?_, ?_⟩
  · obtain ⟨h1, h2, h3, h4⟩ := h i hi
    unfold h_mg
    by_cases e : r i = x
    · simp only [e, if_true, ey, if_neg ne.symm]
      exact ⟨hy, trivial, by rw [ty, ← h3, e, tx], by rw [← v, ← h4, e]⟩
    · simp only [e, if_false, h2]
      exact ⟨h1, trivial, h3, h4⟩
  · unfold h_n
    refine z_sum_pt (x := x) ?_ 24 hx ?_
    · unfold h_mg
      rw [if_pos ⟨tx, ex⟩, ex, if_pos rfl, if_neg (fun e => ne e.2.symm)]
    · intro i hi hn
      obtain ⟨h1, h2, h3, h4⟩ := h i hi
      have : (r i = i) ↔ (h_mg r x y i = i) := by
        unfold h_mg
        by_cases e : r i = x
        · rw [if_pos e]
          constructor
          · intro q; exact absurd (q.symm.trans e) hn
          · intro q
            subst q
            rw [ey] at e
            exact absurd e.symm ne
        · rw [if_neg e]
      simp only [this]
def h_R (th : Nat → Bool) (vt : Nat → Int32) (r q : Nat → Nat) : Prop := (h_g th vt r ∧ h_g th vt q) ∧ (∀ i j, i < 24 → j < 24 → (r i = r j ↔ q i = q j)) ∧ h_n th r = h_n th q
theorem h_R.step {th : Nat → Bool} {vt : Nat → Int32} {nj : Nat → Nat → Nat} {r q : Nat → Nat} (h : h_R th vt r q) {s t : Nat} (hs : s < 24) (ht : t < 24) (hn : ¬ nj s t < 2 → th s = true ∧ th t = true ∧ vt s = vt t) : h_R th vt (h_rs nj r s t) (h_ms nj q s t) := by
  obtain ⟨⟨g1, g2⟩, k, c⟩ := h
  unfold h_rs h_ms
  by_cases e : nj s t < 2
  · rw [if_pos e, if_pos (Or.inl e)]
    exact ⟨⟨g1, g2⟩, k, c⟩
  · obtain ⟨t1, t2, t3⟩ := hn e
    obtain ⟨a1, a2, a3, a4⟩ := g1 s hs
    obtain ⟨b1, b2, b3, b4⟩ := g1 t ht
    obtain ⟨c1, c2, c3, c4⟩ := g2 s hs
    obtain ⟨d1, d2, d3, d4⟩ := g2 t ht
    have kst := k s t hs ht
    rw [if_neg e]
    by_cases f : q s = q t
    · rw [if_pos (Or.inr f)]
      have f2 := kst.mpr f
      have : h_mg r (r t) (r s) = r := by
        funext i
        unfold h_mg
        split
        · rename_i h; rw [h, f2]
        · rfl
      rw [this]
      exact ⟨⟨g1, g2⟩, k, c⟩
    · rw [if_neg (fun z => z.elim e f)]
      have f2 : r s ≠ r t := fun z => f (kst.mp z)
      obtain ⟨m1, m2⟩ := g1.mg b1 a1 b2 a2 (b3.trans t2) (a3.trans t1) (b4.trans (t3.symm.trans a4.symm)) (Ne.symm f2)
      have key : ∀ x y, ((x = q s ∧ y = q t) ∨ (x = q t ∧ y = q s)) → h_R th vt (h_mg r (r t) (r s)) (h_mg q x y) := by
        intro x y hxy
        have w : h_g th vt (h_mg q x y) ∧ h_n th q = h_n th (h_mg q x y) + 1 := by
          rcases hxy with ⟨rfl, rfl⟩ | ⟨rfl, rfl⟩
          · exact g2.mg c1 d1 c2 d2 (c3.trans t1) (d3.trans t2) (c4.trans (t3.trans d4.symm)) f
          · exact g2.mg d1 c1 d2 c2 (d3.trans t2) (c3.trans t1) (d4.trans (t3.symm.trans c4.symm)) (Ne.symm f)
        refine ⟨⟨m1, w.1⟩, fun i j hi hj => ?_, by omega⟩
        rw [h_mg_eq, h_mg_eq]
        have k1 := k i j hi hj
        have k2 := k i s hi hs
        have k3 := k i t hi ht
        have k4 := k j s hj hs
        have k5 := k j t hj ht
        rw [k1, k2, k3, k4, k5]
        rcases hxy with ⟨rfl, rfl⟩ | ⟨rfl, rfl⟩ <;> omega
      by_cases l1 : q s < q t
      · rw [if_pos l1, if_neg (by omega)]; exact key _ _ (Or.inr ⟨rfl, rfl⟩)
      · rw [if_neg l1, if_pos (by omega)]; exact key _ _ (Or.inl ⟨rfl, rfl⟩)
theorem h_R.inn {th : Nat → Bool} {vt : Nat → Int32} {nj : Nat → Nat → Nat} (hn : ∀ s t, ¬ nj s t < 2 → th s = true ∧ th t = true ∧ vt s = vt t) {r q : Nat → Nat} (h : h_R th vt r q) {s : Nat} (hs : s < 24) : ∀ k, s + k < 24 → h_R th vt (h_in (h_rs nj) r s k) (h_in (h_ms nj) q s k)
  | 0, _ => h
  | k + 1, hk => (h_R.inn hn h hs k (by omega)).step hs (by omega) (hn _ _)
theorem h_R.ou {th : Nat → Bool} {vt : Nat → Int32} {nj : Nat → Nat → Nat} (hn : ∀ s t, ¬ nj s t < 2 → th s = true ∧ th t = true ∧ vt s = vt t) : ∀ s, s ≤ 24 → h_R th vt (h_ou (h_rs nj) s) (h_ou (h_ms nj) s)
  | 0, _ => ⟨⟨fun i hi => ⟨hi, rfl, rfl, rfl⟩, fun i hi => ⟨hi, rfl, rfl, rfl⟩⟩, fun _ _ _ _ => Iff.rfl, rfl⟩
  | s + 1, hs => (h_R.ou hn s (by omega)).inn hn (by omega) (23 - s) (by omega)
/-! what is KNOWN -/
def h_sh (I : z_MI) (s t : Nat) : Bool := z_th I s && z_th I t && decide (I 87 s = I 87 t) && decide (¬ I 88 s = I 88 t)
def h_on (I : z_MI) (J : z_MJ) (s t a : Nat) : Nat := if h_sh I s t = true then d_on (I 88 s) (I 88 t) (z_Ds I J s) a (z_Ds I J t) else z_ln I t
def h_fb (I : z_MI) (J : z_MJ) (s l : Nat) : Int32 := d_fb (I 88 s) (z_Ds I J s) l
def h_lb (I : z_MI) (J : z_MJ) (s l : Nat) : Int32 := d_lb (I 88 s) (z_Ds I J s) l
def h_kf (I : z_MI) (J : z_MJ) (s a : Nat) : Nat → Int32
  | 0 => h_fb I J s a
  | k + 1 => if h_on I J s k a < z_ln I k then (if h_kf I J s a k < h_fb I J k (h_on I J s k a) then h_fb I J k (h_on I J s k a) else h_kf I J s a k) else h_kf I J s a k
def h_kl (I : z_MI) (J : z_MJ) (s a : Nat) : Nat → Int32
  | 0 => h_lb I J s a
  | k + 1 => if h_on I J s k a < z_ln I k then (if h_lb I J k (h_on I J s k a) < h_kl I J s a k then h_lb I J k (h_on I J s k a) else h_kl I J s a k) else h_kl I J s a k
def h_nj (I : z_MI) (J : z_MJ) (s t : Nat) : Nat := z_sum (z_ln I s) fun a => if h_on I J s t a < z_ln I t then 1 else 0
section
variable {I I' : z_MI} {J J' : z_MJ}
theorem h_sh_c (h : z_cg I J I' J') (s t : Nat) : h_sh I' s t = h_sh I s t := by unfold h_sh; rw [z_th_c h, z_th_c h, h.i _ rfl, h.i _ rfl, h.i _ rfl, h.i _ rfl]
theorem h_on_c (h : z_cg I J I' J') (s t a : Nat) : h_on I' J' s t a = h_on I J s t a := by unfold h_on; rw [h_sh_c h, z_ln_c h, z_Ds_c h, z_Ds_c h, h.i _ rfl, h.i _ rfl]
theorem h_fb_c (h : z_cg I J I' J') (s l : Nat) : h_fb I' J' s l = h_fb I J s l := by unfold h_fb; rw [z_Ds_c h, h.i _ rfl]
theorem h_lb_c (h : z_cg I J I' J') (s l : Nat) : h_lb I' J' s l = h_lb I J s l := by unfold h_lb; rw [z_Ds_c h, h.i _ rfl]
theorem h_kf_c (h : z_cg I J I' J') (s a : Nat) : ∀ k, h_kf I' J' s a k = h_kf I J s a k
  | 0 => h_fb_c h s a
  | k + 1 => by rw [h_kf, h_kf, h_kf_c h s a k, h_on_c h, h_fb_c h, z_ln_c h]
theorem h_kl_c (h : z_cg I J I' J') (s a : Nat) : ∀ k, h_kl I' J' s a k = h_kl I J s a k
  | 0 => h_lb_c h s a
  | k + 1 => by rw [h_kl, h_kl, h_kl_c h s a k, h_on_c h, h_lb_c h, z_ln_c h]
theorem h_nj_c (h : z_cg I J I' J') (s t : Nat) : h_nj I' J' s t = h_nj I J s t := by
  unfold h_nj
  rw [z_ln_c h]
  exact z_sum_eq fun a _ => by rw [h_on_c h, z_ln_c h]
theorem h_sh_i (I : z_MI) (s t : Nat) : (h_sh I s t = true) = (z_th I s = true ∧ z_th I t = true ∧ I 87 s = I 87 t ∧ ¬ I 88 s = I 88 t) := by
  unfold h_sh
  simp only [Bool.and_eq_true, decide_eq_true_eq, and_assoc]
theorem h_sh_s (I : z_MI) (s t : Nat) : h_sh I s t = h_sh I t s := by
  rw [Bool.eq_iff_iff, h_sh_i, h_sh_i]
  constructor
  · rintro ⟨a, b, c, d⟩; exact ⟨b, a, c.symm, fun e => d e.symm⟩
  · rintro ⟨a, b, c, d⟩; exact ⟨b, a, c.symm, fun e => d e.symm⟩
theorem h_on_n {s t a : Nat} (h : ¬ h_sh I s t = true) : ¬ h_on I J s t a < z_ln I t := by
  unfold h_on; rw [if_neg h]; omega
theorem h_on_self (s a : Nat) : ¬ h_on I J s s a < z_ln I s := h_on_n (by rw [h_sh_i]; exact fun e => e.2.2.2 rfl)
theorem h_kf_self (s a : Nat) : h_kf I J s a (s + 1) = h_kf I J s a s := by rw [h_kf, if_neg (h_on_self s a)]
theorem h_kl_self (s a : Nat) : h_kl I J s a (s + 1) = h_kl I J s a s := by rw [h_kl, if_neg (h_on_self s a)]
theorem d_one_s (y z : Int32) (D : z_D) (a : Nat) (E : z_D) (b : Nat) : d_one y z D a E b = d_one z y E b D a := by
  unfold d_one d_full
  rw [Bool.eq_iff_iff]
  simp only [Bool.and_eq_true, decide_eq_true_eq]
  constructor
  · rintro ⟨⟨⟨⟨h1, h2⟩, h3, h4, h5, h6⟩, h7⟩, h8⟩
    exact ⟨⟨⟨⟨h1.symm, h2.symm⟩, by rw [← h4]; exact h3, h4.symm, by rw [← h6]; exact h5, h6.symm⟩, h8⟩, h7⟩
  · rintro ⟨⟨⟨⟨h1, h2⟩, h3, h4, h5, h6⟩, h7⟩, h8⟩
    exact ⟨⟨⟨⟨h1.symm, h2.symm⟩, by rw [← h4]; exact h3, h4.symm, by rw [← h6]; exact h5, h6.symm⟩, h8⟩, h7⟩
theorem d_on_i {y z : Int32} {D E : z_D} {a b : Nat} (hE : d_ok E) (hb : b < E.1) (h : d_one y z D a E b = true) : d_on y z D a E = b := by
  have hc : d_on y z D a E < E.1 := by
    by_cases c : d_on y z D a E < E.1
    · exact c
    · have hle := z_ff_le (d_one y z D a E) E.1
      have := z_ff_no (d_one y z D a E) E.1 b (by unfold d_on at c; omega)
      rw [h] at this; cases this
  have is : d_one y z D a E (d_on y z D a E) = true := z_ff_is _ _ hc
  unfold d_one at is h
  simp only [Bool.and_eq_true, decide_eq_true_eq] at is h
  exact hE.2.2 _ _ hc hb (is.1.1.1.2.symm.trans h.1.1.1.2)
theorem h_on_s {s t a b : Nat} (hs : d_ok (z_Ds I J s)) (ht : d_ok (z_Ds I J t)) (ha : a < z_ln I s) (hb : b < z_ln I t) : (h_on I J s t a = b) ↔ (h_on I J t s b = a) := by
  unfold h_on
  rw [h_sh_s I t s]
  by_cases h : h_sh I s t = true
  · rw [if_pos h, if_pos h]
    constructor
    · intro e
      have is : d_one (I 88 s) (I 88 t) (z_Ds I J s) a (z_Ds I J t) (d_on (I 88 s) (I 88 t) (z_Ds I J s) a (z_Ds I J t)) = true := z_ff_is _ _ (show d_on (I 88 s) (I 88 t) (z_Ds I J s) a (z_Ds I J t) < (z_Ds I J t).1 by rw [e]; exact hb)
      rw [e, d_one_s] at is
      exact d_on_i hs ha is
    · intro e
      have is : d_one (I 88 t) (I 88 s) (z_Ds I J t) b (z_Ds I J s) (d_on (I 88 t) (I 88 s) (z_Ds I J t) b (z_Ds I J s)) = true := z_ff_is _ _ (show d_on (I 88 t) (I 88 s) (z_Ds I J t) b (z_Ds I J s) < (z_Ds I J s).1 by rw [e]; exact ha)
      rw [e, d_one_s] at is
      exact d_on_i ht hb is
  · rw [if_neg h, if_neg h]
    constructor <;> intro e <;> omega
theorem h_nj_th {s t : Nat} (h : ¬ h_nj I J s t < 2) : z_th I s = true ∧ z_th I t = true ∧ I 87 s = I 87 t := by
  by_cases e : h_sh I s t = true
  · rw [h_sh_i] at e; exact ⟨e.1, e.2.1, e.2.2.1⟩
  · exfalso
    apply h
    unfold h_nj
    rw [z_sum_eq (g := fun _ => 0) (fun a _ => if_neg (h_on_n e))]
    have := z_sum_le (fun _ => 0) 0 (z_ln I s) (fun _ _ => Nat.le_refl _)
    omega
theorem h_u1 {s : Nat} (hs : z_th I s = true) (t a : Nat) : u_one I J s t a = if h_on I J s t a < z_ln I t then z_n (h_on I J s t a) else -z_n 1 := by
  unfold u_one h_on
  by_cases h : h_sh I s t = true
  · have e := h
    rw [h_sh_i] at e
    rw [if_pos h, if_pos ⟨e.2.1, fun q => e.2.2.2 (by rw [q]), e.2.2⟩]
    rfl
  · rw [if_neg h, if_neg (Nat.lt_irrefl _), if_neg]
    rw [h_sh_i] at h
    exact fun q => h ⟨hs, q.1, q.2.2⟩
end
