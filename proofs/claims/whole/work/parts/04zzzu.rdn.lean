/-! HOUSES rest on what sheets hold on their lines. -/
theorem h_in_eq {g g' : (Nat → Nat) → Nat → Nat → (Nat → Nat)} {r : Nat → Nat} {s : Nat} : ∀ k, (∀ t, s < t → t < s + 1 + k → ∀ r, g' r s t = g r s t) → h_in g' r s k = h_in g r s k
  | 0, _ => rfl
  | k + 1, h => by rw [h_in, h_in, h_in_eq k (fun t h1 h2 r => h t h1 (by omega) r), h (s + 1 + k) (by omega) (by omega)]
theorem h_ou_eq {g g' : (Nat → Nat) → Nat → Nat → (Nat → Nat)} (h : ∀ s t, s < 24 → t < 24 → ∀ r, g' r s t = g r s t) : ∀ s, s ≤ 24 → h_ou g' s = h_ou g s
  | 0, _ => rfl
  | s + 1, hs => by rw [h_ou, h_ou, h_ou_eq h s (by omega), h_in_eq (23 - s) (fun t h1 h2 r => h s t (by omega) (by omega) r)]
def h_v (I : z_MI) (J : z_MJ) (I' : z_MI) (J' : z_MJ) : Prop := ∀ s, s < 24 → (z_th I' s = z_th I s ∧ I' 87 s = I 87 s ∧ I' 88 s = I 88 s) ∧ d_eq (z_Ds I J s) (z_Ds I' J' s)
section
variable {I I' X : z_MI} {J J' : z_MJ} {s t a : Nat}
theorem h_v.ln (h : h_v I J I' J') (hs : s < 24) : z_ln I' s = z_ln I s := (h s hs).2.1.symm
theorem h_v.sh (h : h_v I J I' J') (hs : s < 24) (ht : t < 24) : h_sh I' s t = h_sh I s t := by
  unfold h_sh
  rw [(h s hs).1.1, (h t ht).1.1, (h s hs).1.2.1, (h t ht).1.2.1, (h s hs).1.2.2, (h t ht).1.2.2]
theorem d_eq.fb {D E : z_D} (h : d_eq D E) {l : Nat} (hl : l < D.1) (y : Int32) : d_fb y E l = d_fb y D l := by unfold d_fb; rw [h.i hl 1 (by omega)]
theorem d_eq.lb {D E : z_D} (h : d_eq D E) {l : Nat} (hl : l < D.1) (y : Int32) : d_lb y E l = d_lb y D l := by unfold d_lb; rw [h.i hl 1 (by omega)]
theorem d_eq.one {D E D' E' : z_D} (h : d_eq D D') (k : d_eq E E') {a b : Nat} (ha : a < D.1) (hb : b < E.1) (y z : Int32) : d_one y z D' a E' b = d_one y z D a E b := by
  unfold d_one d_full
  rw [h.fb ha, h.lb ha, k.fb hb, k.lb hb, h.i ha 0 (by omega), k.i hb 0 (by omega), h.j ha 0 (by omega), k.j hb 0 (by omega), h.j ha 1 (by omega), k.j hb 1 (by omega), h.j ha 2 (by omega), k.j hb 2 (by omega)]
theorem d_eq.on {D E D' E' : z_D} (h : d_eq D D') (k : d_eq E E') {a : Nat} (ha : a < D.1) (y z : Int32) : d_on y z D' a E' = d_on y z D a E := by
  unfold d_on
  rw [← k.1]
  exact z_ff_eq (fun b hb => h.one k ha hb y z)
theorem d_eq.nm {D E : z_D} (h : d_eq D E) (x : Int64) : d_nm x E = d_nm x D := by
  unfold d_nm
  rw [← h.1]
  exact z_ff_eq (fun b hb => by rw [h.j hb 0 (by omega)])
theorem h_v.on (h : h_v I J I' J') (hs : s < 24) (ht : t < 24) (ha : a < z_ln I s) : h_on I' J' s t a = h_on I J s t a := by
  unfold h_on
  rw [h.sh hs ht, (h s hs).1.2.2, (h t ht).1.2.2, (h s hs).2.on (h t ht).2 ha, h.ln ht]
theorem h_v.fb (h : h_v I J I' J') (hs : s < 24) (ha : a < z_ln I s) : h_fb I' J' s a = h_fb I J s a := by
  unfold h_fb
  rw [(h s hs).1.2.2, (h s hs).2.fb ha]
theorem h_v.lb (h : h_v I J I' J') (hs : s < 24) (ha : a < z_ln I s) : h_lb I' J' s a = h_lb I J s a := by
  unfold h_lb
  rw [(h s hs).1.2.2, (h s hs).2.lb ha]
theorem h_v.kf (h : h_v I J I' J') (hs : s < 24) (ha : a < z_ln I s) : ∀ k, k ≤ 24 → h_kf I' J' s a k = h_kf I J s a k
  | 0, _ => h.fb hs ha
  | k + 1, hk => by
    rw [h_kf, h_kf, h.kf hs ha k (by omega), h.on hs (show k < 24 by omega) ha, h.ln (show k < 24 by omega)]
    by_cases q : h_on I J s k a < z_ln I k
    · rw [h.fb (show k < 24 by omega) q]
    · rw [if_neg q, if_neg q]
theorem h_v.kl (h : h_v I J I' J') (hs : s < 24) (ha : a < z_ln I s) : ∀ k, k ≤ 24 → h_kl I' J' s a k = h_kl I J s a k
  | 0, _ => h.lb hs ha
  | k + 1, hk => by
    rw [h_kl, h_kl, h.kl hs ha k (by omega), h.on hs (show k < 24 by omega) ha, h.ln (show k < 24 by omega)]
    by_cases q : h_on I J s k a < z_ln I k
    · rw [h.lb (show k < 24 by omega) q]
    · rw [if_neg q, if_neg q]
theorem h_v.nj (h : h_v I J I' J') (hs : s < 24) (ht : t < 24) : h_nj I' J' s t = h_nj I J s t := by
  unfold h_nj
  rw [h.ln hs]
  exact z_sum_eq fun a ha => by rw [h.on hs ht ha, h.ln ht]
theorem h_v.rc (h : h_v I J I' J') : h_rc I' J' 24 = h_rc I J 24 := by
  unfold h_rc
  exact h_ou_eq (fun s t hs ht r => by unfold h_rs; rw [h.nj hs ht]) 24 (Nat.le_refl _)
theorem d_eq.hp {D E D' E' : z_D} (h : d_eq D D') (k : d_eq E E') {i : Nat} (hi : i < E.1) : d_hp D' E' i = d_hp D E i := by
  have z : ∀ x, (d_nm x D < D.1 ∧ D'.2.1 0 (d_nm x D) = z_n 0) = (d_nm x D < D.1 ∧ D.2.1 0 (d_nm x D) = z_n 0) := fun x => propext ⟨fun q => ⟨q.1, by rw [← h.i q.1 0 (by omega)]; exact q.2⟩, fun q => ⟨q.1, by rw [h.i q.1 0 (by omega)]; exact q.2⟩⟩
  have w : ∀ x, (d_nm x D < D.1 ∧ ¬ D'.2.1 0 (d_nm x D) = z_n 0) = (d_nm x D < D.1 ∧ ¬ D.2.1 0 (d_nm x D) = z_n 0) := fun x => propext ⟨fun q => ⟨q.1, by rw [← h.i q.1 0 (by omega)]; exact q.2⟩, fun q => ⟨q.1, by rw [h.i q.1 0 (by omega)]; exact q.2⟩⟩
  unfold d_hp
  rw [k.j hi 1 (by omega), k.j hi 2 (by omega), h.nm, h.nm, ← h.1]
  simp only [z, w]
theorem h_v.lf (h : h_v I J I' J') (hs : s < 24) (ht : t < 24) (w x : Nat) {i : Nat} (hi : i < z_ln I t) : h_lf I' J' s t w x i = h_lf I J s t w x i := by
  have e : I' 91 (12 * t + i) = I 91 (12 * t + i) := (h t ht).2.i hi 0 (by omega)
  unfold h_lf h_yr
  rw [h.kl ht hi 24 (Nat.le_refl _), h.kf ht hi 24 (Nat.le_refl _), (h s hs).1.2.2, (h s hs).2.hp (h t ht).2 hi, h.on ht hs hi, h.ln hs, e]
theorem h_v.lt (h : h_v I J I' J') (r : Nat → Nat) (hs : s < 24) (ht : t < 24) (w x : Nat) : h_lt I' J' r s t w x = h_lt I J r s t w x := by
  unfold h_lt
  rw [(h s hs).1.1, (h t ht).1.1, h.ln ht, (h s hs).1.2.2, (h t ht).1.2.2, z_sum_eq (fun i hi => h.lf hs ht w x hi)]
theorem h_v.full (h : h_v I J I' J') (f : h_full I J X) : h_full I' J' X := by
  obtain ⟨f1, f2, f3⟩ := f
  refine ⟨fun j hj => by rw [h.rc]; exact f1 j hj, fun u a hu hth ha => ?_, fun j hj => ?_⟩
  · rw [(h u hu).1.1] at hth
    rw [h.ln hu] at ha
    rw [h.kf hu ha 24 (Nat.le_refl _), h.kl hu ha 24 (Nat.le_refl _)]; exact f2 u a hu hth ha
  · rw [h.rc, z_sum_eq (fun t ht => h.lt _ (show j / 4 < 24 by omega) ht _ _)]; exact f3 j hj
theorem h_v.ok (h : h_v I J I' J') (k : h_ok I J) (e : ∀ a, 22 ≤ a → a ≤ 26 → I' a = I a) : h_ok I' J' := by
  rcases k with ⟨h1, h2⟩ | h1
  · refine Or.inl ⟨by rw [e 22 (by omega) (by omega)]; exact h1, ?_⟩
    have f := h.full h2
    exact ⟨fun j hj => by rw [e 23 (by omega) (by omega)]; exact f.1 j hj, fun u a hu hth ha => by rw [e 24 (by omega) (by omega), e 25 (by omega) (by omega)]; exact f.2.1 u a hu hth ha, fun j hj => by rw [e 26 (by omega) (by omega)]; exact f.2.2 j hj⟩
  · exact Or.inr (by rw [e 22 (by omega) (by omega)]; exact h1)
end
