/-! Sheets that are alike on their lines. -/
def d_eq (D E : z_D) : Prop := D.1 = E.1 ∧ ∀ l, l < D.1 → (∀ k, k < 5 → D.2.1 k l = E.2.1 k l) ∧ ∀ k, k < 3 → D.2.2 k l = E.2.2 k l
section
variable {D E : z_D}
theorem d_eq.symm (h : d_eq D E) : d_eq E D := ⟨h.1.symm, fun l hl => ⟨fun k hk => ((h.2 l (by rw [h.1]; exact hl)).1 k hk).symm, fun k hk => ((h.2 l (by rw [h.1]; exact hl)).2 k hk).symm⟩⟩
theorem d_eq.i (h : d_eq D E) {l : Nat} (hl : l < D.1) (k : Nat) (hk : k < 5) : E.2.1 k l = D.2.1 k l := ((h.2 l hl).1 k hk).symm
theorem d_eq.j (h : d_eq D E) {l : Nat} (hl : l < D.1) (k : Nat) (hk : k < 3) : E.2.2 k l = D.2.2 k l := ((h.2 l hl).2 k hk).symm
theorem d_eq.hb (h : d_eq D E) {l : Nat} (hl : l < D.1) : d_hb E l = d_hb D l := by unfold d_hb; rw [h.i hl 2 (by omega)]
theorem d_eq.wf (h : d_eq D E) {l : Nat} (hl : l < D.1) : d_wf E l = d_wf D l := by unfold d_wf; rw [h.i hl 2 (by omega), ← h.1]
theorem d_eq.kin (h : d_eq D E) {a b : Nat} (ha : a < D.1) (hb : b < D.1) : d_kin E a b = d_kin D a b := by
  unfold d_kin
  rw [h.j ha 1 (by omega), h.j ha 2 (by omega), h.j hb 1 (by omega), h.j hb 2 (by omega)]
theorem d_eq.ok (h : d_eq D E) (k : d_ok D) : d_ok E := by
  obtain ⟨k1, k2, k3⟩ := k
  refine ⟨by rw [← h.1]; exact k1, fun l hl => ?_, fun l m hl hm e => ?_⟩
  · rw [← h.1] at hl
    rw [h.i hl 0 (by omega), h.i hl 1 (by omega), h.i hl 2 (by omega), h.i hl 3 (by omega), h.i hl 4 (by omega), h.j hl 1 (by omega), h.j hl 2 (by omega), h.hb hl, ← h.1]
    exact k2 l hl
  · rw [← h.1] at hl hm
    rw [h.j hl 0 (by omega), h.j hm 0 (by omega)] at e
    exact k3 l m hl hm e
theorem d_ok.hbl (k : d_ok D) {l : Nat} (hl : l < D.1) (w : d_wf D l = true) : d_hb D l < D.1 := by
  unfold d_wf at w
  rw [decide_eq_true_eq] at w
  rcases (k.2.1 l hl).2.2.1 with q | q
  · exact absurd q w.2
  · exact q.2
theorem d_eq.so (h : d_eq D E) (k : d_ok D) {l : Nat} (hl : l < D.1) (w : d_wf D l = true) : d_so E l = d_so D l := by
  have hb := k.hbl hl w
  unfold d_so
  rw [h.hb hl, h.kin hl hb, h.i hl 3 (by omega), h.i hl 2 (by omega), h.i hl 4 (by omega)]
theorem d_eq.ot (h : d_eq D E) {a : Nat} (w : Int32) (b : Nat) {i : Nat} (hi : i < D.1) (ha : a < D.1) : d_ot E a w b i = d_ot D a w b i := by
  unfold d_ot
  rw [h.i hi 0 (by omega), h.kin hi ha]
theorem d_eq.tk (h : d_eq D E) (k : d_ok D) {l : Nat} (hl : l < D.1) (w : d_wf D l = true) : d_tk E l = d_tk D l := by
  have hb := k.hbl hl w
  unfold d_tk
  rw [h.so k hl w, h.hb hl, h.i hl 4 (by omega), h.i hb 4 (by omega), ← h.1, z_sum_eq (fun i hi => h.ot (z_n 0) (d_hb D l) hi hl)]
theorem d_eq.in' (h : d_eq D E) (k : d_ok D) (q t : Nat) {l : Nat} (hl : l < D.1) : d_in E q t l = d_in D q t l := by
  unfold d_in
  rw [h.wf hl]
  by_cases w : d_wf D l = true
  · rw [h.so k hl w, h.tk k hl w]
  · rw [if_neg (fun e => w e.1), if_neg (fun e => w e.1)]
theorem d_eq.ct (h : d_eq D E) (k : d_ok D) (q t : Nat) : d_ct E q t = d_ct D q t := by
  unfold d_ct
  rw [← h.1]
  exact z_sum_eq (fun l hl => h.in' k q t hl)
theorem d_eq.tg (h : d_eq D E) {l : Nat} (hl : l < D.1) : d_tg E l = d_tg D l := by
  unfold d_tg
  rw [h.i hl 4 (by omega), h.i hl 2 (by omega), h.i hl 3 (by omega), h.j hl 1 (by omega), h.j hl 2 (by omega)]
theorem z_pd.deq {I : z_MI} {J : z_MJ} {p : Nat} (g : z_pd I J p D) (h : d_eq D E) : z_pd I J p E := by
  refine ⟨by rw [← h.1]; exact g.1, fun k l hk hl => ?_, fun l hl => ?_⟩
  · rw [← h.1] at hl
    rw [h.j hl k hk]; exact g.2.1 k l hk hl
  · rw [← h.1] at hl
    rw [h.i hl 0 (by omega), h.i hl 1 (by omega), h.i hl 2 (by omega), h.i hl 3 (by omega), h.tg hl]; exact g.2.2 l hl
theorem z_pt.deq {I : z_MI} {p : Nat} (g : z_pt I p D) (h : d_eq D E) (k : d_ok D) : z_pt I p E := by
  refine ⟨fun l hl => ?_, fun q t hq ht => by rw [h.ct k]; exact g.2 q t hq ht⟩
  rw [← h.1] at hl
  have g1 := g.1 l hl
  rw [h.wf hl]
  by_cases w : d_wf D l = true
  · rw [h.so k hl w, h.tk k hl w]; exact g1
  · rw [if_neg w] at g1
    rw [if_neg w, if_neg (fun e => w e.1)]
    rw [if_neg (fun e => w e.1)] at g1
    exact g1
theorem z_pg.deq {S : z_SH} {I : z_MI} {J : z_MJ} {P : z_MP} {K : Nat → Bool} {n p : Nat} (g : z_pg S I J P K n p D) (h : d_eq D E) (k : d_ok D) : z_pg S I J P K n p E :=
  ⟨g.1, g.2.1, g.2.2.1.deq h, z_pt.deq g.2.2.2 h k⟩
end
