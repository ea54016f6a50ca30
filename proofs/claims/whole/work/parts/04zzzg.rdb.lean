/-! READ: the class makes a reader and a page. -/
def k_Ks : List Nat := [0, 2, 2, 2, 2, 2, 2, 2, 2, 2, 2, 2]
/-- one row more of the page g: its j-th -/
def k_sp (g j t : Nat) (ks : List Nat) (S : z_SH) (I : z_MI) (J : z_MJ) (P : z_MP) (S' : z_SH) (I' : z_MI) (J' : z_MJ) (P' : z_MP) : Prop :=
  (∀ a, a ≠ g + j → S' a = S a) ∧ (∀ a, a ≠ g + j → I' a = I a) ∧ (∀ a, a ≠ g + j → J' a = J a) ∧ (∀ a, a ≠ g + j → ∀ i, a ≠ g ∨ i ≠ j → P' a i = P a i) ∧ P' g j = some (g + j) ∧ S' (g + j) = some (t, ks) ∧ (∀ i, I' (g + j) i = z_n 0) ∧ ∀ i, J' (g + j) i = 0
section
variable {S : z_SH} {I : z_MI} {J : z_MJ} {P : z_MP} {g j q : Nat}
theorem k_kj' : ∀ j, j < 12 → 1 ≤ j → k_Ks[j]? = some 2 := by decide
theorem k_kj (j : Nat) (h1 : 1 ≤ j) (h2 : j ≤ 11) : k_Ks[j]? = some 2 := k_kj' j (by omega) h1
theorem k_step {t : Nat} {v : Value} {ks : List Nat} (h : S g = some (8, k_Ks)) (hg : 8 ≤ g) (h1 : 1 ≤ j) (h2 : j ≤ 11)
    (mk : q_mk (z_h S I J P (g + j, q)) t (List.replicate 12 v) = z_h (z_us S (g + j) (t, ks)) (z_ri I (g + j) fun _ => z_n 0) (z_rj J (g + j) fun _ => 0) (z_rp P (g + j) fun _ => none) (g + (j + 1), q + 12)) :
    ∃ S' I' J' P', k_sp g j t ks S I J P S' I' J' P' ∧ ∀ (K : q_H → Option (Unit × q_H)), (q_ma (z_h S I J P (g + j, q)) t (List.replicate 12 v) fun σ1 a2 => (q_sf σ1 8 g j (.ref a2)).bind K) = K (z_h S' I' J' P' (g + (j + 1), q + 12)) := by
  have e : (z_us S (g + j) (t, ks)) g = some (8, k_Ks) := by unfold z_us; rw [if_neg (by omega)]; exact h
  refine ⟨z_us S (g + j) (t, ks), z_ri I (g + j) fun _ => z_n 0, z_rj J (g + j) fun _ => 0, z_pu (z_rp P (g + j) fun _ => none) g j (some (g + j)), ⟨fun a ha => ?_, fun a ha => ?_, fun a ha => ?_, fun a ha i hi => ?_, z_pu_s _ _ _ _, ?_, fun i => ?_, fun i => ?_⟩, fun K => ?_⟩
  rotate_left 7
  · unfold q_ma
    rw [mk]
    show (q_sf _ 8 g j (.ref (g + j))).bind K = _
    rw [z_sfr e hg (k_kj j h1 h2), Option.bind_some]
  · unfold z_us; rw [if_neg ha]
  · unfold z_ri; funext i; rw [if_neg ha]
  · unfold z_rj; funext i; rw [if_neg ha]
  · have : z_pu (z_rp P (g + j) fun _ => none) g j (some (g + j)) a i = z_rp P (g + j) (fun _ => none) a i := by
      unfold z_pu; rw [if_neg (by omega)]
    rw [this]; unfold z_rp; rw [if_neg ha]
  · unfold z_us; rw [if_pos rfl]
  · unfold z_ri; rw [if_pos rfl]
  · unfold z_rj; rw [if_pos rfl]
end
