/-! READ: the reference reads all lines. -/
def k_lr (T : k_T) (D : z_D) (O : k_O) : Prop := match O with
  | .inl _ => True
  | .inr (p', D') => p' ≤ T.1 ∧ d_eq D D' ∧ k_rc D'
theorem k_line_ok {T : k_T} {p : Nat} {D : z_D} {sx : Nat} (hT : T.1 ≤ 1000) (hp : p ≤ T.1) (l12 : D.1 < 12) (hx : sx ≤ 1) : k_lr T D (k_line T p (z_n sx) D) := by
  have ok := k_head_ok (sx := z_n sx) (D := D) hT hp
  have rc := k_head_rc (T := T) (p := p) (D := D) hx
  unfold k_line
  generalize k_head T p (z_n sx) D = O at *
  rcases O with F | ⟨p', D'⟩
  · trivial
  · obtain ⟨o1, o2, o3, o4⟩ := ok
    obtain ⟨c1, c2⟩ := rc
    have tk := k_tags_ok hT 9 p' D' o1 (by rw [o2]; exact l12) o3
    show k_lr T D (k_tags T 9 p' D')
    generalize k_tags T 9 p' D' = O2 at *
    rcases O2 with F | ⟨p2, D2⟩
    · trivial
    · exact ⟨tk.1, c1.trans tk.2.1, tk.2.2 c2⟩
section
variable {S : z_SH} {P : z_MP} {n : Nat × Nat} {T : k_T}
theorem k_man {T : k_T} {p : Nat} (h : k_k T p = 1 ∧ k_vl T p = 9518) : k_ix T k_w1 p = 8 := k_ix_w h.1 (by omega) h.2.symm
theorem k_man' {T : k_T} {p : Nat} (h : k_ix T k_w1 p = 8) : k_k T p = 1 ∧ k_vl T p = 9518 := by
  have := z_ff_is (fun i => decide (k_k T p = 1) && decide (k_w1.getD i 0 = k_vl T p)) k_w1.length (by change k_ix T k_w1 p < 10; omega)
  change (decide (k_k T p = 1) && decide (k_w1.getD (k_ix T k_w1 p) 0 = k_vl T p)) = true at this
  rw [Bool.and_eq_true, decide_eq_true_eq, decide_eq_true_eq, h] at this
  exact ⟨this.1, this.2.symm⟩
def k_rS (S : z_SH) (P : z_MP) (n : Nat × Nat) (T : k_T) (s : Int32) (f m : Nat) : Prop := ∀ p (D : z_D) (I : z_MI) (J : z_MJ), p ≤ T.1 → k_hd (I 83 18) (I 99) T → k_M T p I J → k_mz I J D → d_ok D → D.1 + f = 13 →
    (∃ F X Z, k_all T f p D = .inl F ∧ f_Mo_read_L27 83 s m (z_h S I J P n) = some (.inl (z_n F), z_h S X Z P n) ∧ k_mf I J X Z) ∨
    (∃ p' D' X Z, k_all T f p D = .inr (p', D') ∧ f_Mo_read_L27 83 s m (z_h S I J P n) = some (.inr (), z_h S X Z P n) ∧ k_mf I J X Z ∧ k_mz X Z D' ∧ d_ok D')
/-- whether a line may begin -/
def k_go (T : k_T) (p : Nat) (D : z_D) : Option Nat := if ¬ (k_ix T k_w1 p = 8 ∨ k_ix T k_w1 p = 9) then some 1 else if D.1 = 12 then some 5 else none
set_option maxRecDepth 100000 in
set_option maxHeartbeats 4000000 in
theorem M_readE {I : z_MI} {J : z_MJ} {p : Nat} {D : z_D} {s : Int32} (hS : z_St S) (hP : z_Pt P) (k : k_M T p I J) (h : k_mz I J D) (ok : d_ok D) (kk : ¬ k_k T p = 0) (m : Nat) :
    f_Mo_read_L27 83 s (m + 1) (z_h S I J P n) = match k_go T p D with
      | some c => some (.inl (z_n (k_fl T c p)), z_h S (z_up I 83 24 (z_n (k_fl T c p))) J P n)
      | none => q_sq (f_Mo_readsLine 83 (z_h S I J P n)) fun x30 σ29 => if x30 = z_n 0 then ((q_gi (q_gf σ29 12 83 24)).bind fun x32 => some ((.inl x32), σ29)) else (f_Mo_read_L27 83 s m σ29) := by
  have om := fun I J => z_ob (I := I) (J := J) (P := P) (n := n) (s_83 hS)
  have k4 : k_k T p ≤ 4 := by unfold k_k; repeat (first | omega | split)
  have r21 : q_gi (q_gf (z_h S I J P n) 12 83 21) = some (z_n (k_k T p)) := by rw [z_gi (s_83 hS) rfl, k.2.2.1]
  have g7 : q_gr (q_gf (z_h S I J P n) 12 83 7) = some 90 := z_gr (s_83 hS) rfl (p_83_7 hP)
  have r90 : q_gi (q_ga (z_h S I J P n) 20 90 (z_n 24)) = some (z_n D.1) := by rw [z_gia (s_90 hS) (by omega) (z_rpl (by omega)), h.1]
  have r24 : ∀ v, q_gi (q_gf (z_h S (z_up I 83 24 v) J P n) 12 83 24) = some v := fun v => by rw [z_gi (s_83 hS) rfl, z_up_s]
  have wm := M_isWord (P := P) (n := n) hS k 9518
  have ww := M_isWord (P := P) (n := n) hS k 12527906
  have er := M_errs (n := n) hS hP k
  have er1 := er 1
  have er5 := er 5
  have l12 := ok.1
  have z0 : (0 : Int32) = z_n 0 := rfl
  have n10 : ¬ z_n 1 = z_n 0 := by decide
  unfold k_go
  rw [f_Mo_read_L27, r21, Option.bind_some, z0, if_neg (by rw [z_eq (by omega) (by omega)]; exact kk), om, Option.bind_some, wm, z_sq]
  by_cases q8 : k_ix T k_w1 p = 8
  · rw [z_b_t (k_man' q8), if_neg n10, if_neg (show ¬ ¬ (k_ix T k_w1 p = 8 ∨ k_ix T k_w1 p = 9) from fun e => e (Or.inl q8)), if_neg (show ¬ (1 : Int32) = z_n 0 by decide), g7, Option.bind_some, show (24 : Int32) = z_n 24 from rfl, r90, Option.bind_some, show (12 : Int32) = z_n 12 from rfl]
    by_cases q12 : D.1 = 12
    · rw [if_pos q12, if_neg (by rw [z_lt (by omega) (by omega)]; omega), om, Option.bind_some, show (5 : Int32) = z_n 5 from rfl, er5, z_sq, if_pos rfl, z_sq, if_pos rfl, r24, Option.bind_some]
    · rw [if_neg q12, if_pos (by rw [z_lt (by omega) (by omega)]; omega), z_sq, if_neg (show ¬ (1 : Int32) = z_n 0 by decide), om, Option.bind_some]
  · rw [z_b_f (fun e => q8 (k_man e)), if_pos rfl, om, Option.bind_some, ww, z_sq]
    by_cases q9 : k_ix T k_w1 p = 9
    · rw [z_b_t (k_wom' q9), if_neg n10, z_sq, if_neg (show ¬ ¬ (k_ix T k_w1 p = 8 ∨ k_ix T k_w1 p = 9) from fun e => e (Or.inr q9)), if_neg (show ¬ (1 : Int32) = z_n 0 by decide), g7, Option.bind_some, show (24 : Int32) = z_n 24 from rfl, r90, Option.bind_some, show (12 : Int32) = z_n 12 from rfl]
      by_cases q12 : D.1 = 12
      · rw [if_pos q12, if_neg (by rw [z_lt (by omega) (by omega)]; omega), om, Option.bind_some, show (5 : Int32) = z_n 5 from rfl, er5, z_sq, if_pos rfl, z_sq, if_pos rfl, r24, Option.bind_some]
      · rw [if_neg q12, if_pos (by rw [z_lt (by omega) (by omega)]; omega), z_sq, if_neg (show ¬ (1 : Int32) = z_n 0 by decide), om, Option.bind_some]
    · rw [z_b_f (fun e => q9 (k_wom e)), if_pos rfl, z_sq, if_pos (show ¬ (k_ix T k_w1 p = 8 ∨ k_ix T k_w1 p = 9) by omega), if_pos rfl, om, Option.bind_some, show (1 : Int32) = z_n 1 from rfl, er1, z_sq, z_sq, if_pos rfl, r24, Option.bind_some]
end
