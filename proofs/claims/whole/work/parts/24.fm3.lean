/-! Methods of the reference. -/
def f_Mo_reads_L379 (v0 : Nat) (v2 : Int32) : Nat → Int32 → q_H → Option ((Int32) × q_H)
  | 0, _, _ => none
  | n + 1, v1, σ => if (0 : Int32) < v1 then ((q_gr (q_gf σ 12 v0 40)).bind fun x55 => (q_gi (q_ga σ 20 x55 v1)).bind fun x56 => if x56 = (1 : Int32) then (f_Mo_reads_L379 v0 v2 n (v1 + (-1 : Int32)) σ) else (some (v1, σ))) else (some (v1, σ))
set_option maxRecDepth 100000 in
theorem l_Mo_reads_L379 {fo : Option Nat} {d : Nat} (hd : 3 ≤ d + 1) {o : q_O} {σ' : q_H} {E : (Int32) → q_H → Prop} (v0 : Nat) (v2 : Int32) (hX : ∀ (t : Int32) σ1, E (t) σ1 → q_G (q_rf fo) d m_Mo_reads o σ' 424 [some (.ref v0), some (.int t), some (.int v2), none, none, none] [] σ1)  : ∀ (n : Nat) (v1 : Int32) (σ : q_H), q_J E (f_Mo_reads_L379 v0 v2 n v1 σ) (q_G (q_rf fo) d m_Mo_reads o σ' 379 [some (.ref v0), some (.int v1), some (.int v2), none, none, none] [] σ)
  | 0, v1, σ => J_none
  | n + 1, v1, σ => by
    unfold f_Mo_reads_L379
    refine q_J.step (fun g => j_iload_n rfl rfl (g)) ?_
    refine J_ite (fun h54 => ?_) (fun h54 => ?_)
    · refine J_bind fun x55 hx55 => ?_
      refine J_bind fun x56 hx56 => ?_
      refine q_J.step (fun g => j_if_f rfl (cc_le_f h54) (j_aload_n rfl rfl (j_gfr rfl hx55 (j_iload_n rfl rfl (j_ial rfl hx56 (j_iconst (1 : Int32) rfl k32_1 (g))))))) ?_
      refine J_ite (fun h57 => ?_) (fun h57 => ?_)
      · exact q_J.step (fun g => j_icmp_f rfl (cc_ne_f h57) (j_iinc [some (.ref v0), some (.int (v1 + (-1 : Int32))), some (.int v2), none, none, none] (v1 + (-1 : Int32)) rfl rfl (by rw [k32_m1]) (Or.inr rfl) rfl (j_goto rfl (g)))) (l_Mo_reads_L379 hd v0 v2 hX n (v1 + (-1 : Int32)) σ)
      exact J_some (fun h => j_icmp_t rfl (cc_ne_t h57) (hX _ _ h))
    exact J_some (fun h => j_if_t rfl (cc_le_t h54) (hX _ _ h))

def f_Mo_reads_L379 (v0 : Nat) (v2 : Int32) : Nat → Int32 → q_H → Option ((Int32) × q_H)
  | 0, _, _ => none
  | n + 1, v1, σ => if (0 : Int32) < v1 then ((q_gr (q_gf σ 12 v0 40)).bind fun x153 => (q_gi (q_ga σ 20 x153 v1)).bind fun x154 => if x154 = (1 : Int32) then (f_Mo_reads_L379 v0 v2 n (v1 + (-1 : Int32)) σ) else (some (v1, σ))) else (some (v1, σ))
set_option maxRecDepth 100000 in
theorem l_Mo_reads_L379 {fo : Option Nat} {d : Nat} (hd : 3 ≤ d + 1) {o : q_O} {σ' : q_H} {E : (Int32) → q_H → Prop} (v0 : Nat) (v2 : Int32) (hX : ∀ (t : Int32) σ1, E (t) σ1 → q_G (q_rf fo) d m_Mo_reads o σ' 424 [some (.ref v0), some (.int t), some (.int v2), none, none, none] [] σ1)  : ∀ (n : Nat) (v1 : Int32) (σ : q_H), q_J E (f_Mo_reads_L379 v0 v2 n v1 σ) (q_G (q_rf fo) d m_Mo_reads o σ' 379 [some (.ref v0), some (.int v1), some (.int v2), none, none, none] [] σ)
  | 0, v1, σ => J_none
  | n + 1, v1, σ => by
    unfold f_Mo_reads_L379
    refine q_J.step (fun g => j_iload_n rfl rfl (g)) ?_
    refine J_ite (fun h152 => ?_) (fun h152 => ?_)
    · refine J_bind fun x153 hx153 => ?_
      refine J_bind fun x154 hx154 => ?_
      refine q_J.step (fun g => j_if_f rfl (cc_le_f h152) (j_aload_n rfl rfl (j_gfr rfl hx153 (j_iload_n rfl rfl (j_ial rfl hx154 (j_iconst (1 : Int32) rfl k32_1 (g))))))) ?_
      refine J_ite (fun h155 => ?_) (fun h155 => ?_)
      · exact q_J.step (fun g => j_icmp_f rfl (cc_ne_f h155) (j_iinc [some (.ref v0), some (.int (v1 + (-1 : Int32))), some (.int v2), none, none, none] (v1 + (-1 : Int32)) rfl rfl (by rw [k32_m1]) (Or.inr rfl) rfl (j_goto rfl (g)))) (l_Mo_reads_L379 hd v0 v2 hX n (v1 + (-1 : Int32)) σ)
      exact J_some (fun h => j_icmp_t rfl (cc_ne_t h155) (hX _ _ h))
    exact J_some (fun h => j_if_t rfl (cc_le_t h152) (hX _ _ h))

def f_Mo_reads_L379 (v0 : Nat) (v2 : Int32) : Nat → Int32 → q_H → Option ((Int32) × q_H)
  | 0, _, _ => none
  | n + 1, v1, σ => if (0 : Int32) < v1 then ((q_gr (q_gf σ 12 v0 40)).bind fun x251 => (q_gi (q_ga σ 20 x251 v1)).bind fun x252 => if x252 = (1 : Int32) then (f_Mo_reads_L379 v0 v2 n (v1 + (-1 : Int32)) σ) else (some (v1, σ))) else (some (v1, σ))
set_option maxRecDepth 100000 in
theorem l_Mo_reads_L379 {fo : Option Nat} {d : Nat} (hd : 3 ≤ d + 1) {o : q_O} {σ' : q_H} {E : (Int32) → q_H → Prop} (v0 : Nat) (v2 : Int32) (hX : ∀ (t : Int32) σ1, E (t) σ1 → q_G (q_rf fo) d m_Mo_reads o σ' 424 [some (.ref v0), some (.int t), some (.int v2), none, none, none] [] σ1)  : ∀ (n : Nat) (v1 : Int32) (σ : q_H), q_J E (f_Mo_reads_L379 v0 v2 n v1 σ) (q_G (q_rf fo) d m_Mo_reads o σ' 379 [some (.ref v0), some (.int v1), some (.int v2), none, none, none] [] σ)
  | 0, v1, σ => J_none
  | n + 1, v1, σ => by
    unfold f_Mo_reads_L379
    refine q_J.step (fun g => j_iload_n rfl rfl (g)) ?_
    refine J_ite (fun h250 => ?_) (fun h250 => ?_)
    · refine J_bind fun x251 hx251 => ?_
      refine J_bind fun x252 hx252 => ?_
      refine q_J.step (fun g => j_if_f rfl (cc_le_f h250) (j_aload_n rfl rfl (j_gfr rfl hx251 (j_iload_n rfl rfl (j_ial rfl hx252 (j_iconst (1 : Int32) rfl k32_1 (g))))))) ?_
      refine J_ite (fun h253 => ?_) (fun h253 => ?_)
      · exact q_J.step (fun g => j_icmp_f rfl (cc_ne_f h253) (j_iinc [some (.ref v0), some (.int (v1 + (-1 : Int32))), some (.int v2), none, none, none] (v1 + (-1 : Int32)) rfl rfl (by rw [k32_m1]) (Or.inr rfl) rfl (j_goto rfl (g)))) (l_Mo_reads_L379 hd v0 v2 hX n (v1 + (-1 : Int32)) σ)
      exact J_some (fun h => j_icmp_t rfl (cc_ne_t h253) (hX _ _ h))
    exact J_some (fun h => j_if_t rfl (cc_le_t h250) (hX _ _ h))

def f_Mo_reads_L152 (v0 : Nat) (v2 : Int32) : Nat → Int32 → q_H → Option ((Int32) × q_H)
  | 0, _, _ => none
  | n + 1, v1, σ => if (0 : Int32) < v1 then ((q_gr (q_gf σ 12 v0 40)).bind fun x377 => (q_gi (q_ga σ 20 x377 v1)).bind fun x378 => if x378 = (1 : Int32) then (f_Mo_reads_L152 v0 v2 n (v1 + (-1 : Int32)) σ) else (some (v1, σ))) else (some (v1, σ))
set_option maxRecDepth 100000 in
theorem l_Mo_reads_L152 {fo : Option Nat} {d : Nat} (hd : 3 ≤ d + 1) {o : q_O} {σ' : q_H} {E : (Int32) → q_H → Prop} (v0 : Nat) (v2 : Int32) (hX : ∀ (t : Int32) σ1, E (t) σ1 → q_G (q_rf fo) d m_Mo_reads o σ' 172 [some (.ref v0), some (.int t), some (.int v2), none, none, none] [] σ1)  : ∀ (n : Nat) (v1 : Int32) (σ : q_H), q_J E (f_Mo_reads_L152 v0 v2 n v1 σ) (q_G (q_rf fo) d m_Mo_reads o σ' 152 [some (.ref v0), some (.int v1), some (.int v2), none, none, none] [] σ)
  | 0, v1, σ => J_none
  | n + 1, v1, σ => by
    unfold f_Mo_reads_L152
    refine q_J.step (fun g => j_iload_n rfl rfl (g)) ?_
    refine J_ite (fun h376 => ?_) (fun h376 => ?_)
    · refine J_bind fun x377 hx377 => ?_
      refine J_bind fun x378 hx378 => ?_
      refine q_J.step (fun g => j_if_f rfl (cc_le_f h376) (j_aload_n rfl rfl (j_gfr rfl hx377 (j_iload_n rfl rfl (j_ial rfl hx378 (j_iconst (1 : Int32) rfl k32_1 (g))))))) ?_
      refine J_ite (fun h379 => ?_) (fun h379 => ?_)
      · exact q_J.step (fun g => j_icmp_f rfl (cc_ne_f h379) (j_iinc [some (.ref v0), some (.int (v1 + (-1 : Int32))), some (.int v2), none, none, none] (v1 + (-1 : Int32)) rfl rfl (by rw [k32_m1]) (Or.inr rfl) rfl (j_goto rfl (g)))) (l_Mo_reads_L152 hd v0 v2 hX n (v1 + (-1 : Int32)) σ)
      exact J_some (fun h => j_icmp_t rfl (cc_ne_t h379) (hX _ _ h))
    exact J_some (fun h => j_if_t rfl (cc_le_t h376) (hX _ _ h))

def f_Mo_reads_L152 (v0 : Nat) (v2 : Int32) : Nat → Int32 → q_H → Option ((Int32) × q_H)
  | 0, _, _ => none
  | n + 1, v1, σ => if (0 : Int32) < v1 then ((q_gr (q_gf σ 12 v0 40)).bind fun x434 => (q_gi (q_ga σ 20 x434 v1)).bind fun x435 => if x435 = (1 : Int32) then (f_Mo_reads_L152 v0 v2 n (v1 + (-1 : Int32)) σ) else (some (v1, σ))) else (some (v1, σ))
set_option maxRecDepth 100000 in
theorem l_Mo_reads_L152 {fo : Option Nat} {d : Nat} (hd : 3 ≤ d + 1) {o : q_O} {σ' : q_H} {E : (Int32) → q_H → Prop} (v0 : Nat) (v2 : Int32) (hX : ∀ (t : Int32) σ1, E (t) σ1 → q_G (q_rf fo) d m_Mo_reads o σ' 172 [some (.ref v0), some (.int t), some (.int v2), none, none, none] [] σ1)  : ∀ (n : Nat) (v1 : Int32) (σ : q_H), q_J E (f_Mo_reads_L152 v0 v2 n v1 σ) (q_G (q_rf fo) d m_Mo_reads o σ' 152 [some (.ref v0), some (.int v1), some (.int v2), none, none, none] [] σ)
  | 0, v1, σ => J_none
  | n + 1, v1, σ => by
    unfold f_Mo_reads_L152
    refine q_J.step (fun g => j_iload_n rfl rfl (g)) ?_
    refine J_ite (fun h433 => ?_) (fun h433 => ?_)
    · refine J_bind fun x434 hx434 => ?_
      refine J_bind fun x435 hx435 => ?_
      refine q_J.step (fun g => j_if_f rfl (cc_le_f h433) (j_aload_n rfl rfl (j_gfr rfl hx434 (j_iload_n rfl rfl (j_ial rfl hx435 (j_iconst (1 : Int32) rfl k32_1 (g))))))) ?_
      refine J_ite (fun h436 => ?_) (fun h436 => ?_)
      · exact q_J.step (fun g => j_icmp_f rfl (cc_ne_f h436) (j_iinc [some (.ref v0), some (.int (v1 + (-1 : Int32))), some (.int v2), none, none, none] (v1 + (-1 : Int32)) rfl rfl (by rw [k32_m1]) (Or.inr rfl) rfl (j_goto rfl (g)))) (l_Mo_reads_L152 hd v0 v2 hX n (v1 + (-1 : Int32)) σ)
      exact J_some (fun h => j_icmp_t rfl (cc_ne_t h436) (hX _ _ h))
    exact J_some (fun h => j_if_t rfl (cc_le_t h433) (hX _ _ h))

def f_Mo_reads_L152 (v0 : Nat) (v2 : Int32) : Nat → Int32 → q_H → Option ((Int32) × q_H)
  | 0, _, _ => none
  | n + 1, v1, σ => if (0 : Int32) < v1 then ((q_gr (q_gf σ 12 v0 40)).bind fun x488 => (q_gi (q_ga σ 20 x488 v1)).bind fun x489 => if x489 = (1 : Int32) then (f_Mo_reads_L152 v0 v2 n (v1 + (-1 : Int32)) σ) else (some (v1, σ))) else (some (v1, σ))
set_option maxRecDepth 100000 in
theorem l_Mo_reads_L152 {fo : Option Nat} {d : Nat} (hd : 3 ≤ d + 1) {o : q_O} {σ' : q_H} {E : (Int32) → q_H → Prop} (v0 : Nat) (v2 : Int32) (hX : ∀ (t : Int32) σ1, E (t) σ1 → q_G (q_rf fo) d m_Mo_reads o σ' 172 [some (.ref v0), some (.int t), some (.int v2), none, none, none] [] σ1)  : ∀ (n : Nat) (v1 : Int32) (σ : q_H), q_J E (f_Mo_reads_L152 v0 v2 n v1 σ) (q_G (q_rf fo) d m_Mo_reads o σ' 152 [some (.ref v0), some (.int v1), some (.int v2), none, none, none] [] σ)
  | 0, v1, σ => J_none
  | n + 1, v1, σ => by
    unfold f_Mo_reads_L152
    refine q_J.step (fun g => j_iload_n rfl rfl (g)) ?_
    refine J_ite (fun h487 => ?_) (fun h487 => ?_)
    · refine J_bind fun x488 hx488 => ?_
      refine J_bind fun x489 hx489 => ?_
      refine q_J.step (fun g => j_if_f rfl (cc_le_f h487) (j_aload_n rfl rfl (j_gfr rfl hx488 (j_iload_n rfl rfl (j_ial rfl hx489 (j_iconst (1 : Int32) rfl k32_1 (g))))))) ?_
      refine J_ite (fun h490 => ?_) (fun h490 => ?_)
      · exact q_J.step (fun g => j_icmp_f rfl (cc_ne_f h490) (j_iinc [some (.ref v0), some (.int (v1 + (-1 : Int32))), some (.int v2), none, none, none] (v1 + (-1 : Int32)) rfl rfl (by rw [k32_m1]) (Or.inr rfl) rfl (j_goto rfl (g)))) (l_Mo_reads_L152 hd v0 v2 hX n (v1 + (-1 : Int32)) σ)
      exact J_some (fun h => j_icmp_t rfl (cc_ne_t h490) (hX _ _ h))
    exact J_some (fun h => j_if_t rfl (cc_le_t h487) (hX _ _ h))

def f_Mo_reads_L152 (v0 : Nat) (v2 : Int32) : Nat → Int32 → q_H → Option ((Int32) × q_H)
  | 0, _, _ => none
  | n + 1, v1, σ => if (0 : Int32) < v1 then ((q_gr (q_gf σ 12 v0 40)).bind fun x542 => (q_gi (q_ga σ 20 x542 v1)).bind fun x543 => if x543 = (1 : Int32) then (f_Mo_reads_L152 v0 v2 n (v1 + (-1 : Int32)) σ) else (some (v1, σ))) else (some (v1, σ))
set_option maxRecDepth 100000 in
theorem l_Mo_reads_L152 {fo : Option Nat} {d : Nat} (hd : 3 ≤ d + 1) {o : q_O} {σ' : q_H} {E : (Int32) → q_H → Prop} (v0 : Nat) (v2 : Int32) (hX : ∀ (t : Int32) σ1, E (t) σ1 → q_G (q_rf fo) d m_Mo_reads o σ' 172 [some (.ref v0), some (.int t), some (.int v2), none, none, none] [] σ1)  : ∀ (n : Nat) (v1 : Int32) (σ : q_H), q_J E (f_Mo_reads_L152 v0 v2 n v1 σ) (q_G (q_rf fo) d m_Mo_reads o σ' 152 [some (.ref v0), some (.int v1), some (.int v2), none, none, none] [] σ)
  | 0, v1, σ => J_none
  | n + 1, v1, σ => by
    unfold f_Mo_reads_L152
    refine q_J.step (fun g => j_iload_n rfl rfl (g)) ?_
    refine J_ite (fun h541 => ?_) (fun h541 => ?_)
    · refine J_bind fun x542 hx542 => ?_
      refine J_bind fun x543 hx543 => ?_
      refine q_J.step (fun g => j_if_f rfl (cc_le_f h541) (j_aload_n rfl rfl (j_gfr rfl hx542 (j_iload_n rfl rfl (j_ial rfl hx543 (j_iconst (1 : Int32) rfl k32_1 (g))))))) ?_
      refine J_ite (fun h544 => ?_) (fun h544 => ?_)
      · exact q_J.step (fun g => j_icmp_f rfl (cc_ne_f h544) (j_iinc [some (.ref v0), some (.int (v1 + (-1 : Int32))), some (.int v2), none, none, none] (v1 + (-1 : Int32)) rfl rfl (by rw [k32_m1]) (Or.inr rfl) rfl (j_goto rfl (g)))) (l_Mo_reads_L152 hd v0 v2 hX n (v1 + (-1 : Int32)) σ)
      exact J_some (fun h => j_icmp_t rfl (cc_ne_t h544) (hX _ _ h))
    exact J_some (fun h => j_if_t rfl (cc_le_t h541) (hX _ _ h))

def f_Mo_reads_L11 (v0 : Nat) : Nat → Int32 → Int32 → q_H → Option ((Int32) × q_H)
  | 0, _, _, _ => none
  | n + 1, v1, v2, σ => if v2 = (0 : Int32) then ((q_ob σ 12 v0).bind fun w4 => q_sq (f_Mo_isSign v0 (43 : Int32) σ) fun x6 σ5 => if x6 = (0 : Int32) then ((q_ob σ5 12 v0).bind fun w8 => q_sq (f_Mo_isSign v0 (45 : Int32) σ5) fun x10 σ9 => if x10 = (0 : Int32) then ((q_ob σ9 12 v0).bind fun w12 => q_sq (f_Mo_isSign v0 (42 : Int32) σ9) fun x14 σ13 => if x14 = (0 : Int32) then ((q_ob σ13 12 v0).bind fun w16 => q_sq (f_Mo_isSign v0 (60 : Int32) σ13) fun x18 σ17 => if x18 = (0 : Int32) then ((q_ob σ17 12 v0).bind fun w20 => q_sq (f_Mo_isSign v0 (61 : Int32) σ17) fun x22 σ21 => if x22 = (0 : Int32) then ((q_ob σ21 12 v0).bind fun w24 => q_sq (f_Mo_isWord v0 (1111 : Int64) σ21) fun x26 σ25 => if x26 = (0 : Int32) then ((q_ob σ25 12 v0).bind fun w28 => q_sq (f_Mo_isWord v0 (423 : Int64) σ25) fun x30 σ29 => if x30 = (0 : Int32) then ((q_ob σ29 12 v0).bind fun w32 => q_sq (f_Mo_isSign v0 (41 : Int32) σ29) fun x34 σ33 => if x34 = (0 : Int32) then (if v1 = (0 : Int32) then ((q_ob σ33 12 v0).bind fun w37 => q_sq (f_Mo_isSign v0 (59 : Int32) σ33) fun x39 σ38 => if x39 = (0 : Int32) then ((q_ob σ38 12 v0).bind fun w41 => q_sq (f_Mo_errs v0 (1 : Int32) σ38) fun x43 σ42 => if ¬ (x43 = 0 ∨ x43 = 1) then none else some (x43, σ42)) else ((q_ob σ38 12 v0).bind fun w44 => q_sq (f_Mo_nextToken v0 σ38) fun (_ : Unit) σ45 => some ((1 : Int32), σ45))) else ((q_ob σ33 12 v0).bind fun w47 => q_sq (f_Mo_errs v0 (1 : Int32) σ33) fun x49 σ48 => if ¬ (x49 = 0 ∨ x49 = 1) then none else some (x49, σ48))) else (if (0 : Int32) < v1 then ((q_ob σ33 12 v0).bind fun w51 => q_sq (f_Mo_puts v0 (29 : Int32) σ33) fun (_ : Unit) σ52 => q_sq (f_Mo_reads_L379 v0 v2 q_FU (v1 + (-1 : Int32)) σ52) fun (t58 : Int32) σ59 => (q_ob σ59 12 v0).bind fun w60 => q_sq (f_Mo_nextToken v0 σ59) fun (_ : Unit) σ61 => f_Mo_reads_L11 v0 n t58 v2 σ61) else (if v1 = (0 : Int32) then ((q_ob σ33 12 v0).bind fun w64 => q_sq (f_Mo_isSign v0 (59 : Int32) σ33) fun x66 σ65 => if x66 = (0 : Int32) then ((q_ob σ65 12 v0).bind fun w68 => q_sq (f_Mo_errs v0 (1 : Int32) σ65) fun x70 σ69 => if ¬ (x70 = 0 ∨ x70 = 1) then none else some (x70, σ69)) else ((q_ob σ65 12 v0).bind fun w71 => q_sq (f_Mo_nextToken v0 σ65) fun (_ : Unit) σ72 => some ((1 : Int32), σ72))) else ((q_ob σ33 12 v0).bind fun w74 => q_sq (f_Mo_errs v0 (1 : Int32) σ33) fun x76 σ75 => if ¬ (x76 = 0 ∨ x76 = 1) then none else some (x76, σ75))))) else ((q_ob σ29 12 v0).bind fun w77 => q_sq (f_Mo_isWord v0 (1111 : Int64) σ29) fun x79 σ78 => q_sq (if x79 = (0 : Int32) then (some ((27 : Int32), σ78)) else (some ((26 : Int32), σ78))) fun (t81 : Int32) σ82 => (q_ob σ82 12 v0).bind fun w83 => q_sq (f_Mo_puts v0 t81 σ82) fun (_ : Unit) σ84 => (q_gr (q_gf σ84 12 v0 41)).bind fun x86 => (q_sa σ84 22 x86 v1 (.int (0 : Int32))).bind fun σ87 => (q_ob σ87 12 v0).bind fun w88 => q_sq (f_Mo_nextToken v0 σ87) fun (_ : Unit) σ89 => f_Mo_reads_L11 v0 n v1 (1 : Int32) σ89)) else ((q_ob σ25 12 v0).bind fun w91 => q_sq (f_Mo_isWord v0 (1111 : Int64) σ25) fun x93 σ92 => q_sq (if x93 = (0 : Int32) then (some ((27 : Int32), σ92)) else (some ((26 : Int32), σ92))) fun (t95 : Int32) σ96 => (q_ob σ96 12 v0).bind fun w97 => q_sq (f_Mo_puts v0 t95 σ96) fun (_ : Unit) σ98 => (q_gr (q_gf σ98 12 v0 41)).bind fun x100 => (q_sa σ98 22 x100 v1 (.int (0 : Int32))).bind fun σ101 => (q_ob σ101 12 v0).bind fun w102 => q_sq (f_Mo_nextToken v0 σ101) fun (_ : Unit) σ103 => f_Mo_reads_L11 v0 n v1 (1 : Int32) σ103)) else ((q_gr (q_gf σ21 12 v0 41)).bind fun x105 => (q_gi (q_ga σ21 22 x105 v1)).bind fun x106 => if x106 = (0 : Int32) then ((q_ob σ21 12 v0).bind fun w108 => q_sq (f_Mo_isSign v0 (60 : Int32) σ21) fun x110 σ109 => q_sq (if x110 = (0 : Int32) then (some ((25 : Int32), σ109)) else (some ((24 : Int32), σ109))) fun (t112 : Int32) σ113 => (q_ob σ113 12 v0).bind fun w114 => q_sq (f_Mo_puts v0 t112 σ113) fun (_ : Unit) σ115 => (q_gr (q_gf σ115 12 v0 41)).bind fun x117 => (q_sa σ115 22 x117 v1 (.int (1 : Int32))).bind fun σ118 => (q_ob σ118 12 v0).bind fun w119 => q_sq (f_Mo_nextToken v0 σ118) fun (_ : Unit) σ120 => f_Mo_reads_L11 v0 n v1 (1 : Int32) σ120) else ((q_ob σ21 12 v0).bind fun w122 => q_sq (f_Mo_isWord v0 (1111 : Int64) σ21) fun x124 σ123 => if x124 = (0 : Int32) then ((q_ob σ123 12 v0).bind fun w126 => q_sq (f_Mo_isWord v0 (423 : Int64) σ123) fun x128 σ127 => if x128 = (0 : Int32) then ((q_ob σ127 12 v0).bind fun w130 => q_sq (f_Mo_isSign v0 (41 : Int32) σ127) fun x132 σ131 => if x132 = (0 : Int32) then (if v1 = (0 : Int32) then ((q_ob σ131 12 v0).bind fun w135 => q_sq (f_Mo_isSign v0 (59 : Int32) σ131) fun x137 σ136 => if x137 = (0 : Int32) then ((q_ob σ136 12 v0).bind fun w139 => q_sq (f_Mo_errs v0 (1 : Int32) σ136) fun x141 σ140 => if ¬ (x141 = 0 ∨ x141 = 1) then none else some (x141, σ140)) else ((q_ob σ136 12 v0).bind fun w142 => q_sq (f_Mo_nextToken v0 σ136) fun (_ : Unit) σ143 => some ((1 : Int32), σ143))) else ((q_ob σ131 12 v0).bind fun w145 => q_sq (f_Mo_errs v0 (1 : Int32) σ131) fun x147 σ146 => if ¬ (x147 = 0 ∨ x147 = 1) then none else some (x147, σ146))) else (if (0 : Int32) < v1 then ((q_ob σ131 12 v0).bind fun w149 => q_sq (f_Mo_puts v0 (29 : Int32) σ131) fun (_ : Unit) σ150 => q_sq (f_Mo_reads_L379 v0 v2 q_FU (v1 + (-1 : Int32)) σ150) fun (t156 : Int32) σ157 => (q_ob σ157 12 v0).bind fun w158 => q_sq (f_Mo_nextToken v0 σ157) fun (_ : Unit) σ159 => f_Mo_reads_L11 v0 n t156 v2 σ159) else (if v1 = (0 : Int32) then ((q_ob σ131 12 v0).bind fun w162 => q_sq (f_Mo_isSign v0 (59 : Int32) σ131) fun x164 σ163 => if x164 = (0 : Int32) then ((q_ob σ163 12 v0).bind fun w166 => q_sq (f_Mo_errs v0 (1 : Int32) σ163) fun x168 σ167 => if ¬ (x168 = 0 ∨ x168 = 1) then none else some (x168, σ167)) else ((q_ob σ163 12 v0).bind fun w169 => q_sq (f_Mo_nextToken v0 σ163) fun (_ : Unit) σ170 => some ((1 : Int32), σ170))) else ((q_ob σ131 12 v0).bind fun w172 => q_sq (f_Mo_errs v0 (1 : Int32) σ131) fun x174 σ173 => if ¬ (x174 = 0 ∨ x174 = 1) then none else some (x174, σ173))))) else ((q_ob σ127 12 v0).bind fun w175 => q_sq (f_Mo_isWord v0 (1111 : Int64) σ127) fun x177 σ176 => q_sq (if x177 = (0 : Int32) then (some ((27 : Int32), σ176)) else (some ((26 : Int32), σ176))) fun (t179 : Int32) σ180 => (q_ob σ180 12 v0).bind fun w181 => q_sq (f_Mo_puts v0 t179 σ180) fun (_ : Unit) σ182 => (q_gr (q_gf σ182 12 v0 41)).bind fun x184 => (q_sa σ182 22 x184 v1 (.int (0 : Int32))).bind fun σ185 => (q_ob σ185 12 v0).bind fun w186 => q_sq (f_Mo_nextToken v0 σ185) fun (_ : Unit) σ187 => f_Mo_reads_L11 v0 n v1 (1 : Int32) σ187)) else ((q_ob σ123 12 v0).bind fun w189 => q_sq (f_Mo_isWord v0 (1111 : Int64) σ123) fun x191 σ190 => q_sq (if x191 = (0 : Int32) then (some ((27 : Int32), σ190)) else (some ((26 : Int32), σ190))) fun (t193 : Int32) σ194 => (q_ob σ194 12 v0).bind fun w195 => q_sq (f_Mo_puts v0 t193 σ194) fun (_ : Unit) σ196 => (q_gr (q_gf σ196 12 v0 41)).bind fun x198 => (q_sa σ196 22 x198 v1 (.int (0 : Int32))).bind fun σ199 => (q_ob σ199 12 v0).bind fun w200 => q_sq (f_Mo_nextToken v0 σ199) fun (_ : Unit) σ201 => f_Mo_reads_L11 v0 n v1 (1 : Int32) σ201)))) else ((q_gr (q_gf σ17 12 v0 41)).bind fun x203 => (q_gi (q_ga σ17 22 x203 v1)).bind fun x204 => if x204 = (0 : Int32) then ((q_ob σ17 12 v0).bind fun w206 => q_sq (f_Mo_isSign v0 (60 : Int32) σ17) fun x208 σ207 => q_sq (if x208 = (0 : Int32) then (some ((25 : Int32), σ207)) else (some ((24 : Int32), σ207))) fun (t210 : Int32) σ211 => (q_ob σ211 12 v0).bind fun w212 => q_sq (f_Mo_puts v0 t210 σ211) fun (_ : Unit) σ213 => (q_gr (q_gf σ213 12 v0 41)).bind fun x215 => (q_sa σ213 22 x215 v1 (.int (1 : Int32))).bind fun σ216 => (q_ob σ216 12 v0).bind fun w217 => q_sq (f_Mo_nextToken v0 σ216) fun (_ : Unit) σ218 => f_Mo_reads_L11 v0 n v1 (1 : Int32) σ218) else ((q_ob σ17 12 v0).bind fun w220 => q_sq (f_Mo_isWord v0 (1111 : Int64) σ17) fun x222 σ221 => if x222 = (0 : Int32) then ((q_ob σ221 12 v0).bind fun w224 => q_sq (f_Mo_isWord v0 (423 : Int64) σ221) fun x226 σ225 => if x226 = (0 : Int32) then ((q_ob σ225 12 v0).bind fun w228 => q_sq (f_Mo_isSign v0 (41 : Int32) σ225) fun x230 σ229 => if x230 = (0 : Int32) then (if v1 = (0 : Int32) then ((q_ob σ229 12 v0).bind fun w233 => q_sq (f_Mo_isSign v0 (59 : Int32) σ229) fun x235 σ234 => if x235 = (0 : Int32) then ((q_ob σ234 12 v0).bind fun w237 => q_sq (f_Mo_errs v0 (1 : Int32) σ234) fun x239 σ238 => if ¬ (x239 = 0 ∨ x239 = 1) then none else some (x239, σ238)) else ((q_ob σ234 12 v0).bind fun w240 => q_sq (f_Mo_nextToken v0 σ234) fun (_ : Unit) σ241 => some ((1 : Int32), σ241))) else ((q_ob σ229 12 v0).bind fun w243 => q_sq (f_Mo_errs v0 (1 : Int32) σ229) fun x245 σ244 => if ¬ (x245 = 0 ∨ x245 = 1) then none else some (x245, σ244))) else (if (0 : Int32) < v1 then ((q_ob σ229 12 v0).bind fun w247 => q_sq (f_Mo_puts v0 (29 : Int32) σ229) fun (_ : Unit) σ248 => q_sq (f_Mo_reads_L379 v0 v2 q_FU (v1 + (-1 : Int32)) σ248) fun (t254 : Int32) σ255 => (q_ob σ255 12 v0).bind fun w256 => q_sq (f_Mo_nextToken v0 σ255) fun (_ : Unit) σ257 => f_Mo_reads_L11 v0 n t254 v2 σ257) else (if v1 = (0 : Int32) then ((q_ob σ229 12 v0).bind fun w260 => q_sq (f_Mo_isSign v0 (59 : Int32) σ229) fun x262 σ261 => if x262 = (0 : Int32) then ((q_ob σ261 12 v0).bind fun w264 => q_sq (f_Mo_errs v0 (1 : Int32) σ261) fun x266 σ265 => if ¬ (x266 = 0 ∨ x266 = 1) then none else some (x266, σ265)) else ((q_ob σ261 12 v0).bind fun w267 => q_sq (f_Mo_nextToken v0 σ261) fun (_ : Unit) σ268 => some ((1 : Int32), σ268))) else ((q_ob σ229 12 v0).bind fun w270 => q_sq (f_Mo_errs v0 (1 : Int32) σ229) fun x272 σ271 => if ¬ (x272 = 0 ∨ x272 = 1) then none else some (x272, σ271))))) else ((q_ob σ225 12 v0).bind fun w273 => q_sq (f_Mo_isWord v0 (1111 : Int64) σ225) fun x275 σ274 => q_sq (if x275 = (0 : Int32) then (some ((27 : Int32), σ274)) else (some ((26 : Int32), σ274))) fun (t277 : Int32) σ278 => (q_ob σ278 12 v0).bind fun w279 => q_sq (f_Mo_puts v0 t277 σ278) fun (_ : Unit) σ280 => (q_gr (q_gf σ280 12 v0 41)).bind fun x282 => (q_sa σ280 22 x282 v1 (.int (0 : Int32))).bind fun σ283 => (q_ob σ283 12 v0).bind fun w284 => q_sq (f_Mo_nextToken v0 σ283) fun (_ : Unit) σ285 => f_Mo_reads_L11 v0 n v1 (1 : Int32) σ285)) else ((q_ob σ221 12 v0).bind fun w287 => q_sq (f_Mo_isWord v0 (1111 : Int64) σ221) fun x289 σ288 => q_sq (if x289 = (0 : Int32) then (some ((27 : Int32), σ288)) else (some ((26 : Int32), σ288))) fun (t291 : Int32) σ292 => (q_ob σ292 12 v0).bind fun w293 => q_sq (f_Mo_puts v0 t291 σ292) fun (_ : Unit) σ294 => (q_gr (q_gf σ294 12 v0 41)).bind fun x296 => (q_sa σ294 22 x296 v1 (.int (0 : Int32))).bind fun σ297 => (q_ob σ297 12 v0).bind fun w298 => q_sq (f_Mo_nextToken v0 σ297) fun (_ : Unit) σ299 => f_Mo_reads_L11 v0 n v1 (1 : Int32) σ299)))) else ((q_ob σ13 12 v0).bind fun w301 => q_sq (f_Mo_isSign v0 (43 : Int32) σ13) fun x303 σ302 => q_sq (if x303 = (0 : Int32) then ((q_ob σ302 12 v0).bind fun w305 => q_sq (f_Mo_isSign v0 (45 : Int32) σ302) fun x307 σ306 => if x307 = (0 : Int32) then (some ((22 : Int32), σ306)) else (some ((21 : Int32), σ306))) else (some ((20 : Int32), σ302))) fun (t309 : Int32) σ310 => (q_ob σ310 12 v0).bind fun w311 => q_sq (f_Mo_puts v0 t309 σ310) fun (_ : Unit) σ312 => (q_ob σ312 12 v0).bind fun w314 => q_sq (f_Mo_nextToken v0 σ312) fun (_ : Unit) σ315 => f_Mo_reads_L11 v0 n v1 (1 : Int32) σ315)) else ((q_ob σ9 12 v0).bind fun w317 => q_sq (f_Mo_isSign v0 (43 : Int32) σ9) fun x319 σ318 => q_sq (if x319 = (0 : Int32) then ((q_ob σ318 12 v0).bind fun w321 => q_sq (f_Mo_isSign v0 (45 : Int32) σ318) fun x323 σ322 => if x323 = (0 : Int32) then (some ((22 : Int32), σ322)) else (some ((21 : Int32), σ322))) else (some ((20 : Int32), σ318))) fun (t325 : Int32) σ326 => (q_ob σ326 12 v0).bind fun w327 => q_sq (f_Mo_puts v0 t325 σ326) fun (_ : Unit) σ328 => (q_ob σ328 12 v0).bind fun w330 => q_sq (f_Mo_nextToken v0 σ328) fun (_ : Unit) σ331 => f_Mo_reads_L11 v0 n v1 (1 : Int32) σ331)) else ((q_ob σ5 12 v0).bind fun w333 => q_sq (f_Mo_isSign v0 (43 : Int32) σ5) fun x335 σ334 => q_sq (if x335 = (0 : Int32) then ((q_ob σ334 12 v0).bind fun w337 => q_sq (f_Mo_isSign v0 (45 : Int32) σ334) fun x339 σ338 => if x339 = (0 : Int32) then (some ((22 : Int32), σ338)) else (some ((21 : Int32), σ338))) else (some ((20 : Int32), σ334))) fun (t341 : Int32) σ342 => (q_ob σ342 12 v0).bind fun w343 => q_sq (f_Mo_puts v0 t341 σ342) fun (_ : Unit) σ344 => (q_ob σ344 12 v0).bind fun w346 => q_sq (f_Mo_nextToken v0 σ344) fun (_ : Unit) σ347 => f_Mo_reads_L11 v0 n v1 (1 : Int32) σ347)) else ((q_ob σ 12 v0).bind fun w349 => q_sq (f_Mo_fact v0 σ) fun x351 σ350 => (q_ob σ350 12 v0).bind fun w352 => q_sq (f_Mo_isWord v0 (10631 : Int64) σ350) fun x354 σ353 => (q_ob σ353 12 v0).bind fun w355 => q_sq (f_Mo_isSign v0 (40 : Int32) σ353) fun x357 σ356 => if x351 = (0 : Int32) then (if x354 = (0 : Int32) then (if x357 = (0 : Int32) then ((q_gi (q_gf σ356 12 v0 21)).bind fun x361 => if x361 = (2 : Int32) then (if v1 = (5 : Int32) then ((q_ob σ356 12 v0).bind fun w364 => q_sq (f_Mo_errs v0 (5 : Int32) σ356) fun x366 σ365 => if ¬ (x366 = 0 ∨ x366 = 1) then none else some (x366, σ365)) else (if x354 = (0 : Int32) then (q_sq (if x357 = (0 : Int32) then (q_sq (if (0 : Int32) < x351 then (some (x351, σ356)) else ((q_gi (q_gf σ356 12 v0 23)).bind fun x370 => some (((100 : Int32) + x370), σ356))) fun (t371 : Int32) σ372 => (q_ob σ372 12 v0).bind fun w373 => q_sq (f_Mo_puts v0 t371 σ372) fun (_ : Unit) σ374 => q_sq (f_Mo_reads_L152 v0 (0 : Int32) q_FU v1 σ374) fun (t380 : Int32) σ381 => some ((t380, (0 : Int32)), σ381)) else (q_sq (if x354 = (0 : Int32) then (some ((28 : Int32), σ356)) else (some ((30 : Int32), σ356))) fun (t383 : Int32) σ384 => (q_ob σ384 12 v0).bind fun w385 => q_sq (f_Mo_puts v0 t383 σ384) fun (_ : Unit) σ386 => (q_gr (q_gf σ386 12 v0 40)).bind fun x388 => if x354 = (0 : Int32) then ((q_sa σ386 20 x388 (v1 + (1 : Int32)) (.int (2 : Int32))).bind fun σ390 => (q_gr (q_gf σ390 12 v0 41)).bind fun x391 => (q_sa σ390 22 x391 (v1 + (1 : Int32)) (.int (0 : Int32))).bind fun σ392 => some (((v1 + (1 : Int32)), v2), σ392)) else ((q_sa σ386 20 x388 (v1 + (1 : Int32)) (.int (1 : Int32))).bind fun σ393 => (q_gr (q_gf σ393 12 v0 41)).bind fun x394 => (q_sa σ393 22 x394 (v1 + (1 : Int32)) (.int (0 : Int32))).bind fun σ395 => some (((v1 + (1 : Int32)), v2), σ395)))) fun (t396 : Int32 × Int32) σ397 => (q_ob σ397 12 v0).bind fun w398 => q_sq (f_Mo_nextToken v0 σ397) fun (_ : Unit) σ399 => f_Mo_reads_L11 v0 n t396.1 t396.2 σ399) else (q_sq (if x354 = (0 : Int32) then (some ((28 : Int32), σ356)) else (some ((30 : Int32), σ356))) fun (t402 : Int32) σ403 => (q_ob σ403 12 v0).bind fun w404 => q_sq (f_Mo_puts v0 t402 σ403) fun (_ : Unit) σ405 => (q_gr (q_gf σ405 12 v0 40)).bind fun x407 => q_sq (if x354 = (0 : Int32) then (some ((2 : Int32), σ405)) else (some ((1 : Int32), σ405))) fun (t409 : Int32) σ410 => (q_sa σ410 20 x407 (v1 + (1 : Int32)) (.int t409)).bind fun σ411 => (q_gr (q_gf σ411 12 v0 41)).bind fun x412 => (q_sa σ411 22 x412 (v1 + (1 : Int32)) (.int (0 : Int32))).bind fun σ413 => (q_ob σ413 12 v0).bind fun w414 => q_sq (f_Mo_nextToken v0 σ413) fun (_ : Unit) σ415 => f_Mo_reads_L11 v0 n (v1 + (1 : Int32)) v2 σ415))) else ((q_ob σ356 12 v0).bind fun w417 => q_sq (f_Mo_errs v0 (1 : Int32) σ356) fun x419 σ418 => if ¬ (x419 = 0 ∨ x419 = 1) then none else some (x419, σ418))) else (if v1 = (5 : Int32) then ((q_ob σ356 12 v0).bind fun w421 => q_sq (f_Mo_errs v0 (5 : Int32) σ356) fun x423 σ422 => if ¬ (x423 = 0 ∨ x423 = 1) then none else some (x423, σ422)) else (if x354 = (0 : Int32) then (q_sq (if x357 = (0 : Int32) then (q_sq (if (0 : Int32) < x351 then (some (x351, σ356)) else ((q_gi (q_gf σ356 12 v0 23)).bind fun x427 => some (((100 : Int32) + x427), σ356))) fun (t428 : Int32) σ429 => (q_ob σ429 12 v0).bind fun w430 => q_sq (f_Mo_puts v0 t428 σ429) fun (_ : Unit) σ431 => q_sq (f_Mo_reads_L152 v0 (0 : Int32) q_FU v1 σ431) fun (t437 : Int32) σ438 => some ((t437, (0 : Int32)), σ438)) else (q_sq (if x354 = (0 : Int32) then (some ((28 : Int32), σ356)) else (some ((30 : Int32), σ356))) fun (t440 : Int32) σ441 => (q_ob σ441 12 v0).bind fun w442 => q_sq (f_Mo_puts v0 t440 σ441) fun (_ : Unit) σ443 => (q_gr (q_gf σ443 12 v0 40)).bind fun x445 => if x354 = (0 : Int32) then ((q_sa σ443 20 x445 (v1 + (1 : Int32)) (.int (2 : Int32))).bind fun σ447 => (q_gr (q_gf σ447 12 v0 41)).bind fun x448 => (q_sa σ447 22 x448 (v1 + (1 : Int32)) (.int (0 : Int32))).bind fun σ449 => some (((v1 + (1 : Int32)), v2), σ449)) else ((q_sa σ443 20 x445 (v1 + (1 : Int32)) (.int (1 : Int32))).bind fun σ450 => (q_gr (q_gf σ450 12 v0 41)).bind fun x451 => (q_sa σ450 22 x451 (v1 + (1 : Int32)) (.int (0 : Int32))).bind fun σ452 => some (((v1 + (1 : Int32)), v2), σ452)))) fun (t453 : Int32 × Int32) σ454 => (q_ob σ454 12 v0).bind fun w455 => q_sq (f_Mo_nextToken v0 σ454) fun (_ : Unit) σ456 => f_Mo_reads_L11 v0 n t453.1 t453.2 σ456) else (q_sq (if x354 = (0 : Int32) then (some ((28 : Int32), σ356)) else (some ((30 : Int32), σ356))) fun (t459 : Int32) σ460 => (q_ob σ460 12 v0).bind fun w461 => q_sq (f_Mo_puts v0 t459 σ460) fun (_ : Unit) σ462 => (q_gr (q_gf σ462 12 v0 40)).bind fun x464 => q_sq (if x354 = (0 : Int32) then (some ((2 : Int32), σ462)) else (some ((1 : Int32), σ462))) fun (t466 : Int32) σ467 => (q_sa σ467 20 x464 (v1 + (1 : Int32)) (.int t466)).bind fun σ468 => (q_gr (q_gf σ468 12 v0 41)).bind fun x469 => (q_sa σ468 22 x469 (v1 + (1 : Int32)) (.int (0 : Int32))).bind fun σ470 => (q_ob σ470 12 v0).bind fun w471 => q_sq (f_Mo_nextToken v0 σ470) fun (_ : Unit) σ472 => f_Mo_reads_L11 v0 n (v1 + (1 : Int32)) v2 σ472)))) else (if v1 = (5 : Int32) then ((q_ob σ356 12 v0).bind fun w475 => q_sq (f_Mo_errs v0 (5 : Int32) σ356) fun x477 σ476 => if ¬ (x477 = 0 ∨ x477 = 1) then none else some (x477, σ476)) else (if x354 = (0 : Int32) then (q_sq (if x357 = (0 : Int32) then (q_sq (if (0 : Int32) < x351 then (some (x351, σ356)) else ((q_gi (q_gf σ356 12 v0 23)).bind fun x481 => some (((100 : Int32) + x481), σ356))) fun (t482 : Int32) σ483 => (q_ob σ483 12 v0).bind fun w484 => q_sq (f_Mo_puts v0 t482 σ483) fun (_ : Unit) σ485 => q_sq (f_Mo_reads_L152 v0 (0 : Int32) q_FU v1 σ485) fun (t491 : Int32) σ492 => some ((t491, (0 : Int32)), σ492)) else (q_sq (if x354 = (0 : Int32) then (some ((28 : Int32), σ356)) else (some ((30 : Int32), σ356))) fun (t494 : Int32) σ495 => (q_ob σ495 12 v0).bind fun w496 => q_sq (f_Mo_puts v0 t494 σ495) fun (_ : Unit) σ497 => (q_gr (q_gf σ497 12 v0 40)).bind fun x499 => if x354 = (0 : Int32) then ((q_sa σ497 20 x499 (v1 + (1 : Int32)) (.int (2 : Int32))).bind fun σ501 => (q_gr (q_gf σ501 12 v0 41)).bind fun x502 => (q_sa σ501 22 x502 (v1 + (1 : Int32)) (.int (0 : Int32))).bind fun σ503 => some (((v1 + (1 : Int32)), v2), σ503)) else ((q_sa σ497 20 x499 (v1 + (1 : Int32)) (.int (1 : Int32))).bind fun σ504 => (q_gr (q_gf σ504 12 v0 41)).bind fun x505 => (q_sa σ504 22 x505 (v1 + (1 : Int32)) (.int (0 : Int32))).bind fun σ506 => some (((v1 + (1 : Int32)), v2), σ506)))) fun (t507 : Int32 × Int32) σ508 => (q_ob σ508 12 v0).bind fun w509 => q_sq (f_Mo_nextToken v0 σ508) fun (_ : Unit) σ510 => f_Mo_reads_L11 v0 n t507.1 t507.2 σ510) else (q_sq (if x354 = (0 : Int32) then (some ((28 : Int32), σ356)) else (some ((30 : Int32), σ356))) fun (t513 : Int32) σ514 => (q_ob σ514 12 v0).bind fun w515 => q_sq (f_Mo_puts v0 t513 σ514) fun (_ : Unit) σ516 => (q_gr (q_gf σ516 12 v0 40)).bind fun x518 => q_sq (if x354 = (0 : Int32) then (some ((2 : Int32), σ516)) else (some ((1 : Int32), σ516))) fun (t520 : Int32) σ521 => (q_sa σ521 20 x518 (v1 + (1 : Int32)) (.int t520)).bind fun σ522 => (q_gr (q_gf σ522 12 v0 41)).bind fun x523 => (q_sa σ522 22 x523 (v1 + (1 : Int32)) (.int (0 : Int32))).bind fun σ524 => (q_ob σ524 12 v0).bind fun w525 => q_sq (f_Mo_nextToken v0 σ524) fun (_ : Unit) σ526 => f_Mo_reads_L11 v0 n (v1 + (1 : Int32)) v2 σ526)))) else (if v1 = (5 : Int32) then ((q_ob σ356 12 v0).bind fun w529 => q_sq (f_Mo_errs v0 (5 : Int32) σ356) fun x531 σ530 => if ¬ (x531 = 0 ∨ x531 = 1) then none else some (x531, σ530)) else (if x354 = (0 : Int32) then (q_sq (if x357 = (0 : Int32) then (q_sq (if (0 : Int32) < x351 then (some (x351, σ356)) else ((q_gi (q_gf σ356 12 v0 23)).bind fun x535 => some (((100 : Int32) + x535), σ356))) fun (t536 : Int32) σ537 => (q_ob σ537 12 v0).bind fun w538 => q_sq (f_Mo_puts v0 t536 σ537) fun (_ : Unit) σ539 => q_sq (f_Mo_reads_L152 v0 (0 : Int32) q_FU v1 σ539) fun (t545 : Int32) σ546 => some ((t545, (0 : Int32)), σ546)) else (q_sq (if x354 = (0 : Int32) then (some ((28 : Int32), σ356)) else (some ((30 : Int32), σ356))) fun (t548 : Int32) σ549 => (q_ob σ549 12 v0).bind fun w550 => q_sq (f_Mo_puts v0 t548 σ549) fun (_ : Unit) σ551 => (q_gr (q_gf σ551 12 v0 40)).bind fun x553 => if x354 = (0 : Int32) then ((q_sa σ551 20 x553 (v1 + (1 : Int32)) (.int (2 : Int32))).bind fun σ555 => (q_gr (q_gf σ555 12 v0 41)).bind fun x556 => (q_sa σ555 22 x556 (v1 + (1 : Int32)) (.int (0 : Int32))).bind fun σ557 => some (((v1 + (1 : Int32)), v2), σ557)) else ((q_sa σ551 20 x553 (v1 + (1 : Int32)) (.int (1 : Int32))).bind fun σ558 => (q_gr (q_gf σ558 12 v0 41)).bind fun x559 => (q_sa σ558 22 x559 (v1 + (1 : Int32)) (.int (0 : Int32))).bind fun σ560 => some (((v1 + (1 : Int32)), v2), σ560)))) fun (t561 : Int32 × Int32) σ562 => (q_ob σ562 12 v0).bind fun w563 => q_sq (f_Mo_nextToken v0 σ562) fun (_ : Unit) σ564 => f_Mo_reads_L11 v0 n t561.1 t561.2 σ564) else (q_sq (if x354 = (0 : Int32) then (some ((28 : Int32), σ356)) else (some ((30 : Int32), σ356))) fun (t567 : Int32) σ568 => (q_ob σ568 12 v0).bind fun w569 => q_sq (f_Mo_puts v0 t567 σ568) fun (_ : Unit) σ570 => (q_gr (q_gf σ570 12 v0 40)).bind fun x572 => q_sq (if x354 = (0 : Int32) then (some ((2 : Int32), σ570)) else (some ((1 : Int32), σ570))) fun (t574 : Int32) σ575 => (q_sa σ575 20 x572 (v1 + (1 : Int32)) (.int t574)).bind fun σ576 => (q_gr (q_gf σ576 12 v0 41)).bind fun x577 => (q_sa σ576 22 x577 (v1 + (1 : Int32)) (.int (0 : Int32))).bind fun σ578 => (q_ob σ578 12 v0).bind fun w579 => q_sq (f_Mo_nextToken v0 σ578) fun (_ : Unit) σ580 => f_Mo_reads_L11 v0 n (v1 + (1 : Int32)) v2 σ580))))
set_option maxRecDepth 100000 in
theorem l_Mo_reads_L11 {fo : Option Nat} {d : Nat} (hd : 3 ≤ d + 1) {o : q_O} {σ' : q_H} {E : (Int32) → q_H → Prop} (v0 : Nat) (hR : ∀ r σ1, E (r) σ1 → o = .inl (some (.int r)) ∧ σ' = σ1)  : ∀ (n : Nat) (v1 : Int32) (v2 : Int32) (σ : q_H), q_J E (f_Mo_reads_L11 v0 n v1 v2 σ) (q_G (q_rf fo) d m_Mo_reads o σ' 11 [some (.ref v0), some (.int v1), some (.int v2), none, none, none] [] σ)
  | 0, v1, v2, σ => J_none
  | n + 1, v1, v2, σ => by
    unfold f_Mo_reads_L11
    refine q_J.step (fun g => j_iload_n rfl rfl (g)) ?_
    refine J_ite (fun h3 => ?_) (fun h3 => ?_)
    · refine J_bind fun w4 hw4 => ?_
      refine J_cl fun x6 σ5 hσ5 => ?_
      refine q_J.step (fun g => j_if_t rfl (cc_eq_t h3) (j_aload_n rfl rfl (j_bipush (43 : Int32) rfl kb_43 (j_v1 [.ref v0, .int (43 : Int32)] [] rfl rfl rfl rfl rfl rfl hw4 (Or.inl rfl) (t_Mo_isSign (by omega) hσ5) (g))))) ?_
      refine J_ite (fun h7 => ?_) (fun h7 => ?_)
      · refine J_bind fun w8 hw8 => ?_
        refine J_cl fun x10 σ9 hσ9 => ?_
        refine q_J.step (fun g => j_if_f rfl (cc_ne_f h7) (j_aload_n rfl rfl (j_bipush (45 : Int32) rfl kb_45 (j_v1 [.ref v0, .int (45 : Int32)] [] rfl rfl rfl rfl rfl rfl hw8 (Or.inl rfl) (t_Mo_isSign (by omega) hσ9) (g))))) ?_
        refine J_ite (fun h11 => ?_) (fun h11 => ?_)
        · refine J_bind fun w12 hw12 => ?_
          refine J_cl fun x14 σ13 hσ13 => ?_
          refine q_J.step (fun g => j_if_f rfl (cc_ne_f h11) (j_aload_n rfl rfl (j_bipush (42 : Int32) rfl kb_42 (j_v1 [.ref v0, .int (42 : Int32)] [] rfl rfl rfl rfl rfl rfl hw12 (Or.inl rfl) (t_Mo_isSign (by omega) hσ13) (g))))) ?_
          refine J_ite (fun h15 => ?_) (fun h15 => ?_)
          · refine J_bind fun w16 hw16 => ?_
            refine J_cl fun x18 σ17 hσ17 => ?_
            refine q_J.step (fun g => j_if_t rfl (cc_eq_t h15) (j_aload_n rfl rfl (j_bipush (60 : Int32) rfl kb_60 (j_v1 [.ref v0, .int (60 : Int32)] [] rfl rfl rfl rfl rfl rfl hw16 (Or.inl rfl) (t_Mo_isSign (by omega) hσ17) (g))))) ?_
            refine J_ite (fun h19 => ?_) (fun h19 => ?_)
            · refine J_bind fun w20 hw20 => ?_
              refine J_cl fun x22 σ21 hσ21 => ?_
              refine q_J.step (fun g => j_if_f rfl (cc_ne_f h19) (j_aload_n rfl rfl (j_bipush (61 : Int32) rfl kb_61 (j_v1 [.ref v0, .int (61 : Int32)] [] rfl rfl rfl rfl rfl rfl hw20 (Or.inl rfl) (t_Mo_isSign (by omega) hσ21) (g))))) ?_
              refine J_ite (fun h23 => ?_) (fun h23 => ?_)
              · refine J_bind fun w24 hw24 => ?_
                refine J_cl fun x26 σ25 hσ25 => ?_
                refine q_J.step (fun g => j_if_t rfl (cc_eq_t h23) (j_aload_n rfl rfl (j_ldc2 (1111 : Int64) rfl kw_1111 (j_v1 [.ref v0, .long (1111 : Int64)] [] rfl rfl rfl rfl rfl rfl hw24 (Or.inl rfl) (t_Mo_isWord (by omega) hσ25) (g))))) ?_
                refine J_ite (fun h27 => ?_) (fun h27 => ?_)
                · refine J_bind fun w28 hw28 => ?_
                  refine J_cl fun x30 σ29 hσ29 => ?_
                  refine q_J.step (fun g => j_if_f rfl (cc_ne_f h27) (j_aload_n rfl rfl (j_ldc2 (423 : Int64) rfl kw_423 (j_v1 [.ref v0, .long (423 : Int64)] [] rfl rfl rfl rfl rfl rfl hw28 (Or.inl rfl) (t_Mo_isWord (by omega) hσ29) (g))))) ?_
                  refine J_ite (fun h31 => ?_) (fun h31 => ?_)
                  · refine J_bind fun w32 hw32 => ?_
                    refine J_cl fun x34 σ33 hσ33 => ?_
                    refine q_J.step (fun g => j_if_t rfl (cc_eq_t h31) (j_aload_n rfl rfl (j_bipush (41 : Int32) rfl kb_41 (j_v1 [.ref v0, .int (41 : Int32)] [] rfl rfl rfl rfl rfl rfl hw32 (Or.inl rfl) (t_Mo_isSign (by omega) hσ33) (g))))) ?_
                    refine J_ite (fun h35 => ?_) (fun h35 => ?_)
                    · refine q_J.step (fun g => j_if_t rfl (cc_eq_t h35) (j_iload_n rfl rfl (g))) ?_
                      refine J_ite (fun h36 => ?_) (fun h36 => ?_)
                      · refine J_bind fun w37 hw37 => ?_
                        refine J_cl fun x39 σ38 hσ38 => ?_
                        refine q_J.step (fun g => j_if_f rfl (cc_ne_f h36) (j_aload_n rfl rfl (j_bipush (59 : Int32) rfl kb_59 (j_v1 [.ref v0, .int (59 : Int32)] [] rfl rfl rfl rfl rfl rfl hw37 (Or.inl rfl) (t_Mo_isSign (by omega) hσ38) (g))))) ?_
                        refine J_ite (fun h40 => ?_) (fun h40 => ?_)
                        · refine J_bind fun w41 hw41 => ?_
                          refine J_cl fun x43 σ42 hσ42 => ?_
                          refine q_J.step (fun g => j_if_t rfl (cc_eq_t h40) (j_aload_n rfl rfl (j_iconst (1 : Int32) rfl k32_1 (j_v1 [.ref v0, .int (1 : Int32)] [] rfl rfl rfl rfl rfl rfl hw41 (Or.inl rfl) (t_Mo_errs (by omega) hσ42) (g))))) ?_
                          refine J_ite (fun _ => J_none) (fun hz => ?_)
                          replace hz := Decidable.not_not.mp hz
                          exact J_some (fun h => j_iret rfl (q_zr hz) (hR _ _ h))
                        refine J_bind fun w44 hw44 => ?_
                        refine J_cl fun _ σ45 hσ45 => ?_
                        exact J_some (fun h => j_if_f rfl (cc_eq_f h40) (j_aload_n rfl rfl (j_v0 [.ref v0] [] rfl rfl rfl rfl rfl rfl hw44 (Or.inl rfl) (t_Mo_nextToken (by omega) hσ45) (j_iconst (1 : Int32) rfl k32_1 (j_iret rfl (q_zr (Or.inr rfl)) (hR _ _ h))))))
                      refine J_bind fun w47 hw47 => ?_
                      refine J_cl fun x49 σ48 hσ48 => ?_
                      refine q_J.step (fun g => j_if_t rfl (cc_ne_t h36) (j_aload_n rfl rfl (j_iconst (1 : Int32) rfl k32_1 (j_v1 [.ref v0, .int (1 : Int32)] [] rfl rfl rfl rfl rfl rfl hw47 (Or.inl rfl) (t_Mo_errs (by omega) hσ48) (g))))) ?_
                      refine J_ite (fun _ => J_none) (fun hz => ?_)
                      replace hz := Decidable.not_not.mp hz
                      exact J_some (fun h => j_iret rfl (q_zr hz) (hR _ _ h))
                    refine q_J.step (fun g => j_if_f rfl (cc_eq_f h35) (j_iload_n rfl rfl (g))) ?_
                    refine J_ite (fun h50 => ?_) (fun h50 => ?_)
                    · refine J_bind fun w51 hw51 => ?_
                      refine J_cl fun _ σ52 hσ52 => ?_
                      refine J_sq (fun (t58 : Int32) (σ59 : q_H) => q_G (q_rf fo) d m_Mo_reads o σ' 424 [some (.ref v0), some (.int t58), some (.int v2), none, none, none] [] σ59) (q_J.step (fun g => j_if_f rfl (cc_le_f h50) (j_aload_n rfl rfl (j_bipush (29 : Int32) rfl kb_29 (j_v0 [.ref v0, .int (29 : Int32)] [] rfl rfl rfl rfl rfl rfl hw51 (Or.inl rfl) (t_Mo_puts (by omega) hσ52) (j_iinc [some (.ref v0), some (.int (v1 + (-1 : Int32))), some (.int v2), none, none, none] (v1 + (-1 : Int32)) rfl rfl (by rw [k32_m1]) (Or.inr rfl) rfl (g)))))) (l_Mo_reads_L379 hd v0 v2 (fun _ _ h => h) q_FU (v1 + (-1 : Int32)) σ52)) (fun t58 σ59 => ?_)
                      refine J_bind fun w60 hw60 => ?_
                      refine J_cl fun _ σ61 hσ61 => ?_
                      exact q_J.step (fun g => j_aload_n rfl rfl (j_v0 [.ref v0] [] rfl rfl rfl rfl rfl rfl hw60 (Or.inl rfl) (t_Mo_nextToken (by omega) hσ61) (j_goto rfl (g)))) (l_Mo_reads_L11 hd v0 hR n t58 v2 σ61)
                    refine q_J.step (fun g => j_if_t rfl (cc_le_t h50) (j_iload_n rfl rfl (g))) ?_
                    refine J_ite (fun h63 => ?_) (fun h63 => ?_)
                    · refine J_bind fun w64 hw64 => ?_
                      refine J_cl fun x66 σ65 hσ65 => ?_
                      refine q_J.step (fun g => j_if_f rfl (cc_ne_f h63) (j_aload_n rfl rfl (j_bipush (59 : Int32) rfl kb_59 (j_v1 [.ref v0, .int (59 : Int32)] [] rfl rfl rfl rfl rfl rfl hw64 (Or.inl rfl) (t_Mo_isSign (by omega) hσ65) (g))))) ?_
                      refine J_ite (fun h67 => ?_) (fun h67 => ?_)
                      · refine J_bind fun w68 hw68 => ?_
                        refine J_cl fun x70 σ69 hσ69 => ?_
                        refine q_J.step (fun g => j_if_t rfl (cc_eq_t h67) (j_aload_n rfl rfl (j_iconst (1 : Int32) rfl k32_1 (j_v1 [.ref v0, .int (1 : Int32)] [] rfl rfl rfl rfl rfl rfl hw68 (Or.inl rfl) (t_Mo_errs (by omega) hσ69) (g))))) ?_
                        refine J_ite (fun _ => J_none) (fun hz => ?_)
                        replace hz := Decidable.not_not.mp hz
                        exact J_some (fun h => j_iret rfl (q_zr hz) (hR _ _ h))
                      refine J_bind fun w71 hw71 => ?_
                      refine J_cl fun _ σ72 hσ72 => ?_
                      exact J_some (fun h => j_if_f rfl (cc_eq_f h67) (j_aload_n rfl rfl (j_v0 [.ref v0] [] rfl rfl rfl rfl rfl rfl hw71 (Or.inl rfl) (t_Mo_nextToken (by omega) hσ72) (j_iconst (1 : Int32) rfl k32_1 (j_iret rfl (q_zr (Or.inr rfl)) (hR _ _ h))))))
                    refine J_bind fun w74 hw74 => ?_
                    refine J_cl fun x76 σ75 hσ75 => ?_
                    refine q_J.step (fun g => j_if_t rfl (cc_ne_t h63) (j_aload_n rfl rfl (j_iconst (1 : Int32) rfl k32_1 (j_v1 [.ref v0, .int (1 : Int32)] [] rfl rfl rfl rfl rfl rfl hw74 (Or.inl rfl) (t_Mo_errs (by omega) hσ75) (g))))) ?_
                    refine J_ite (fun _ => J_none) (fun hz => ?_)
                    replace hz := Decidable.not_not.mp hz
                    exact J_some (fun h => j_iret rfl (q_zr hz) (hR _ _ h))
                  refine J_bind fun w77 hw77 => ?_
                  refine J_cl fun x79 σ78 hσ78 => ?_
                  refine q_J.step (fun g => j_if_f rfl (cc_eq_f h31) (j_aload_n rfl rfl (j_aload_n rfl rfl (j_ldc2 (1111 : Int64) rfl kw_1111 (j_v1 [.ref v0, .long (1111 : Int64)] [.ref v0] rfl rfl rfl rfl rfl rfl hw77 (Or.inl rfl) (t_Mo_isWord (by omega) hσ78) (g)))))) ?_
                  refine J_sq (fun (t81 : Int32) (σ82 : q_H) => q_G (q_rf fo) d m_Mo_reads o σ' 342 [some (.ref v0), some (.int v1), none, none, none, none] [.int t81, .ref v0] σ82) ?_ (fun t81 σ82 => ?_)
                  · refine J_ite (fun h80 => ?_) (fun h80 => ?_)
                    · exact J_some (fun h => j_if_t rfl (cc_eq_t h80) (j_bipush (27 : Int32) rfl kb_27 (j_weak (l := [some (.ref v0), some (.int v1), none, none, none, none]) (And.intro (Or.inr rfl) (And.intro (Or.inr rfl) (And.intro (Or.inl rfl) (And.intro (Or.inr rfl) (And.intro (Or.inr rfl) (And.intro (Or.inr rfl) True.intro)))))) (h))))
                    exact J_some (fun h => j_if_f rfl (cc_eq_f h80) (j_bipush (26 : Int32) rfl kb_26 (j_goto rfl (j_weak (l := [some (.ref v0), some (.int v1), none, none, none, none]) (And.intro (Or.inr rfl) (And.intro (Or.inr rfl) (And.intro (Or.inl rfl) (And.intro (Or.inr rfl) (And.intro (Or.inr rfl) (And.intro (Or.inr rfl) True.intro)))))) (h)))))
                  refine J_bind fun w83 hw83 => ?_
                  refine J_cl fun _ σ84 hσ84 => ?_
                  refine J_bind fun x86 hx86 => ?_
                  refine J_bind fun σ87 hσ87 => ?_
                  refine J_bind fun w88 hw88 => ?_
                  refine J_cl fun _ σ89 hσ89 => ?_
                  exact q_J.step (fun g => j_v0 [.ref v0, .int t81] [] rfl rfl rfl rfl rfl rfl hw83 (Or.inl rfl) (t_Mo_puts (by omega) hσ84) (j_aload_n rfl rfl (j_gfr rfl hx86 (j_iload_n rfl rfl (j_iconst (0 : Int32) rfl k32_0 (j_bas rfl (by decide) hσ87 (j_iconst (1 : Int32) rfl k32_1 (j_istore_n [some (.ref v0), some (.int v1), some (.int (1 : Int32)), none, none, none] rfl rfl (Or.inr rfl) rfl (j_goto rfl (j_aload_n rfl rfl (j_v0 [.ref v0] [] rfl rfl rfl rfl rfl rfl hw88 (Or.inl rfl) (t_Mo_nextToken (by omega) hσ89) (j_goto rfl (g))))))))))))) (l_Mo_reads_L11 hd v0 hR n v1 (1 : Int32) σ89)
                refine J_bind fun w91 hw91 => ?_
                refine J_cl fun x93 σ92 hσ92 => ?_
                refine q_J.step (fun g => j_if_t rfl (cc_ne_t h27) (j_aload_n rfl rfl (j_aload_n rfl rfl (j_ldc2 (1111 : Int64) rfl kw_1111 (j_v1 [.ref v0, .long (1111 : Int64)] [.ref v0] rfl rfl rfl rfl rfl rfl hw91 (Or.inl rfl) (t_Mo_isWord (by omega) hσ92) (g)))))) ?_
                refine J_sq (fun (t95 : Int32) (σ96 : q_H) => q_G (q_rf fo) d m_Mo_reads o σ' 342 [some (.ref v0), some (.int v1), none, none, none, none] [.int t95, .ref v0] σ96) ?_ (fun t95 σ96 => ?_)
                · refine J_ite (fun h94 => ?_) (fun h94 => ?_)
                  · exact J_some (fun h => j_if_t rfl (cc_eq_t h94) (j_bipush (27 : Int32) rfl kb_27 (j_weak (l := [some (.ref v0), some (.int v1), none, none, none, none]) (And.intro (Or.inr rfl) (And.intro (Or.inr rfl) (And.intro (Or.inl rfl) (And.intro (Or.inr rfl) (And.intro (Or.inr rfl) (And.intro (Or.inr rfl) True.intro)))))) (h))))
                  exact J_some (fun h => j_if_f rfl (cc_eq_f h94) (j_bipush (26 : Int32) rfl kb_26 (j_goto rfl (j_weak (l := [some (.ref v0), some (.int v1), none, none, none, none]) (And.intro (Or.inr rfl) (And.intro (Or.inr rfl) (And.intro (Or.inl rfl) (And.intro (Or.inr rfl) (And.intro (Or.inr rfl) (And.intro (Or.inr rfl) True.intro)))))) (h)))))
                refine J_bind fun w97 hw97 => ?_
                refine J_cl fun _ σ98 hσ98 => ?_
                refine J_bind fun x100 hx100 => ?_
                refine J_bind fun σ101 hσ101 => ?_
                refine J_bind fun w102 hw102 => ?_
                refine J_cl fun _ σ103 hσ103 => ?_
                exact q_J.step (fun g => j_v0 [.ref v0, .int t95] [] rfl rfl rfl rfl rfl rfl hw97 (Or.inl rfl) (t_Mo_puts (by omega) hσ98) (j_aload_n rfl rfl (j_gfr rfl hx100 (j_iload_n rfl rfl (j_iconst (0 : Int32) rfl k32_0 (j_bas rfl (by decide) hσ101 (j_iconst (1 : Int32) rfl k32_1 (j_istore_n [some (.ref v0), some (.int v1), some (.int (1 : Int32)), none, none, none] rfl rfl (Or.inr rfl) rfl (j_goto rfl (j_aload_n rfl rfl (j_v0 [.ref v0] [] rfl rfl rfl rfl rfl rfl hw102 (Or.inl rfl) (t_Mo_nextToken (by omega) hσ103) (j_goto rfl (g))))))))))))) (l_Mo_reads_L11 hd v0 hR n v1 (1 : Int32) σ103)
              refine J_bind fun x105 hx105 => ?_
              refine J_bind fun x106 hx106 => ?_
              refine q_J.step (fun g => j_if_f rfl (cc_eq_f h23) (j_aload_n rfl rfl (j_gfr rfl hx105 (j_iload_n rfl rfl (j_bal rfl rfl hx106 (g)))))) ?_
              refine J_ite (fun h107 => ?_) (fun h107 => ?_)
              · refine J_bind fun w108 hw108 => ?_
                refine J_cl fun x110 σ109 hσ109 => ?_
                refine q_J.step (fun g => j_if_f rfl (cc_ne_f h107) (j_aload_n rfl rfl (j_aload_n rfl rfl (j_bipush (60 : Int32) rfl kb_60 (j_v1 [.ref v0, .int (60 : Int32)] [.ref v0] rfl rfl rfl rfl rfl rfl hw108 (Or.inl rfl) (t_Mo_isSign (by omega) hσ109) (g)))))) ?_
                refine J_sq (fun (t112 : Int32) (σ113 : q_H) => q_G (q_rf fo) d m_Mo_reads o σ' 289 [some (.ref v0), some (.int v1), none, none, none, none] [.int t112, .ref v0] σ113) ?_ (fun t112 σ113 => ?_)
                · refine J_ite (fun h111 => ?_) (fun h111 => ?_)
                  · exact J_some (fun h => j_if_t rfl (cc_eq_t h111) (j_bipush (25 : Int32) rfl kb_25 (j_weak (l := [some (.ref v0), some (.int v1), none, none, none, none]) (And.intro (Or.inr rfl) (And.intro (Or.inr rfl) (And.intro (Or.inl rfl) (And.intro (Or.inr rfl) (And.intro (Or.inr rfl) (And.intro (Or.inr rfl) True.intro)))))) (h))))
                  exact J_some (fun h => j_if_f rfl (cc_eq_f h111) (j_bipush (24 : Int32) rfl kb_24 (j_goto rfl (j_weak (l := [some (.ref v0), some (.int v1), none, none, none, none]) (And.intro (Or.inr rfl) (And.intro (Or.inr rfl) (And.intro (Or.inl rfl) (And.intro (Or.inr rfl) (And.intro (Or.inr rfl) (And.intro (Or.inr rfl) True.intro)))))) (h)))))
                refine J_bind fun w114 hw114 => ?_
                refine J_cl fun _ σ115 hσ115 => ?_
                refine J_bind fun x117 hx117 => ?_
                refine J_bind fun σ118 hσ118 => ?_
                refine J_bind fun w119 hw119 => ?_
                refine J_cl fun _ σ120 hσ120 => ?_
                exact q_J.step (fun g => j_v0 [.ref v0, .int t112] [] rfl rfl rfl rfl rfl rfl hw114 (Or.inl rfl) (t_Mo_puts (by omega) hσ115) (j_aload_n rfl rfl (j_gfr rfl hx117 (j_iload_n rfl rfl (j_iconst (1 : Int32) rfl k32_1 (j_bas rfl (by decide) hσ118 (j_iconst (1 : Int32) rfl k32_1 (j_istore_n [some (.ref v0), some (.int v1), some (.int (1 : Int32)), none, none, none] rfl rfl (Or.inr rfl) rfl (j_goto rfl (j_aload_n rfl rfl (j_v0 [.ref v0] [] rfl rfl rfl rfl rfl rfl hw119 (Or.inl rfl) (t_Mo_nextToken (by omega) hσ120) (j_goto rfl (g))))))))))))) (l_Mo_reads_L11 hd v0 hR n v1 (1 : Int32) σ120)
              refine J_bind fun w122 hw122 => ?_
              refine J_cl fun x124 σ123 hσ123 => ?_
              refine q_J.step (fun g => j_if_t rfl (cc_ne_t h107) (j_aload_n rfl rfl (j_ldc2 (1111 : Int64) rfl kw_1111 (j_v1 [.ref v0, .long (1111 : Int64)] [] rfl rfl rfl rfl rfl rfl hw122 (Or.inl rfl) (t_Mo_isWord (by omega) hσ123) (g))))) ?_
              refine J_ite (fun h125 => ?_) (fun h125 => ?_)
              · refine J_bind fun w126 hw126 => ?_
                refine J_cl fun x128 σ127 hσ127 => ?_
                refine q_J.step (fun g => j_if_f rfl (cc_ne_f h125) (j_aload_n rfl rfl (j_ldc2 (423 : Int64) rfl kw_423 (j_v1 [.ref v0, .long (423 : Int64)] [] rfl rfl rfl rfl rfl rfl hw126 (Or.inl rfl) (t_Mo_isWord (by omega) hσ127) (g))))) ?_
                refine J_ite (fun h129 => ?_) (fun h129 => ?_)
                · refine J_bind fun w130 hw130 => ?_
                  refine J_cl fun x132 σ131 hσ131 => ?_
                  refine q_J.step (fun g => j_if_t rfl (cc_eq_t h129) (j_aload_n rfl rfl (j_bipush (41 : Int32) rfl kb_41 (j_v1 [.ref v0, .int (41 : Int32)] [] rfl rfl rfl rfl rfl rfl hw130 (Or.inl rfl) (t_Mo_isSign (by omega) hσ131) (g))))) ?_
                  refine J_ite (fun h133 => ?_) (fun h133 => ?_)
                  · refine q_J.step (fun g => j_if_t rfl (cc_eq_t h133) (j_iload_n rfl rfl (g))) ?_
                    refine J_ite (fun h134 => ?_) (fun h134 => ?_)
                    · refine J_bind fun w135 hw135 => ?_
                      refine J_cl fun x137 σ136 hσ136 => ?_
                      refine q_J.step (fun g => j_if_f rfl (cc_ne_f h134) (j_aload_n rfl rfl (j_bipush (59 : Int32) rfl kb_59 (j_v1 [.ref v0, .int (59 : Int32)] [] rfl rfl rfl rfl rfl rfl hw135 (Or.inl rfl) (t_Mo_isSign (by omega) hσ136) (g))))) ?_
                      refine J_ite (fun h138 => ?_) (fun h138 => ?_)
                      · refine J_bind fun w139 hw139 => ?_
                        refine J_cl fun x141 σ140 hσ140 => ?_
                        refine q_J.step (fun g => j_if_t rfl (cc_eq_t h138) (j_aload_n rfl rfl (j_iconst (1 : Int32) rfl k32_1 (j_v1 [.ref v0, .int (1 : Int32)] [] rfl rfl rfl rfl rfl rfl hw139 (Or.inl rfl) (t_Mo_errs (by omega) hσ140) (g))))) ?_
                        refine J_ite (fun _ => J_none) (fun hz => ?_)
                        replace hz := Decidable.not_not.mp hz
                        exact J_some (fun h => j_iret rfl (q_zr hz) (hR _ _ h))
                      refine J_bind fun w142 hw142 => ?_
                      refine J_cl fun _ σ143 hσ143 => ?_
                      exact J_some (fun h => j_if_f rfl (cc_eq_f h138) (j_aload_n rfl rfl (j_v0 [.ref v0] [] rfl rfl rfl rfl rfl rfl hw142 (Or.inl rfl) (t_Mo_nextToken (by omega) hσ143) (j_iconst (1 : Int32) rfl k32_1 (j_iret rfl (q_zr (Or.inr rfl)) (hR _ _ h))))))
                    refine J_bind fun w145 hw145 => ?_
                    refine J_cl fun x147 σ146 hσ146 => ?_
                    refine q_J.step (fun g => j_if_t rfl (cc_ne_t h134) (j_aload_n rfl rfl (j_iconst (1 : Int32) rfl k32_1 (j_v1 [.ref v0, .int (1 : Int32)] [] rfl rfl rfl rfl rfl rfl hw145 (Or.inl rfl) (t_Mo_errs (by omega) hσ146) (g))))) ?_
                    refine J_ite (fun _ => J_none) (fun hz => ?_)
                    replace hz := Decidable.not_not.mp hz
                    exact J_some (fun h => j_iret rfl (q_zr hz) (hR _ _ h))
                  refine q_J.step (fun g => j_if_f rfl (cc_eq_f h133) (j_iload_n rfl rfl (g))) ?_
                  refine J_ite (fun h148 => ?_) (fun h148 => ?_)
                  · refine J_bind fun w149 hw149 => ?_
                    refine J_cl fun _ σ150 hσ150 => ?_
                    refine J_sq (fun (t156 : Int32) (σ157 : q_H) => q_G (q_rf fo) d m_Mo_reads o σ' 424 [some (.ref v0), some (.int t156), some (.int v2), none, none, none] [] σ157) (q_J.step (fun g => j_if_f rfl (cc_le_f h148) (j_aload_n rfl rfl (j_bipush (29 : Int32) rfl kb_29 (j_v0 [.ref v0, .int (29 : Int32)] [] rfl rfl rfl rfl rfl rfl hw149 (Or.inl rfl) (t_Mo_puts (by omega) hσ150) (j_iinc [some (.ref v0), some (.int (v1 + (-1 : Int32))), some (.int v2), none, none, none] (v1 + (-1 : Int32)) rfl rfl (by rw [k32_m1]) (Or.inr rfl) rfl (g)))))) (l_Mo_reads_L379 hd v0 v2 (fun _ _ h => h) q_FU (v1 + (-1 : Int32)) σ150)) (fun t156 σ157 => ?_)
                    refine J_bind fun w158 hw158 => ?_
                    refine J_cl fun _ σ159 hσ159 => ?_
                    exact q_J.step (fun g => j_aload_n rfl rfl (j_v0 [.ref v0] [] rfl rfl rfl rfl rfl rfl hw158 (Or.inl rfl) (t_Mo_nextToken (by omega) hσ159) (j_goto rfl (g)))) (l_Mo_reads_L11 hd v0 hR n t156 v2 σ159)
                  refine q_J.step (fun g => j_if_t rfl (cc_le_t h148) (j_iload_n rfl rfl (g))) ?_
                  refine J_ite (fun h161 => ?_) (fun h161 => ?_)
                  · refine J_bind fun w162 hw162 => ?_
                    refine J_cl fun x164 σ163 hσ163 => ?_
                    refine q_J.step (fun g => j_if_f rfl (cc_ne_f h161) (j_aload_n rfl rfl (j_bipush (59 : Int32) rfl kb_59 (j_v1 [.ref v0, .int (59 : Int32)] [] rfl rfl rfl rfl rfl rfl hw162 (Or.inl rfl) (t_Mo_isSign (by omega) hσ163) (g))))) ?_
                    refine J_ite (fun h165 => ?_) (fun h165 => ?_)
                    · refine J_bind fun w166 hw166 => ?_
                      refine J_cl fun x168 σ167 hσ167 => ?_
                      refine q_J.step (fun g => j_if_t rfl (cc_eq_t h165) (j_aload_n rfl rfl (j_iconst (1 : Int32) rfl k32_1 (j_v1 [.ref v0, .int (1 : Int32)] [] rfl rfl rfl rfl rfl rfl hw166 (Or.inl rfl) (t_Mo_errs (by omega) hσ167) (g))))) ?_
                      refine J_ite (fun _ => J_none) (fun hz => ?_)
                      replace hz := Decidable.not_not.mp hz
                      exact J_some (fun h => j_iret rfl (q_zr hz) (hR _ _ h))
                    refine J_bind fun w169 hw169 => ?_
                    refine J_cl fun _ σ170 hσ170 => ?_
                    exact J_some (fun h => j_if_f rfl (cc_eq_f h165) (j_aload_n rfl rfl (j_v0 [.ref v0] [] rfl rfl rfl rfl rfl rfl hw169 (Or.inl rfl) (t_Mo_nextToken (by omega) hσ170) (j_iconst (1 : Int32) rfl k32_1 (j_iret rfl (q_zr (Or.inr rfl)) (hR _ _ h))))))
                  refine J_bind fun w172 hw172 => ?_
                  refine J_cl fun x174 σ173 hσ173 => ?_
                  refine q_J.step (fun g => j_if_t rfl (cc_ne_t h161) (j_aload_n rfl rfl (j_iconst (1 : Int32) rfl k32_1 (j_v1 [.ref v0, .int (1 : Int32)] [] rfl rfl rfl rfl rfl rfl hw172 (Or.inl rfl) (t_Mo_errs (by omega) hσ173) (g))))) ?_
                  refine J_ite (fun _ => J_none) (fun hz => ?_)
                  replace hz := Decidable.not_not.mp hz
                  exact J_some (fun h => j_iret rfl (q_zr hz) (hR _ _ h))
                refine J_bind fun w175 hw175 => ?_
                refine J_cl fun x177 σ176 hσ176 => ?_
                refine q_J.step (fun g => j_if_f rfl (cc_eq_f h129) (j_aload_n rfl rfl (j_aload_n rfl rfl (j_ldc2 (1111 : Int64) rfl kw_1111 (j_v1 [.ref v0, .long (1111 : Int64)] [.ref v0] rfl rfl rfl rfl rfl rfl hw175 (Or.inl rfl) (t_Mo_isWord (by omega) hσ176) (g)))))) ?_
                refine J_sq (fun (t179 : Int32) (σ180 : q_H) => q_G (q_rf fo) d m_Mo_reads o σ' 342 [some (.ref v0), some (.int v1), none, none, none, none] [.int t179, .ref v0] σ180) ?_ (fun t179 σ180 => ?_)
                · refine J_ite (fun h178 => ?_) (fun h178 => ?_)
                  · exact J_some (fun h => j_if_t rfl (cc_eq_t h178) (j_bipush (27 : Int32) rfl kb_27 (j_weak (l := [some (.ref v0), some (.int v1), none, none, none, none]) (And.intro (Or.inr rfl) (And.intro (Or.inr rfl) (And.intro (Or.inl rfl) (And.intro (Or.inr rfl) (And.intro (Or.inr rfl) (And.intro (Or.inr rfl) True.intro)))))) (h))))
                  exact J_some (fun h => j_if_f rfl (cc_eq_f h178) (j_bipush (26 : Int32) rfl kb_26 (j_goto rfl (j_weak (l := [some (.ref v0), some (.int v1), none, none, none, none]) (And.intro (Or.inr rfl) (And.intro (Or.inr rfl) (And.intro (Or.inl rfl) (And.intro (Or.inr rfl) (And.intro (Or.inr rfl) (And.intro (Or.inr rfl) True.intro)))))) (h)))))
                refine J_bind fun w181 hw181 => ?_
                refine J_cl fun _ σ182 hσ182 => ?_
                refine J_bind fun x184 hx184 => ?_
                refine J_bind fun σ185 hσ185 => ?_
                refine J_bind fun w186 hw186 => ?_
                refine J_cl fun _ σ187 hσ187 => ?_
                exact q_J.step (fun g => j_v0 [.ref v0, .int t179] [] rfl rfl rfl rfl rfl rfl hw181 (Or.inl rfl) (t_Mo_puts (by omega) hσ182) (j_aload_n rfl rfl (j_gfr rfl hx184 (j_iload_n rfl rfl (j_iconst (0 : Int32) rfl k32_0 (j_bas rfl (by decide) hσ185 (j_iconst (1 : Int32) rfl k32_1 (j_istore_n [some (.ref v0), some (.int v1), some (.int (1 : Int32)), none, none, none] rfl rfl (Or.inr rfl) rfl (j_goto rfl (j_aload_n rfl rfl (j_v0 [.ref v0] [] rfl rfl rfl rfl rfl rfl hw186 (Or.inl rfl) (t_Mo_nextToken (by omega) hσ187) (j_goto rfl (g))))))))))))) (l_Mo_reads_L11 hd v0 hR n v1 (1 : Int32) σ187)
              refine J_bind fun w189 hw189 => ?_
              refine J_cl fun x191 σ190 hσ190 => ?_
              refine q_J.step (fun g => j_if_t rfl (cc_ne_t h125) (j_aload_n rfl rfl (j_aload_n rfl rfl (j_ldc2 (1111 : Int64) rfl kw_1111 (j_v1 [.ref v0, .long (1111 : Int64)] [.ref v0] rfl rfl rfl rfl rfl rfl hw189 (Or.inl rfl) (t_Mo_isWord (by omega) hσ190) (g)))))) ?_
              refine J_sq (fun (t193 : Int32) (σ194 : q_H) => q_G (q_rf fo) d m_Mo_reads o σ' 342 [some (.ref v0), some (.int v1), none, none, none, none] [.int t193, .ref v0] σ194) ?_ (fun t193 σ194 => ?_)
              · refine J_ite (fun h192 => ?_) (fun h192 => ?_)
                · exact J_some (fun h => j_if_t rfl (cc_eq_t h192) (j_bipush (27 : Int32) rfl kb_27 (j_weak (l := [some (.ref v0), some (.int v1), none, none, none, none]) (And.intro (Or.inr rfl) (And.intro (Or.inr rfl) (And.intro (Or.inl rfl) (And.intro (Or.inr rfl) (And.intro (Or.inr rfl) (And.intro (Or.inr rfl) True.intro)))))) (h))))
                exact J_some (fun h => j_if_f rfl (cc_eq_f h192) (j_bipush (26 : Int32) rfl kb_26 (j_goto rfl (j_weak (l := [some (.ref v0), some (.int v1), none, none, none, none]) (And.intro (Or.inr rfl) (And.intro (Or.inr rfl) (And.intro (Or.inl rfl) (And.intro (Or.inr rfl) (And.intro (Or.inr rfl) (And.intro (Or.inr rfl) True.intro)))))) (h)))))
              refine J_bind fun w195 hw195 => ?_
              refine J_cl fun _ σ196 hσ196 => ?_
              refine J_bind fun x198 hx198 => ?_
              refine J_bind fun σ199 hσ199 => ?_
              refine J_bind fun w200 hw200 => ?_
              refine J_cl fun _ σ201 hσ201 => ?_
              exact q_J.step (fun g => j_v0 [.ref v0, .int t193] [] rfl rfl rfl rfl rfl rfl hw195 (Or.inl rfl) (t_Mo_puts (by omega) hσ196) (j_aload_n rfl rfl (j_gfr rfl hx198 (j_iload_n rfl rfl (j_iconst (0 : Int32) rfl k32_0 (j_bas rfl (by decide) hσ199 (j_iconst (1 : Int32) rfl k32_1 (j_istore_n [some (.ref v0), some (.int v1), some (.int (1 : Int32)), none, none, none] rfl rfl (Or.inr rfl) rfl (j_goto rfl (j_aload_n rfl rfl (j_v0 [.ref v0] [] rfl rfl rfl rfl rfl rfl hw200 (Or.inl rfl) (t_Mo_nextToken (by omega) hσ201) (j_goto rfl (g))))))))))))) (l_Mo_reads_L11 hd v0 hR n v1 (1 : Int32) σ201)
            refine J_bind fun x203 hx203 => ?_
            refine J_bind fun x204 hx204 => ?_
            refine q_J.step (fun g => j_if_t rfl (cc_ne_t h19) (j_aload_n rfl rfl (j_gfr rfl hx203 (j_iload_n rfl rfl (j_bal rfl rfl hx204 (g)))))) ?_
            refine J_ite (fun h205 => ?_) (fun h205 => ?_)
            · refine J_bind fun w206 hw206 => ?_
              refine J_cl fun x208 σ207 hσ207 => ?_
              refine q_J.step (fun g => j_if_f rfl (cc_ne_f h205) (j_aload_n rfl rfl (j_aload_n rfl rfl (j_bipush (60 : Int32) rfl kb_60 (j_v1 [.ref v0, .int (60 : Int32)] [.ref v0] rfl rfl rfl rfl rfl rfl hw206 (Or.inl rfl) (t_Mo_isSign (by omega) hσ207) (g)))))) ?_
              refine J_sq (fun (t210 : Int32) (σ211 : q_H) => q_G (q_rf fo) d m_Mo_reads o σ' 289 [some (.ref v0), some (.int v1), none, none, none, none] [.int t210, .ref v0] σ211) ?_ (fun t210 σ211 => ?_)
              · refine J_ite (fun h209 => ?_) (fun h209 => ?_)
                · exact J_some (fun h => j_if_t rfl (cc_eq_t h209) (j_bipush (25 : Int32) rfl kb_25 (j_weak (l := [some (.ref v0), some (.int v1), none, none, none, none]) (And.intro (Or.inr rfl) (And.intro (Or.inr rfl) (And.intro (Or.inl rfl) (And.intro (Or.inr rfl) (And.intro (Or.inr rfl) (And.intro (Or.inr rfl) True.intro)))))) (h))))
                exact J_some (fun h => j_if_f rfl (cc_eq_f h209) (j_bipush (24 : Int32) rfl kb_24 (j_goto rfl (j_weak (l := [some (.ref v0), some (.int v1), none, none, none, none]) (And.intro (Or.inr rfl) (And.intro (Or.inr rfl) (And.intro (Or.inl rfl) (And.intro (Or.inr rfl) (And.intro (Or.inr rfl) (And.intro (Or.inr rfl) True.intro)))))) (h)))))
              refine J_bind fun w212 hw212 => ?_
              refine J_cl fun _ σ213 hσ213 => ?_
              refine J_bind fun x215 hx215 => ?_
              refine J_bind fun σ216 hσ216 => ?_
              refine J_bind fun w217 hw217 => ?_
              refine J_cl fun _ σ218 hσ218 => ?_
              exact q_J.step (fun g => j_v0 [.ref v0, .int t210] [] rfl rfl rfl rfl rfl rfl hw212 (Or.inl rfl) (t_Mo_puts (by omega) hσ213) (j_aload_n rfl rfl (j_gfr rfl hx215 (j_iload_n rfl rfl (j_iconst (1 : Int32) rfl k32_1 (j_bas rfl (by decide) hσ216 (j_iconst (1 : Int32) rfl k32_1 (j_istore_n [some (.ref v0), some (.int v1), some (.int (1 : Int32)), none, none, none] rfl rfl (Or.inr rfl) rfl (j_goto rfl (j_aload_n rfl rfl (j_v0 [.ref v0] [] rfl rfl rfl rfl rfl rfl hw217 (Or.inl rfl) (t_Mo_nextToken (by omega) hσ218) (j_goto rfl (g))))))))))))) (l_Mo_reads_L11 hd v0 hR n v1 (1 : Int32) σ218)
            refine J_bind fun w220 hw220 => ?_
            refine J_cl fun x222 σ221 hσ221 => ?_
            refine q_J.step (fun g => j_if_t rfl (cc_ne_t h205) (j_aload_n rfl rfl (j_ldc2 (1111 : Int64) rfl kw_1111 (j_v1 [.ref v0, .long (1111 : Int64)] [] rfl rfl rfl rfl rfl rfl hw220 (Or.inl rfl) (t_Mo_isWord (by omega) hσ221) (g))))) ?_
            refine J_ite (fun h223 => ?_) (fun h223 => ?_)
            · refine J_bind fun w224 hw224 => ?_
              refine J_cl fun x226 σ225 hσ225 => ?_
              refine q_J.step (fun g => j_if_f rfl (cc_ne_f h223) (j_aload_n rfl rfl (j_ldc2 (423 : Int64) rfl kw_423 (j_v1 [.ref v0, .long (423 : Int64)] [] rfl rfl rfl rfl rfl rfl hw224 (Or.inl rfl) (t_Mo_isWord (by omega) hσ225) (g))))) ?_
              refine J_ite (fun h227 => ?_) (fun h227 => ?_)
              · refine J_bind fun w228 hw228 => ?_
                refine J_cl fun x230 σ229 hσ229 => ?_
                refine q_J.step (fun g => j_if_t rfl (cc_eq_t h227) (j_aload_n rfl rfl (j_bipush (41 : Int32) rfl kb_41 (j_v1 [.ref v0, .int (41 : Int32)] [] rfl rfl rfl rfl rfl rfl hw228 (Or.inl rfl) (t_Mo_isSign (by omega) hσ229) (g))))) ?_
                refine J_ite (fun h231 => ?_) (fun h231 => ?_)
                · refine q_J.step (fun g => j_if_t rfl (cc_eq_t h231) (j_iload_n rfl rfl (g))) ?_
                  refine J_ite (fun h232 => ?_) (fun h232 => ?_)
                  · refine J_bind fun w233 hw233 => ?_
                    refine J_cl fun x235 σ234 hσ234 => ?_
                    refine q_J.step (fun g => j_if_f rfl (cc_ne_f h232) (j_aload_n rfl rfl (j_bipush (59 : Int32) rfl kb_59 (j_v1 [.ref v0, .int (59 : Int32)] [] rfl rfl rfl rfl rfl rfl hw233 (Or.inl rfl) (t_Mo_isSign (by omega) hσ234) (g))))) ?_
                    refine J_ite (fun h236 => ?_) (fun h236 => ?_)
                    · refine J_bind fun w237 hw237 => ?_
                      refine J_cl fun x239 σ238 hσ238 => ?_
                      refine q_J.step (fun g => j_if_t rfl (cc_eq_t h236) (j_aload_n rfl rfl (j_iconst (1 : Int32) rfl k32_1 (j_v1 [.ref v0, .int (1 : Int32)] [] rfl rfl rfl rfl rfl rfl hw237 (Or.inl rfl) (t_Mo_errs (by omega) hσ238) (g))))) ?_
                      refine J_ite (fun _ => J_none) (fun hz => ?_)
                      replace hz := Decidable.not_not.mp hz
                      exact J_some (fun h => j_iret rfl (q_zr hz) (hR _ _ h))
                    refine J_bind fun w240 hw240 => ?_
                    refine J_cl fun _ σ241 hσ241 => ?_
                    exact J_some (fun h => j_if_f rfl (cc_eq_f h236) (j_aload_n rfl rfl (j_v0 [.ref v0] [] rfl rfl rfl rfl rfl rfl hw240 (Or.inl rfl) (t_Mo_nextToken (by omega) hσ241) (j_iconst (1 : Int32) rfl k32_1 (j_iret rfl (q_zr (Or.inr rfl)) (hR _ _ h))))))
                  refine J_bind fun w243 hw243 => ?_
                  refine J_cl fun x245 σ244 hσ244 => ?_
                  refine q_J.step (fun g => j_if_t rfl (cc_ne_t h232) (j_aload_n rfl rfl (j_iconst (1 : Int32) rfl k32_1 (j_v1 [.ref v0, .int (1 : Int32)] [] rfl rfl rfl rfl rfl rfl hw243 (Or.inl rfl) (t_Mo_errs (by omega) hσ244) (g))))) ?_
                  refine J_ite (fun _ => J_none) (fun hz => ?_)
                  replace hz := Decidable.not_not.mp hz
                  exact J_some (fun h => j_iret rfl (q_zr hz) (hR _ _ h))
                refine q_J.step (fun g => j_if_f rfl (cc_eq_f h231) (j_iload_n rfl rfl (g))) ?_
                refine J_ite (fun h246 => ?_) (fun h246 => ?_)
                · refine J_bind fun w247 hw247 => ?_
                  refine J_cl fun _ σ248 hσ248 => ?_
                  refine J_sq (fun (t254 : Int32) (σ255 : q_H) => q_G (q_rf fo) d m_Mo_reads o σ' 424 [some (.ref v0), some (.int t254), some (.int v2), none, none, none] [] σ255) (q_J.step (fun g => j_if_f rfl (cc_le_f h246) (j_aload_n rfl rfl (j_bipush (29 : Int32) rfl kb_29 (j_v0 [.ref v0, .int (29 : Int32)] [] rfl rfl rfl rfl rfl rfl hw247 (Or.inl rfl) (t_Mo_puts (by omega) hσ248) (j_iinc [some (.ref v0), some (.int (v1 + (-1 : Int32))), some (.int v2), none, none, none] (v1 + (-1 : Int32)) rfl rfl (by rw [k32_m1]) (Or.inr rfl) rfl (g)))))) (l_Mo_reads_L379 hd v0 v2 (fun _ _ h => h) q_FU (v1 + (-1 : Int32)) σ248)) (fun t254 σ255 => ?_)
                  refine J_bind fun w256 hw256 => ?_
                  refine J_cl fun _ σ257 hσ257 => ?_
                  exact q_J.step (fun g => j_aload_n rfl rfl (j_v0 [.ref v0] [] rfl rfl rfl rfl rfl rfl hw256 (Or.inl rfl) (t_Mo_nextToken (by omega) hσ257) (j_goto rfl (g)))) (l_Mo_reads_L11 hd v0 hR n t254 v2 σ257)
                refine q_J.step (fun g => j_if_t rfl (cc_le_t h246) (j_iload_n rfl rfl (g))) ?_
                refine J_ite (fun h259 => ?_) (fun h259 => ?_)
                · refine J_bind fun w260 hw260 => ?_
                  refine J_cl fun x262 σ261 hσ261 => ?_
                  refine q_J.step (fun g => j_if_f rfl (cc_ne_f h259) (j_aload_n rfl rfl (j_bipush (59 : Int32) rfl kb_59 (j_v1 [.ref v0, .int (59 : Int32)] [] rfl rfl rfl rfl rfl rfl hw260 (Or.inl rfl) (t_Mo_isSign (by omega) hσ261) (g))))) ?_
                  refine J_ite (fun h263 => ?_) (fun h263 => ?_)
                  · refine J_bind fun w264 hw264 => ?_
                    refine J_cl fun x266 σ265 hσ265 => ?_
                    refine q_J.step (fun g => j_if_t rfl (cc_eq_t h263) (j_aload_n rfl rfl (j_iconst (1 : Int32) rfl k32_1 (j_v1 [.ref v0, .int (1 : Int32)] [] rfl rfl rfl rfl rfl rfl hw264 (Or.inl rfl) (t_Mo_errs (by omega) hσ265) (g))))) ?_
                    refine J_ite (fun _ => J_none) (fun hz => ?_)
                    replace hz := Decidable.not_not.mp hz
                    exact J_some (fun h => j_iret rfl (q_zr hz) (hR _ _ h))
                  refine J_bind fun w267 hw267 => ?_
                  refine J_cl fun _ σ268 hσ268 => ?_
                  exact J_some (fun h => j_if_f rfl (cc_eq_f h263) (j_aload_n rfl rfl (j_v0 [.ref v0] [] rfl rfl rfl rfl rfl rfl hw267 (Or.inl rfl) (t_Mo_nextToken (by omega) hσ268) (j_iconst (1 : Int32) rfl k32_1 (j_iret rfl (q_zr (Or.inr rfl)) (hR _ _ h))))))
                refine J_bind fun w270 hw270 => ?_
                refine J_cl fun x272 σ271 hσ271 => ?_
                refine q_J.step (fun g => j_if_t rfl (cc_ne_t h259) (j_aload_n rfl rfl (j_iconst (1 : Int32) rfl k32_1 (j_v1 [.ref v0, .int (1 : Int32)] [] rfl rfl rfl rfl rfl rfl hw270 (Or.inl rfl) (t_Mo_errs (by omega) hσ271) (g))))) ?_
                refine J_ite (fun _ => J_none) (fun hz => ?_)
                replace hz := Decidable.not_not.mp hz
                exact J_some (fun h => j_iret rfl (q_zr hz) (hR _ _ h))
              refine J_bind fun w273 hw273 => ?_
              refine J_cl fun x275 σ274 hσ274 => ?_
              refine q_J.step (fun g => j_if_f rfl (cc_eq_f h227) (j_aload_n rfl rfl (j_aload_n rfl rfl (j_ldc2 (1111 : Int64) rfl kw_1111 (j_v1 [.ref v0, .long (1111 : Int64)] [.ref v0] rfl rfl rfl rfl rfl rfl hw273 (Or.inl rfl) (t_Mo_isWord (by omega) hσ274) (g)))))) ?_
              refine J_sq (fun (t277 : Int32) (σ278 : q_H) => q_G (q_rf fo) d m_Mo_reads o σ' 342 [some (.ref v0), some (.int v1), none, none, none, none] [.int t277, .ref v0] σ278) ?_ (fun t277 σ278 => ?_)
              · refine J_ite (fun h276 => ?_) (fun h276 => ?_)
                · exact J_some (fun h => j_if_t rfl (cc_eq_t h276) (j_bipush (27 : Int32) rfl kb_27 (j_weak (l := [some (.ref v0), some (.int v1), none, none, none, none]) (And.intro (Or.inr rfl) (And.intro (Or.inr rfl) (And.intro (Or.inl rfl) (And.intro (Or.inr rfl) (And.intro (Or.inr rfl) (And.intro (Or.inr rfl) True.intro)))))) (h))))
                exact J_some (fun h => j_if_f rfl (cc_eq_f h276) (j_bipush (26 : Int32) rfl kb_26 (j_goto rfl (j_weak (l := [some (.ref v0), some (.int v1), none, none, none, none]) (And.intro (Or.inr rfl) (And.intro (Or.inr rfl) (And.intro (Or.inl rfl) (And.intro (Or.inr rfl) (And.intro (Or.inr rfl) (And.intro (Or.inr rfl) True.intro)))))) (h)))))
              refine J_bind fun w279 hw279 => ?_
              refine J_cl fun _ σ280 hσ280 => ?_
              refine J_bind fun x282 hx282 => ?_
              refine J_bind fun σ283 hσ283 => ?_
              refine J_bind fun w284 hw284 => ?_
              refine J_cl fun _ σ285 hσ285 => ?_
              exact q_J.step (fun g => j_v0 [.ref v0, .int t277] [] rfl rfl rfl rfl rfl rfl hw279 (Or.inl rfl) (t_Mo_puts (by omega) hσ280) (j_aload_n rfl rfl (j_gfr rfl hx282 (j_iload_n rfl rfl (j_iconst (0 : Int32) rfl k32_0 (j_bas rfl (by decide) hσ283 (j_iconst (1 : Int32) rfl k32_1 (j_istore_n [some (.ref v0), some (.int v1), some (.int (1 : Int32)), none, none, none] rfl rfl (Or.inr rfl) rfl (j_goto rfl (j_aload_n rfl rfl (j_v0 [.ref v0] [] rfl rfl rfl rfl rfl rfl hw284 (Or.inl rfl) (t_Mo_nextToken (by omega) hσ285) (j_goto rfl (g))))))))))))) (l_Mo_reads_L11 hd v0 hR n v1 (1 : Int32) σ285)
            refine J_bind fun w287 hw287 => ?_
            refine J_cl fun x289 σ288 hσ288 => ?_
            refine q_J.step (fun g => j_if_t rfl (cc_ne_t h223) (j_aload_n rfl rfl (j_aload_n rfl rfl (j_ldc2 (1111 : Int64) rfl kw_1111 (j_v1 [.ref v0, .long (1111 : Int64)] [.ref v0] rfl rfl rfl rfl rfl rfl hw287 (Or.inl rfl) (t_Mo_isWord (by omega) hσ288) (g)))))) ?_
            refine J_sq (fun (t291 : Int32) (σ292 : q_H) => q_G (q_rf fo) d m_Mo_reads o σ' 342 [some (.ref v0), some (.int v1), none, none, none, none] [.int t291, .ref v0] σ292) ?_ (fun t291 σ292 => ?_)
            · refine J_ite (fun h290 => ?_) (fun h290 => ?_)
              · exact J_some (fun h => j_if_t rfl (cc_eq_t h290) (j_bipush (27 : Int32) rfl kb_27 (j_weak (l := [some (.ref v0), some (.int v1), none, none, none, none]) (And.intro (Or.inr rfl) (And.intro (Or.inr rfl) (And.intro (Or.inl rfl) (And.intro (Or.inr rfl) (And.intro (Or.inr rfl) (And.intro (Or.inr rfl) True.intro)))))) (h))))
              exact J_some (fun h => j_if_f rfl (cc_eq_f h290) (j_bipush (26 : Int32) rfl kb_26 (j_goto rfl (j_weak (l := [some (.ref v0), some (.int v1), none, none, none, none]) (And.intro (Or.inr rfl) (And.intro (Or.inr rfl) (And.intro (Or.inl rfl) (And.intro (Or.inr rfl) (And.intro (Or.inr rfl) (And.intro (Or.inr rfl) True.intro)))))) (h)))))
            refine J_bind fun w293 hw293 => ?_
            refine J_cl fun _ σ294 hσ294 => ?_
            refine J_bind fun x296 hx296 => ?_
            refine J_bind fun σ297 hσ297 => ?_
            refine J_bind fun w298 hw298 => ?_
            refine J_cl fun _ σ299 hσ299 => ?_
            exact q_J.step (fun g => j_v0 [.ref v0, .int t291] [] rfl rfl rfl rfl rfl rfl hw293 (Or.inl rfl) (t_Mo_puts (by omega) hσ294) (j_aload_n rfl rfl (j_gfr rfl hx296 (j_iload_n rfl rfl (j_iconst (0 : Int32) rfl k32_0 (j_bas rfl (by decide) hσ297 (j_iconst (1 : Int32) rfl k32_1 (j_istore_n [some (.ref v0), some (.int v1), some (.int (1 : Int32)), none, none, none] rfl rfl (Or.inr rfl) rfl (j_goto rfl (j_aload_n rfl rfl (j_v0 [.ref v0] [] rfl rfl rfl rfl rfl rfl hw298 (Or.inl rfl) (t_Mo_nextToken (by omega) hσ299) (j_goto rfl (g))))))))))))) (l_Mo_reads_L11 hd v0 hR n v1 (1 : Int32) σ299)
          refine J_bind fun w301 hw301 => ?_
          refine J_cl fun x303 σ302 hσ302 => ?_
          refine q_J.step (fun g => j_if_f rfl (cc_eq_f h15) (j_aload_n rfl rfl (j_aload_n rfl rfl (j_bipush (43 : Int32) rfl kb_43 (j_v1 [.ref v0, .int (43 : Int32)] [.ref v0] rfl rfl rfl rfl rfl rfl hw301 (Or.inl rfl) (t_Mo_isSign (by omega) hσ302) (g)))))) ?_
          refine J_sq (fun (t309 : Int32) (σ310 : q_H) => q_G (q_rf fo) d m_Mo_reads o σ' 237 [some (.ref v0), some (.int v1), none, none, none, none] [.int t309, .ref v0] σ310) ?_ (fun t309 σ310 => ?_)
          · refine J_ite (fun h304 => ?_) (fun h304 => ?_)
            · refine J_bind fun w305 hw305 => ?_
              refine J_cl fun x307 σ306 hσ306 => ?_
              refine q_J.step (fun g => j_if_t rfl (cc_eq_t h304) (j_aload_n rfl rfl (j_bipush (45 : Int32) rfl kb_45 (j_v1 [.ref v0, .int (45 : Int32)] [.ref v0] rfl rfl rfl rfl rfl rfl hw305 (Or.inl rfl) (t_Mo_isSign (by omega) hσ306) (g))))) ?_
              refine J_ite (fun h308 => ?_) (fun h308 => ?_)
              · exact J_some (fun h => j_if_t rfl (cc_eq_t h308) (j_bipush (22 : Int32) rfl kb_22 (j_weak (l := [some (.ref v0), some (.int v1), none, none, none, none]) (And.intro (Or.inr rfl) (And.intro (Or.inr rfl) (And.intro (Or.inl rfl) (And.intro (Or.inr rfl) (And.intro (Or.inr rfl) (And.intro (Or.inr rfl) True.intro)))))) (h))))
              exact J_some (fun h => j_if_f rfl (cc_eq_f h308) (j_bipush (21 : Int32) rfl kb_21 (j_goto rfl (j_weak (l := [some (.ref v0), some (.int v1), none, none, none, none]) (And.intro (Or.inr rfl) (And.intro (Or.inr rfl) (And.intro (Or.inl rfl) (And.intro (Or.inr rfl) (And.intro (Or.inr rfl) (And.intro (Or.inr rfl) True.intro)))))) (h)))))
            exact J_some (fun h => j_if_f rfl (cc_eq_f h304) (j_bipush (20 : Int32) rfl kb_20 (j_goto rfl (j_weak (l := [some (.ref v0), some (.int v1), none, none, none, none]) (And.intro (Or.inr rfl) (And.intro (Or.inr rfl) (And.intro (Or.inl rfl) (And.intro (Or.inr rfl) (And.intro (Or.inr rfl) (And.intro (Or.inr rfl) True.intro)))))) (h)))))
          refine J_bind fun w311 hw311 => ?_
          refine J_cl fun _ σ312 hσ312 => ?_
          refine J_bind fun w314 hw314 => ?_
          refine J_cl fun _ σ315 hσ315 => ?_
          exact q_J.step (fun g => j_v0 [.ref v0, .int t309] [] rfl rfl rfl rfl rfl rfl hw311 (Or.inl rfl) (t_Mo_puts (by omega) hσ312) (j_iconst (1 : Int32) rfl k32_1 (j_istore_n [some (.ref v0), some (.int v1), some (.int (1 : Int32)), none, none, none] rfl rfl (Or.inr rfl) rfl (j_goto rfl (j_aload_n rfl rfl (j_v0 [.ref v0] [] rfl rfl rfl rfl rfl rfl hw314 (Or.inl rfl) (t_Mo_nextToken (by omega) hσ315) (j_goto rfl (g)))))))) (l_Mo_reads_L11 hd v0 hR n v1 (1 : Int32) σ315)
        refine J_bind fun w317 hw317 => ?_
        refine J_cl fun x319 σ318 hσ318 => ?_
        refine q_J.step (fun g => j_if_t rfl (cc_ne_t h11) (j_aload_n rfl rfl (j_aload_n rfl rfl (j_bipush (43 : Int32) rfl kb_43 (j_v1 [.ref v0, .int (43 : Int32)] [.ref v0] rfl rfl rfl rfl rfl rfl hw317 (Or.inl rfl) (t_Mo_isSign (by omega) hσ318) (g)))))) ?_
        refine J_sq (fun (t325 : Int32) (σ326 : q_H) => q_G (q_rf fo) d m_Mo_reads o σ' 237 [some (.ref v0), some (.int v1), none, none, none, none] [.int t325, .ref v0] σ326) ?_ (fun t325 σ326 => ?_)
        · refine J_ite (fun h320 => ?_) (fun h320 => ?_)
          · refine J_bind fun w321 hw321 => ?_
            refine J_cl fun x323 σ322 hσ322 => ?_
            refine q_J.step (fun g => j_if_t rfl (cc_eq_t h320) (j_aload_n rfl rfl (j_bipush (45 : Int32) rfl kb_45 (j_v1 [.ref v0, .int (45 : Int32)] [.ref v0] rfl rfl rfl rfl rfl rfl hw321 (Or.inl rfl) (t_Mo_isSign (by omega) hσ322) (g))))) ?_
            refine J_ite (fun h324 => ?_) (fun h324 => ?_)
            · exact J_some (fun h => j_if_t rfl (cc_eq_t h324) (j_bipush (22 : Int32) rfl kb_22 (j_weak (l := [some (.ref v0), some (.int v1), none, none, none, none]) (And.intro (Or.inr rfl) (And.intro (Or.inr rfl) (And.intro (Or.inl rfl) (And.intro (Or.inr rfl) (And.intro (Or.inr rfl) (And.intro (Or.inr rfl) True.intro)))))) (h))))
            exact J_some (fun h => j_if_f rfl (cc_eq_f h324) (j_bipush (21 : Int32) rfl kb_21 (j_goto rfl (j_weak (l := [some (.ref v0), some (.int v1), none, none, none, none]) (And.intro (Or.inr rfl) (And.intro (Or.inr rfl) (And.intro (Or.inl rfl) (And.intro (Or.inr rfl) (And.intro (Or.inr rfl) (And.intro (Or.inr rfl) True.intro)))))) (h)))))
          exact J_some (fun h => j_if_f rfl (cc_eq_f h320) (j_bipush (20 : Int32) rfl kb_20 (j_goto rfl (j_weak (l := [some (.ref v0), some (.int v1), none, none, none, none]) (And.intro (Or.inr rfl) (And.intro (Or.inr rfl) (And.intro (Or.inl rfl) (And.intro (Or.inr rfl) (And.intro (Or.inr rfl) (And.intro (Or.inr rfl) True.intro)))))) (h)))))
        refine J_bind fun w327 hw327 => ?_
        refine J_cl fun _ σ328 hσ328 => ?_
        refine J_bind fun w330 hw330 => ?_
        refine J_cl fun _ σ331 hσ331 => ?_
        exact q_J.step (fun g => j_v0 [.ref v0, .int t325] [] rfl rfl rfl rfl rfl rfl hw327 (Or.inl rfl) (t_Mo_puts (by omega) hσ328) (j_iconst (1 : Int32) rfl k32_1 (j_istore_n [some (.ref v0), some (.int v1), some (.int (1 : Int32)), none, none, none] rfl rfl (Or.inr rfl) rfl (j_goto rfl (j_aload_n rfl rfl (j_v0 [.ref v0] [] rfl rfl rfl rfl rfl rfl hw330 (Or.inl rfl) (t_Mo_nextToken (by omega) hσ331) (j_goto rfl (g)))))))) (l_Mo_reads_L11 hd v0 hR n v1 (1 : Int32) σ331)
      refine J_bind fun w333 hw333 => ?_
      refine J_cl fun x335 σ334 hσ334 => ?_
      refine q_J.step (fun g => j_if_t rfl (cc_ne_t h7) (j_aload_n rfl rfl (j_aload_n rfl rfl (j_bipush (43 : Int32) rfl kb_43 (j_v1 [.ref v0, .int (43 : Int32)] [.ref v0] rfl rfl rfl rfl rfl rfl hw333 (Or.inl rfl) (t_Mo_isSign (by omega) hσ334) (g)))))) ?_
      refine J_sq (fun (t341 : Int32) (σ342 : q_H) => q_G (q_rf fo) d m_Mo_reads o σ' 237 [some (.ref v0), some (.int v1), none, none, none, none] [.int t341, .ref v0] σ342) ?_ (fun t341 σ342 => ?_)
      · refine J_ite (fun h336 => ?_) (fun h336 => ?_)
        · refine J_bind fun w337 hw337 => ?_
          refine J_cl fun x339 σ338 hσ338 => ?_
          refine q_J.step (fun g => j_if_t rfl (cc_eq_t h336) (j_aload_n rfl rfl (j_bipush (45 : Int32) rfl kb_45 (j_v1 [.ref v0, .int (45 : Int32)] [.ref v0] rfl rfl rfl rfl rfl rfl hw337 (Or.inl rfl) (t_Mo_isSign (by omega) hσ338) (g))))) ?_
          refine J_ite (fun h340 => ?_) (fun h340 => ?_)
          · exact J_some (fun h => j_if_t rfl (cc_eq_t h340) (j_bipush (22 : Int32) rfl kb_22 (j_weak (l := [some (.ref v0), some (.int v1), none, none, none, none]) (And.intro (Or.inr rfl) (And.intro (Or.inr rfl) (And.intro (Or.inl rfl) (And.intro (Or.inr rfl) (And.intro (Or.inr rfl) (And.intro (Or.inr rfl) True.intro)))))) (h))))
          exact J_some (fun h => j_if_f rfl (cc_eq_f h340) (j_bipush (21 : Int32) rfl kb_21 (j_goto rfl (j_weak (l := [some (.ref v0), some (.int v1), none, none, none, none]) (And.intro (Or.inr rfl) (And.intro (Or.inr rfl) (And.intro (Or.inl rfl) (And.intro (Or.inr rfl) (And.intro (Or.inr rfl) (And.intro (Or.inr rfl) True.intro)))))) (h)))))
        exact J_some (fun h => j_if_f rfl (cc_eq_f h336) (j_bipush (20 : Int32) rfl kb_20 (j_goto rfl (j_weak (l := [some (.ref v0), some (.int v1), none, none, none, none]) (And.intro (Or.inr rfl) (And.intro (Or.inr rfl) (And.intro (Or.inl rfl) (And.intro (Or.inr rfl) (And.intro (Or.inr rfl) (And.intro (Or.inr rfl) True.intro)))))) (h)))))
      refine J_bind fun w343 hw343 => ?_
      refine J_cl fun _ σ344 hσ344 => ?_
      refine J_bind fun w346 hw346 => ?_
      refine J_cl fun _ σ347 hσ347 => ?_
      exact q_J.step (fun g => j_v0 [.ref v0, .int t341] [] rfl rfl rfl rfl rfl rfl hw343 (Or.inl rfl) (t_Mo_puts (by omega) hσ344) (j_iconst (1 : Int32) rfl k32_1 (j_istore_n [some (.ref v0), some (.int v1), some (.int (1 : Int32)), none, none, none] rfl rfl (Or.inr rfl) rfl (j_goto rfl (j_aload_n rfl rfl (j_v0 [.ref v0] [] rfl rfl rfl rfl rfl rfl hw346 (Or.inl rfl) (t_Mo_nextToken (by omega) hσ347) (j_goto rfl (g)))))))) (l_Mo_reads_L11 hd v0 hR n v1 (1 : Int32) σ347)
    refine J_bind fun w349 hw349 => ?_
    refine J_cl fun x351 σ350 hσ350 => ?_
    refine J_bind fun w352 hw352 => ?_
    refine J_cl fun x354 σ353 hσ353 => ?_
    refine J_bind fun w355 hw355 => ?_
    refine J_cl fun x357 σ356 hσ356 => ?_
    refine q_J.step (fun g => j_if_f rfl (cc_eq_f h3) (j_aload_n rfl rfl (j_v1 [.ref v0] [] rfl rfl rfl rfl rfl rfl hw349 (Or.inl rfl) (t_Mo_fact (by omega) hσ350) (j_istore_n [some (.ref v0), some (.int v1), some (.int v2), some (.int x351), none, none] rfl rfl (Or.inr rfl) rfl (j_aload_n rfl rfl (j_ldc2 (10631 : Int64) rfl kw_10631 (j_v1 [.ref v0, .long (10631 : Int64)] [] rfl rfl rfl rfl rfl rfl hw352 (Or.inl rfl) (t_Mo_isWord (by omega) hσ353) (j_istore [some (.ref v0), some (.int v1), some (.int v2), some (.int x351), some (.int x354), none] rfl rfl (Or.inr rfl) rfl (j_aload_n rfl rfl (j_bipush (40 : Int32) rfl kb_40 (j_v1 [.ref v0, .int (40 : Int32)] [] rfl rfl rfl rfl rfl rfl hw355 (Or.inl rfl) (t_Mo_isSign (by omega) hσ356) (j_istore [some (.ref v0), some (.int v1), some (.int v2), some (.int x351), some (.int x354), some (.int x357)] rfl rfl (Or.inr rfl) rfl (j_iload_n rfl rfl (g)))))))))))))) ?_
    refine J_ite (fun h358 => ?_) (fun h358 => ?_)
    · refine q_J.step (fun g => j_if_f rfl (cc_ne_f h358) (j_iload rfl rfl (g))) ?_
      refine J_ite (fun h359 => ?_) (fun h359 => ?_)
      · refine q_J.step (fun g => j_if_f rfl (cc_ne_f h359) (j_iload rfl rfl (g))) ?_
        refine J_ite (fun h360 => ?_) (fun h360 => ?_)
        · refine J_bind fun x361 hx361 => ?_
          refine q_J.step (fun g => j_if_f rfl (cc_ne_f h360) (j_aload_n rfl rfl (j_gfi rfl hx361 (j_iconst (2 : Int32) rfl k32_2 (g))))) ?_
          refine J_ite (fun h362 => ?_) (fun h362 => ?_)
          · refine q_J.step (fun g => j_icmp_t rfl (cc_eq_t h362) (j_iload_n rfl rfl (j_iconst (5 : Int32) rfl k32_5 (g)))) ?_
            refine J_ite (fun h363 => ?_) (fun h363 => ?_)
            · refine J_bind fun w364 hw364 => ?_
              refine J_cl fun x366 σ365 hσ365 => ?_
              refine q_J.step (fun g => j_icmp_f rfl (cc_ne_f h363) (j_aload_n rfl rfl (j_iconst (5 : Int32) rfl k32_5 (j_v1 [.ref v0, .int (5 : Int32)] [] rfl rfl rfl rfl rfl rfl hw364 (Or.inl rfl) (t_Mo_errs (by omega) hσ365) (g))))) ?_
              refine J_ite (fun _ => J_none) (fun hz => ?_)
              replace hz := Decidable.not_not.mp hz
              exact J_some (fun h => j_iret rfl (q_zr hz) (hR _ _ h))
            refine q_J.step (fun g => j_icmp_t rfl (cc_ne_t h363) (j_iload rfl rfl (g))) ?_
            refine J_ite (fun h367 => ?_) (fun h367 => ?_)
            · refine q_J.step (fun g => j_if_f rfl (cc_ne_f h367) (j_iload rfl rfl (g))) ?_
              refine J_sq (fun (t396 : Int32 × Int32) (σ397 : q_H) => q_G (q_rf fo) d m_Mo_reads o σ' 172 [some (.ref v0), some (.int t396.1), some (.int t396.2), none, none, none] [] σ397) ?_ (fun t396 σ397 => ?_)
              · refine J_ite (fun h368 => ?_) (fun h368 => ?_)
                · refine q_J.step (fun g => j_if_t rfl (cc_eq_t h368) (j_aload_n rfl rfl (j_iload_n rfl rfl (g)))) ?_
                  refine J_sq (fun (t371 : Int32) (σ372 : q_H) => q_G (q_rf fo) d m_Mo_reads o σ' 147 [some (.ref v0), some (.int v1), none, none, none, none] [.int t371, .ref v0] σ372) ?_ (fun t371 σ372 => ?_)
                  · refine J_ite (fun h369 => ?_) (fun h369 => ?_)
                    · exact J_some (fun h => j_if_f rfl (cc_le_f h369) (j_iload_n rfl rfl (j_goto rfl (j_weak (l := [some (.ref v0), some (.int v1), none, none, none, none]) (And.intro (Or.inr rfl) (And.intro (Or.inr rfl) (And.intro (Or.inl rfl) (And.intro (Or.inl rfl) (And.intro (Or.inl rfl) (And.intro (Or.inl rfl) True.intro)))))) (h)))))
                    refine J_bind fun x370 hx370 => ?_
                    exact J_some (fun h => j_if_t rfl (cc_le_t h369) (j_bipush (100 : Int32) rfl kb_100 (j_aload_n rfl rfl (j_gfi rfl hx370 (j_iadd rfl (j_weak (l := [some (.ref v0), some (.int v1), none, none, none, none]) (And.intro (Or.inr rfl) (And.intro (Or.inr rfl) (And.intro (Or.inl rfl) (And.intro (Or.inl rfl) (And.intro (Or.inl rfl) (And.intro (Or.inl rfl) True.intro)))))) (h)))))))
                  refine J_bind fun w373 hw373 => ?_
                  refine J_cl fun _ σ374 hσ374 => ?_
                  refine J_sq (fun (t380 : Int32) (σ381 : q_H) => q_G (q_rf fo) d m_Mo_reads o σ' 172 [some (.ref v0), some (.int t380), some (.int (0 : Int32)), none, none, none] [] σ381) (q_J.step (fun g => j_v0 [.ref v0, .int t371] [] rfl rfl rfl rfl rfl rfl hw373 (Or.inl rfl) (t_Mo_puts (by omega) hσ374) (j_iconst (0 : Int32) rfl k32_0 (j_istore_n [some (.ref v0), some (.int v1), some (.int (0 : Int32)), none, none, none] rfl rfl (Or.inr rfl) rfl (g)))) (l_Mo_reads_L152 hd v0 (0 : Int32) (fun _ _ h => h) q_FU v1 σ374)) (fun t380 σ381 => ?_)
                  exact J_some (fun h => h)
                refine q_J.step (fun g => j_if_f rfl (cc_eq_f h368) (j_aload_n rfl rfl (j_iload rfl rfl (g)))) ?_
                refine J_sq (fun (t383 : Int32) (σ384 : q_H) => q_G (q_rf fo) d m_Mo_reads o σ' 99 [some (.ref v0), some (.int v1), some (.int v2), none, some (.int x354), none] [.int t383, .ref v0] σ384) ?_ (fun t383 σ384 => ?_)
                · refine J_ite (fun h382 => ?_) (fun h382 => ?_)
                  · exact J_some (fun h => j_if_t rfl (cc_eq_t h382) (j_bipush (28 : Int32) rfl kb_28 (j_weak (l := [some (.ref v0), some (.int v1), some (.int v2), none, some (.int x354), none]) (And.intro (Or.inr rfl) (And.intro (Or.inr rfl) (And.intro (Or.inr rfl) (And.intro (Or.inl rfl) (And.intro (Or.inr rfl) (And.intro (Or.inl rfl) True.intro)))))) (h))))
                  exact J_some (fun h => j_if_f rfl (cc_eq_f h382) (j_bipush (30 : Int32) rfl kb_30 (j_goto rfl (j_weak (l := [some (.ref v0), some (.int v1), some (.int v2), none, some (.int x354), none]) (And.intro (Or.inr rfl) (And.intro (Or.inr rfl) (And.intro (Or.inr rfl) (And.intro (Or.inl rfl) (And.intro (Or.inr rfl) (And.intro (Or.inl rfl) True.intro)))))) (h)))))
                refine J_bind fun w385 hw385 => ?_
                refine J_cl fun _ σ386 hσ386 => ?_
                refine J_bind fun x388 hx388 => ?_
                refine q_J.step (fun g => j_v0 [.ref v0, .int t383] [] rfl rfl rfl rfl rfl rfl hw385 (Or.inl rfl) (t_Mo_puts (by omega) hσ386) (j_iinc [some (.ref v0), some (.int (v1 + (1 : Int32))), some (.int v2), none, some (.int x354), none] (v1 + (1 : Int32)) rfl rfl (by rw [k32_1]) (Or.inr rfl) rfl (j_aload_n rfl rfl (j_gfr rfl hx388 (j_iload_n rfl rfl (j_iload rfl rfl (g))))))) ?_
                refine J_ite (fun h389 => ?_) (fun h389 => ?_)
                · refine J_bind fun σ390 hσ390 => ?_
                  refine J_bind fun x391 hx391 => ?_
                  refine J_bind fun σ392 hσ392 => ?_
                  exact J_some (fun h => j_if_t rfl (cc_eq_t h389) (j_iconst (2 : Int32) rfl k32_2 (j_ias rfl hσ390 (j_aload_n rfl rfl (j_gfr rfl hx391 (j_iload_n rfl rfl (j_iconst (0 : Int32) rfl k32_0 (j_bas rfl (by decide) hσ392 (j_goto rfl (j_weak (l := [some (.ref v0), some (.int (v1 + (1 : Int32))), some (.int v2), none, none, none]) (And.intro (Or.inr rfl) (And.intro (Or.inr rfl) (And.intro (Or.inr rfl) (And.intro (Or.inr rfl) (And.intro (Or.inl rfl) (And.intro (Or.inr rfl) True.intro)))))) (h)))))))))))
                refine J_bind fun σ393 hσ393 => ?_
                refine J_bind fun x394 hx394 => ?_
                refine J_bind fun σ395 hσ395 => ?_
                exact J_some (fun h => j_if_f rfl (cc_eq_f h389) (j_iconst (1 : Int32) rfl k32_1 (j_goto rfl (j_ias rfl hσ393 (j_aload_n rfl rfl (j_gfr rfl hx394 (j_iload_n rfl rfl (j_iconst (0 : Int32) rfl k32_0 (j_bas rfl (by decide) hσ395 (j_goto rfl (j_weak (l := [some (.ref v0), some (.int (v1 + (1 : Int32))), some (.int v2), none, none, none]) (And.intro (Or.inr rfl) (And.intro (Or.inr rfl) (And.intro (Or.inr rfl) (And.intro (Or.inr rfl) (And.intro (Or.inl rfl) (And.intro (Or.inr rfl) True.intro)))))) (h))))))))))))
              refine J_bind fun w398 hw398 => ?_
              refine J_cl fun _ σ399 hσ399 => ?_
              exact q_J.step (fun g => j_aload_n rfl rfl (j_v0 [.ref v0] [] rfl rfl rfl rfl rfl rfl hw398 (Or.inl rfl) (t_Mo_nextToken (by omega) hσ399) (j_goto rfl (g)))) (l_Mo_reads_L11 hd v0 hR n t396.1 t396.2 σ399)
            refine q_J.step (fun g => j_if_t rfl (cc_ne_t h367) (j_aload_n rfl rfl (j_iload rfl rfl (g)))) ?_
            refine J_sq (fun (t402 : Int32) (σ403 : q_H) => q_G (q_rf fo) d m_Mo_reads o σ' 99 [some (.ref v0), some (.int v1), some (.int v2), none, some (.int x354), none] [.int t402, .ref v0] σ403) ?_ (fun t402 σ403 => ?_)
            · refine J_ite (fun h401 => ?_) (fun h401 => ?_)
              · exact J_some (fun h => j_if_t rfl (cc_eq_t h401) (j_bipush (28 : Int32) rfl kb_28 (j_weak (l := [some (.ref v0), some (.int v1), some (.int v2), none, some (.int x354), none]) (And.intro (Or.inr rfl) (And.intro (Or.inr rfl) (And.intro (Or.inr rfl) (And.intro (Or.inl rfl) (And.intro (Or.inr rfl) (And.intro (Or.inl rfl) True.intro)))))) (h))))
              exact J_some (fun h => j_if_f rfl (cc_eq_f h401) (j_bipush (30 : Int32) rfl kb_30 (j_goto rfl (j_weak (l := [some (.ref v0), some (.int v1), some (.int v2), none, some (.int x354), none]) (And.intro (Or.inr rfl) (And.intro (Or.inr rfl) (And.intro (Or.inr rfl) (And.intro (Or.inl rfl) (And.intro (Or.inr rfl) (And.intro (Or.inl rfl) True.intro)))))) (h)))))
            refine J_bind fun w404 hw404 => ?_
            refine J_cl fun _ σ405 hσ405 => ?_
            refine J_bind fun x407 hx407 => ?_
            refine q_J.step (fun g => j_v0 [.ref v0, .int t402] [] rfl rfl rfl rfl rfl rfl hw404 (Or.inl rfl) (t_Mo_puts (by omega) hσ405) (j_iinc [some (.ref v0), some (.int (v1 + (1 : Int32))), some (.int v2), none, some (.int x354), none] (v1 + (1 : Int32)) rfl rfl (by rw [k32_1]) (Or.inr rfl) rfl (j_aload_n rfl rfl (j_gfr rfl hx407 (j_iload_n rfl rfl (j_iload rfl rfl (g))))))) ?_
            refine J_sq (fun (t409 : Int32) (σ410 : q_H) => q_G (q_rf fo) d m_Mo_reads o σ' 120 [some (.ref v0), some (.int (v1 + (1 : Int32))), some (.int v2), none, none, none] [.int t409, .int (v1 + (1 : Int32)), .ref x407] σ410) ?_ (fun t409 σ410 => ?_)
            · refine J_ite (fun h408 => ?_) (fun h408 => ?_)
              · exact J_some (fun h => j_if_t rfl (cc_eq_t h408) (j_iconst (2 : Int32) rfl k32_2 (j_weak (l := [some (.ref v0), some (.int (v1 + (1 : Int32))), some (.int v2), none, none, none]) (And.intro (Or.inr rfl) (And.intro (Or.inr rfl) (And.intro (Or.inr rfl) (And.intro (Or.inr rfl) (And.intro (Or.inl rfl) (And.intro (Or.inr rfl) True.intro)))))) (h))))
              exact J_some (fun h => j_if_f rfl (cc_eq_f h408) (j_iconst (1 : Int32) rfl k32_1 (j_goto rfl (j_weak (l := [some (.ref v0), some (.int (v1 + (1 : Int32))), some (.int v2), none, none, none]) (And.intro (Or.inr rfl) (And.intro (Or.inr rfl) (And.intro (Or.inr rfl) (And.intro (Or.inr rfl) (And.intro (Or.inl rfl) (And.intro (Or.inr rfl) True.intro)))))) (h)))))
            refine J_bind fun σ411 hσ411 => ?_
            refine J_bind fun x412 hx412 => ?_
            refine J_bind fun σ413 hσ413 => ?_
            refine J_bind fun w414 hw414 => ?_
            refine J_cl fun _ σ415 hσ415 => ?_
            exact q_J.step (fun g => j_ias rfl hσ411 (j_aload_n rfl rfl (j_gfr rfl hx412 (j_iload_n rfl rfl (j_iconst (0 : Int32) rfl k32_0 (j_bas rfl (by decide) hσ413 (j_goto rfl (j_aload_n rfl rfl (j_v0 [.ref v0] [] rfl rfl rfl rfl rfl rfl hw414 (Or.inl rfl) (t_Mo_nextToken (by omega) hσ415) (j_goto rfl (g))))))))))) (l_Mo_reads_L11 hd v0 hR n (v1 + (1 : Int32)) v2 σ415)
          refine J_bind fun w417 hw417 => ?_
          refine J_cl fun x419 σ418 hσ418 => ?_
          refine q_J.step (fun g => j_icmp_f rfl (cc_eq_f h362) (j_aload_n rfl rfl (j_iconst (1 : Int32) rfl k32_1 (j_v1 [.ref v0, .int (1 : Int32)] [] rfl rfl rfl rfl rfl rfl hw417 (Or.inl rfl) (t_Mo_errs (by omega) hσ418) (g))))) ?_
          refine J_ite (fun _ => J_none) (fun hz => ?_)
          replace hz := Decidable.not_not.mp hz
          exact J_some (fun h => j_iret rfl (q_zr hz) (hR _ _ h))
        refine q_J.step (fun g => j_if_t rfl (cc_ne_t h360) (j_iload_n rfl rfl (j_iconst (5 : Int32) rfl k32_5 (g)))) ?_
        refine J_ite (fun h420 => ?_) (fun h420 => ?_)
        · refine J_bind fun w421 hw421 => ?_
          refine J_cl fun x423 σ422 hσ422 => ?_
          refine q_J.step (fun g => j_icmp_f rfl (cc_ne_f h420) (j_aload_n rfl rfl (j_iconst (5 : Int32) rfl k32_5 (j_v1 [.ref v0, .int (5 : Int32)] [] rfl rfl rfl rfl rfl rfl hw421 (Or.inl rfl) (t_Mo_errs (by omega) hσ422) (g))))) ?_
          refine J_ite (fun _ => J_none) (fun hz => ?_)
          replace hz := Decidable.not_not.mp hz
          exact J_some (fun h => j_iret rfl (q_zr hz) (hR _ _ h))
        refine q_J.step (fun g => j_icmp_t rfl (cc_ne_t h420) (j_iload rfl rfl (g))) ?_
        refine J_ite (fun h424 => ?_) (fun h424 => ?_)
        · refine q_J.step (fun g => j_if_f rfl (cc_ne_f h424) (j_iload rfl rfl (g))) ?_
          refine J_sq (fun (t453 : Int32 × Int32) (σ454 : q_H) => q_G (q_rf fo) d m_Mo_reads o σ' 172 [some (.ref v0), some (.int t453.1), some (.int t453.2), none, none, none] [] σ454) ?_ (fun t453 σ454 => ?_)
          · refine J_ite (fun h425 => ?_) (fun h425 => ?_)
            · refine q_J.step (fun g => j_if_t rfl (cc_eq_t h425) (j_aload_n rfl rfl (j_iload_n rfl rfl (g)))) ?_
              refine J_sq (fun (t428 : Int32) (σ429 : q_H) => q_G (q_rf fo) d m_Mo_reads o σ' 147 [some (.ref v0), some (.int v1), none, none, none, none] [.int t428, .ref v0] σ429) ?_ (fun t428 σ429 => ?_)
              · refine J_ite (fun h426 => ?_) (fun h426 => ?_)
                · exact J_some (fun h => j_if_f rfl (cc_le_f h426) (j_iload_n rfl rfl (j_goto rfl (j_weak (l := [some (.ref v0), some (.int v1), none, none, none, none]) (And.intro (Or.inr rfl) (And.intro (Or.inr rfl) (And.intro (Or.inl rfl) (And.intro (Or.inl rfl) (And.intro (Or.inl rfl) (And.intro (Or.inl rfl) True.intro)))))) (h)))))
                refine J_bind fun x427 hx427 => ?_
                exact J_some (fun h => j_if_t rfl (cc_le_t h426) (j_bipush (100 : Int32) rfl kb_100 (j_aload_n rfl rfl (j_gfi rfl hx427 (j_iadd rfl (j_weak (l := [some (.ref v0), some (.int v1), none, none, none, none]) (And.intro (Or.inr rfl) (And.intro (Or.inr rfl) (And.intro (Or.inl rfl) (And.intro (Or.inl rfl) (And.intro (Or.inl rfl) (And.intro (Or.inl rfl) True.intro)))))) (h)))))))
              refine J_bind fun w430 hw430 => ?_
              refine J_cl fun _ σ431 hσ431 => ?_
              refine J_sq (fun (t437 : Int32) (σ438 : q_H) => q_G (q_rf fo) d m_Mo_reads o σ' 172 [some (.ref v0), some (.int t437), some (.int (0 : Int32)), none, none, none] [] σ438) (q_J.step (fun g => j_v0 [.ref v0, .int t428] [] rfl rfl rfl rfl rfl rfl hw430 (Or.inl rfl) (t_Mo_puts (by omega) hσ431) (j_iconst (0 : Int32) rfl k32_0 (j_istore_n [some (.ref v0), some (.int v1), some (.int (0 : Int32)), none, none, none] rfl rfl (Or.inr rfl) rfl (g)))) (l_Mo_reads_L152 hd v0 (0 : Int32) (fun _ _ h => h) q_FU v1 σ431)) (fun t437 σ438 => ?_)
              exact J_some (fun h => h)
            refine q_J.step (fun g => j_if_f rfl (cc_eq_f h425) (j_aload_n rfl rfl (j_iload rfl rfl (g)))) ?_
            refine J_sq (fun (t440 : Int32) (σ441 : q_H) => q_G (q_rf fo) d m_Mo_reads o σ' 99 [some (.ref v0), some (.int v1), some (.int v2), none, some (.int x354), none] [.int t440, .ref v0] σ441) ?_ (fun t440 σ441 => ?_)
            · refine J_ite (fun h439 => ?_) (fun h439 => ?_)
              · exact J_some (fun h => j_if_t rfl (cc_eq_t h439) (j_bipush (28 : Int32) rfl kb_28 (j_weak (l := [some (.ref v0), some (.int v1), some (.int v2), none, some (.int x354), none]) (And.intro (Or.inr rfl) (And.intro (Or.inr rfl) (And.intro (Or.inr rfl) (And.intro (Or.inl rfl) (And.intro (Or.inr rfl) (And.intro (Or.inl rfl) True.intro)))))) (h))))
              exact J_some (fun h => j_if_f rfl (cc_eq_f h439) (j_bipush (30 : Int32) rfl kb_30 (j_goto rfl (j_weak (l := [some (.ref v0), some (.int v1), some (.int v2), none, some (.int x354), none]) (And.intro (Or.inr rfl) (And.intro (Or.inr rfl) (And.intro (Or.inr rfl) (And.intro (Or.inl rfl) (And.intro (Or.inr rfl) (And.intro (Or.inl rfl) True.intro)))))) (h)))))
            refine J_bind fun w442 hw442 => ?_
            refine J_cl fun _ σ443 hσ443 => ?_
            refine J_bind fun x445 hx445 => ?_
            refine q_J.step (fun g => j_v0 [.ref v0, .int t440] [] rfl rfl rfl rfl rfl rfl hw442 (Or.inl rfl) (t_Mo_puts (by omega) hσ443) (j_iinc [some (.ref v0), some (.int (v1 + (1 : Int32))), some (.int v2), none, some (.int x354), none] (v1 + (1 : Int32)) rfl rfl (by rw [k32_1]) (Or.inr rfl) rfl (j_aload_n rfl rfl (j_gfr rfl hx445 (j_iload_n rfl rfl (j_iload rfl rfl (g))))))) ?_
            refine J_ite (fun h446 => ?_) (fun h446 => ?_)
            · refine J_bind fun σ447 hσ447 => ?_
              refine J_bind fun x448 hx448 => ?_
              refine J_bind fun σ449 hσ449 => ?_
              exact J_some (fun h => j_if_t rfl (cc_eq_t h446) (j_iconst (2 : Int32) rfl k32_2 (j_ias rfl hσ447 (j_aload_n rfl rfl (j_gfr rfl hx448 (j_iload_n rfl rfl (j_iconst (0 : Int32) rfl k32_0 (j_bas rfl (by decide) hσ449 (j_goto rfl (j_weak (l := [some (.ref v0), some (.int (v1 + (1 : Int32))), some (.int v2), none, none, none]) (And.intro (Or.inr rfl) (And.intro (Or.inr rfl) (And.intro (Or.inr rfl) (And.intro (Or.inr rfl) (And.intro (Or.inl rfl) (And.intro (Or.inr rfl) True.intro)))))) (h)))))))))))
            refine J_bind fun σ450 hσ450 => ?_
            refine J_bind fun x451 hx451 => ?_
            refine J_bind fun σ452 hσ452 => ?_
            exact J_some (fun h => j_if_f rfl (cc_eq_f h446) (j_iconst (1 : Int32) rfl k32_1 (j_goto rfl (j_ias rfl hσ450 (j_aload_n rfl rfl (j_gfr rfl hx451 (j_iload_n rfl rfl (j_iconst (0 : Int32) rfl k32_0 (j_bas rfl (by decide) hσ452 (j_goto rfl (j_weak (l := [some (.ref v0), some (.int (v1 + (1 : Int32))), some (.int v2), none, none, none]) (And.intro (Or.inr rfl) (And.intro (Or.inr rfl) (And.intro (Or.inr rfl) (And.intro (Or.inr rfl) (And.intro (Or.inl rfl) (And.intro (Or.inr rfl) True.intro)))))) (h))))))))))))
          refine J_bind fun w455 hw455 => ?_
          refine J_cl fun _ σ456 hσ456 => ?_
          exact q_J.step (fun g => j_aload_n rfl rfl (j_v0 [.ref v0] [] rfl rfl rfl rfl rfl rfl hw455 (Or.inl rfl) (t_Mo_nextToken (by omega) hσ456) (j_goto rfl (g)))) (l_Mo_reads_L11 hd v0 hR n t453.1 t453.2 σ456)
        refine q_J.step (fun g => j_if_t rfl (cc_ne_t h424) (j_aload_n rfl rfl (j_iload rfl rfl (g)))) ?_
        refine J_sq (fun (t459 : Int32) (σ460 : q_H) => q_G (q_rf fo) d m_Mo_reads o σ' 99 [some (.ref v0), some (.int v1), some (.int v2), none, some (.int x354), none] [.int t459, .ref v0] σ460) ?_ (fun t459 σ460 => ?_)
        · refine J_ite (fun h458 => ?_) (fun h458 => ?_)
          · exact J_some (fun h => j_if_t rfl (cc_eq_t h458) (j_bipush (28 : Int32) rfl kb_28 (j_weak (l := [some (.ref v0), some (.int v1), some (.int v2), none, some (.int x354), none]) (And.intro (Or.inr rfl) (And.intro (Or.inr rfl) (And.intro (Or.inr rfl) (And.intro (Or.inl rfl) (And.intro (Or.inr rfl) (And.intro (Or.inl rfl) True.intro)))))) (h))))
          exact J_some (fun h => j_if_f rfl (cc_eq_f h458) (j_bipush (30 : Int32) rfl kb_30 (j_goto rfl (j_weak (l := [some (.ref v0), some (.int v1), some (.int v2), none, some (.int x354), none]) (And.intro (Or.inr rfl) (And.intro (Or.inr rfl) (And.intro (Or.inr rfl) (And.intro (Or.inl rfl) (And.intro (Or.inr rfl) (And.intro (Or.inl rfl) True.intro)))))) (h)))))
        refine J_bind fun w461 hw461 => ?_
        refine J_cl fun _ σ462 hσ462 => ?_
        refine J_bind fun x464 hx464 => ?_
        refine q_J.step (fun g => j_v0 [.ref v0, .int t459] [] rfl rfl rfl rfl rfl rfl hw461 (Or.inl rfl) (t_Mo_puts (by omega) hσ462) (j_iinc [some (.ref v0), some (.int (v1 + (1 : Int32))), some (.int v2), none, some (.int x354), none] (v1 + (1 : Int32)) rfl rfl (by rw [k32_1]) (Or.inr rfl) rfl (j_aload_n rfl rfl (j_gfr rfl hx464 (j_iload_n rfl rfl (j_iload rfl rfl (g))))))) ?_
        refine J_sq (fun (t466 : Int32) (σ467 : q_H) => q_G (q_rf fo) d m_Mo_reads o σ' 120 [some (.ref v0), some (.int (v1 + (1 : Int32))), some (.int v2), none, none, none] [.int t466, .int (v1 + (1 : Int32)), .ref x464] σ467) ?_ (fun t466 σ467 => ?_)
        · refine J_ite (fun h465 => ?_) (fun h465 => ?_)
          · exact J_some (fun h => j_if_t rfl (cc_eq_t h465) (j_iconst (2 : Int32) rfl k32_2 (j_weak (l := [some (.ref v0), some (.int (v1 + (1 : Int32))), some (.int v2), none, none, none]) (And.intro (Or.inr rfl) (And.intro (Or.inr rfl) (And.intro (Or.inr rfl) (And.intro (Or.inr rfl) (And.intro (Or.inl rfl) (And.intro (Or.inr rfl) True.intro)))))) (h))))
          exact J_some (fun h => j_if_f rfl (cc_eq_f h465) (j_iconst (1 : Int32) rfl k32_1 (j_goto rfl (j_weak (l := [some (.ref v0), some (.int (v1 + (1 : Int32))), some (.int v2), none, none, none]) (And.intro (Or.inr rfl) (And.intro (Or.inr rfl) (And.intro (Or.inr rfl) (And.intro (Or.inr rfl) (And.intro (Or.inl rfl) (And.intro (Or.inr rfl) True.intro)))))) (h)))))
        refine J_bind fun σ468 hσ468 => ?_
        refine J_bind fun x469 hx469 => ?_
        refine J_bind fun σ470 hσ470 => ?_
        refine J_bind fun w471 hw471 => ?_
        refine J_cl fun _ σ472 hσ472 => ?_
        exact q_J.step (fun g => j_ias rfl hσ468 (j_aload_n rfl rfl (j_gfr rfl hx469 (j_iload_n rfl rfl (j_iconst (0 : Int32) rfl k32_0 (j_bas rfl (by decide) hσ470 (j_goto rfl (j_aload_n rfl rfl (j_v0 [.ref v0] [] rfl rfl rfl rfl rfl rfl hw471 (Or.inl rfl) (t_Mo_nextToken (by omega) hσ472) (j_goto rfl (g))))))))))) (l_Mo_reads_L11 hd v0 hR n (v1 + (1 : Int32)) v2 σ472)
      refine q_J.step (fun g => j_if_t rfl (cc_ne_t h359) (j_iload_n rfl rfl (j_iconst (5 : Int32) rfl k32_5 (g)))) ?_
      refine J_ite (fun h474 => ?_) (fun h474 => ?_)
      · refine J_bind fun w475 hw475 => ?_
        refine J_cl fun x477 σ476 hσ476 => ?_
        refine q_J.step (fun g => j_icmp_f rfl (cc_ne_f h474) (j_aload_n rfl rfl (j_iconst (5 : Int32) rfl k32_5 (j_v1 [.ref v0, .int (5 : Int32)] [] rfl rfl rfl rfl rfl rfl hw475 (Or.inl rfl) (t_Mo_errs (by omega) hσ476) (g))))) ?_
        refine J_ite (fun _ => J_none) (fun hz => ?_)
        replace hz := Decidable.not_not.mp hz
        exact J_some (fun h => j_iret rfl (q_zr hz) (hR _ _ h))
      refine q_J.step (fun g => j_icmp_t rfl (cc_ne_t h474) (j_iload rfl rfl (g))) ?_
      refine J_ite (fun h478 => ?_) (fun h478 => ?_)
      · refine q_J.step (fun g => j_if_f rfl (cc_ne_f h478) (j_iload rfl rfl (g))) ?_
        refine J_sq (fun (t507 : Int32 × Int32) (σ508 : q_H) => q_G (q_rf fo) d m_Mo_reads o σ' 172 [some (.ref v0), some (.int t507.1), some (.int t507.2), none, none, none] [] σ508) ?_ (fun t507 σ508 => ?_)
        · refine J_ite (fun h479 => ?_) (fun h479 => ?_)
          · refine q_J.step (fun g => j_if_t rfl (cc_eq_t h479) (j_aload_n rfl rfl (j_iload_n rfl rfl (g)))) ?_
            refine J_sq (fun (t482 : Int32) (σ483 : q_H) => q_G (q_rf fo) d m_Mo_reads o σ' 147 [some (.ref v0), some (.int v1), none, none, none, none] [.int t482, .ref v0] σ483) ?_ (fun t482 σ483 => ?_)
            · refine J_ite (fun h480 => ?_) (fun h480 => ?_)
              · exact J_some (fun h => j_if_f rfl (cc_le_f h480) (j_iload_n rfl rfl (j_goto rfl (j_weak (l := [some (.ref v0), some (.int v1), none, none, none, none]) (And.intro (Or.inr rfl) (And.intro (Or.inr rfl) (And.intro (Or.inl rfl) (And.intro (Or.inl rfl) (And.intro (Or.inl rfl) (And.intro (Or.inl rfl) True.intro)))))) (h)))))
              refine J_bind fun x481 hx481 => ?_
              exact J_some (fun h => j_if_t rfl (cc_le_t h480) (j_bipush (100 : Int32) rfl kb_100 (j_aload_n rfl rfl (j_gfi rfl hx481 (j_iadd rfl (j_weak (l := [some (.ref v0), some (.int v1), none, none, none, none]) (And.intro (Or.inr rfl) (And.intro (Or.inr rfl) (And.intro (Or.inl rfl) (And.intro (Or.inl rfl) (And.intro (Or.inl rfl) (And.intro (Or.inl rfl) True.intro)))))) (h)))))))
            refine J_bind fun w484 hw484 => ?_
            refine J_cl fun _ σ485 hσ485 => ?_
            refine J_sq (fun (t491 : Int32) (σ492 : q_H) => q_G (q_rf fo) d m_Mo_reads o σ' 172 [some (.ref v0), some (.int t491), some (.int (0 : Int32)), none, none, none] [] σ492) (q_J.step (fun g => j_v0 [.ref v0, .int t482] [] rfl rfl rfl rfl rfl rfl hw484 (Or.inl rfl) (t_Mo_puts (by omega) hσ485) (j_iconst (0 : Int32) rfl k32_0 (j_istore_n [some (.ref v0), some (.int v1), some (.int (0 : Int32)), none, none, none] rfl rfl (Or.inr rfl) rfl (g)))) (l_Mo_reads_L152 hd v0 (0 : Int32) (fun _ _ h => h) q_FU v1 σ485)) (fun t491 σ492 => ?_)
            exact J_some (fun h => h)
          refine q_J.step (fun g => j_if_f rfl (cc_eq_f h479) (j_aload_n rfl rfl (j_iload rfl rfl (g)))) ?_
          refine J_sq (fun (t494 : Int32) (σ495 : q_H) => q_G (q_rf fo) d m_Mo_reads o σ' 99 [some (.ref v0), some (.int v1), some (.int v2), none, some (.int x354), none] [.int t494, .ref v0] σ495) ?_ (fun t494 σ495 => ?_)
          · refine J_ite (fun h493 => ?_) (fun h493 => ?_)
            · exact J_some (fun h => j_if_t rfl (cc_eq_t h493) (j_bipush (28 : Int32) rfl kb_28 (j_weak (l := [some (.ref v0), some (.int v1), some (.int v2), none, some (.int x354), none]) (And.intro (Or.inr rfl) (And.intro (Or.inr rfl) (And.intro (Or.inr rfl) (And.intro (Or.inl rfl) (And.intro (Or.inr rfl) (And.intro (Or.inl rfl) True.intro)))))) (h))))
            exact J_some (fun h => j_if_f rfl (cc_eq_f h493) (j_bipush (30 : Int32) rfl kb_30 (j_goto rfl (j_weak (l := [some (.ref v0), some (.int v1), some (.int v2), none, some (.int x354), none]) (And.intro (Or.inr rfl) (And.intro (Or.inr rfl) (And.intro (Or.inr rfl) (And.intro (Or.inl rfl) (And.intro (Or.inr rfl) (And.intro (Or.inl rfl) True.intro)))))) (h)))))
          refine J_bind fun w496 hw496 => ?_
          refine J_cl fun _ σ497 hσ497 => ?_
          refine J_bind fun x499 hx499 => ?_
          refine q_J.step (fun g => j_v0 [.ref v0, .int t494] [] rfl rfl rfl rfl rfl rfl hw496 (Or.inl rfl) (t_Mo_puts (by omega) hσ497) (j_iinc [some (.ref v0), some (.int (v1 + (1 : Int32))), some (.int v2), none, some (.int x354), none] (v1 + (1 : Int32)) rfl rfl (by rw [k32_1]) (Or.inr rfl) rfl (j_aload_n rfl rfl (j_gfr rfl hx499 (j_iload_n rfl rfl (j_iload rfl rfl (g))))))) ?_
          refine J_ite (fun h500 => ?_) (fun h500 => ?_)
          · refine J_bind fun σ501 hσ501 => ?_
            refine J_bind fun x502 hx502 => ?_
            refine J_bind fun σ503 hσ503 => ?_
            exact J_some (fun h => j_if_t rfl (cc_eq_t h500) (j_iconst (2 : Int32) rfl k32_2 (j_ias rfl hσ501 (j_aload_n rfl rfl (j_gfr rfl hx502 (j_iload_n rfl rfl (j_iconst (0 : Int32) rfl k32_0 (j_bas rfl (by decide) hσ503 (j_goto rfl (j_weak (l := [some (.ref v0), some (.int (v1 + (1 : Int32))), some (.int v2), none, none, none]) (And.intro (Or.inr rfl) (And.intro (Or.inr rfl) (And.intro (Or.inr rfl) (And.intro (Or.inr rfl) (And.intro (Or.inl rfl) (And.intro (Or.inr rfl) True.intro)))))) (h)))))))))))
          refine J_bind fun σ504 hσ504 => ?_
          refine J_bind fun x505 hx505 => ?_
          refine J_bind fun σ506 hσ506 => ?_
          exact J_some (fun h => j_if_f rfl (cc_eq_f h500) (j_iconst (1 : Int32) rfl k32_1 (j_goto rfl (j_ias rfl hσ504 (j_aload_n rfl rfl (j_gfr rfl hx505 (j_iload_n rfl rfl (j_iconst (0 : Int32) rfl k32_0 (j_bas rfl (by decide) hσ506 (j_goto rfl (j_weak (l := [some (.ref v0), some (.int (v1 + (1 : Int32))), some (.int v2), none, none, none]) (And.intro (Or.inr rfl) (And.intro (Or.inr rfl) (And.intro (Or.inr rfl) (And.intro (Or.inr rfl) (And.intro (Or.inl rfl) (And.intro (Or.inr rfl) True.intro)))))) (h))))))))))))
        refine J_bind fun w509 hw509 => ?_
        refine J_cl fun _ σ510 hσ510 => ?_
        exact q_J.step (fun g => j_aload_n rfl rfl (j_v0 [.ref v0] [] rfl rfl rfl rfl rfl rfl hw509 (Or.inl rfl) (t_Mo_nextToken (by omega) hσ510) (j_goto rfl (g)))) (l_Mo_reads_L11 hd v0 hR n t507.1 t507.2 σ510)
      refine q_J.step (fun g => j_if_t rfl (cc_ne_t h478) (j_aload_n rfl rfl (j_iload rfl rfl (g)))) ?_
      refine J_sq (fun (t513 : Int32) (σ514 : q_H) => q_G (q_rf fo) d m_Mo_reads o σ' 99 [some (.ref v0), some (.int v1), some (.int v2), none, some (.int x354), none] [.int t513, .ref v0] σ514) ?_ (fun t513 σ514 => ?_)
      · refine J_ite (fun h512 => ?_) (fun h512 => ?_)
        · exact J_some (fun h => j_if_t rfl (cc_eq_t h512) (j_bipush (28 : Int32) rfl kb_28 (j_weak (l := [some (.ref v0), some (.int v1), some (.int v2), none, some (.int x354), none]) (And.intro (Or.inr rfl) (And.intro (Or.inr rfl) (And.intro (Or.inr rfl) (And.intro (Or.inl rfl) (And.intro (Or.inr rfl) (And.intro (Or.inl rfl) True.intro)))))) (h))))
        exact J_some (fun h => j_if_f rfl (cc_eq_f h512) (j_bipush (30 : Int32) rfl kb_30 (j_goto rfl (j_weak (l := [some (.ref v0), some (.int v1), some (.int v2), none, some (.int x354), none]) (And.intro (Or.inr rfl) (And.intro (Or.inr rfl) (And.intro (Or.inr rfl) (And.intro (Or.inl rfl) (And.intro (Or.inr rfl) (And.intro (Or.inl rfl) True.intro)))))) (h)))))
      refine J_bind fun w515 hw515 => ?_
      refine J_cl fun _ σ516 hσ516 => ?_
      refine J_bind fun x518 hx518 => ?_
      refine q_J.step (fun g => j_v0 [.ref v0, .int t513] [] rfl rfl rfl rfl rfl rfl hw515 (Or.inl rfl) (t_Mo_puts (by omega) hσ516) (j_iinc [some (.ref v0), some (.int (v1 + (1 : Int32))), some (.int v2), none, some (.int x354), none] (v1 + (1 : Int32)) rfl rfl (by rw [k32_1]) (Or.inr rfl) rfl (j_aload_n rfl rfl (j_gfr rfl hx518 (j_iload_n rfl rfl (j_iload rfl rfl (g))))))) ?_
      refine J_sq (fun (t520 : Int32) (σ521 : q_H) => q_G (q_rf fo) d m_Mo_reads o σ' 120 [some (.ref v0), some (.int (v1 + (1 : Int32))), some (.int v2), none, none, none] [.int t520, .int (v1 + (1 : Int32)), .ref x518] σ521) ?_ (fun t520 σ521 => ?_)
      · refine J_ite (fun h519 => ?_) (fun h519 => ?_)
        · exact J_some (fun h => j_if_t rfl (cc_eq_t h519) (j_iconst (2 : Int32) rfl k32_2 (j_weak (l := [some (.ref v0), some (.int (v1 + (1 : Int32))), some (.int v2), none, none, none]) (And.intro (Or.inr rfl) (And.intro (Or.inr rfl) (And.intro (Or.inr rfl) (And.intro (Or.inr rfl) (And.intro (Or.inl rfl) (And.intro (Or.inr rfl) True.intro)))))) (h))))
        exact J_some (fun h => j_if_f rfl (cc_eq_f h519) (j_iconst (1 : Int32) rfl k32_1 (j_goto rfl (j_weak (l := [some (.ref v0), some (.int (v1 + (1 : Int32))), some (.int v2), none, none, none]) (And.intro (Or.inr rfl) (And.intro (Or.inr rfl) (And.intro (Or.inr rfl) (And.intro (Or.inr rfl) (And.intro (Or.inl rfl) (And.intro (Or.inr rfl) True.intro)))))) (h)))))
      refine J_bind fun σ522 hσ522 => ?_
      refine J_bind fun x523 hx523 => ?_
      refine J_bind fun σ524 hσ524 => ?_
      refine J_bind fun w525 hw525 => ?_
      refine J_cl fun _ σ526 hσ526 => ?_
      exact q_J.step (fun g => j_ias rfl hσ522 (j_aload_n rfl rfl (j_gfr rfl hx523 (j_iload_n rfl rfl (j_iconst (0 : Int32) rfl k32_0 (j_bas rfl (by decide) hσ524 (j_goto rfl (j_aload_n rfl rfl (j_v0 [.ref v0] [] rfl rfl rfl rfl rfl rfl hw525 (Or.inl rfl) (t_Mo_nextToken (by omega) hσ526) (j_goto rfl (g))))))))))) (l_Mo_reads_L11 hd v0 hR n (v1 + (1 : Int32)) v2 σ526)
    refine q_J.step (fun g => j_if_t rfl (cc_ne_t h358) (j_iload_n rfl rfl (j_iconst (5 : Int32) rfl k32_5 (g)))) ?_
    refine J_ite (fun h528 => ?_) (fun h528 => ?_)
    · refine J_bind fun w529 hw529 => ?_
      refine J_cl fun x531 σ530 hσ530 => ?_
      refine q_J.step (fun g => j_icmp_f rfl (cc_ne_f h528) (j_aload_n rfl rfl (j_iconst (5 : Int32) rfl k32_5 (j_v1 [.ref v0, .int (5 : Int32)] [] rfl rfl rfl rfl rfl rfl hw529 (Or.inl rfl) (t_Mo_errs (by omega) hσ530) (g))))) ?_
      refine J_ite (fun _ => J_none) (fun hz => ?_)
      replace hz := Decidable.not_not.mp hz
      exact J_some (fun h => j_iret rfl (q_zr hz) (hR _ _ h))
    refine q_J.step (fun g => j_icmp_t rfl (cc_ne_t h528) (j_iload rfl rfl (g))) ?_
    refine J_ite (fun h532 => ?_) (fun h532 => ?_)
    · refine q_J.step (fun g => j_if_f rfl (cc_ne_f h532) (j_iload rfl rfl (g))) ?_
      refine J_sq (fun (t561 : Int32 × Int32) (σ562 : q_H) => q_G (q_rf fo) d m_Mo_reads o σ' 172 [some (.ref v0), some (.int t561.1), some (.int t561.2), none, none, none] [] σ562) ?_ (fun t561 σ562 => ?_)
      · refine J_ite (fun h533 => ?_) (fun h533 => ?_)
        · refine q_J.step (fun g => j_if_t rfl (cc_eq_t h533) (j_aload_n rfl rfl (j_iload_n rfl rfl (g)))) ?_
          refine J_sq (fun (t536 : Int32) (σ537 : q_H) => q_G (q_rf fo) d m_Mo_reads o σ' 147 [some (.ref v0), some (.int v1), none, none, none, none] [.int t536, .ref v0] σ537) ?_ (fun t536 σ537 => ?_)
          · refine J_ite (fun h534 => ?_) (fun h534 => ?_)
            · exact J_some (fun h => j_if_f rfl (cc_le_f h534) (j_iload_n rfl rfl (j_goto rfl (j_weak (l := [some (.ref v0), some (.int v1), none, none, none, none]) (And.intro (Or.inr rfl) (And.intro (Or.inr rfl) (And.intro (Or.inl rfl) (And.intro (Or.inl rfl) (And.intro (Or.inl rfl) (And.intro (Or.inl rfl) True.intro)))))) (h)))))
            refine J_bind fun x535 hx535 => ?_
            exact J_some (fun h => j_if_t rfl (cc_le_t h534) (j_bipush (100 : Int32) rfl kb_100 (j_aload_n rfl rfl (j_gfi rfl hx535 (j_iadd rfl (j_weak (l := [some (.ref v0), some (.int v1), none, none, none, none]) (And.intro (Or.inr rfl) (And.intro (Or.inr rfl) (And.intro (Or.inl rfl) (And.intro (Or.inl rfl) (And.intro (Or.inl rfl) (And.intro (Or.inl rfl) True.intro)))))) (h)))))))
          refine J_bind fun w538 hw538 => ?_
          refine J_cl fun _ σ539 hσ539 => ?_
          refine J_sq (fun (t545 : Int32) (σ546 : q_H) => q_G (q_rf fo) d m_Mo_reads o σ' 172 [some (.ref v0), some (.int t545), some (.int (0 : Int32)), none, none, none] [] σ546) (q_J.step (fun g => j_v0 [.ref v0, .int t536] [] rfl rfl rfl rfl rfl rfl hw538 (Or.inl rfl) (t_Mo_puts (by omega) hσ539) (j_iconst (0 : Int32) rfl k32_0 (j_istore_n [some (.ref v0), some (.int v1), some (.int (0 : Int32)), none, none, none] rfl rfl (Or.inr rfl) rfl (g)))) (l_Mo_reads_L152 hd v0 (0 : Int32) (fun _ _ h => h) q_FU v1 σ539)) (fun t545 σ546 => ?_)
          exact J_some (fun h => h)
        refine q_J.step (fun g => j_if_f rfl (cc_eq_f h533) (j_aload_n rfl rfl (j_iload rfl rfl (g)))) ?_
        refine J_sq (fun (t548 : Int32) (σ549 : q_H) => q_G (q_rf fo) d m_Mo_reads o σ' 99 [some (.ref v0), some (.int v1), some (.int v2), none, some (.int x354), none] [.int t548, .ref v0] σ549) ?_ (fun t548 σ549 => ?_)
        · refine J_ite (fun h547 => ?_) (fun h547 => ?_)
          · exact J_some (fun h => j_if_t rfl (cc_eq_t h547) (j_bipush (28 : Int32) rfl kb_28 (j_weak (l := [some (.ref v0), some (.int v1), some (.int v2), none, some (.int x354), none]) (And.intro (Or.inr rfl) (And.intro (Or.inr rfl) (And.intro (Or.inr rfl) (And.intro (Or.inl rfl) (And.intro (Or.inr rfl) (And.intro (Or.inl rfl) True.intro)))))) (h))))
          exact J_some (fun h => j_if_f rfl (cc_eq_f h547) (j_bipush (30 : Int32) rfl kb_30 (j_goto rfl (j_weak (l := [some (.ref v0), some (.int v1), some (.int v2), none, some (.int x354), none]) (And.intro (Or.inr rfl) (And.intro (Or.inr rfl) (And.intro (Or.inr rfl) (And.intro (Or.inl rfl) (And.intro (Or.inr rfl) (And.intro (Or.inl rfl) True.intro)))))) (h)))))
        refine J_bind fun w550 hw550 => ?_
        refine J_cl fun _ σ551 hσ551 => ?_
        refine J_bind fun x553 hx553 => ?_
        refine q_J.step (fun g => j_v0 [.ref v0, .int t548] [] rfl rfl rfl rfl rfl rfl hw550 (Or.inl rfl) (t_Mo_puts (by omega) hσ551) (j_iinc [some (.ref v0), some (.int (v1 + (1 : Int32))), some (.int v2), none, some (.int x354), none] (v1 + (1 : Int32)) rfl rfl (by rw [k32_1]) (Or.inr rfl) rfl (j_aload_n rfl rfl (j_gfr rfl hx553 (j_iload_n rfl rfl (j_iload rfl rfl (g))))))) ?_
        refine J_ite (fun h554 => ?_) (fun h554 => ?_)
        · refine J_bind fun σ555 hσ555 => ?_
          refine J_bind fun x556 hx556 => ?_
          refine J_bind fun σ557 hσ557 => ?_
          exact J_some (fun h => j_if_t rfl (cc_eq_t h554) (j_iconst (2 : Int32) rfl k32_2 (j_ias rfl hσ555 (j_aload_n rfl rfl (j_gfr rfl hx556 (j_iload_n rfl rfl (j_iconst (0 : Int32) rfl k32_0 (j_bas rfl (by decide) hσ557 (j_goto rfl (j_weak (l := [some (.ref v0), some (.int (v1 + (1 : Int32))), some (.int v2), none, none, none]) (And.intro (Or.inr rfl) (And.intro (Or.inr rfl) (And.intro (Or.inr rfl) (And.intro (Or.inr rfl) (And.intro (Or.inl rfl) (And.intro (Or.inr rfl) True.intro)))))) (h)))))))))))
        refine J_bind fun σ558 hσ558 => ?_
        refine J_bind fun x559 hx559 => ?_
        refine J_bind fun σ560 hσ560 => ?_
        exact J_some (fun h => j_if_f rfl (cc_eq_f h554) (j_iconst (1 : Int32) rfl k32_1 (j_goto rfl (j_ias rfl hσ558 (j_aload_n rfl rfl (j_gfr rfl hx559 (j_iload_n rfl rfl (j_iconst (0 : Int32) rfl k32_0 (j_bas rfl (by decide) hσ560 (j_goto rfl (j_weak (l := [some (.ref v0), some (.int (v1 + (1 : Int32))), some (.int v2), none, none, none]) (And.intro (Or.inr rfl) (And.intro (Or.inr rfl) (And.intro (Or.inr rfl) (And.intro (Or.inr rfl) (And.intro (Or.inl rfl) (And.intro (Or.inr rfl) True.intro)))))) (h))))))))))))
      refine J_bind fun w563 hw563 => ?_
      refine J_cl fun _ σ564 hσ564 => ?_
      exact q_J.step (fun g => j_aload_n rfl rfl (j_v0 [.ref v0] [] rfl rfl rfl rfl rfl rfl hw563 (Or.inl rfl) (t_Mo_nextToken (by omega) hσ564) (j_goto rfl (g)))) (l_Mo_reads_L11 hd v0 hR n t561.1 t561.2 σ564)
    refine q_J.step (fun g => j_if_t rfl (cc_ne_t h532) (j_aload_n rfl rfl (j_iload rfl rfl (g)))) ?_
    refine J_sq (fun (t567 : Int32) (σ568 : q_H) => q_G (q_rf fo) d m_Mo_reads o σ' 99 [some (.ref v0), some (.int v1), some (.int v2), none, some (.int x354), none] [.int t567, .ref v0] σ568) ?_ (fun t567 σ568 => ?_)
    · refine J_ite (fun h566 => ?_) (fun h566 => ?_)
      · exact J_some (fun h => j_if_t rfl (cc_eq_t h566) (j_bipush (28 : Int32) rfl kb_28 (j_weak (l := [some (.ref v0), some (.int v1), some (.int v2), none, some (.int x354), none]) (And.intro (Or.inr rfl) (And.intro (Or.inr rfl) (And.intro (Or.inr rfl) (And.intro (Or.inl rfl) (And.intro (Or.inr rfl) (And.intro (Or.inl rfl) True.intro)))))) (h))))
      exact J_some (fun h => j_if_f rfl (cc_eq_f h566) (j_bipush (30 : Int32) rfl kb_30 (j_goto rfl (j_weak (l := [some (.ref v0), some (.int v1), some (.int v2), none, some (.int x354), none]) (And.intro (Or.inr rfl) (And.intro (Or.inr rfl) (And.intro (Or.inr rfl) (And.intro (Or.inl rfl) (And.intro (Or.inr rfl) (And.intro (Or.inl rfl) True.intro)))))) (h)))))
    refine J_bind fun w569 hw569 => ?_
    refine J_cl fun _ σ570 hσ570 => ?_
    refine J_bind fun x572 hx572 => ?_
    refine q_J.step (fun g => j_v0 [.ref v0, .int t567] [] rfl rfl rfl rfl rfl rfl hw569 (Or.inl rfl) (t_Mo_puts (by omega) hσ570) (j_iinc [some (.ref v0), some (.int (v1 + (1 : Int32))), some (.int v2), none, some (.int x354), none] (v1 + (1 : Int32)) rfl rfl (by rw [k32_1]) (Or.inr rfl) rfl (j_aload_n rfl rfl (j_gfr rfl hx572 (j_iload_n rfl rfl (j_iload rfl rfl (g))))))) ?_
    refine J_sq (fun (t574 : Int32) (σ575 : q_H) => q_G (q_rf fo) d m_Mo_reads o σ' 120 [some (.ref v0), some (.int (v1 + (1 : Int32))), some (.int v2), none, none, none] [.int t574, .int (v1 + (1 : Int32)), .ref x572] σ575) ?_ (fun t574 σ575 => ?_)
    · refine J_ite (fun h573 => ?_) (fun h573 => ?_)
      · exact J_some (fun h => j_if_t rfl (cc_eq_t h573) (j_iconst (2 : Int32) rfl k32_2 (j_weak (l := [some (.ref v0), some (.int (v1 + (1 : Int32))), some (.int v2), none, none, none]) (And.intro (Or.inr rfl) (And.intro (Or.inr rfl) (And.intro (Or.inr rfl) (And.intro (Or.inr rfl) (And.intro (Or.inl rfl) (And.intro (Or.inr rfl) True.intro)))))) (h))))
      exact J_some (fun h => j_if_f rfl (cc_eq_f h573) (j_iconst (1 : Int32) rfl k32_1 (j_goto rfl (j_weak (l := [some (.ref v0), some (.int (v1 + (1 : Int32))), some (.int v2), none, none, none]) (And.intro (Or.inr rfl) (And.intro (Or.inr rfl) (And.intro (Or.inr rfl) (And.intro (Or.inr rfl) (And.intro (Or.inl rfl) (And.intro (Or.inr rfl) True.intro)))))) (h)))))
    refine J_bind fun σ576 hσ576 => ?_
    refine J_bind fun x577 hx577 => ?_
    refine J_bind fun σ578 hσ578 => ?_
    refine J_bind fun w579 hw579 => ?_
    refine J_cl fun _ σ580 hσ580 => ?_
    exact q_J.step (fun g => j_ias rfl hσ576 (j_aload_n rfl rfl (j_gfr rfl hx577 (j_iload_n rfl rfl (j_iconst (0 : Int32) rfl k32_0 (j_bas rfl (by decide) hσ578 (j_goto rfl (j_aload_n rfl rfl (j_v0 [.ref v0] [] rfl rfl rfl rfl rfl rfl hw579 (Or.inl rfl) (t_Mo_nextToken (by omega) hσ580) (j_goto rfl (g))))))))))) (l_Mo_reads_L11 hd v0 hR n (v1 + (1 : Int32)) v2 σ580)

def f_Mo_reads (v0 : Nat) (σ : q_H) : Option ((Int32) × q_H) := (q_gr (q_gf σ 12 v0 41)).bind fun x1 => (q_sa σ 22 x1 (0 : Int32) (.int (0 : Int32))).bind fun σ2 => q_sq (f_Mo_reads_L11 v0 q_FU (0 : Int32) (1 : Int32) σ2) fun r584 σ583 => some (r584, σ583)
set_option maxRecDepth 100000 in
theorem b_Mo_reads {fo : Option Nat} {d : Nat} (hd : 3 ≤ d + 1) {o : q_O} {σ' : q_H} (v0 : Nat) (σ : q_H) : q_J (fun (r : Int32) (σ1 : q_H) => o = .inl (some (.int r)) ∧ σ' = σ1) (f_Mo_reads v0 σ) (q_G (q_rf fo) d m_Mo_reads o σ' 0 [some (.ref v0), none, none, none, none, none] [] σ) := by
  unfold f_Mo_reads
  refine J_bind fun x1 hx1 => ?_
  refine J_bind fun σ2 hσ2 => ?_
  refine J_sq (fun (r : Int32) (σ1 : q_H) => o = .inl (some (.int r)) ∧ σ' = σ1) (q_J.step (fun g => j_iconst (0 : Int32) rfl k32_0 (j_istore_n [some (.ref v0), some (.int (0 : Int32)), none, none, none, none] rfl rfl (Or.inr rfl) rfl (j_iconst (1 : Int32) rfl k32_1 (j_istore_n [some (.ref v0), some (.int (0 : Int32)), some (.int (1 : Int32)), none, none, none] rfl rfl (Or.inr rfl) rfl (j_aload_n rfl rfl (j_gfr rfl hx1 (j_iconst (0 : Int32) rfl k32_0 (j_iconst (0 : Int32) rfl k32_0 (j_bas rfl (by decide) hσ2 (g)))))))))) (l_Mo_reads_L11 hd v0 (fun _ _ h => h) q_FU (0 : Int32) (1 : Int32) σ2)) (fun r584 σ583 => ?_)
  exact J_some (fun h => h)
theorem t_Mo_reads {fo : Option Nat} {d : Nat} (hd : 3 ≤ d) {v0 : Nat} {σ σ1 : q_H} {r : Int32} (h : f_Mo_reads v0 σ = some (r, σ1)) : q_Rel (q_rf fo) q_Ms d 250 [.ref v0] σ (.inl (some (.int r))) σ1 := by
  obtain ⟨d, rfl⟩ : ∃ d1, d = d1 + 1 := ⟨d - 1, by omega⟩
  exact q_Rel.of rfl rfl (b_Mo_reads hd _ σ _ _ h ⟨rfl, rfl⟩)

def f_Mo_worth_L268 (v0 : Nat) (v1 : Int32) (v3 : Int32) : Nat → Int32 → Int32 → q_H → Option ((Int32 × Int32) × q_H)
  | 0, _, _, _ => none
  | n + 1, v2, v5, σ => if (0 : Int32) < v2 then ((q_gr (q_gf σ 12 v0 50)).bind fun x99 => (q_gi (q_ga σ 20 x99 v2)).bind fun x100 => if x100 = (1 : Int32) then (if v5 = (0 : Int32) then (f_Mo_worth_L268 v0 v1 v3 n (v2 + (-1 : Int32)) (1 : Int32) σ) else (f_Mo_worth_L268 v0 v1 v3 n (v2 + (-1 : Int32)) (0 : Int32) σ)) else (some ((v2, v5), σ))) else (some ((v2, v5), σ))
set_option maxRecDepth 100000 in
theorem l_Mo_worth_L268 {fo : Option Nat} {d : Nat} (hd : 3 ≤ d + 1) {o : q_O} {σ' : q_H} {E : (Int32 × Int32) → q_H → Prop} (v0 : Nat) (v1 : Int32) (v3 : Int32) (hX : ∀ (t : Int32 × Int32) σ1, E (t) σ1 → q_G (q_rf fo) d m_Mo_worth o σ' 300 [some (.ref v0), some (.int v1), some (.int t.1), some (.int v3), none, some (.int t.2)] [] σ1)  : ∀ (n : Nat) (v2 : Int32) (v5 : Int32) (σ : q_H), q_J E (f_Mo_worth_L268 v0 v1 v3 n v2 v5 σ) (q_G (q_rf fo) d m_Mo_worth o σ' 268 [some (.ref v0), some (.int v1), some (.int v2), some (.int v3), none, some (.int v5)] [] σ)
  | 0, v2, v5, σ => J_none
  | n + 1, v2, v5, σ => by
    unfold f_Mo_worth_L268
    refine q_J.step (fun g => j_iload_n rfl rfl (g)) ?_
    refine J_ite (fun h98 => ?_) (fun h98 => ?_)
    · refine J_bind fun x99 hx99 => ?_
      refine J_bind fun x100 hx100 => ?_
      refine q_J.step (fun g => j_if_f rfl (cc_le_f h98) (j_aload_n rfl rfl (j_gfr rfl hx99 (j_iload_n rfl rfl (j_ial rfl hx100 (j_iconst (1 : Int32) rfl k32_1 (g))))))) ?_
      refine J_ite (fun h101 => ?_) (fun h101 => ?_)
      · refine q_J.step (fun g => j_icmp_f rfl (cc_ne_f h101) (j_iload rfl rfl (g))) ?_
        refine J_ite (fun h102 => ?_) (fun h102 => ?_)
        · exact q_J.step (fun g => j_if_f rfl (cc_ne_f h102) (j_iconst (1 : Int32) rfl k32_1 (j_goto rfl (j_istore [some (.ref v0), some (.int v1), some (.int v2), some (.int v3), none, some (.int (1 : Int32))] rfl rfl (Or.inr True.intro) rfl (j_iinc [some (.ref v0), some (.int v1), some (.int (v2 + (-1 : Int32))), some (.int v3), none, some (.int (1 : Int32))] (v2 + (-1 : Int32)) rfl rfl (by rw [k32_m1]) (Or.inr rfl) rfl (j_goto rfl (g))))))) (l_Mo_worth_L268 hd v0 v1 v3 hX n (v2 + (-1 : Int32)) (1 : Int32) σ)
        exact q_J.step (fun g => j_if_t rfl (cc_ne_t h102) (j_iconst (0 : Int32) rfl k32_0 (j_istore [some (.ref v0), some (.int v1), some (.int v2), some (.int v3), none, some (.int (0 : Int32))] rfl rfl (Or.inr True.intro) rfl (j_iinc [some (.ref v0), some (.int v1), some (.int (v2 + (-1 : Int32))), some (.int v3), none, some (.int (0 : Int32))] (v2 + (-1 : Int32)) rfl rfl (by rw [k32_m1]) (Or.inr rfl) rfl (j_goto rfl (g)))))) (l_Mo_worth_L268 hd v0 v1 v3 hX n (v2 + (-1 : Int32)) (0 : Int32) σ)
      exact J_some (fun h => j_icmp_t rfl (cc_ne_t h101) (hX _ _ h))
    exact J_some (fun h => j_if_t rfl (cc_le_t h98) (hX _ _ h))

def f_Mo_worth_L14 (v0 : Nat) (v1 : Int32) : Nat → Int32 → Int32 → q_H → Option ((Unit) × q_H)
  | 0, _, _, _ => none
  | n + 1, v2, v3, σ => (q_gr (q_gf σ 12 v0 37)).bind fun x6 => (q_gi (q_ga σ 20 x6 v1)).bind fun x7 => if v3 < x7 then ((q_gr (q_gf σ 12 v0 38)).bind fun x9 => (q_gi (q_ga σ 20 x9 v3)).bind fun x10 => if x10 = (28 : Int32) then ((q_gr (q_gf σ 12 v0 50)).bind fun x12 => q_sq (if x10 = (30 : Int32) then (some ((1 : Int32), σ)) else (some ((0 : Int32), σ))) fun (t14 : Int32) σ15 => (q_sa σ15 20 x12 (v2 + (1 : Int32)) (.int t14)).bind fun σ16 => (q_ob σ16 12 v0).bind fun w17 => q_sq (f_Mo_opens v0 (v2 + (1 : Int32)) σ16) fun (_ : Unit) σ18 => f_Mo_worth_L14 v0 v1 n (v2 + (1 : Int32)) (v3 + (1 : Int32)) σ18) else (if x10 = (30 : Int32) then ((q_gr (q_gf σ 12 v0 50)).bind fun x21 => q_sq (if x10 = (30 : Int32) then (some ((1 : Int32), σ)) else (some ((0 : Int32), σ))) fun (t23 : Int32) σ24 => (q_sa σ24 20 x21 (v2 + (1 : Int32)) (.int t23)).bind fun σ25 => (q_ob σ25 12 v0).bind fun w26 => q_sq (f_Mo_opens v0 (v2 + (1 : Int32)) σ25) fun (_ : Unit) σ27 => f_Mo_worth_L14 v0 v1 n (v2 + (1 : Int32)) (v3 + (1 : Int32)) σ27) else (if x10 = (20 : Int32) then ((q_ob σ 12 v0).bind fun w30 => q_sq (f_Mo_sums v0 v2 σ) fun (_ : Unit) σ31 => (q_gr (q_gf σ31 12 v0 47)).bind fun x33 => (q_sa σ31 20 x33 v2 (.int x10)).bind fun σ34 => f_Mo_worth_L14 v0 v1 n v2 (v3 + (1 : Int32)) σ34) else (if x10 = (21 : Int32) then ((q_ob σ 12 v0).bind fun w36 => q_sq (f_Mo_sums v0 v2 σ) fun (_ : Unit) σ37 => (q_gr (q_gf σ37 12 v0 47)).bind fun x39 => (q_sa σ37 20 x39 v2 (.int x10)).bind fun σ40 => f_Mo_worth_L14 v0 v1 n v2 (v3 + (1 : Int32)) σ40) else (if x10 = (22 : Int32) then ((q_gr (q_gf σ 12 v0 49)).bind fun x42 => (q_sa σ 20 x42 v2 (.int x10)).bind fun σ43 => f_Mo_worth_L14 v0 v1 n v2 (v3 + (1 : Int32)) σ43) else (if x10 = (24 : Int32) then ((q_ob σ 12 v0).bind fun w45 => q_sq (f_Mo_sums v0 v2 σ) fun (_ : Unit) σ46 => (q_gr (q_gf σ46 12 v0 44)).bind fun x48 => (q_gr (q_gf σ46 12 v0 46)).bind fun x49 => (q_gi (q_ga σ46 20 x49 v2)).bind fun x50 => (q_sa σ46 20 x48 v2 (.int x50)).bind fun σ51 => (q_gr (q_gf σ51 12 v0 45)).bind fun x52 => (q_sa σ51 20 x52 v2 (.int x10)).bind fun σ53 => (q_gr (q_gf σ53 12 v0 46)).bind fun x54 => (q_sa σ53 20 x54 v2 (.int (0 : Int32))).bind fun σ55 => (q_gr (q_gf σ55 12 v0 47)).bind fun x56 => (q_sa σ55 20 x56 v2 (.int (20 : Int32))).bind fun σ57 => f_Mo_worth_L14 v0 v1 n v2 (v3 + (1 : Int32)) σ57) else (if x10 = (25 : Int32) then ((q_ob σ 12 v0).bind fun w59 => q_sq (f_Mo_sums v0 v2 σ) fun (_ : Unit) σ60 => (q_gr (q_gf σ60 12 v0 44)).bind fun x62 => (q_gr (q_gf σ60 12 v0 46)).bind fun x63 => (q_gi (q_ga σ60 20 x63 v2)).bind fun x64 => (q_sa σ60 20 x62 v2 (.int x64)).bind fun σ65 => (q_gr (q_gf σ65 12 v0 45)).bind fun x66 => (q_sa σ65 20 x66 v2 (.int x10)).bind fun σ67 => (q_gr (q_gf σ67 12 v0 46)).bind fun x68 => (q_sa σ67 20 x68 v2 (.int (0 : Int32))).bind fun σ69 => (q_gr (q_gf σ69 12 v0 47)).bind fun x70 => (q_sa σ69 20 x70 v2 (.int (20 : Int32))).bind fun σ71 => f_Mo_worth_L14 v0 v1 n v2 (v3 + (1 : Int32)) σ71) else (if x10 = (26 : Int32) then ((q_ob σ 12 v0).bind fun w73 => q_sq (f_Mo_tests v0 v2 σ) fun (_ : Unit) σ74 => (q_gr (q_gf σ74 12 v0 43)).bind fun x76 => (q_sa σ74 20 x76 v2 (.int x10)).bind fun σ77 => f_Mo_worth_L14 v0 v1 n v2 (v3 + (1 : Int32)) σ77) else (if x10 = (27 : Int32) then ((q_ob σ 12 v0).bind fun w79 => q_sq (f_Mo_tests v0 v2 σ) fun (_ : Unit) σ80 => (q_gr (q_gf σ80 12 v0 43)).bind fun x82 => (q_sa σ80 20 x82 v2 (.int x10)).bind fun σ83 => f_Mo_worth_L14 v0 v1 n v2 (v3 + (1 : Int32)) σ83) else (q_sq (if x10 < (100 : Int32) then (if x10 < (20 : Int32) then ((q_gr (q_gf σ 12 v0 51)).bind fun x86 => (q_gi (q_ga σ 20 x86 x10)).bind fun x87 => some (x87, σ)) else (some ((0 : Int32), σ))) else (some ((x10 - (100 : Int32)), σ))) fun (t88 : Int32) σ89 => q_sq (if x10 = (29 : Int32) then ((q_ob σ89 12 v0).bind fun w91 => q_sq (f_Mo_tests v0 v2 σ89) fun (_ : Unit) σ92 => (q_gr (q_gf σ92 12 v0 42)).bind fun x94 => (q_gi (q_ga σ92 20 x94 v2)).bind fun x95 => some (((v2 + (-1 : Int32)), x95), σ92)) else (some ((v2, t88), σ89))) fun (t96 : Int32 × Int32) σ97 => q_sq (f_Mo_worth_L268 v0 v1 v3 q_FU t96.1 t96.2 σ97) fun (t103 : Int32 × Int32) σ104 => (q_gr (q_gf σ104 12 v0 48)).bind fun x105 => (q_gr (q_gf σ104 12 v0 49)).bind fun x106 => (q_gi (q_ga σ104 20 x106 t103.1)).bind fun x107 => if x107 = (0 : Int32) then ((q_sa σ104 20 x105 t103.1 (.int t103.2)).bind fun σ109 => f_Mo_worth_L14 v0 v1 n t103.1 (v3 + (1 : Int32)) σ109) else ((q_gr (q_gf σ104 12 v0 48)).bind fun x110 => (q_gi (q_ga σ104 20 x110 t103.1)).bind fun x111 => (q_sa σ104 20 x105 t103.1 (.int (x111 * t103.2))).bind fun σ112 => f_Mo_worth_L14 v0 v1 n t103.1 (v3 + (1 : Int32)) σ112))))))))))) else (some ((), σ))
set_option maxRecDepth 100000 in
theorem l_Mo_worth_L14 {fo : Option Nat} {d : Nat} (hd : 3 ≤ d + 1) {o : q_O} {σ' : q_H} {E : (Unit) → q_H → Prop} (v0 : Nat) (v1 : Int32) (hX : ∀ (t : Unit) σ1, E (t) σ1 → q_G (q_rf fo) d m_Mo_worth o σ' 335 [some (.ref v0), none, none, none, none, none] [] σ1)  : ∀ (n : Nat) (v2 : Int32) (v3 : Int32) (σ : q_H), q_J E (f_Mo_worth_L14 v0 v1 n v2 v3 σ) (q_G (q_rf fo) d m_Mo_worth o σ' 14 [some (.ref v0), some (.int v1), some (.int v2), some (.int v3), none, none] [] σ)
  | 0, v2, v3, σ => J_none
  | n + 1, v2, v3, σ => by
    unfold f_Mo_worth_L14
    refine J_bind fun x6 hx6 => ?_
    refine J_bind fun x7 hx7 => ?_
    refine q_J.step (fun g => j_iload_n rfl rfl (j_aload_n rfl rfl (j_gfr rfl hx6 (j_iload_n rfl rfl (j_ial rfl hx7 (g)))))) ?_
    refine J_ite (fun h8 => ?_) (fun h8 => ?_)
    · refine J_bind fun x9 hx9 => ?_
      refine J_bind fun x10 hx10 => ?_
      refine q_J.step (fun g => j_icmp_f rfl (cc_ge_f h8) (j_aload_n rfl rfl (j_gfr rfl hx9 (j_iload_n rfl rfl (j_ial rfl hx10 (j_istore [some (.ref v0), some (.int v1), some (.int v2), some (.int v3), some (.int x10), none] rfl rfl (Or.inr rfl) rfl (j_iload rfl rfl (j_bipush (28 : Int32) rfl kb_28 (g))))))))) ?_
      refine J_ite (fun h11 => ?_) (fun h11 => ?_)
      · refine J_bind fun x12 hx12 => ?_
        refine q_J.step (fun g => j_icmp_t rfl (cc_eq_t h11) (j_iinc [some (.ref v0), some (.int v1), some (.int (v2 + (1 : Int32))), some (.int v3), some (.int x10), none] (v2 + (1 : Int32)) rfl rfl (by rw [k32_1]) (Or.inr rfl) rfl (j_aload_n rfl rfl (j_gfr rfl hx12 (j_iload_n rfl rfl (j_iload rfl rfl (j_bipush (30 : Int32) rfl kb_30 (g)))))))) ?_
        refine J_sq (fun (t14 : Int32) (σ15 : q_H) => q_G (q_rf fo) d m_Mo_worth o σ' 66 [some (.ref v0), some (.int v1), some (.int (v2 + (1 : Int32))), some (.int v3), none, none] [.int t14, .int (v2 + (1 : Int32)), .ref x12] σ15) ?_ (fun t14 σ15 => ?_)
        · refine J_ite (fun h13 => ?_) (fun h13 => ?_)
          · exact J_some (fun h => j_icmp_f rfl (cc_ne_f h13) (j_iconst (1 : Int32) rfl k32_1 (j_goto rfl (j_weak (l := [some (.ref v0), some (.int v1), some (.int (v2 + (1 : Int32))), some (.int v3), none, none]) (And.intro (Or.inr rfl) (And.intro (Or.inr rfl) (And.intro (Or.inr rfl) (And.intro (Or.inr rfl) (And.intro (Or.inl rfl) (And.intro (Or.inr rfl) True.intro)))))) (h)))))
          exact J_some (fun h => j_icmp_t rfl (cc_ne_t h13) (j_iconst (0 : Int32) rfl k32_0 (j_weak (l := [some (.ref v0), some (.int v1), some (.int (v2 + (1 : Int32))), some (.int v3), none, none]) (And.intro (Or.inr rfl) (And.intro (Or.inr rfl) (And.intro (Or.inr rfl) (And.intro (Or.inr rfl) (And.intro (Or.inl rfl) (And.intro (Or.inr rfl) True.intro)))))) (h))))
        refine J_bind fun σ16 hσ16 => ?_
        refine J_bind fun w17 hw17 => ?_
        refine J_cl fun _ σ18 hσ18 => ?_
        exact q_J.step (fun g => j_ias rfl hσ16 (j_aload_n rfl rfl (j_iload_n rfl rfl (j_v0 [.ref v0, .int (v2 + (1 : Int32))] [] rfl rfl rfl rfl rfl rfl hw17 (Or.inl rfl) (t_Mo_opens (by omega) hσ18) (j_goto rfl (j_iinc [some (.ref v0), some (.int v1), some (.int (v2 + (1 : Int32))), some (.int (v3 + (1 : Int32))), none, none] (v3 + (1 : Int32)) rfl rfl (by rw [k32_1]) (Or.inr rfl) rfl (j_goto rfl (g)))))))) (l_Mo_worth_L14 hd v0 v1 hX n (v2 + (1 : Int32)) (v3 + (1 : Int32)) σ18)
      refine q_J.step (fun g => j_icmp_f rfl (cc_eq_f h11) (j_iload rfl rfl (j_bipush (30 : Int32) rfl kb_30 (g)))) ?_
      refine J_ite (fun h20 => ?_) (fun h20 => ?_)
      · refine J_bind fun x21 hx21 => ?_
        refine q_J.step (fun g => j_icmp_f rfl (cc_ne_f h20) (j_iinc [some (.ref v0), some (.int v1), some (.int (v2 + (1 : Int32))), some (.int v3), some (.int x10), none] (v2 + (1 : Int32)) rfl rfl (by rw [k32_1]) (Or.inr rfl) rfl (j_aload_n rfl rfl (j_gfr rfl hx21 (j_iload_n rfl rfl (j_iload rfl rfl (j_bipush (30 : Int32) rfl kb_30 (g)))))))) ?_
        refine J_sq (fun (t23 : Int32) (σ24 : q_H) => q_G (q_rf fo) d m_Mo_worth o σ' 66 [some (.ref v0), some (.int v1), some (.int (v2 + (1 : Int32))), some (.int v3), none, none] [.int t23, .int (v2 + (1 : Int32)), .ref x21] σ24) ?_ (fun t23 σ24 => ?_)
        · refine J_ite (fun h22 => ?_) (fun h22 => ?_)
          · exact J_some (fun h => j_icmp_f rfl (cc_ne_f h22) (j_iconst (1 : Int32) rfl k32_1 (j_goto rfl (j_weak (l := [some (.ref v0), some (.int v1), some (.int (v2 + (1 : Int32))), some (.int v3), none, none]) (And.intro (Or.inr rfl) (And.intro (Or.inr rfl) (And.intro (Or.inr rfl) (And.intro (Or.inr rfl) (And.intro (Or.inl rfl) (And.intro (Or.inr rfl) True.intro)))))) (h)))))
          exact J_some (fun h => j_icmp_t rfl (cc_ne_t h22) (j_iconst (0 : Int32) rfl k32_0 (j_weak (l := [some (.ref v0), some (.int v1), some (.int (v2 + (1 : Int32))), some (.int v3), none, none]) (And.intro (Or.inr rfl) (And.intro (Or.inr rfl) (And.intro (Or.inr rfl) (And.intro (Or.inr rfl) (And.intro (Or.inl rfl) (And.intro (Or.inr rfl) True.intro)))))) (h))))
        refine J_bind fun σ25 hσ25 => ?_
        refine J_bind fun w26 hw26 => ?_
        refine J_cl fun _ σ27 hσ27 => ?_
        exact q_J.step (fun g => j_ias rfl hσ25 (j_aload_n rfl rfl (j_iload_n rfl rfl (j_v0 [.ref v0, .int (v2 + (1 : Int32))] [] rfl rfl rfl rfl rfl rfl hw26 (Or.inl rfl) (t_Mo_opens (by omega) hσ27) (j_goto rfl (j_iinc [some (.ref v0), some (.int v1), some (.int (v2 + (1 : Int32))), some (.int (v3 + (1 : Int32))), none, none] (v3 + (1 : Int32)) rfl rfl (by rw [k32_1]) (Or.inr rfl) rfl (j_goto rfl (g)))))))) (l_Mo_worth_L14 hd v0 v1 hX n (v2 + (1 : Int32)) (v3 + (1 : Int32)) σ27)
      refine q_J.step (fun g => j_icmp_t rfl (cc_ne_t h20) (j_iload rfl rfl (j_bipush (20 : Int32) rfl kb_20 (g)))) ?_
      refine J_ite (fun h29 => ?_) (fun h29 => ?_)
      · refine J_bind fun w30 hw30 => ?_
        refine J_cl fun _ σ31 hσ31 => ?_
        refine J_bind fun x33 hx33 => ?_
        refine J_bind fun σ34 hσ34 => ?_
        exact q_J.step (fun g => j_icmp_t rfl (cc_eq_t h29) (j_aload_n rfl rfl (j_iload_n rfl rfl (j_v0 [.ref v0, .int v2] [] rfl rfl rfl rfl rfl rfl hw30 (Or.inl rfl) (t_Mo_sums (by omega) hσ31) (j_aload_n rfl rfl (j_gfr rfl hx33 (j_iload_n rfl rfl (j_iload rfl rfl (j_ias rfl hσ34 (j_goto rfl (j_iinc [some (.ref v0), some (.int v1), some (.int v2), some (.int (v3 + (1 : Int32))), some (.int x10), none] (v3 + (1 : Int32)) rfl rfl (by rw [k32_1]) (Or.inr rfl) rfl (j_goto rfl (j_weak (l := [some (.ref v0), some (.int v1), some (.int v2), some (.int (v3 + (1 : Int32))), none, none]) (And.intro (Or.inr rfl) (And.intro (Or.inr rfl) (And.intro (Or.inr rfl) (And.intro (Or.inr rfl) (And.intro (Or.inl rfl) (And.intro (Or.inr rfl) True.intro)))))) (g)))))))))))))) (l_Mo_worth_L14 hd v0 v1 hX n v2 (v3 + (1 : Int32)) σ34)
      refine q_J.step (fun g => j_icmp_f rfl (cc_eq_f h29) (j_iload rfl rfl (j_bipush (21 : Int32) rfl kb_21 (g)))) ?_
      refine J_ite (fun h35 => ?_) (fun h35 => ?_)
      · refine J_bind fun w36 hw36 => ?_
        refine J_cl fun _ σ37 hσ37 => ?_
        refine J_bind fun x39 hx39 => ?_
        refine J_bind fun σ40 hσ40 => ?_
        exact q_J.step (fun g => j_icmp_f rfl (cc_ne_f h35) (j_aload_n rfl rfl (j_iload_n rfl rfl (j_v0 [.ref v0, .int v2] [] rfl rfl rfl rfl rfl rfl hw36 (Or.inl rfl) (t_Mo_sums (by omega) hσ37) (j_aload_n rfl rfl (j_gfr rfl hx39 (j_iload_n rfl rfl (j_iload rfl rfl (j_ias rfl hσ40 (j_goto rfl (j_iinc [some (.ref v0), some (.int v1), some (.int v2), some (.int (v3 + (1 : Int32))), some (.int x10), none] (v3 + (1 : Int32)) rfl rfl (by rw [k32_1]) (Or.inr rfl) rfl (j_goto rfl (j_weak (l := [some (.ref v0), some (.int v1), some (.int v2), some (.int (v3 + (1 : Int32))), none, none]) (And.intro (Or.inr rfl) (And.intro (Or.inr rfl) (And.intro (Or.inr rfl) (And.intro (Or.inr rfl) (And.intro (Or.inl rfl) (And.intro (Or.inr rfl) True.intro)))))) (g)))))))))))))) (l_Mo_worth_L14 hd v0 v1 hX n v2 (v3 + (1 : Int32)) σ40)
      refine q_J.step (fun g => j_icmp_t rfl (cc_ne_t h35) (j_iload rfl rfl (j_bipush (22 : Int32) rfl kb_22 (g)))) ?_
      refine J_ite (fun h41 => ?_) (fun h41 => ?_)
      · refine J_bind fun x42 hx42 => ?_
        refine J_bind fun σ43 hσ43 => ?_
        exact q_J.step (fun g => j_icmp_f rfl (cc_ne_f h41) (j_aload_n rfl rfl (j_gfr rfl hx42 (j_iload_n rfl rfl (j_iload rfl rfl (j_ias rfl hσ43 (j_goto rfl (j_iinc [some (.ref v0), some (.int v1), some (.int v2), some (.int (v3 + (1 : Int32))), some (.int x10), none] (v3 + (1 : Int32)) rfl rfl (by rw [k32_1]) (Or.inr rfl) rfl (j_goto rfl (j_weak (l := [some (.ref v0), some (.int v1), some (.int v2), some (.int (v3 + (1 : Int32))), none, none]) (And.intro (Or.inr rfl) (And.intro (Or.inr rfl) (And.intro (Or.inr rfl) (And.intro (Or.inr rfl) (And.intro (Or.inl rfl) (And.intro (Or.inr rfl) True.intro)))))) (g))))))))))) (l_Mo_worth_L14 hd v0 v1 hX n v2 (v3 + (1 : Int32)) σ43)
      refine q_J.step (fun g => j_icmp_t rfl (cc_ne_t h41) (j_iload rfl rfl (j_bipush (24 : Int32) rfl kb_24 (g)))) ?_
      refine J_ite (fun h44 => ?_) (fun h44 => ?_)
      · refine J_bind fun w45 hw45 => ?_
        refine J_cl fun _ σ46 hσ46 => ?_
        refine J_bind fun x48 hx48 => ?_
        refine J_bind fun x49 hx49 => ?_
        refine J_bind fun x50 hx50 => ?_
        refine J_bind fun σ51 hσ51 => ?_
        refine J_bind fun x52 hx52 => ?_
        refine J_bind fun σ53 hσ53 => ?_
        refine J_bind fun x54 hx54 => ?_
        refine J_bind fun σ55 hσ55 => ?_
        refine J_bind fun x56 hx56 => ?_
        refine J_bind fun σ57 hσ57 => ?_
        exact q_J.step (fun g => j_icmp_t rfl (cc_eq_t h44) (j_aload_n rfl rfl (j_iload_n rfl rfl (j_v0 [.ref v0, .int v2] [] rfl rfl rfl rfl rfl rfl hw45 (Or.inl rfl) (t_Mo_sums (by omega) hσ46) (j_aload_n rfl rfl (j_gfr rfl hx48 (j_iload_n rfl rfl (j_aload_n rfl rfl (j_gfr rfl hx49 (j_iload_n rfl rfl (j_ial rfl hx50 (j_ias rfl hσ51 (j_aload_n rfl rfl (j_gfr rfl hx52 (j_iload_n rfl rfl (j_iload rfl rfl (j_ias rfl hσ53 (j_aload_n rfl rfl (j_gfr rfl hx54 (j_iload_n rfl rfl (j_iconst (0 : Int32) rfl k32_0 (j_ias rfl hσ55 (j_aload_n rfl rfl (j_gfr rfl hx56 (j_iload_n rfl rfl (j_bipush (20 : Int32) rfl kb_20 (j_ias rfl hσ57 (j_goto rfl (j_iinc [some (.ref v0), some (.int v1), some (.int v2), some (.int (v3 + (1 : Int32))), some (.int x10), none] (v3 + (1 : Int32)) rfl rfl (by rw [k32_1]) (Or.inr rfl) rfl (j_goto rfl (j_weak (l := [some (.ref v0), some (.int v1), some (.int v2), some (.int (v3 + (1 : Int32))), none, none]) (And.intro (Or.inr rfl) (And.intro (Or.inr rfl) (And.intro (Or.inr rfl) (And.intro (Or.inr rfl) (And.intro (Or.inl rfl) (And.intro (Or.inr rfl) True.intro)))))) (g)))))))))))))))))))))))))))))))) (l_Mo_worth_L14 hd v0 v1 hX n v2 (v3 + (1 : Int32)) σ57)
      refine q_J.step (fun g => j_icmp_f rfl (cc_eq_f h44) (j_iload rfl rfl (j_bipush (25 : Int32) rfl kb_25 (g)))) ?_
      refine J_ite (fun h58 => ?_) (fun h58 => ?_)
      · refine J_bind fun w59 hw59 => ?_
        refine J_cl fun _ σ60 hσ60 => ?_
        refine J_bind fun x62 hx62 => ?_
        refine J_bind fun x63 hx63 => ?_
        refine J_bind fun x64 hx64 => ?_
        refine J_bind fun σ65 hσ65 => ?_
        refine J_bind fun x66 hx66 => ?_
        refine J_bind fun σ67 hσ67 => ?_
        refine J_bind fun x68 hx68 => ?_
        refine J_bind fun σ69 hσ69 => ?_
        refine J_bind fun x70 hx70 => ?_
        refine J_bind fun σ71 hσ71 => ?_
        exact q_J.step (fun g => j_icmp_f rfl (cc_ne_f h58) (j_aload_n rfl rfl (j_iload_n rfl rfl (j_v0 [.ref v0, .int v2] [] rfl rfl rfl rfl rfl rfl hw59 (Or.inl rfl) (t_Mo_sums (by omega) hσ60) (j_aload_n rfl rfl (j_gfr rfl hx62 (j_iload_n rfl rfl (j_aload_n rfl rfl (j_gfr rfl hx63 (j_iload_n rfl rfl (j_ial rfl hx64 (j_ias rfl hσ65 (j_aload_n rfl rfl (j_gfr rfl hx66 (j_iload_n rfl rfl (j_iload rfl rfl (j_ias rfl hσ67 (j_aload_n rfl rfl (j_gfr rfl hx68 (j_iload_n rfl rfl (j_iconst (0 : Int32) rfl k32_0 (j_ias rfl hσ69 (j_aload_n rfl rfl (j_gfr rfl hx70 (j_iload_n rfl rfl (j_bipush (20 : Int32) rfl kb_20 (j_ias rfl hσ71 (j_goto rfl (j_iinc [some (.ref v0), some (.int v1), some (.int v2), some (.int (v3 + (1 : Int32))), some (.int x10), none] (v3 + (1 : Int32)) rfl rfl (by rw [k32_1]) (Or.inr rfl) rfl (j_goto rfl (j_weak (l := [some (.ref v0), some (.int v1), some (.int v2), some (.int (v3 + (1 : Int32))), none, none]) (And.intro (Or.inr rfl) (And.intro (Or.inr rfl) (And.intro (Or.inr rfl) (And.intro (Or.inr rfl) (And.intro (Or.inl rfl) (And.intro (Or.inr rfl) True.intro)))))) (g)))))))))))))))))))))))))))))))) (l_Mo_worth_L14 hd v0 v1 hX n v2 (v3 + (1 : Int32)) σ71)
      refine q_J.step (fun g => j_icmp_t rfl (cc_ne_t h58) (j_iload rfl rfl (j_bipush (26 : Int32) rfl kb_26 (g)))) ?_
      refine J_ite (fun h72 => ?_) (fun h72 => ?_)
      · refine J_bind fun w73 hw73 => ?_
        refine J_cl fun _ σ74 hσ74 => ?_
        refine J_bind fun x76 hx76 => ?_
        refine J_bind fun σ77 hσ77 => ?_
        exact q_J.step (fun g => j_icmp_t rfl (cc_eq_t h72) (j_aload_n rfl rfl (j_iload_n rfl rfl (j_v0 [.ref v0, .int v2] [] rfl rfl rfl rfl rfl rfl hw73 (Or.inl rfl) (t_Mo_tests (by omega) hσ74) (j_aload_n rfl rfl (j_gfr rfl hx76 (j_iload_n rfl rfl (j_iload rfl rfl (j_ias rfl hσ77 (j_goto rfl (j_iinc [some (.ref v0), some (.int v1), some (.int v2), some (.int (v3 + (1 : Int32))), some (.int x10), none] (v3 + (1 : Int32)) rfl rfl (by rw [k32_1]) (Or.inr rfl) rfl (j_goto rfl (j_weak (l := [some (.ref v0), some (.int v1), some (.int v2), some (.int (v3 + (1 : Int32))), none, none]) (And.intro (Or.inr rfl) (And.intro (Or.inr rfl) (And.intro (Or.inr rfl) (And.intro (Or.inr rfl) (And.intro (Or.inl rfl) (And.intro (Or.inr rfl) True.intro)))))) (g)))))))))))))) (l_Mo_worth_L14 hd v0 v1 hX n v2 (v3 + (1 : Int32)) σ77)
      refine q_J.step (fun g => j_icmp_f rfl (cc_eq_f h72) (j_iload rfl rfl (j_bipush (27 : Int32) rfl kb_27 (g)))) ?_
      refine J_ite (fun h78 => ?_) (fun h78 => ?_)
      · refine J_bind fun w79 hw79 => ?_
        refine J_cl fun _ σ80 hσ80 => ?_
        refine J_bind fun x82 hx82 => ?_
        refine J_bind fun σ83 hσ83 => ?_
        exact q_J.step (fun g => j_icmp_f rfl (cc_ne_f h78) (j_aload_n rfl rfl (j_iload_n rfl rfl (j_v0 [.ref v0, .int v2] [] rfl rfl rfl rfl rfl rfl hw79 (Or.inl rfl) (t_Mo_tests (by omega) hσ80) (j_aload_n rfl rfl (j_gfr rfl hx82 (j_iload_n rfl rfl (j_iload rfl rfl (j_ias rfl hσ83 (j_goto rfl (j_iinc [some (.ref v0), some (.int v1), some (.int v2), some (.int (v3 + (1 : Int32))), some (.int x10), none] (v3 + (1 : Int32)) rfl rfl (by rw [k32_1]) (Or.inr rfl) rfl (j_goto rfl (j_weak (l := [some (.ref v0), some (.int v1), some (.int v2), some (.int (v3 + (1 : Int32))), none, none]) (And.intro (Or.inr rfl) (And.intro (Or.inr rfl) (And.intro (Or.inr rfl) (And.intro (Or.inr rfl) (And.intro (Or.inl rfl) (And.intro (Or.inr rfl) True.intro)))))) (g)))))))))))))) (l_Mo_worth_L14 hd v0 v1 hX n v2 (v3 + (1 : Int32)) σ83)
      refine q_J.step (fun g => j_icmp_t rfl (cc_ne_t h78) (j_iload rfl rfl (j_bipush (100 : Int32) rfl kb_100 (g)))) ?_
      refine J_sq (fun (t88 : Int32) (σ89 : q_H) => q_G (q_rf fo) d m_Mo_worth o σ' 243 [some (.ref v0), some (.int v1), some (.int v2), some (.int v3), some (.int x10), none] [.int t88] σ89) ?_ (fun t88 σ89 => ?_)
      · refine J_ite (fun h84 => ?_) (fun h84 => ?_)
        · refine q_J.step (fun g => j_icmp_t rfl (cc_lt_t h84) (j_iload rfl rfl (j_bipush (20 : Int32) rfl kb_20 (g)))) ?_
          refine J_ite (fun h85 => ?_) (fun h85 => ?_)
          · refine J_bind fun x86 hx86 => ?_
            refine J_bind fun x87 hx87 => ?_
            exact J_some (fun h => j_icmp_f rfl (cc_ge_f h85) (j_aload_n rfl rfl (j_gfr rfl hx86 (j_iload rfl rfl (j_ial rfl hx87 (j_goto rfl (h)))))))
          exact J_some (fun h => j_icmp_t rfl (cc_ge_t h85) (j_iconst (0 : Int32) rfl k32_0 (h)))
        exact J_some (fun h => j_icmp_f rfl (cc_lt_f h84) (j_iload rfl rfl (j_bipush (100 : Int32) rfl kb_100 (j_isub rfl (j_goto rfl (h))))))
      refine q_J.step (fun g => j_istore [some (.ref v0), some (.int v1), some (.int v2), some (.int v3), some (.int x10), some (.int t88)] rfl rfl (Or.inr rfl) rfl (j_iload rfl rfl (j_bipush (29 : Int32) rfl kb_29 (g)))) ?_
      refine J_sq (fun (t96 : Int32 × Int32) (σ97 : q_H) => q_G (q_rf fo) d m_Mo_worth o σ' 268 [some (.ref v0), some (.int v1), some (.int t96.1), some (.int v3), none, some (.int t96.2)] [] σ97) ?_ (fun t96 σ97 => ?_)
      · refine J_ite (fun h90 => ?_) (fun h90 => ?_)
        · refine J_bind fun w91 hw91 => ?_
          refine J_cl fun _ σ92 hσ92 => ?_
          refine J_bind fun x94 hx94 => ?_
          refine J_bind fun x95 hx95 => ?_
          exact J_some (fun h => j_icmp_f rfl (cc_ne_f h90) (j_aload_n rfl rfl (j_iload_n rfl rfl (j_v0 [.ref v0, .int v2] [] rfl rfl rfl rfl rfl rfl hw91 (Or.inl rfl) (t_Mo_tests (by omega) hσ92) (j_aload_n rfl rfl (j_gfr rfl hx94 (j_iload_n rfl rfl (j_ial rfl hx95 (j_istore [some (.ref v0), some (.int v1), some (.int v2), some (.int v3), some (.int x10), some (.int x95)] rfl rfl (Or.inr rfl) rfl (j_iinc [some (.ref v0), some (.int v1), some (.int (v2 + (-1 : Int32))), some (.int v3), some (.int x10), some (.int x95)] (v2 + (-1 : Int32)) rfl rfl (by rw [k32_m1]) (Or.inr rfl) rfl (j_weak (l := [some (.ref v0), some (.int v1), some (.int (v2 + (-1 : Int32))), some (.int v3), none, some (.int x95)]) (And.intro (Or.inr rfl) (And.intro (Or.inr rfl) (And.intro (Or.inr rfl) (And.intro (Or.inr rfl) (And.intro (Or.inl rfl) (And.intro (Or.inr rfl) True.intro)))))) (h))))))))))))
        exact J_some (fun h => j_icmp_t rfl (cc_ne_t h90) (j_weak (l := [some (.ref v0), some (.int v1), some (.int v2), some (.int v3), none, some (.int t88)]) (And.intro (Or.inr rfl) (And.intro (Or.inr rfl) (And.intro (Or.inr rfl) (And.intro (Or.inr rfl) (And.intro (Or.inl rfl) (And.intro (Or.inr rfl) True.intro)))))) (h)))
      refine J_sq (fun (t103 : Int32 × Int32) (σ104 : q_H) => q_G (q_rf fo) d m_Mo_worth o σ' 300 [some (.ref v0), some (.int v1), some (.int t103.1), some (.int v3), none, some (.int t103.2)] [] σ104) (l_Mo_worth_L268 hd v0 v1 v3 (fun _ _ h => h) q_FU t96.1 t96.2 σ97) (fun t103 σ104 => ?_)
      refine J_bind fun x105 hx105 => ?_
      refine J_bind fun x106 hx106 => ?_
      refine J_bind fun x107 hx107 => ?_
      refine q_J.step (fun g => j_aload_n rfl rfl (j_gfr rfl hx105 (j_iload_n rfl rfl (j_aload_n rfl rfl (j_gfr rfl hx106 (j_iload_n rfl rfl (j_ial rfl hx107 (g)))))))) ?_
      refine J_ite (fun h108 => ?_) (fun h108 => ?_)
      · refine J_bind fun σ109 hσ109 => ?_
        exact q_J.step (fun g => j_if_f rfl (cc_ne_f h108) (j_iload rfl rfl (j_goto rfl (j_ias rfl hσ109 (j_iinc [some (.ref v0), some (.int v1), some (.int t103.1), some (.int (v3 + (1 : Int32))), none, some (.int t103.2)] (v3 + (1 : Int32)) rfl rfl (by rw [k32_1]) (Or.inr rfl) rfl (j_goto rfl (j_weak (l := [some (.ref v0), some (.int v1), some (.int t103.1), some (.int (v3 + (1 : Int32))), none, none]) (And.intro (Or.inr rfl) (And.intro (Or.inr rfl) (And.intro (Or.inr rfl) (And.intro (Or.inr rfl) (And.intro (Or.inr rfl) (And.intro (Or.inl rfl) True.intro)))))) (g)))))))) (l_Mo_worth_L14 hd v0 v1 hX n t103.1 (v3 + (1 : Int32)) σ109)
      refine J_bind fun x110 hx110 => ?_
      refine J_bind fun x111 hx111 => ?_
      refine J_bind fun σ112 hσ112 => ?_
      exact q_J.step (fun g => j_if_t rfl (cc_ne_t h108) (j_aload_n rfl rfl (j_gfr rfl hx110 (j_iload_n rfl rfl (j_ial rfl hx111 (j_iload rfl rfl (j_imul rfl (j_ias rfl hσ112 (j_iinc [some (.ref v0), some (.int v1), some (.int t103.1), some (.int (v3 + (1 : Int32))), none, some (.int t103.2)] (v3 + (1 : Int32)) rfl rfl (by rw [k32_1]) (Or.inr rfl) rfl (j_goto rfl (j_weak (l := [some (.ref v0), some (.int v1), some (.int t103.1), some (.int (v3 + (1 : Int32))), none, none]) (And.intro (Or.inr rfl) (And.intro (Or.inr rfl) (And.intro (Or.inr rfl) (And.intro (Or.inr rfl) (And.intro (Or.inr rfl) (And.intro (Or.inl rfl) True.intro)))))) (g)))))))))))) (l_Mo_worth_L14 hd v0 v1 hX n t103.1 (v3 + (1 : Int32)) σ112)
    exact J_some (fun h => j_icmp_t rfl (cc_ge_t h8) (j_weak (l := [some (.ref v0), none, none, none, none, none]) (And.intro (Or.inr rfl) (And.intro (Or.inl rfl) (And.intro (Or.inl rfl) (And.intro (Or.inl rfl) (And.intro (Or.inr rfl) (And.intro (Or.inr rfl) True.intro)))))) (hX _ _ h)))

def f_Mo_worth (v0 : Nat) (v1 : Int32) (σ : q_H) : Option ((Int32) × q_H) := (q_ob σ 12 v0).bind fun w1 => q_sq (f_Mo_opens v0 (0 : Int32) σ) fun (_ : Unit) σ2 => (q_gr (q_gf σ2 12 v0 36)).bind fun x4 => (q_gi (q_ga σ2 20 x4 v1)).bind fun x5 => q_sq (f_Mo_worth_L14 v0 v1 q_FU (0 : Int32) x5 σ2) fun (t113 : Unit) σ114 => (q_ob σ114 12 v0).bind fun w115 => q_sq (f_Mo_tests v0 (0 : Int32) σ114) fun (_ : Unit) σ116 => (q_gr (q_gf σ116 12 v0 42)).bind fun x118 => (q_gi (q_ga σ116 20 x118 (0 : Int32))).bind fun x119 => some (x119, σ116)
set_option maxRecDepth 100000 in
theorem b_Mo_worth {fo : Option Nat} {d : Nat} (hd : 3 ≤ d + 1) {o : q_O} {σ' : q_H} (v0 : Nat) (v1 : Int32) (σ : q_H) : q_J (fun (r : Int32) (σ1 : q_H) => o = .inl (some (.int r)) ∧ σ' = σ1) (f_Mo_worth v0 v1 σ) (q_G (q_rf fo) d m_Mo_worth o σ' 0 [some (.ref v0), some (.int v1), none, none, none, none] [] σ) := by
  unfold f_Mo_worth
  refine J_bind fun w1 hw1 => ?_
  refine J_cl fun _ σ2 hσ2 => ?_
  refine J_bind fun x4 hx4 => ?_
  refine J_bind fun x5 hx5 => ?_
  refine J_sq (fun (t113 : Unit) (σ114 : q_H) => q_G (q_rf fo) d m_Mo_worth o σ' 335 [some (.ref v0), none, none, none, none, none] [] σ114) (q_J.step (fun g => j_iconst (0 : Int32) rfl k32_0 (j_istore_n [some (.ref v0), some (.int v1), some (.int (0 : Int32)), none, none, none] rfl rfl (Or.inr rfl) rfl (j_aload_n rfl rfl (j_iconst (0 : Int32) rfl k32_0 (j_v0 [.ref v0, .int (0 : Int32)] [] rfl rfl rfl rfl rfl rfl hw1 (Or.inl rfl) (t_Mo_opens (by omega) hσ2) (j_aload_n rfl rfl (j_gfr rfl hx4 (j_iload_n rfl rfl (j_ial rfl hx5 (j_istore_n [some (.ref v0), some (.int v1), some (.int (0 : Int32)), some (.int x5), none, none] rfl rfl (Or.inr rfl) rfl (g))))))))))) (l_Mo_worth_L14 hd v0 v1 (fun _ _ h => h) q_FU (0 : Int32) x5 σ2)) (fun t113 σ114 => ?_)
  refine J_bind fun w115 hw115 => ?_
  refine J_cl fun _ σ116 hσ116 => ?_
  refine J_bind fun x118 hx118 => ?_
  refine J_bind fun x119 hx119 => ?_
  exact J_some (fun h => j_aload_n rfl rfl (j_iconst (0 : Int32) rfl k32_0 (j_v0 [.ref v0, .int (0 : Int32)] [] rfl rfl rfl rfl rfl rfl hw115 (Or.inl rfl) (t_Mo_tests (by omega) hσ116) (j_aload_n rfl rfl (j_gfr rfl hx118 (j_iconst (0 : Int32) rfl k32_0 (j_ial rfl hx119 (j_iret rfl rfl h))))))))
theorem t_Mo_worth {fo : Option Nat} {d : Nat} (hd : 3 ≤ d) {v0 : Nat} {v1 : Int32} {σ σ1 : q_H} {r : Int32} (h : f_Mo_worth v0 v1 σ = some (r, σ1)) : q_Rel (q_rf fo) q_Ms d 255 [.ref v0, .int v1] σ (.inl (some (.int r))) σ1 := by
  obtain ⟨d, rfl⟩ : ∃ d1, d = d1 + 1 := ⟨d - 1, by omega⟩
  exact q_Rel.of rfl rfl (b_Mo_worth hd _ _ σ _ _ h ⟨rfl, rfl⟩)

def f_Mo_runs_L42 (v0 : Nat) (v2 : Int32) (v3 : Int32) (v4 : Int32) (v5 : Int32) (v6 : Int32) (v7 : Int32) : Nat → Int32 → Int32 → q_H → Option ((Unit) × q_H)
  | 0, _, _, _ => none
  | n + 1, v8, v9, σ => if v9 < v7 then ((q_gr (q_gf σ 12 v0 56)).bind fun x9 => (q_ob σ 12 v0).bind fun w10 => q_sq (f_Mo_draws v0 (2 : Int32) σ) fun x12 σ11 => q_sq (if x12 = (1 : Int32) then (some ((1 : Int32), σ11)) else (some ((0 : Int32), σ11))) fun (t14 : Int32) σ15 => if ¬ (t14 = 0 ∨ t14 = 1) then none else (q_sa σ15 22 x9 v9 (.int t14)).bind fun σ16 => (q_ob σ16 12 v0).bind fun w18 => q_sq (f_Mo_draws v0 (5 : Int32) σ16) fun x20 σ19 => (q_gr (q_gf σ19 12 v0 55)).bind fun x21 => (q_sa σ19 20 x21 v9 (.int (v8 - (x20 + (1 : Int32))))).bind fun σ22 => (q_gr (q_gf σ22 12 v0 57)).bind fun x23 => (q_ob σ22 12 v0).bind fun w24 => q_sq (f_Mo_draws v0 (5000 : Int32) σ22) fun x26 σ25 => (q_ob σ25 12 v0).bind fun w27 => q_sq (f_Mo_atAge v0 v3 (v8 - (x20 + (1 : Int32))) σ25) fun x29 σ28 => if x26 < x29 then ((q_sa σ28 22 x23 v9 (.int (1 : Int32))).bind fun σ31 => f_Mo_runs_L42 v0 v2 v3 v4 v5 v6 v7 n (v8 - (x20 + (1 : Int32))) (v9 + (1 : Int32)) σ31) else ((q_sa σ28 22 x23 v9 (.int (0 : Int32))).bind fun σ32 => f_Mo_runs_L42 v0 v2 v3 v4 v5 v6 v7 n (v8 - (x20 + (1 : Int32))) (v9 + (1 : Int32)) σ32)) else (some ((), σ))
set_option maxRecDepth 100000 in
theorem l_Mo_runs_L42 {fo : Option Nat} {d : Nat} (hd : 3 ≤ d + 1) {o : q_O} {σ' : q_H} {E : (Unit) → q_H → Prop} (v0 : Nat) (v2 : Int32) (v3 : Int32) (v4 : Int32) (v5 : Int32) (v6 : Int32) (v7 : Int32) (hX : ∀ (t : Unit) σ1, E (t) σ1 → q_G (q_rf fo) d m_Mo_runs o σ' 126 [some (.ref v0), none, some (.int v2), some (.int v3), some (.int v4), some (.int v5), some (.int v6), some (.int v7), none, none] [] σ1)  : ∀ (n : Nat) (v8 : Int32) (v9 : Int32) (σ : q_H), q_J E (f_Mo_runs_L42 v0 v2 v3 v4 v5 v6 v7 n v8 v9 σ) (q_G (q_rf fo) d m_Mo_runs o σ' 42 [some (.ref v0), none, some (.int v2), some (.int v3), some (.int v4), some (.int v5), some (.int v6), some (.int v7), some (.int v8), some (.int v9)] [] σ)
  | 0, v8, v9, σ => J_none
  | n + 1, v8, v9, σ => by
    unfold f_Mo_runs_L42
    refine q_J.step (fun g => j_iload rfl rfl (j_iload rfl rfl (g))) ?_
    refine J_ite (fun h8 => ?_) (fun h8 => ?_)
    · refine J_bind fun x9 hx9 => ?_
      refine J_bind fun w10 hw10 => ?_
      refine J_cl fun x12 σ11 hσ11 => ?_
      refine q_J.step (fun g => j_icmp_f rfl (cc_ge_f h8) (j_aload_n rfl rfl (j_gfr rfl hx9 (j_iload rfl rfl (j_aload_n rfl rfl (j_iconst (2 : Int32) rfl k32_2 (j_v1 [.ref v0, .int (2 : Int32)] [.int v9, .ref x9] rfl rfl rfl rfl rfl rfl hw10 (Or.inl rfl) (t_Mo_draws (by omega) hσ11) (j_iconst (1 : Int32) rfl k32_1 (g))))))))) ?_
      refine J_sq (fun (t14 : Int32) (σ15 : q_H) => q_G (q_rf fo) d m_Mo_runs o σ' 69 [some (.ref v0), none, some (.int v2), some (.int v3), some (.int v4), some (.int v5), some (.int v6), some (.int v7), some (.int v8), some (.int v9)] [.int t14, .int v9, .ref x9] σ15) ?_ (fun t14 σ15 => ?_)
      · refine J_ite (fun h13 => ?_) (fun h13 => ?_)
        · exact J_some (fun h => j_icmp_f rfl (cc_ne_f h13) (j_iconst (1 : Int32) rfl k32_1 (j_goto rfl (h))))
        exact J_some (fun h => j_icmp_t rfl (cc_ne_t h13) (j_iconst (0 : Int32) rfl k32_0 (h)))
      refine J_ite (fun _ => J_none) (fun h17 => ?_)
      refine J_bind fun σ16 hσ16 => ?_
      refine J_bind fun w18 hw18 => ?_
      refine J_cl fun x20 σ19 hσ19 => ?_
      refine J_bind fun x21 hx21 => ?_
      refine J_bind fun σ22 hσ22 => ?_
      refine J_bind fun x23 hx23 => ?_
      refine J_bind fun w24 hw24 => ?_
      refine J_cl fun x26 σ25 hσ25 => ?_
      refine J_bind fun w27 hw27 => ?_
      refine J_cl fun x29 σ28 hσ28 => ?_
      refine q_J.step (fun g => j_bas rfl (Decidable.not_not.mp h17) hσ16 (j_iload rfl rfl (j_aload_n rfl rfl (j_iconst (5 : Int32) rfl k32_5 (j_v1 [.ref v0, .int (5 : Int32)] [.int v8] rfl rfl rfl rfl rfl rfl hw18 (Or.inl rfl) (t_Mo_draws (by omega) hσ19) (j_iconst (1 : Int32) rfl k32_1 (j_iadd rfl (j_isub rfl (j_istore [some (.ref v0), none, some (.int v2), some (.int v3), some (.int v4), some (.int v5), some (.int v6), some (.int v7), some (.int (v8 - (x20 + (1 : Int32)))), some (.int v9)] rfl rfl (Or.inr rfl) rfl (j_aload_n rfl rfl (j_gfr rfl hx21 (j_iload rfl rfl (j_iload rfl rfl (j_ias rfl hσ22 (g))))))))))))))) ?_
      refine q_J.step (fun g => j_aload_n rfl rfl (j_gfr rfl hx23 (j_iload rfl rfl (j_aload_n rfl rfl (j_sipush (5000 : Int32) rfl ks_5000 (j_v1 [.ref v0, .int (5000 : Int32)] [.int v9, .ref x23] rfl rfl rfl rfl rfl rfl hw24 (Or.inl rfl) (t_Mo_draws (by omega) hσ25) (j_aload_n rfl rfl (j_iload_n rfl rfl (j_iload rfl rfl (j_v1 [.ref v0, .int v3, .int (v8 - (x20 + (1 : Int32)))] [.int x26, .int v9, .ref x23] rfl rfl rfl rfl rfl rfl hw27 (Or.inl rfl) (t_Mo_atAge (by omega) hσ28) (g))))))))))) ?_
      refine J_ite (fun h30 => ?_) (fun h30 => ?_)
      · refine J_bind fun σ31 hσ31 => ?_
        exact q_J.step (fun g => j_icmp_f rfl (cc_ge_f h30) (j_iconst (1 : Int32) rfl k32_1 (j_goto rfl (j_bas rfl (by decide) hσ31 (j_iinc [some (.ref v0), none, some (.int v2), some (.int v3), some (.int v4), some (.int v5), some (.int v6), some (.int v7), some (.int (v8 - (x20 + (1 : Int32)))), some (.int (v9 + (1 : Int32)))] (v9 + (1 : Int32)) rfl rfl (by rw [k32_1]) (Or.inr rfl) rfl (j_goto rfl (g))))))) (l_Mo_runs_L42 hd v0 v2 v3 v4 v5 v6 v7 hX n (v8 - (x20 + (1 : Int32))) (v9 + (1 : Int32)) σ31)
      refine J_bind fun σ32 hσ32 => ?_
      exact q_J.step (fun g => j_icmp_t rfl (cc_ge_t h30) (j_iconst (0 : Int32) rfl k32_0 (j_bas rfl (by decide) hσ32 (j_iinc [some (.ref v0), none, some (.int v2), some (.int v3), some (.int v4), some (.int v5), some (.int v6), some (.int v7), some (.int (v8 - (x20 + (1 : Int32)))), some (.int (v9 + (1 : Int32)))] (v9 + (1 : Int32)) rfl rfl (by rw [k32_1]) (Or.inr rfl) rfl (j_goto rfl (g)))))) (l_Mo_runs_L42 hd v0 v2 v3 v4 v5 v6 v7 hX n (v8 - (x20 + (1 : Int32))) (v9 + (1 : Int32)) σ32)
    exact J_some (fun h => j_icmp_t rfl (cc_ge_t h8) (j_weak (l := [some (.ref v0), none, some (.int v2), some (.int v3), some (.int v4), some (.int v5), some (.int v6), some (.int v7), none, none]) (And.intro (Or.inr rfl) (And.intro (Or.inr rfl) (And.intro (Or.inr rfl) (And.intro (Or.inr rfl) (And.intro (Or.inr rfl) (And.intro (Or.inr rfl) (And.intro (Or.inr rfl) (And.intro (Or.inr rfl) (And.intro (Or.inl rfl) (And.intro (Or.inl rfl) True.intro)))))))))) (hX _ _ h)))

def f_Mo_runs_L19 (v0 : Nat) (v2 : Int32) (v3 : Int32) (v4 : Int32) (v5 : Int32) : Nat → Int32 → q_H → Option ((Unit) × q_H)
  | 0, _, _ => none
  | n + 1, v6, σ => if v6 < v2 then ((q_ob σ 12 v0).bind fun w5 => q_sq (f_Mo_draws v0 (6 : Int32) σ) fun x7 σ6 => q_sq (f_Mo_runs_L42 v0 v2 v3 v4 v5 v6 (x7 + (1 : Int32)) q_FU (45 : Int32) (0 : Int32) σ6) fun (t33 : Unit) σ34 => (q_ob σ34 12 v0).bind fun w35 => q_sq (f_Mo_weds v0 (x7 + (1 : Int32)) v4 v5 σ34) fun (_ : Unit) σ36 => f_Mo_runs_L19 v0 v2 v3 v4 v5 n (v6 + (1 : Int32)) σ36) else (some ((), σ))
set_option maxRecDepth 100000 in
theorem l_Mo_runs_L19 {fo : Option Nat} {d : Nat} (hd : 3 ≤ d + 1) {o : q_O} {σ' : q_H} {E : (Unit) → q_H → Prop} (v0 : Nat) (v2 : Int32) (v3 : Int32) (v4 : Int32) (v5 : Int32) (hX : ∀ (t : Unit) σ1, E (t) σ1 → q_G (q_rf fo) d m_Mo_runs o σ' 142 [none, none, none, none, none, none, none, none, none, none] [] σ1)  : ∀ (n : Nat) (v6 : Int32) (σ : q_H), q_J E (f_Mo_runs_L19 v0 v2 v3 v4 v5 n v6 σ) (q_G (q_rf fo) d m_Mo_runs o σ' 19 [some (.ref v0), none, some (.int v2), some (.int v3), some (.int v4), some (.int v5), some (.int v6), none, none, none] [] σ)
  | 0, v6, σ => J_none
  | n + 1, v6, σ => by
    unfold f_Mo_runs_L19
    refine q_J.step (fun g => j_iload rfl rfl (j_iload_n rfl rfl (g))) ?_
    refine J_ite (fun h4 => ?_) (fun h4 => ?_)
    · refine J_bind fun w5 hw5 => ?_
      refine J_cl fun x7 σ6 hσ6 => ?_
      refine J_sq (fun (t33 : Unit) (σ34 : q_H) => q_G (q_rf fo) d m_Mo_runs o σ' 126 [some (.ref v0), none, some (.int v2), some (.int v3), some (.int v4), some (.int v5), some (.int v6), some (.int (x7 + (1 : Int32))), none, none] [] σ34) (q_J.step (fun g => j_icmp_f rfl (cc_ge_f h4) (j_aload_n rfl rfl (j_bipush (6 : Int32) rfl kb_6 (j_v1 [.ref v0, .int (6 : Int32)] [] rfl rfl rfl rfl rfl rfl hw5 (Or.inl rfl) (t_Mo_draws (by omega) hσ6) (j_iconst (1 : Int32) rfl k32_1 (j_iadd rfl (j_istore [some (.ref v0), none, some (.int v2), some (.int v3), some (.int v4), some (.int v5), some (.int v6), some (.int (x7 + (1 : Int32))), none, none] rfl rfl (Or.inr rfl) rfl (j_bipush (45 : Int32) rfl kb_45 (j_istore [some (.ref v0), none, some (.int v2), some (.int v3), some (.int v4), some (.int v5), some (.int v6), some (.int (x7 + (1 : Int32))), some (.int (45 : Int32)), none] rfl rfl (Or.inr rfl) rfl (j_iconst (0 : Int32) rfl k32_0 (j_istore [some (.ref v0), none, some (.int v2), some (.int v3), some (.int v4), some (.int v5), some (.int v6), some (.int (x7 + (1 : Int32))), some (.int (45 : Int32)), some (.int (0 : Int32))] rfl rfl (Or.inr rfl) rfl (g)))))))))))) (l_Mo_runs_L42 hd v0 v2 v3 v4 v5 v6 (x7 + (1 : Int32)) (fun _ _ h => h) q_FU (45 : Int32) (0 : Int32) σ6)) (fun t33 σ34 => ?_)
      refine J_bind fun w35 hw35 => ?_
      refine J_cl fun _ σ36 hσ36 => ?_
      exact q_J.step (fun g => j_aload_n rfl rfl (j_iload rfl rfl (j_iload rfl rfl (j_iload rfl rfl (j_v0 [.ref v0, .int (x7 + (1 : Int32)), .int v4, .int v5] [] rfl rfl rfl rfl rfl rfl hw35 (Or.inl rfl) (t_Mo_weds (by omega) hσ36) (j_iinc [some (.ref v0), none, some (.int v2), some (.int v3), some (.int v4), some (.int v5), some (.int (v6 + (1 : Int32))), some (.int (x7 + (1 : Int32))), none, none] (v6 + (1 : Int32)) rfl rfl (by rw [k32_1]) (Or.inr rfl) rfl (j_goto rfl (j_weak (l := [some (.ref v0), none, some (.int v2), some (.int v3), some (.int v4), some (.int v5), some (.int (v6 + (1 : Int32))), none, none, none]) (And.intro (Or.inr rfl) (And.intro (Or.inr rfl) (And.intro (Or.inr rfl) (And.intro (Or.inr rfl) (And.intro (Or.inr rfl) (And.intro (Or.inr rfl) (And.intro (Or.inr rfl) (And.intro (Or.inl rfl) (And.intro (Or.inr rfl) (And.intro (Or.inr rfl) True.intro)))))))))) (g))))))))) (l_Mo_runs_L19 hd v0 v2 v3 v4 v5 hX n (v6 + (1 : Int32)) σ36)
    exact J_some (fun h => j_icmp_t rfl (cc_ge_t h4) (j_weak (l := [none, none, none, none, none, none, none, none, none, none]) (And.intro (Or.inl rfl) (And.intro (Or.inr rfl) (And.intro (Or.inl rfl) (And.intro (Or.inl rfl) (And.intro (Or.inl rfl) (And.intro (Or.inl rfl) (And.intro (Or.inl rfl) (And.intro (Or.inr rfl) (And.intro (Or.inr rfl) (And.intro (Or.inr rfl) True.intro)))))))))) (hX _ _ h)))

def f_Mo_runs (v0 : Nat) (v1 : Int32) (v2 : Int32) (v3 : Int32) (v4 : Int32) (v5 : Int32) (σ : q_H) : Option ((Unit) × q_H) := (q_sf σ 12 v0 52 (.long v1.toInt64)).bind fun σ1 => (q_sf σ1 12 v0 53 (.int (0 : Int32))).bind fun σ2 => (q_sf σ2 12 v0 54 (.int (0 : Int32))).bind fun σ3 => q_sq (f_Mo_runs_L19 v0 v2 v3 v4 v5 q_FU (0 : Int32) σ3) fun (t38 : Unit) σ39 => some ((), σ39)
set_option maxRecDepth 100000 in
theorem b_Mo_runs {fo : Option Nat} {d : Nat} (hd : 3 ≤ d + 1) {o : q_O} {σ' : q_H} (v0 : Nat) (v1 : Int32) (v2 : Int32) (v3 : Int32) (v4 : Int32) (v5 : Int32) (σ : q_H) : q_J (fun (r : Unit) (σ1 : q_H) => o = .inl none ∧ σ' = σ1) (f_Mo_runs v0 v1 v2 v3 v4 v5 σ) (q_G (q_rf fo) d m_Mo_runs o σ' 0 [some (.ref v0), some (.int v1), some (.int v2), some (.int v3), some (.int v4), some (.int v5), none, none, none, none] [] σ) := by
  unfold f_Mo_runs
  refine J_bind fun σ1 hσ1 => ?_
  refine J_bind fun σ2 hσ2 => ?_
  refine J_bind fun σ3 hσ3 => ?_
  refine J_sq (fun (t38 : Unit) (σ39 : q_H) => q_G (q_rf fo) d m_Mo_runs o σ' 142 [none, none, none, none, none, none, none, none, none, none] [] σ39) (q_J.step (fun g => j_aload_n rfl rfl (j_iload_n rfl rfl (j_i2l rfl (j_putf rfl rfl rfl rfl hσ1 (j_aload_n rfl rfl (j_iconst (0 : Int32) rfl k32_0 (j_putf rfl rfl rfl rfl hσ2 (j_aload_n rfl rfl (j_iconst (0 : Int32) rfl k32_0 (j_putf rfl rfl rfl rfl hσ3 (j_iconst (0 : Int32) rfl k32_0 (j_istore [some (.ref v0), some (.int v1), some (.int v2), some (.int v3), some (.int v4), some (.int v5), some (.int (0 : Int32)), none, none, none] rfl rfl (Or.inr rfl) rfl (j_weak (l := [some (.ref v0), none, some (.int v2), some (.int v3), some (.int v4), some (.int v5), some (.int (0 : Int32)), none, none, none]) (And.intro (Or.inr rfl) (And.intro (Or.inl rfl) (And.intro (Or.inr rfl) (And.intro (Or.inr rfl) (And.intro (Or.inr rfl) (And.intro (Or.inr rfl) (And.intro (Or.inr rfl) (And.intro (Or.inr rfl) (And.intro (Or.inr rfl) (And.intro (Or.inr rfl) True.intro)))))))))) (g)))))))))))))) (l_Mo_runs_L19 hd v0 v2 v3 v4 v5 (fun _ _ h => h) q_FU (0 : Int32) σ3)) (fun t38 σ39 => ?_)
  exact J_some (fun h => j_vret rfl rfl h)
theorem t_Mo_runs {fo : Option Nat} {d : Nat} (hd : 3 ≤ d) {v0 : Nat} {v1 : Int32} {v2 : Int32} {v3 : Int32} {v4 : Int32} {v5 : Int32} {σ σ1 : q_H} {r : Unit} (h : f_Mo_runs v0 v1 v2 v3 v4 v5 σ = some (r, σ1)) : q_Rel (q_rf fo) q_Ms d 265 [.ref v0, .int v1, .int v2, .int v3, .int v4, .int v5] σ (.inl none) σ1 := by
  obtain ⟨d, rfl⟩ : ∃ d1, d = d1 + 1 := ⟨d - 1, by omega⟩
  exact q_Rel.of rfl rfl (b_Mo_runs hd _ _ _ _ _ _ σ _ _ h ⟨rfl, rfl⟩)

def f_Mo_forget (v0 : Nat) (v1 : Int32) (σ : q_H) : Option ((Int32) × q_H) := (q_sf σ 12 v0 0 (.int (0 : Int32))).bind fun σ1 => (q_ob σ1 12 v0).bind fun w2 => q_sq (f_Mo_isThere v0 v1 σ1) fun x4 σ3 => if x4 = (0 : Int32) then (some ((0 : Int32), σ3)) else ((q_gr (q_gf σ3 12 v0 3)).bind fun x6 => (q_sa σ3 22 x6 v1 (.int (0 : Int32))).bind fun σ7 => some ((1 : Int32), σ7))
set_option maxRecDepth 100000 in
theorem b_Mo_forget {fo : Option Nat} {d : Nat} (hd : 4 ≤ d + 1) {o : q_O} {σ' : q_H} (v0 : Nat) (v1 : Int32) (σ : q_H) : q_J (fun (r : Int32) (σ1 : q_H) => o = .inl (some (.int r)) ∧ σ' = σ1) (f_Mo_forget v0 v1 σ) (q_G (q_rf fo) d m_Mo_forget o σ' 0 [some (.ref v0), some (.int v1)] [] σ) := by
  unfold f_Mo_forget
  refine J_bind fun σ1 hσ1 => ?_
  refine J_bind fun w2 hw2 => ?_
  refine J_cl fun x4 σ3 hσ3 => ?_
  refine q_J.step (fun g => j_aload_n rfl rfl (j_iconst (0 : Int32) rfl k32_0 (j_putf rfl rfl rfl rfl hσ1 (j_aload_n rfl rfl (j_iload_n rfl rfl (j_v1 [.ref v0, .int v1] [] rfl rfl rfl rfl rfl rfl hw2 (Or.inl rfl) (t_Mo_isThere (by omega) hσ3) (g))))))) ?_
  refine J_ite (fun h5 => ?_) (fun h5 => ?_)
  · exact J_some (fun h => j_if_f rfl (cc_ne_f h5) (j_iconst (0 : Int32) rfl k32_0 (j_iret rfl (q_zr (Or.inl rfl)) h)))
  refine J_bind fun x6 hx6 => ?_
  refine J_bind fun σ7 hσ7 => ?_
  exact J_some (fun h => j_if_t rfl (cc_ne_t h5) (j_aload_n rfl rfl (j_gfr rfl hx6 (j_iload_n rfl rfl (j_iconst (0 : Int32) rfl k32_0 (j_bas rfl (by decide) hσ7 (j_iconst (1 : Int32) rfl k32_1 (j_iret rfl (q_zr (Or.inr rfl)) h))))))))
theorem t_Mo_forget {fo : Option Nat} {d : Nat} (hd : 4 ≤ d) {v0 : Nat} {v1 : Int32} {σ σ1 : q_H} {r : Int32} (h : f_Mo_forget v0 v1 σ = some (r, σ1)) : q_Rel (q_rf fo) q_Ms d 176 [.ref v0, .int v1] σ (.inl (some (.int r))) σ1 := by
  obtain ⟨d, rfl⟩ : ∃ d1, d = d1 + 1 := ⟨d - 1, by omega⟩
  exact q_Rel.of rfl rfl (b_Mo_forget hd _ _ σ _ _ h ⟨rfl, rfl⟩)

def f_Mo_lines (v0 : Nat) (v1 : Int32) (σ : q_H) : Option ((Int32) × q_H) := (q_sf σ 12 v0 0 (.int (0 : Int32))).bind fun σ1 => (q_ob σ1 12 v0).bind fun w2 => q_sq (f_Mo_isThere v0 v1 σ1) fun x4 σ3 => if x4 = (0 : Int32) then (some ((-1 : Int32), σ3)) else ((q_gr (q_gf σ3 12 v0 7)).bind fun x6 => (q_gi (q_ga σ3 20 x6 v1)).bind fun x7 => some (x7, σ3))
set_option maxRecDepth 100000 in
theorem b_Mo_lines {fo : Option Nat} {d : Nat} (hd : 4 ≤ d + 1) {o : q_O} {σ' : q_H} (v0 : Nat) (v1 : Int32) (σ : q_H) : q_J (fun (r : Int32) (σ1 : q_H) => o = .inl (some (.int r)) ∧ σ' = σ1) (f_Mo_lines v0 v1 σ) (q_G (q_rf fo) d m_Mo_lines o σ' 0 [some (.ref v0), some (.int v1)] [] σ) := by
  unfold f_Mo_lines
  refine J_bind fun σ1 hσ1 => ?_
  refine J_bind fun w2 hw2 => ?_
  refine J_cl fun x4 σ3 hσ3 => ?_
  refine q_J.step (fun g => j_aload_n rfl rfl (j_iconst (0 : Int32) rfl k32_0 (j_putf rfl rfl rfl rfl hσ1 (j_aload_n rfl rfl (j_iload_n rfl rfl (j_v1 [.ref v0, .int v1] [] rfl rfl rfl rfl rfl rfl hw2 (Or.inl rfl) (t_Mo_isThere (by omega) hσ3) (g))))))) ?_
  refine J_ite (fun h5 => ?_) (fun h5 => ?_)
  · exact J_some (fun h => j_if_t rfl (cc_eq_t h5) (j_iconst (-1 : Int32) rfl k32_m1 (j_iret rfl rfl h)))
  refine J_bind fun x6 hx6 => ?_
  refine J_bind fun x7 hx7 => ?_
  exact J_some (fun h => j_if_f rfl (cc_eq_f h5) (j_aload_n rfl rfl (j_gfr rfl hx6 (j_iload_n rfl rfl (j_ial rfl hx7 (j_goto rfl (j_iret rfl rfl h)))))))
theorem t_Mo_lines {fo : Option Nat} {d : Nat} (hd : 4 ≤ d) {v0 : Nat} {v1 : Int32} {σ σ1 : q_H} {r : Int32} (h : f_Mo_lines v0 v1 σ = some (r, σ1)) : q_Rel (q_rf fo) q_Ms d 178 [.ref v0, .int v1] σ (.inl (some (.int r))) σ1 := by
  obtain ⟨d, rfl⟩ : ∃ d1, d = d1 + 1 := ⟨d - 1, by omega⟩
  exact q_Rel.of rfl rfl (b_Mo_lines hd _ _ σ _ _ h ⟨rfl, rfl⟩)

def f_Mo_isLine (v0 : Nat) (v1 : Int32) (v2 : Int32) (σ : q_H) : Option ((Int32) × q_H) := (q_ob σ 12 v0).bind fun w1 => q_sq (f_Mo_isThere v0 v1 σ) fun x3 σ2 => if x3 = (0 : Int32) then (some ((0 : Int32), σ2)) else ((q_gr (q_gf σ2 12 v0 7)).bind fun x5 => (q_gi (q_ga σ2 20 x5 v1)).bind fun x6 => q_sq (f_Mo_within v2 (0 : Int32) (x6 - (1 : Int32)) σ2) fun x8 σ7 => if x8 = (0 : Int32) then (some ((0 : Int32), σ7)) else (some ((1 : Int32), σ7)))
set_option maxRecDepth 100000 in
theorem b_Mo_isLine {fo : Option Nat} {d : Nat} (hd : 4 ≤ d + 1) {o : q_O} {σ' : q_H} (v0 : Nat) (v1 : Int32) (v2 : Int32) (σ : q_H) : q_J (fun (r : Int32) (σ1 : q_H) => o = .inl (some (.int r)) ∧ σ' = σ1) (f_Mo_isLine v0 v1 v2 σ) (q_G (q_rf fo) d m_Mo_isLine o σ' 0 [some (.ref v0), some (.int v1), some (.int v2)] [] σ) := by
  unfold f_Mo_isLine
  refine J_bind fun w1 hw1 => ?_
  refine J_cl fun x3 σ2 hσ2 => ?_
  refine q_J.step (fun g => j_aload_n rfl rfl (j_iload_n rfl rfl (j_v1 [.ref v0, .int v1] [] rfl rfl rfl rfl rfl rfl hw1 (Or.inl rfl) (t_Mo_isThere (by omega) hσ2) (g)))) ?_
  refine J_ite (fun h4 => ?_) (fun h4 => ?_)
  · exact J_some (fun h => j_if_t rfl (cc_eq_t h4) (j_iconst (0 : Int32) rfl k32_0 (j_iret rfl (q_zr (Or.inl rfl)) h)))
  refine J_bind fun x5 hx5 => ?_
  refine J_bind fun x6 hx6 => ?_
  refine J_cl fun x8 σ7 hσ7 => ?_
  refine q_J.step (fun g => j_if_f rfl (cc_eq_f h4) (j_iload_n rfl rfl (j_iconst (0 : Int32) rfl k32_0 (j_aload_n rfl rfl (j_gfr rfl hx5 (j_iload_n rfl rfl (j_ial rfl hx6 (j_iconst (1 : Int32) rfl k32_1 (j_isub rfl (j_s1 [.int v2, .int (0 : Int32), .int (x6 - (1 : Int32))] [] rfl rfl rfl rfl rfl (t_Mo_within (by omega) hσ7) (g))))))))))) ?_
  refine J_ite (fun h9 => ?_) (fun h9 => ?_)
  · exact J_some (fun h => j_if_t rfl (cc_eq_t h9) (j_iconst (0 : Int32) rfl k32_0 (j_iret rfl (q_zr (Or.inl rfl)) h)))
  exact J_some (fun h => j_if_f rfl (cc_eq_f h9) (j_iconst (1 : Int32) rfl k32_1 (j_goto rfl (j_iret rfl (q_zr (Or.inr rfl)) h))))
theorem t_Mo_isLine {fo : Option Nat} {d : Nat} (hd : 4 ≤ d) {v0 : Nat} {v1 : Int32} {v2 : Int32} {σ σ1 : q_H} {r : Int32} (h : f_Mo_isLine v0 v1 v2 σ = some (r, σ1)) : q_Rel (q_rf fo) q_Ms d 180 [.ref v0, .int v1, .int v2] σ (.inl (some (.int r))) σ1 := by
  obtain ⟨d, rfl⟩ : ∃ d1, d = d1 + 1 := ⟨d - 1, by omega⟩
  exact q_Rel.of rfl rfl (b_Mo_isLine hd _ _ _ σ _ _ h ⟨rfl, rfl⟩)

