/-! A small machine: heaps of numbered cells, one step an instruction, calls by a relation. -/
abbrev q_C : Type := Nat × List Value
abbrev q_H : Type := (Nat → Option q_C) × Nat × Nat
/-- pc, instruction, the next pc, two numbers (a tag and a field, a method, a target ..), a constant -/
abbrev q_R : Type := Nat × Instr × Nat × Nat × Nat × Int
/-- what a method comes to: it returned; it threw (the object's address) -/
abbrev q_O : Type := Option Value ⊕ Nat
/-- name, bytes, locals, what it returns, handlers, rows -/
abbrev q_M : Type := MethodName × ByteArray × Nat × Option FieldType × List (Nat × Nat × Nat × Nat) × List q_R
abbrev q_L : Type := List (Option Value)
def q_lk : List q_R → Nat → Option q_R
  | [], _ => none
  | r :: t, pc => bif Nat.beq r.1 pc then some r else q_lk t pc
def q_tbl : List Cond := lw_tbl.filter goodWord
def q_ob (σ : q_H) (t a : Nat) : Option (List Value) := match σ.1 a with
  | some c => if c.1 = t then some c.2 else none
  | none => none
def q_gf (σ : q_H) (t a k : Nat) : Option Value := (q_ob σ t a).bind fun vs => vs[k]?
def q_up (σ : q_H) (a : Nat) (c : q_C) : q_H := (fun q => if q = a then some c else σ.1 q, σ.2)
def q_sf (σ : q_H) (t a k : Nat) (v : Value) : Option q_H := (q_ob σ t a).bind fun vs => if 8 ≤ a ∧ k < vs.length then some (q_up σ a (t, vs.set k v)) else none
def q_ga (σ : q_H) (t a : Nat) (i : Int32) : Option Value := if i < 0 then none else q_gf σ t a i.toNatClampNeg
def q_sa (σ : q_H) (t a : Nat) (i : Int32) (v : Value) : Option q_H := if i < 0 then none else q_sf σ t a i.toNatClampNeg v
def q_mk (σ : q_H) (t : Nat) (vs : List Value) : q_H := (fun q => if q = σ.2.1 then some (t, vs) else σ.1 q, σ.2.1 + 1, σ.2.2 + vs.length)
def q_cc (c : Jvm.ClassFile.Cond) (x y : Int32) : Bool := match c with
  | .eq => decide (x = y)
  | .ne => decide (¬ x = y)
  | .lt => decide (x < y)
  | .ge => decide (y ≤ x)
  | .gt => decide (y < x)
  | .le => decide (x ≤ y)
/-- no long begins just ahead of a place -/
def q_c1 (ls : q_L) (i : Nat) : Prop := i = 0 ∨ match ls[i - 1]? with
  | some (some v) => v.category = 1
  | _ => True
def q_set1 (ls : q_L) (i : Nat) (v : Value) : q_L := ls.set i (some v)
def q_set2 (ls : q_L) (i : Nat) (v : Value) : q_L := (ls.set i (some v)).set (i + 1) none
/-- what is known of the places, less of it -/
def q_le : q_L → q_L → Prop
  | [], [] => True
  | a :: l, b :: m => (a = none ∨ a = b) ∧ q_le l m
  | _, _ => False
def q_args : List Value → q_L
  | [] => []
  | v :: t => if v.category = 2 then some v :: none :: q_args t else some v :: q_args t
def q_in (n : Nat) (vs : List Value) : q_L := q_args vs ++ List.replicate (n - (q_args vs).length) none
def q_ret (ty : Option FieldType) (v : Value) : Prop := match ty with
  | some t => narrow t v = v
  | none => False
/-- null, or an address -/
def q_rf : Option Nat → Value
  | none => .null
  | some a => .ref a
theorem q_rf_cat (o : Option Nat) : (q_rf o).category = 1 := by cases o <;> rfl
theorem q_rf_is (o : Option Nat) : q_rf o = .null ∨ ∃ a, q_rf o = .ref a := by cases o <;> simp [q_rf]
def q_st : Nat → Value := fun n => match n with
  | 0 => .int 1
  | _ => .ref 1
def q_cat (st : List Value) : Nat := (st.map fun v => v.category).sum
/-- the handler of a place -/
def q_hd : List (Nat × Nat × Nat × Nat) → Nat → Option Nat
  | [], _ => none
  | h :: t, pc => if h.1 ≤ pc ∧ pc < h.2.1 then some h.2.2.1 else q_hd t pc
section
variable (fm : Value) (Ms : Nat → Option q_M) (C : Nat → List Value → q_H → q_O → q_H → Prop) (d : Nat) (M : q_M)
/-- one step: K what follows -/
def q_one (r : q_R) (K : Nat → q_L → List Value → q_H → Prop) (ls : q_L) (st : List Value) (σ : q_H) (o : q_O) (σ' : q_H) : Prop := match r.2.1 with
  | .aconst_null => K r.2.2.1 ls (.null :: st) σ
  | .iconst n => K r.2.2.1 ls (.int (Int32.ofInt n) :: st) σ
  | .lconst n => K r.2.2.1 ls (.long (Int64.ofNat n) :: st) σ
  | .bipush n => K r.2.2.1 ls (.int (Int8.ofInt n).toInt32 :: st) σ
  | .sipush n => K r.2.2.1 ls (.int (Int16.ofInt n).toInt32 :: st) σ
  | .ldc _ => K r.2.2.1 ls (.ref r.2.2.2.1 :: st) σ
  | .ldc2_w _ => K r.2.2.1 ls (.long (Int64.ofInt r.2.2.2.2.2) :: st) σ
  | .iload k => ∃ x, ls[k]? = some (some (.int x)) ∧ K r.2.2.1 ls (.int x :: st) σ
  | .iload_n k => ∃ x, ls[k.val]? = some (some (.int x)) ∧ K r.2.2.1 ls (.int x :: st) σ
  | .lload k => ∃ x, ls[k]? = some (some (.long x)) ∧ K r.2.2.1 ls (.long x :: st) σ
  | .lload_n k => ∃ x, ls[k.val]? = some (some (.long x)) ∧ K r.2.2.1 ls (.long x :: st) σ
  | .aload k => ∃ v, ls[k]? = some (some v) ∧ (v = .null ∨ ∃ a : Nat, v = .ref a) ∧ K r.2.2.1 ls (v :: st) σ
  | .aload_n k => ∃ v, ls[k.val]? = some (some v) ∧ (v = .null ∨ ∃ a : Nat, v = .ref a) ∧ K r.2.2.1 ls (v :: st) σ
  | .istore k => ∃ x t, st = .int x :: t ∧ k < ls.length ∧ q_c1 ls (k) ∧ K r.2.2.1 (q_set1 ls k (.int x)) t σ
  | .istore_n k => ∃ x t, st = .int x :: t ∧ k.val < ls.length ∧ q_c1 ls (k.val) ∧ K r.2.2.1 (q_set1 ls k.val (.int x)) t σ
  | .lstore k => ∃ x t, st = .long x :: t ∧ k + 1 < ls.length ∧ q_c1 ls (k) ∧ K r.2.2.1 (q_set2 ls k (.long x)) t σ
  | .lstore_n k => ∃ x t, st = .long x :: t ∧ k.val + 1 < ls.length ∧ q_c1 ls (k.val) ∧ K r.2.2.1 (q_set2 ls k.val (.long x)) t σ
  | .astore k => ∃ v t, st = v :: t ∧ (v = .null ∨ ∃ a : Nat, v = .ref a) ∧ k < ls.length ∧ q_c1 ls (k) ∧ K r.2.2.1 (q_set1 ls k v) t σ
  | .astore_n k => ∃ v t, st = v :: t ∧ (v = .null ∨ ∃ a : Nat, v = .ref a) ∧ k.val < ls.length ∧ q_c1 ls (k.val) ∧ K r.2.2.1 (q_set1 ls k.val v) t σ
  | .iinc k n => ∃ x, ls[k]? = some (some (.int x)) ∧ q_c1 ls k ∧ K r.2.2.1 (q_set1 ls k (.int (x + Int32.ofInt n))) st σ
  | .pop => ∃ v t, st = v :: t ∧ v.category = 1 ∧ K r.2.2.1 ls t σ
  | .dup => ∃ v t, st = v :: t ∧ v.category = 1 ∧ K r.2.2.1 ls (v :: v :: t) σ
  | .dup2 => ∃ v w t, st = v :: w :: t ∧ v.category = 1 ∧ w.category = 1 ∧ K r.2.2.1 ls (v :: w :: v :: w :: t) σ
  | .iadd => ∃ x y t, st = .int y :: .int x :: t ∧ K r.2.2.1 ls (.int (x + y) :: t) σ
  | .isub => ∃ x y t, st = .int y :: .int x :: t ∧ K r.2.2.1 ls (.int (x - y) :: t) σ
  | .imul => ∃ x y t, st = .int y :: .int x :: t ∧ K r.2.2.1 ls (.int (x * y) :: t) σ
  | .idiv => ∃ x y t, st = .int y :: .int x :: t ∧ ¬ y = 0 ∧ K r.2.2.1 ls (.int (x / y) :: t) σ
  | .irem => ∃ x y t, st = .int y :: .int x :: t ∧ ¬ y = 0 ∧ K r.2.2.1 ls (.int (x - x / y * y) :: t) σ
  | .ineg => ∃ x t, st = .int x :: t ∧ K r.2.2.1 ls (.int (-x) :: t) σ
  | .iand => ∃ x y t, st = .int y :: .int x :: t ∧ K r.2.2.1 ls (.int (x &&& y) :: t) σ
  | .ior => ∃ x y t, st = .int y :: .int x :: t ∧ K r.2.2.1 ls (.int (x ||| y) :: t) σ
  | .ishl => ∃ x y t, st = .int y :: .int x :: t ∧ K r.2.2.1 ls (.int (x <<< (y &&& 31)) :: t) σ
  | .ishr => ∃ x y t, st = .int y :: .int x :: t ∧ K r.2.2.1 ls (.int (x >>> (y &&& 31)) :: t) σ
  | .ladd => ∃ x y t, st = .long y :: .long x :: t ∧ K r.2.2.1 ls (.long (x + y) :: t) σ
  | .lsub => ∃ x y t, st = .long y :: .long x :: t ∧ K r.2.2.1 ls (.long (x - y) :: t) σ
  | .lmul => ∃ x y t, st = .long y :: .long x :: t ∧ K r.2.2.1 ls (.long (x * y) :: t) σ
  | .ldiv => ∃ x y t, st = .long y :: .long x :: t ∧ ¬ y = 0 ∧ K r.2.2.1 ls (.long (x / y) :: t) σ
  | .lrem => ∃ x y t, st = .long y :: .long x :: t ∧ ¬ y = 0 ∧ K r.2.2.1 ls (.long (x - x / y * y) :: t) σ
  | .lneg => ∃ x t, st = .long x :: t ∧ K r.2.2.1 ls (.long (-x) :: t) σ
  | .land => ∃ x y t, st = .long y :: .long x :: t ∧ K r.2.2.1 ls (.long (x &&& y) :: t) σ
  | .lor => ∃ x y t, st = .long y :: .long x :: t ∧ K r.2.2.1 ls (.long (x ||| y) :: t) σ
  | .lshl => ∃ x y t, st = .int y :: .long x :: t ∧ K r.2.2.1 ls (.long (x <<< (y.toInt64 &&& 63)) :: t) σ
  | .lushr => ∃ x y t, st = .int y :: .long x :: t ∧ K r.2.2.1 ls (.long (x.toUInt64 >>> (y.toInt64.toUInt64 &&& Int64.toUInt64 63)).toInt64 :: t) σ
  | .lcmp => ∃ x y t, st = .long y :: .long x :: t ∧ K r.2.2.1 ls (.int (lg_cmp x y) :: t) σ
  | .i2l => ∃ x t, st = .int x :: t ∧ K r.2.2.1 ls (.long x.toInt64 :: t) σ
  | .l2i => ∃ x t, st = .long x :: t ∧ K r.2.2.1 ls (.int x.toInt32 :: t) σ
  | .i2c => ∃ x t, st = .int x :: t ∧ K r.2.2.1 ls (.int (x.toUInt32 % 65536).toInt32 :: t) σ
  | .i2b => ∃ x t, st = .int x :: t ∧ K r.2.2.1 ls (.int x.toInt8.toInt32 :: t) σ
  | .ifCond c _ => ∃ x t, st = .int x :: t ∧ K (if q_cc c x 0 = true then r.2.2.2.1 else r.2.2.1) ls t σ
  | .if_icmp c _ => ∃ x y t, st = .int y :: .int x :: t ∧ K (if q_cc c x y = true then r.2.2.2.1 else r.2.2.1) ls t σ
  | .ifnull _ => ∃ v t, st = v :: t ∧ ((v = .null ∧ K r.2.2.2.1 ls t σ) ∨ ((∃ a : Nat, v = .ref a) ∧ K r.2.2.1 ls t σ))
  | .ifnonnull _ => ∃ v t, st = v :: t ∧ ((v = .null ∧ K r.2.2.1 ls t σ) ∨ ((∃ a : Nat, v = .ref a) ∧ K r.2.2.2.1 ls t σ))
  | .goto _ => K r.2.2.2.1 ls st σ
  | .tableswitch df lo hi offs => ∃ x t, st = .int x :: t ∧ ∃ tgt : Nat, (r.1 : Int) + (if x.toInt < lo ∨ hi < x.toInt then df else (offs.getD (x.toInt - lo).toNat df)) = (tgt : Int) ∧ (x.toInt < lo ∨ hi < x.toInt ∨ (x.toInt - lo).toNat < offs.size) ∧ K tgt ls t σ
  | .getfield _ => ∃ a : Nat, ∃ t v, st = .ref a :: t ∧ q_gf σ r.2.2.2.1 a r.2.2.2.2.1 = some v ∧ K r.2.2.1 ls (v :: t) σ
  | .putfield _ => ∃ a : Nat, ∃ v t ty f σ1, st = v :: .ref a :: t ∧ q_cty[r.2.2.2.1]? = some f ∧ f r.2.2.2.2.1 = ty ∧ narrow ty v = v ∧ fits ty v = true ∧ q_sf σ r.2.2.2.1 a r.2.2.2.2.1 v = some σ1 ∧ K r.2.2.1 ls t σ1
  | .getstatic _ => K r.2.2.1 ls ((if r.2.2.2.1 = 2 then fm else q_st r.2.2.2.1) :: st) σ
  | .iaload => ∃ a : Nat, ∃ i t v, st = .int i :: .ref a :: t ∧ q_ga σ 20 a i = some v ∧ K r.2.2.1 ls (v :: t) σ
  | .laload => ∃ a : Nat, ∃ i t v, st = .int i :: .ref a :: t ∧ q_ga σ 21 a i = some v ∧ K r.2.2.1 ls (v :: t) σ
  | .baload => ∃ a : Nat, ∃ i t v, st = .int i :: .ref a :: t ∧ (r.2.2.2.1 = 22 ∨ r.2.2.2.1 = 24) ∧ q_ga σ r.2.2.2.1 a i = some v ∧ K r.2.2.1 ls (v :: t) σ
  | .caload => ∃ a : Nat, ∃ i t v, st = .int i :: .ref a :: t ∧ q_ga σ 23 a i = some v ∧ K r.2.2.1 ls (v :: t) σ
  | .aaload => ∃ a : Nat, ∃ i t v, st = .int i :: .ref a :: t ∧ 25 ≤ r.2.2.2.1 ∧ r.2.2.2.1 ≤ 28 ∧ q_ga σ r.2.2.2.1 a i = some v ∧ K r.2.2.1 ls (v :: t) σ
  | .iastore => ∃ a : Nat, ∃ i x t σ1, st = .int x :: .int i :: .ref a :: t ∧ q_sa σ 20 a i (.int x) = some σ1 ∧ K r.2.2.1 ls t σ1
  | .lastore => ∃ a : Nat, ∃ i x t σ1, st = .long x :: .int i :: .ref a :: t ∧ q_sa σ 21 a i (.long x) = some σ1 ∧ K r.2.2.1 ls t σ1
  | .bastore => ∃ a : Nat, ∃ i x t σ1, st = .int x :: .int i :: .ref a :: t ∧ (x = 0 ∨ x = 1) ∧ q_sa σ 22 a i (.int x) = some σ1 ∧ K r.2.2.1 ls t σ1
  | .castore => ∃ a : Nat, ∃ i x t σ1, st = .int x :: .int i :: .ref a :: t ∧ narrow .char (.int x) = .int x ∧ q_sa σ 23 a i (.int x) = some σ1 ∧ K r.2.2.1 ls t σ1
  | .aastore => ∃ a : Nat, ∃ i v t σ1, st = v :: .int i :: .ref a :: t ∧ ((r.2.2.2.1 = 25 ∧ r.2.2.2.2.1 = 8) ∨ (r.2.2.2.1 = 26 ∧ r.2.2.2.2.1 = 2) ∨ (r.2.2.2.1 = 27 ∧ r.2.2.2.2.1 = 6)) ∧ (v = .null ∨ ∃ b : Nat, ∃ vs, v = .ref b ∧ σ.1 b = some (r.2.2.2.2.1, vs)) ∧ q_sa σ r.2.2.2.1 a i v = some σ1 ∧ K r.2.2.1 ls t σ1
  | .arraylength => ∃ a : Nat, ∃ t c, st = .ref a :: t ∧ σ.1 a = some c ∧ 20 ≤ c.1 ∧ K r.2.2.1 ls (.int c.2.length.toInt32 :: t) σ
  | .newarray _ => ∃ n t ty, st = .int n :: t ∧ q_aty r.2.2.2.1 = some ty ∧ ¬ n < 0 ∧ n.toNatClampNeg ≤ 100000 ∧ K r.2.2.1 ls (.ref σ.2.1 :: t) (q_mk σ r.2.2.2.1 (List.replicate n.toNatClampNeg (defaultValue ty)))
  | .anewarray _ => ∃ n t, st = .int n :: t ∧ ¬ n < 0 ∧ n.toNatClampNeg ≤ 100000 ∧ K r.2.2.1 ls (.ref σ.2.1 :: t) (q_mk σ r.2.2.2.1 (List.replicate n.toNatClampNeg .null))
  | .multianewarray _ _ => ∃ n k t, st = .int k :: .int n :: t ∧ n = 4 ∧ k = 17 ∧ K r.2.2.1 ls (.ref σ.2.1 :: t) (q_mk (q_mk (q_mk (q_mk (q_mk σ 28 [.ref (σ.2.1 + 1), .ref (σ.2.1 + 2), .ref (σ.2.1 + 3), .ref (σ.2.1 + 4)]) 20 (List.replicate 17 (.int 0))) 20 (List.replicate 17 (.int 0))) 20 (List.replicate 17 (.int 0))) 20 (List.replicate 17 (.int 0)))
  | .new _ => (r.2.2.2.1 < 13 ∧ ∃ vs, q_dl[r.2.2.2.1]? = some vs ∧ K r.2.2.1 ls (.ref σ.2.1 :: st) (q_mk σ r.2.2.2.1 vs)) ∨ (r.2.2.2.1 = 99 ∧ 6 ≤ d ∧ q_cat st ≤ 8 ∧ M.2.2.2.2.1 = [] ∧ o = .inr σ.2.1 ∧ σ' = (σ.1, σ.2.1 + 1, σ.2.2 + 6))
  | .invokespecial _ => (r.2.2.2.1 = 999 ∧ ∃ a : Nat, ∃ t, st = .ref a :: t ∧ q_cat t ≤ 8 ∧ K r.2.2.1 ls t σ) ∨ ∃ z as t v σ1, st = as.reverse ++ t ∧ q_cat t ≤ 8 ∧ Ms r.2.2.2.1 = some z ∧ as.length = r.2.2.2.2.1 ∧ (∃ a : Nat, as.head? = some (.ref a)) ∧ C r.2.2.2.1 as σ (.inl v) σ1 ∧ K r.2.2.1 ls (v.toList ++ t) σ1
  | .invokestatic _ => (r.2.2.2.1 = 990 ∧ ∃ x y t, st = .int y :: .int x :: t ∧ q_cat t ≤ 8 ∧ K r.2.2.1 ls (.int (if x < y then y else x) :: t) σ) ∨ (r.2.2.2.1 = 991 ∧ ∃ x y t, st = .int y :: .int x :: t ∧ q_cat t ≤ 8 ∧ K r.2.2.1 ls (.int (if y < x then y else x) :: t) σ) ∨ (r.2.2.2.1 = 992 ∧ ∃ x t, st = .int x :: t ∧ q_cat t ≤ 8 ∧ K r.2.2.1 ls (.int (if 0 ≤ x then x else 0 - x) :: t) σ) ∨ (r.2.2.2.1 = 993 ∧ ∃ x t, st = .long x :: t ∧ q_cat t ≤ 8 ∧ K r.2.2.1 ls (.long (if 0 < x then x else -x) :: t) σ) ∨ (r.2.2.2.1 = 994 ∧ ∃ x y t, st = .long y :: .long x :: t ∧ q_cat t ≤ 8 ∧ K r.2.2.1 ls (.long (if y < x then x else y) :: t) σ) ∨ ∃ z as t v σ1, st = as.reverse ++ t ∧ q_cat t ≤ 8 ∧ Ms r.2.2.2.1 = some z ∧ as.length = r.2.2.2.2.1 ∧ C r.2.2.2.1 as σ (.inl v) σ1 ∧ K r.2.2.1 ls (v.toList ++ t) σ1
  | .invokevirtual _ => ∃ z as t w σ1, st = as.reverse ++ t ∧ q_cat t ≤ 8 ∧ Ms r.2.2.2.1 = some z ∧ as.length = r.2.2.2.2.1 ∧ (∃ a : Nat, ∃ c, as.head? = some (.ref a) ∧ σ.1 a = some c ∧ (q_ct[c.1]?.map (fun q => q.1) = some z.1.cls ∨ (c.1 = 13 ∧ z.1.cls = "java/lang/String"))) ∧ C r.2.2.2.1 as σ w σ1 ∧ ((∃ v, w = .inl v ∧ K r.2.2.1 ls (v.toList ++ t) σ1) ∨ ∃ q h k nx n1 n2 z, w = .inr q ∧ q_hd M.2.2.2.2.1 r.1 = some h ∧ (q_lk M.2.2.2.2.2 h = some (h, .astore k, nx, n1, n2, z) ∨ ∃ k4 : Fin 4, k4.val = k ∧ q_lk M.2.2.2.2.2 h = some (h, .astore_n k4, nx, n1, n2, z)) ∧ k < ls.length ∧ q_c1 ls k ∧ K nx (ls.set k none) [] σ1)
  | .ireturn => ∃ x, st = [.int x] ∧ q_ret M.2.2.2.1 (.int x) ∧ o = .inl (some (.int x)) ∧ σ' = σ
  | .lreturn => ∃ x, st = [.long x] ∧ M.2.2.2.1 = some .long ∧ o = .inl (some (.long x)) ∧ σ' = σ
  | .areturn => ∃ v, st = [v] ∧ (v = .null ∨ ∃ a : Nat, v = .ref a) ∧ ((∃ n, M.2.2.2.1 = some (.object n)) ∨ ∃ t, M.2.2.2.1 = some (.array t)) ∧ o = .inl (some v) ∧ σ' = σ
  | .return_ => st = [] ∧ M.2.2.2.1 = none ∧ o = .inl none ∧ σ' = σ
  | _ => False
def q_run (o : q_O) (σ' : q_H) : Nat → Nat → q_L → List Value → q_H → Prop
  | 0, _, _, _, _ => False
  | n + 1, pc, ls, st, σ => ∃ r ls0, q_lk M.2.2.2.2.2 pc = some r ∧ q_le ls0 ls ∧ q_one fm Ms C d M r (q_run o σ' n) ls0 st σ o σ'
end
/-- method y, called with these in this heap, comes to o with that heap: within d calls below it -/
def q_Rel (fm : Value) (Ms : Nat → Option q_M) : Nat → Nat → List Value → q_H → q_O → q_H → Prop
  | 0, _, _, _, _, _ => False
  | d + 1, y, as, σ, o, σ' => ∃ M n, Ms y = some M ∧ (q_args as).length ≤ M.2.2.1 ∧ q_run fm Ms (q_Rel fm Ms d) (d + 1) M o σ' n 0 (q_in M.2.2.1 as) [] σ
