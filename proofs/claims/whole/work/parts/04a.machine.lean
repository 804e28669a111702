/-! THE SMALL MACHINE: what the methods do, as a function. Ints of fields and of int rows lie in I (cell, place); longs, references and the cells' shapes in r. -/
abbrev mm_I : Type := Nat → Nat → Int32
abbrev mm_L : Type := List (Option Value)
abbrev mm_R : Type := (Nat → Nat → Int64) × (Nat → Nat → Option Nat) × (Nat → Nat × Nat) × Nat × Nat
def mm_G (r : mm_R) : Nat → Nat → Int64 := r.1
def mm_P (r : mm_R) : Nat → Nat → Option Nat := r.2.1
/-- (1, ci): an object; (2, n): ints; (3, n): longs; (4, n): LANES; (5, n): SHEETS; (0, _): no cell -/
def mm_S (r : mm_R) : Nat → Nat × Nat := r.2.2.1
def mm_t (r : mm_R) : Nat := r.2.2.2.1
def mm_n (r : mm_R) : Nat := r.2.2.2.2
def mm_uI (I : mm_I) (a k : Nat) (x : Int32) : mm_I := fun b => if b = a then upd (I a) k x else I b
def mm_uG (r : mm_R) (a k : Nat) (x : Int64) : mm_R := (fun b => if b = a then vp_updL (r.1 a) k x else r.1 b, r.2)
def mm_uP (r : mm_R) (a k : Nat) (x : Option Nat) : mm_R := (r.1, fun b => if b = a then va_up (r.2.1 a) k x else r.2.1 b, r.2.2)
def mm_cG (r : mm_R) (a b sp dp n : Nat) : mm_R := (fun q => if q = a then va_cpy (r.1 b) (r.1 a) sp dp n else r.1 q, r.2)
def mm_nI (I : mm_I) (r : mm_R) : mm_I := fun q => if q = mm_t r then (fun _ => 0) else I q
def mm_nR (r : mm_R) (sh : Nat × Nat) (w : Nat) : mm_R := (fun q => if q = mm_t r then (fun _ => 0) else r.1 q, fun q => if q = mm_t r then (fun _ => none) else r.2.1 q, fun q => if q = mm_t r then sh else r.2.2.1 q, mm_t r + 1, mm_n r + w)
def mm_ik (ci k : Nat) : Bool := match mm_tyn ci k with
  | .int => true
  | .boolean => true
  | _ => false
def mm_bo (ci k : Nat) : Bool := match mm_tyn ci k with
  | .boolean => true
  | _ => false
abbrev mm_C : Type := Nat × mm_L × List Value × mm_I × mm_R
abbrev mm_O : Type := mm_C ⊕ (Option Value ⊕ (Nat × List Value × Nat × List Value))
def mm_nx (pc : Nat) (ls : mm_L) (st : List Value) (I : mm_I) (r : mm_R) : Option mm_O := some (.inl (pc, ls, st, I, r))
def mm_ld (ls : mm_L) (i : Nat) : Option Value := (ls[i]?).join
def mm_li (v : Option Value) (f : Int32 → Option mm_O) : Option mm_O := match v with
  | some (.int x) => f x
  | _ => none
def mm_ll (v : Option Value) (f : Int64 → Option mm_O) : Option mm_O := match v with
  | some (.long x) => f x
  | _ => none
def mm_la (v : Option Value) (f : Nat → Option mm_O) : Option mm_O := match v with
  | some (.ref x) => f x
  | _ => none
/-- storing a value of one slot: the slot before must hold no long -/
def mm_s1 (ls : mm_L) (i : Nat) (v : Value) (f : mm_L → Option mm_O) : Option mm_O :=
  if i < ls.length ∧ (i = 0 ∨ ((mm_ld ls (i - 1)).map Value.category).getD 1 = 1) then f (ls.set i (some v)) else none
def mm_i1 (st : List Value) (f : Int32 → List Value → Option mm_O) : Option mm_O := match st with
  | .int x :: s => f x s
  | _ => none
def mm_i2 (st : List Value) (f : Int32 → Int32 → List Value → Option mm_O) : Option mm_O := match st with
  | .int y :: .int x :: s => f x y s
  | _ => none
def mm_l1 (st : List Value) (f : Int64 → List Value → Option mm_O) : Option mm_O := match st with
  | .long x :: s => f x s
  | _ => none
def mm_l2 (st : List Value) (f : Int64 → Int64 → List Value → Option mm_O) : Option mm_O := match st with
  | .long y :: .long x :: s => f x y s
  | _ => none
def mm_a1 (st : List Value) (f : Nat → List Value → Option mm_O) : Option mm_O := match st with
  | .ref a :: s => f a s
  | _ => none
def mm_ia (st : List Value) (f : Nat → Int32 → List Value → Option mm_O) : Option mm_O := match st with
  | .int i :: .ref a :: s => f a i s
  | _ => none
def mm_iia (st : List Value) (f : Nat → Int32 → Int32 → List Value → Option mm_O) : Option mm_O := match st with
  | .int x :: .int i :: .ref a :: s => f a i x s
  | _ => none
def mm_lia (st : List Value) (f : Nat → Int32 → Int64 → List Value → Option mm_O) : Option mm_O := match st with
  | .long x :: .int i :: .ref a :: s => f a i x s
  | _ => none
def mm_aia (st : List Value) (f : Nat → Int32 → Nat → List Value → Option mm_O) : Option mm_O := match st with
  | .ref x :: .int i :: .ref a :: s => f a i x s
  | _ => none
def mm_v1 (st : List Value) (f : Value → List Value → Option mm_O) : Option mm_O := match st with
  | x :: s => f x s
  | _ => none
def mm_v2 (st : List Value) (f : Value → Value → List Value → Option mm_O) : Option mm_O := match st with
  | y :: x :: s => f x y s
  | _ => none
def mm_pt (st : List Value) (f : Nat → Int32 → List Value → Option mm_O) (g : Nat → Nat → List Value → Option mm_O) : Option mm_O := match st with
  | .int x :: .ref a :: s => f a x s
  | .ref q :: .ref a :: s => g a q s
  | _ => none
def mm_cp (st : List Value) (f : Nat → Int32 → Nat → Int32 → Int32 → List Value → Option mm_O) : Option mm_O := match st with
  | .int n :: .int dp :: .ref a :: .int sp :: .ref b :: s => f b sp a dp n s
  | _ => none
def mm_cmp (c : Jvm.ClassFile.Cond) (x y : Int32) : Bool := match c with
  | .eq => decide (x = y)
  | .ne => decide (¬ x = y)
  | .lt => decide (x < y)
  | .ge => decide (y ≤ x)
  | .gt => decide (y < x)
  | .le => decide (x ≤ y)
def mm_jp (pc : Nat) (off : Int) (ls : mm_L) (st : List Value) (I : mm_I) (r : mm_R) : Option mm_O := if 0 ≤ (pc : Int) + off then mm_nx ((pc : Int) + off).toNat ls st I r else none
def mm_go (b : Bool) (pc : Nat) (off : Int) (ls : mm_L) (st : List Value) (I : mm_I) (r : mm_R) : Option mm_O := if 0 ≤ (pc : Int) + off then (if b = true then mm_nx ((pc : Int) + off).toNat ls st I r else mm_nx (pc + 3) ls st I r) else none
def mm_w8 (s : List Value) : Bool := decide ((s.map fun v => v.category).sum ≤ 8)
def mm_sl (av : List Value) : mm_L := av.flatMap (fun v => if v.category = 2 then [some v, none] else [some v])
def mm_vc (j j2 pc : Nat) (st : List Value) (r : mm_R) : Option mm_O := match st.drop (mm_a j2) with
  | .ref b :: s => if (st.take (mm_a j2)).length = mm_a j2 ∧ mm_k j2 = 0 ∧ mm_h j2 < mm_h j ∧ mm_w8 s = true ∧ mm_S r b = (1, mm_o j2) ∧ mm_x j2 ≤ 15 ∧ (mm_sl (.ref b :: (st.take (mm_a j2)).reverse)).length ≤ mm_x j2 then some (.inr (.inr (j2, .ref b :: (st.take (mm_a j2)).reverse, pc + 3, s))) else none
  | _ => none
def mm_xc (j j2 pc : Nat) (st : List Value) (r : mm_R) : Option mm_O := match st.drop (mm_a j2) with
  | .ref b :: s => if (st.take (mm_a j2)).length = mm_a j2 ∧ mm_k j2 = 2 ∧ mm_h j2 < mm_h j ∧ mm_w8 s = true ∧ mm_x j2 ≤ 15 ∧ (mm_sl (.ref b :: (st.take (mm_a j2)).reverse)).length ≤ mm_x j2 then some (.inr (.inr (j2, .ref b :: (st.take (mm_a j2)).reverse, pc + 3, s))) else none
  | _ => none
def mm_sc (j j2 pc : Nat) (st : List Value) : Option mm_O :=
  if (st.take (mm_a j2)).length = mm_a j2 ∧ mm_k j2 = 1 ∧ mm_h j2 < mm_h j ∧ mm_w8 (st.drop (mm_a j2)) = true ∧ mm_x j2 ≤ 15 ∧ (mm_sl (st.take (mm_a j2)).reverse).length ≤ mm_x j2 then some (.inr (.inr (j2, (st.take (mm_a j2)).reverse, pc + 3, st.drop (mm_a j2)))) else none
def mm_ocp (j pc : Nat) (ls : mm_L) (st : List Value) (I : mm_I) (r : mm_R) : Option mm_O := mm_cp st (fun b sp a dp n s =>
  if (1 ≤ mm_h j ∧ mm_w8 s = true) ∧ (mm_S r b).1 = 3 ∧ (mm_S r a).1 = 3 ∧ ¬ sp < 0 ∧ ¬ dp < 0 ∧ ¬ n < 0 ∧ sp.toNatClampNeg + n.toNatClampNeg ≤ (mm_S r b).2 ∧ dp.toNatClampNeg + n.toNatClampNeg ≤ (mm_S r a).2 then mm_nx (pc + 3) ls s I (mm_cG r a b sp.toNatClampNeg dp.toNatClampNeg n.toNatClampNeg) else none)
def mm_rti (j : Nat) (st : List Value) : Option mm_O := mm_i1 st (fun x s => if s = [] ∧ (mm_r j = some .int ∨ (mm_r j = some .boolean ∧ (x = 0 ∨ x = 1))) then some (.inr (.inl (some (.int x)))) else none)
def mm_rtl (j : Nat) (st : List Value) : Option mm_O := mm_l1 st (fun x s => if s = [] ∧ mm_r j = some .long then some (.inr (.inl (some (.long x)))) else none)
def mm_gf (q : Option (Nat × Nat)) (pc : Nat) (ls : mm_L) (st : List Value) (I : mm_I) (r : mm_R) : Option mm_O := match q with
  | some (ci, k) => mm_a1 st (fun a s => if mm_S r a = (1, ci) then mm_nx (pc + 3) ls ((if mm_ik ci k = true then .int (I a k) else va_rf (mm_P r a k)) :: s) I r else none)
  | none => none
def mm_pf (q : Option (Nat × Nat)) (j pc : Nat) (ls : mm_L) (st : List Value) (I : mm_I) (r : mm_R) : Option mm_O := match q with
  | some (ci, k) => mm_pt st (fun a x s => if mm_S r a = (1, ci) ∧ mm_ik ci k = true ∧ (mm_Tn ci k).2.2.2 = false ∧ (mm_bo ci k = false ∨ x = 0 ∨ x = 1) then mm_nx (pc + 3) ls s (mm_uI I a k x) r else none)
      (fun a v s => if mm_S r a = (1, ci) ∧ mm_ik ci k = false ∧ (mm_Tn ci k).2.2.2 = true ∧ mm_k j = 2 ∧ mm_o j = ci then mm_nx (pc + 3) ls s I (mm_uP r a k (some v)) else none)
  | none => none
def mm_ts (pc : Nat) (dflt lo hi : Int) (offs : Array Int) (x : Int32) (ls : mm_L) (s : List Value) (I : mm_I) (r : mm_R) : Option mm_O :=
  if x.toInt < lo ∨ hi < x.toInt then mm_jp pc dflt ls s I r else match offs[(x.toInt - lo).toNat]? with
  | some off => mm_jp pc off ls s I r
  | none => none
def mm_act (j pc : Nat) (i : Instr) (ls : mm_L) (st : List Value) (I : mm_I) (r : mm_R) : Option mm_O := match i with
  | .iload_n k => mm_li (mm_ld ls k) (fun x => mm_nx (pc + 1) ls (.int x :: st) I r)
  | .iload k => mm_li (mm_ld ls k) (fun x => mm_nx (pc + 2) ls (.int x :: st) I r)
  | .aload_n k => mm_la (mm_ld ls k) (fun x => mm_nx (pc + 1) ls (.ref x :: st) I r)
  | .aload k => mm_la (mm_ld ls k) (fun x => mm_nx (pc + 2) ls (.ref x :: st) I r)
  | .lload_n k => mm_ll (mm_ld ls k) (fun x => mm_nx (pc + 1) ls (.long x :: st) I r)
  | .lload k => mm_ll (mm_ld ls k) (fun x => mm_nx (pc + 2) ls (.long x :: st) I r)
  | .iconst n => mm_nx (pc + 1) ls (.int (Int32.ofInt n) :: st) I r
  | .bipush n => mm_nx (pc + 2) ls (.int (Int8.ofInt n).toInt32 :: st) I r
  | .sipush n => mm_nx (pc + 3) ls (.int (Int16.ofInt n).toInt32 :: st) I r
  | .lconst n => mm_nx (pc + 1) ls (.long (Int64.ofNat n) :: st) I r
  | .ldc k => match mm_ci (mm_o j) k with
    | some x => mm_nx (pc + 2) ls (.int x :: st) I r
    | none => none
  | .ldc_w k => match mm_ci (mm_o j) k with
    | some x => mm_nx (pc + 3) ls (.int x :: st) I r
    | none => none
  | .ldc2_w k => match mm_cl (mm_o j) k with
    | some x => mm_nx (pc + 3) ls (.long x :: st) I r
    | none => none
  | .istore_n k => mm_i1 st (fun x s => mm_s1 ls k (.int x) (fun ls2 => mm_nx (pc + 1) ls2 s I r))
  | .istore k => mm_i1 st (fun x s => mm_s1 ls k (.int x) (fun ls2 => mm_nx (pc + 2) ls2 s I r))
  | .astore_n k => mm_a1 st (fun x s => mm_s1 ls k (.ref x) (fun ls2 => mm_nx (pc + 1) ls2 s I r))
  | .astore k => mm_a1 st (fun x s => mm_s1 ls k (.ref x) (fun ls2 => mm_nx (pc + 2) ls2 s I r))
  | .iinc k n => mm_li (mm_ld ls k) (fun x => mm_s1 ls k (.int (x + Int32.ofInt n)) (fun ls2 => mm_nx (pc + 3) ls2 st I r))
  | .iadd => mm_i2 st (fun x y s => mm_nx (pc + 1) ls (.int (x + y) :: s) I r)
  | .isub => mm_i2 st (fun x y s => mm_nx (pc + 1) ls (.int (x - y) :: s) I r)
  | .imul => mm_i2 st (fun x y s => mm_nx (pc + 1) ls (.int (x * y) :: s) I r)
  | .iand => mm_i2 st (fun x y s => mm_nx (pc + 1) ls (.int (x &&& y) :: s) I r)
  | .ior => mm_i2 st (fun x y s => mm_nx (pc + 1) ls (.int (x ||| y) :: s) I r)
  | .ishl => mm_i2 st (fun x y s => mm_nx (pc + 1) ls (.int (x <<< (y &&& 31)) :: s) I r)
  | .ishr => mm_i2 st (fun x y s => mm_nx (pc + 1) ls (.int (x >>> (y &&& 31)) :: s) I r)
  | .iushr => mm_i2 st (fun x y s => mm_nx (pc + 1) ls (.int (x.toUInt32 >>> (y.toUInt32 &&& Int32.toUInt32 31)).toInt32 :: s) I r)
  | .idiv => mm_i2 st (fun x y s => if y = 0 then none else mm_nx (pc + 1) ls (.int (x / y) :: s) I r)
  | .irem => mm_i2 st (fun x y s => if y = 0 then none else mm_nx (pc + 1) ls (.int (x - x / y * y) :: s) I r)
  | .i2l => mm_i1 st (fun x s => mm_nx (pc + 1) ls (.long x.toInt64 :: s) I r)
  | .i2b => mm_i1 st (fun x s => mm_nx (pc + 1) ls (.int x.toInt8.toInt32 :: s) I r)
  | .i2s => mm_i1 st (fun x s => mm_nx (pc + 1) ls (.int x.toInt16.toInt32 :: s) I r)
  | .l2i => mm_l1 st (fun x s => mm_nx (pc + 1) ls (.int x.toInt32 :: s) I r)
  | .ladd => mm_l2 st (fun x y s => mm_nx (pc + 1) ls (.long (x + y) :: s) I r)
  | .lmul => mm_l2 st (fun x y s => mm_nx (pc + 1) ls (.long (x * y) :: s) I r)
  | .land => mm_l2 st (fun x y s => mm_nx (pc + 1) ls (.long (x &&& y) :: s) I r)
  | .lrem => mm_l2 st (fun x y s => if y = 0 then none else mm_nx (pc + 1) ls (.long (x - x / y * y) :: s) I r)
  | .lcmp => mm_l2 st (fun x y s => mm_nx (pc + 1) ls (.int (lg_cmp x y) :: s) I r)
  | .dup => mm_v1 st (fun x s => if x.category = 1 then mm_nx (pc + 1) ls (x :: x :: s) I r else none)
  | .dup2 => mm_v2 st (fun x y s => if x.category = 1 ∧ y.category = 1 then mm_nx (pc + 1) ls (y :: x :: y :: x :: s) I r else none)
  | .pop => mm_v1 st (fun x s => if x.category = 1 then mm_nx (pc + 1) ls s I r else none)
  | .goto off => mm_jp pc off ls st I r
  | .if_icmp c off => mm_i2 st (fun x y s => mm_go (mm_cmp c x y) pc off ls s I r)
  | .ifCond c off => mm_i1 st (fun x s => mm_go (mm_cmp c x 0) pc off ls s I r)
  | .tableswitch d lo hi offs => mm_i1 st (fun x s => mm_ts pc d lo hi offs x ls s I r)
  | .lookupswitch d ps => mm_i1 st (fun x s => if (ps.toList.zip (ps.toList.drop 1)).all (fun (a, next) => a.1 < next.1) = true then mm_jp pc (Op.lookupswitch.offset ps.toList d x.toInt) ls s I r else none)
  | .getfield k => mm_gf (mm_f (mm_o j) k) pc ls st I r
  | .putfield k => mm_pf (mm_f (mm_o j) k) j pc ls st I r
  | .iaload => mm_ia st (fun a i s => if (mm_S r a).1 = 2 ∧ ¬ (i < 0 ∨ (mm_S r a).2 ≤ i.toNatClampNeg) then mm_nx (pc + 1) ls (.int (I a i.toNatClampNeg) :: s) I r else none)
  | .iastore => mm_iia st (fun a i x s => if (mm_S r a).1 = 2 ∧ ¬ (i < 0 ∨ (mm_S r a).2 ≤ i.toNatClampNeg) then mm_nx (pc + 1) ls s (mm_uI I a i.toNatClampNeg x) r else none)
  | .laload => mm_ia st (fun a i s => if (mm_S r a).1 = 3 ∧ ¬ (i < 0 ∨ (mm_S r a).2 ≤ i.toNatClampNeg) then mm_nx (pc + 1) ls (.long (mm_G r a i.toNatClampNeg) :: s) I r else none)
  | .lastore => mm_lia st (fun a i x s => if (mm_S r a).1 = 3 ∧ ¬ (i < 0 ∨ (mm_S r a).2 ≤ i.toNatClampNeg) then mm_nx (pc + 1) ls s I (mm_uG r a i.toNatClampNeg x) else none)
  | .aaload => mm_ia st (fun a i s => if ((mm_S r a).1 = 4 ∨ (mm_S r a).1 = 5) ∧ ¬ (i < 0 ∨ (mm_S r a).2 ≤ i.toNatClampNeg) then mm_nx (pc + 1) ls (va_rf (mm_P r a i.toNatClampNeg) :: s) I r else none)
  | .aastore => mm_aia st (fun a i x s => if ((mm_S r a).1 = 4 ∧ mm_S r x = (1, 0) ∨ (mm_S r a).1 = 5 ∧ mm_S r x = (1, 3)) ∧ ¬ (i < 0 ∨ (mm_S r a).2 ≤ i.toNatClampNeg) then mm_nx (pc + 1) ls s I (mm_uP r a i.toNatClampNeg (some x)) else none)
  | .newarray .int => mm_i1 st (fun x s => if ¬ x < 0 ∧ x.toNatClampNeg ≤ 1000 then mm_nx (pc + 2) ls (.ref (mm_t r) :: s) (mm_nI I r) (mm_nR r (2, x.toNatClampNeg) x.toNatClampNeg) else none)
  | .newarray .long => mm_i1 st (fun x s => if ¬ x < 0 ∧ x.toNatClampNeg ≤ 1000 then mm_nx (pc + 2) ls (.ref (mm_t r) :: s) (mm_nI I r) (mm_nR r (3, x.toNatClampNeg) x.toNatClampNeg) else none)
  | .anewarray k => match mm_kk (mm_o j) k with
    | some 0 => mm_i1 st (fun x s => if ¬ x < 0 ∧ x.toNatClampNeg ≤ 1000 then mm_nx (pc + 3) ls (.ref (mm_t r) :: s) (mm_nI I r) (mm_nR r (4, x.toNatClampNeg) x.toNatClampNeg) else none)
    | some 3 => mm_i1 st (fun x s => if ¬ x < 0 ∧ x.toNatClampNeg ≤ 1000 then mm_nx (pc + 3) ls (.ref (mm_t r) :: s) (mm_nI I r) (mm_nR r (5, x.toNatClampNeg) x.toNatClampNeg) else none)
    | _ => none
  | .new k => match mm_kk (mm_o j) k with
    | some ci => mm_nx (pc + 3) ls (.ref (mm_t r) :: st) (mm_nI I r) (mm_nR r (1, ci) (mm_N ci))
    | none => none
  | .invokevirtual k => match mm_m (mm_o j) k with
    | some j2 => mm_vc j j2 pc st r
    | none => none
  | .invokestatic k => match mm_m (mm_o j) k with
    | some j2 => mm_sc j j2 pc st
    | none => if (mm_nT.contains (mm_o j, k)) = true then mm_ocp j pc ls st I r else none
  | .invokespecial k => match mm_m (mm_o j) k with
    | some j2 => mm_xc j j2 pc st r
    | none => if (mm_oT.contains (mm_o j, k)) = true then mm_a1 st (fun a s => if 1 ≤ mm_h j ∧ mm_w8 s = true then mm_nx (pc + 3) ls s I r else none) else none
  | .ireturn => mm_rti j st
  | .lreturn => mm_rtl j st
  | .return_ => if st = [] ∧ mm_r j = none then some (.inr (.inl none)) else none
  | _ => none
def mm_len (i : Instr) : Option Nat := match i with
  | .tableswitch _ _ _ _ => none
  | .lookupswitch _ _ => none
  | .iload _ => some 2
  | .aload _ => some 2
  | .lload _ => some 2
  | .istore _ => some 2
  | .astore _ => some 2
  | .bipush _ => some 2
  | .newarray _ => some 2
  | .ldc _ => some 2
  | .sipush _ => some 3
  | .ldc_w _ => some 3
  | .ldc2_w _ => some 3
  | .iinc _ _ => some 3
  | .goto _ => some 3
  | .if_icmp _ _ => some 3
  | .ifCond _ _ => some 3
  | .getfield _ => some 3
  | .putfield _ => some 3
  | .anewarray _ => some 3
  | .new _ => some 3
  | .invokevirtual _ => some 3
  | .invokestatic _ => some 3
  | .invokespecial _ => some 3
  | _ => some 1
def mm_iR (i : Instr) : Bool := match i with
  | .ireturn => true
  | .lreturn => true
  | .return_ => true
  | _ => false
def mm_iC (i : Instr) : Bool := match i with
  | .invokevirtual _ => true
  | .invokestatic _ => true
  | .invokespecial _ => true
  | _ => false
def mm_flt (i : Instr) (o : Option mm_O) : Option mm_O := match o with
  | some (.inl c) => some (.inl c)
  | some (.inr (.inl v)) => if mm_iR i = true then some (.inr (.inl v)) else none
  | some (.inr (.inr q)) => if mm_iC i = true then some (.inr (.inr q)) else none
  | none => none
def mm_stp (j pc : Nat) (ls : mm_L) (st : List Value) (I : mm_I) (r : mm_R) : Option mm_O := match decode (mm_c j) pc with
  | .ok q => if (mm_len q.1).getD q.2 = q.2 then mm_flt q.1 (mm_act j pc q.1 ls st I r) else none
  | .error _ => none
def mm_en (j : Nat) (av : List Value) : mm_L := mm_sl av ++ List.replicate (mm_x j - (mm_sl av).length) none
def mm_run : Nat → Nat → Nat → mm_L → List Value → mm_I → mm_R → Option (Option Value × mm_I × mm_R)
  | 0, _, _, _, _, _, _ => none
  | n + 1, j, pc, ls, st, I, r => match mm_stp j pc ls st I r with
    | none => none
    | some (.inl q) => mm_run n j q.1 q.2.1 q.2.2.1 q.2.2.2.1 q.2.2.2.2
    | some (.inr (.inl v)) => some (v, I, r)
    | some (.inr (.inr q)) => match mm_run n q.1 0 (mm_en q.1 q.2.1) [] I r with
      | none => none
      | some u => mm_run n j q.2.2.1 ls (u.1.toList ++ q.2.2.2) u.2.1 u.2.2
def mm_E (j pc : Nat) (ls : mm_L) (st : List Value) (I : mm_I) (r : mm_R) (Q : Option Value → mm_I → mm_R → Prop) : Prop := ∃ n u, mm_run n j pc ls st I r = some u ∧ Q u.1 u.2.1 u.2.2
theorem mm_mono1 : ∀ (n j pc : Nat) (ls : mm_L) (st : List Value) (I : mm_I) (r : mm_R) (u : Option Value × mm_I × mm_R), mm_run n j pc ls st I r = some u → mm_run (n + 1) j pc ls st I r = some u := by
  intro n
  induction n with
  | zero => intro j pc ls st I r u h; simp [mm_run] at h
  | succ n ih =>
    intro j pc ls st I r u h
    rw [mm_run] at h ⊢
    cases hs : mm_stp j pc ls st I r with
    | none => rw [hs] at h; exact h
    | some o =>
      rw [hs] at h
      rcases o with q | v | q
      · exact ih _ _ _ _ _ _ _ h
      · exact h
      · dsimp only at h ⊢
        cases hr : mm_run n q.1 0 (mm_en q.1 q.2.1) [] I r with
        | none => rw [hr] at h; cases h
        | some w =>
          rw [hr] at h
          rw [ih _ _ _ _ _ _ _ hr]
          exact ih _ _ _ _ _ _ _ h
theorem mm_mono {n n' j pc : Nat} {ls : mm_L} {st : List Value} {I : mm_I} {r : mm_R} {u : Option Value × mm_I × mm_R} (h : mm_run n j pc ls st I r = some u) (hn : n ≤ n') : mm_run n' j pc ls st I r = some u := by
  induction hn with
  | refl => exact h
  | step _ ih => exact mm_mono1 _ _ _ _ _ _ _ _ ih
section
variable {j pc : Nat} {ls : mm_L} {st : List Value} {I : mm_I} {r : mm_R} {Q : Option Value → mm_I → mm_R → Prop}
theorem mm_E_nx {pc' : Nat} {ls' : mm_L} {st' : List Value} {I' : mm_I} {r' : mm_R} (h : mm_stp j pc ls st I r = mm_nx pc' ls' st' I' r') : mm_E j pc ls st I r Q ↔ mm_E j pc' ls' st' I' r' Q := by
  constructor
  · rintro ⟨n, u, hn, hq⟩
    cases n with
    | zero => simp [mm_run] at hn
    | succ n => rw [mm_run, h] at hn; exact ⟨n, u, hn, hq⟩
  · rintro ⟨n, u, hn, hq⟩
    exact ⟨n + 1, u, by rw [mm_run, h]; exact hn, hq⟩
theorem mm_E_no (h : mm_stp j pc ls st I r = none) : mm_E j pc ls st I r Q ↔ False := by
  constructor
  · rintro ⟨n, u, hn, hq⟩
    cases n with
    | zero => simp [mm_run] at hn
    | succ n => rw [mm_run, h] at hn; cases hn
  · exact False.elim
theorem mm_E_rt {v : Option Value} (h : mm_stp j pc ls st I r = some (.inr (.inl v))) : mm_E j pc ls st I r Q ↔ Q v I r := by
  constructor
  · rintro ⟨n, u, hn, hq⟩
    cases n with
    | zero => simp [mm_run] at hn
    | succ n => rw [mm_run, h] at hn; cases hn; exact hq
  · intro hq
    exact ⟨1, (v, I, r), by rw [mm_run, h], hq⟩
theorem mm_E_cl {j2 pc' : Nat} {av st' : List Value} (h : mm_stp j pc ls st I r = some (.inr (.inr (j2, av, pc', st')))) : mm_E j pc ls st I r Q ↔ mm_E j2 0 (mm_en j2 av) [] I r (fun v I' r' => mm_E j pc' ls (v.toList ++ st') I' r' Q) := by
  constructor
  · rintro ⟨n, u, hn, hq⟩
    cases n with
    | zero => simp [mm_run] at hn
    | succ n =>
      rw [mm_run, h] at hn
      dsimp only at hn
      cases hr : mm_run n j2 0 (mm_en j2 av) [] I r with
      | none => rw [hr] at hn; cases hn
      | some w => rw [hr] at hn; exact ⟨n, w, hr, n, u, hn, hq⟩
  · rintro ⟨n, w, hw, n', u, hn, hq⟩
    refine ⟨max n n' + 1, u, ?_, hq⟩
    rw [mm_run, h]
    dsimp only
    rw [mm_mono hw (Nat.le_max_left n n')]
    exact mm_mono hn (Nat.le_max_right n n')
theorem mm_E_mono {Q' : Option Value → mm_I → mm_R → Prop} (h : mm_E j pc ls st I r Q) (hq : ∀ v I' r', Q v I' r' → Q' v I' r') : mm_E j pc ls st I r Q' := by
  obtain ⟨n, u, hn, h⟩ := h
  exact ⟨n, u, hn, hq _ _ _ h⟩
end
