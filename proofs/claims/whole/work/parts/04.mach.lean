/-! ===== THE ABSTRACT MACHINE: a memory of typed cells, one step of one method, runs with calls ===== -/
/-- I, L, R (int, long, reference slots), shape (kind, length), how many cells, how many slots -/
abbrev jmM : Type := (Nat → Nat → Int32) × (Nat → Nat → Int64) × (Nat → Nat → Option Nat) × (Nat → Nat × Nat) × Nat × Nat
def mI (m : jmM) (a : Nat) : Nat → Int32 := m.1 a
def mL (m : jmM) (a : Nat) : Nat → Int64 := m.2.1 a
def mR (m : jmM) (a : Nat) : Nat → Option Nat := m.2.2.1 a
def mS (m : jmM) (a : Nat) : Nat × Nat := m.2.2.2.1 a
def mN (m : jmM) : Nat := m.2.2.2.2.1
def mZ (m : jmM) : Nat := m.2.2.2.2.2
def jup {α : Type} (f : Nat → α) (i : Nat) (v : α) : Nat → α := fun j => if j = i then v else f j
def cI (m : jmM) (a : Nat) (f : Nat → Int32) : jmM := (jup m.1 a f, m.2)
def cL (m : jmM) (a : Nat) (f : Nat → Int64) : jmM := (m.1, jup m.2.1 a f, m.2.2)
def cR (m : jmM) (a : Nat) (f : Nat → Option Nat) : jmM := (m.1, m.2.1, jup m.2.2.1 a f, m.2.2.2)
/-- a new cell -/
def jNew (m : jmM) (kd n : Nat) : jmM := (jup m.1 (mN m) (fun _ => 0), jup m.2.1 (mN m) (fun _ => 0), jup m.2.2.1 (mN m) (fun _ => none), jup m.2.2.2.1 (mN m) (kd, n), mN m + 1, mZ m + n)
/-- the place of an index -/
def jx (i : Int32) : Nat := i.toInt.toNat
def jIx (i : Int32) (n : Nat) : Prop := 0 ≤ i.toInt ∧ i.toInt < (n : Int)
/-- what a field or an element holds, as a value of the machine; references are abstract -/
def jval (ty : FieldType) (m : jmM) (a i : Nat) : Value := match ty with
  | .long => .long (mL m a i)
  | .object _ => va_rf (mR m a i)
  | .array _ => va_rf (mR m a i)
  | _ => .int (mI m a i)
def jc1 (o : Option Value) : Option Value := match o with
  | some (.long _) => none
  | some (.double _) => none
  | o => o
/-- a store of category 1, 2 into the locals -/
def jst1 : List (Option Value) → Nat → Value → List (Option Value)
  | [], _, _ => []
  | _ :: l, 0, v => some v :: l
  | o :: l, 1, v => jc1 o :: jst1 l 0 v
  | o :: l, i + 2, v => o :: jst1 l (i + 1) v
def jset2 (v : Value) : List (Option Value) → List (Option Value)
  | _ :: _ :: l => some v :: none :: l
  | l => l
def jst2r : Nat → Value → List (Option Value) → List (Option Value)
  | 0, v, L => jset2 v L
  | _ + 1, _, [] => []
  | i + 1, v, o :: l => (if i = 0 then jc1 o else o) :: jst2r i v l
def jst2 (L : List (Option Value)) (i : Nat) (v : Value) : List (Option Value) := jst2r i v L
def jargs : List Value → List (Option Value)
  | [] => []
  | .long x :: l => some (.long x) :: none :: jargs l
  | .double x :: l => some (.double x) :: none :: jargs l
  | v :: l => some v :: jargs l
def jent (as : List Value) (n : Nat) : List (Option Value) := jargs as ++ List.replicate (n - (jargs as).length) none
def jpush (v : Option Value) (r : List Value) : List Value := match v with
  | none => r
  | some x => x :: r
abbrev jRes : Type := Option ((Nat × List (Option Value) × List Value × jmM) ⊕ ((Nat × List Value × Nat × List (Option Value) × List Value × jmM) ⊕ (Option Value × jmM)))
def jN (pc : Nat) (L : List (Option Value)) (st : List Value) (m : jmM) : jRes := some (.inl (pc, L, st, m))
def jCl (j : Nat) (as : List Value) (pc : Nat) (L : List (Option Value)) (r : List Value) (m : jmM) : jRes := some (.inr (.inl (j, as, pc, L, r, m)))
def jRet (v : Option Value) (m : jmM) : jRes := some (.inr (.inr (v, m)))
def jG (g : Prop) (h : Decidable g) (r : jRes) : jRes := match h with
  | .isTrue _ => r
  | .isFalse _ => none
def k1i (st : List Value) (f : Int32 → List Value → jRes) : jRes := match st with
  | .int x :: r => f x r
  | _ => none
def k1l (st : List Value) (f : Int64 → List Value → jRes) : jRes := match st with
  | .long x :: r => f x r
  | _ => none
def k1a (st : List Value) (f : Nat → List Value → jRes) : jRes := match st with
  | .ref x :: r => f x r
  | _ => none
/-- a reference or null -/
def k1q (st : List Value) (f : Value → List Value → jRes) : jRes := match st with
  | .ref x :: r => f (.ref x) r
  | .null :: r => f .null r
  | _ => none
/-- a value of category 1 that is an int or a reference -/
def k1c (st : List Value) (f : Value → List Value → jRes) : jRes := match st with
  | .int x :: r => f (.int x) r
  | .ref x :: r => f (.ref x) r
  | .null :: r => f .null r
  | _ => none
def k2i (st : List Value) (f : Int32 → Int32 → List Value → jRes) : jRes := k1i st fun y r => k1i r fun x r => f x y r
def k2l (st : List Value) (f : Int64 → Int64 → List Value → jRes) : jRes := k1l st fun y r => k1l r fun x r => f x y r
def kget (L : List (Option Value)) (i : Nat) (f : Value → jRes) : jRes := match L[i]? with
  | some (some v) => f v
  | _ => none
def kgi (L : List (Option Value)) (i : Nat) (f : Int32 → jRes) : jRes := match L[i]? with
  | some (some (.int v)) => f v
  | _ => none
def kgl (L : List (Option Value)) (i : Nat) (f : Int64 → jRes) : jRes := match L[i]? with
  | some (some (.long v)) => f v
  | _ => none
def kgq (L : List (Option Value)) (i : Nat) (f : Value → jRes) : jRes := match L[i]? with
  | some (some (.ref v)) => f (.ref v)
  | some (some .null) => f .null
  | _ => none
def kop {α : Type} (o : Option α) (f : α → jRes) : jRes := match o with
  | some x => f x
  | none => none
/-- a jump -/
def jTo (pc : Nat) (off : Int) (L : List (Option Value)) (st : List Value) (m : jmM) : jRes := jG (0 ≤ (pc : Int) + off) inferInstance (jN ((pc : Int) + off).toNat L st m)
def jIf (c : Prop) (h : Decidable c) (pc : Nat) (off : Int) (L : List (Option Value)) (st : List Value) (m : jmM) : jRes := jG (0 ≤ (pc : Int) + off) inferInstance (match h with
  | .isTrue _ => jN ((pc : Int) + off).toNat L st m
  | .isFalse _ => jN (pc + 3) L st m)
def jld (q : Nat) (st : List Value) (m : jmM) (f : Nat → Nat → List Value → jRes) : jRes := k1i st fun i r => k1a r fun a r => jG ((mS m a).1 = q ∧ (0 ≤ i.toInt ∧ i.toInt < ((mS m a).2 : Int))) inferInstance (f a (jx i) r)
def jfind2 {α : Type} (l : List (Nat × Nat × α)) (a b : Nat) : Option α := (l.find? (fun q => q.1 == a && q.2.1 == b)).map (fun q => q.2.2)
def jScr : Nat := 1000000
def jBool (v : Int32) : Prop := v = 0 ∨ v = 1
/-- what a putfield of this type asks of its value -/
def jPut (ty : FieldType) (m : jmM) (a k : Nat) (v : Value) (f : jmM → jRes) : jRes := match ty, v with
  | .int, .int x => f (cI m a (jup (mI m a) k x))
  | .boolean, .int x => jG (x = 0 ∨ x = 1) inferInstance (f (cI m a (jup (mI m a) k x)))
  | .long, .long x => f (cL m a (jup (mL m a) k x))
  | .object _, .ref x => f (cR m a (jup (mR m a) k (some x)))
  | .object _, .null => f (cR m a (jup (mR m a) k none))
  | .array _, .ref x => f (cR m a (jup (mR m a) k (some x)))
  | .array _, .null => f (cR m a (jup (mR m a) k none))
  | _, _ => none
def jArr (t : ArrayType) : Option Nat := match t with
  | .int => some 20
  | .long => some 21
  | .byte => some 22
  | .boolean => some 23
  | _ => none
/-- a call's site -/
def jSite (j idx pc kd tj n : Nat) (special : Bool) (L : List (Option Value)) (st : List Value) (m : jmM) : jRes :=
  match kd with
  | 0 | 4 => jG (special = false ∧ n ≤ st.length ∧ (st.drop n).length ≤ 4) inferInstance (jCl tj (st.take n).reverse (pc + 3) L (st.drop n) m)
  | 10 => k2i st fun x y r => jG (r.length ≤ 4) inferInstance (jN (pc + 3) L (.int (if x < y then y else x) :: r) m)
  | 11 => k2i st fun x y r => jG (r.length ≤ 4) inferInstance (jN (pc + 3) L (.int (if y < x then y else x) :: r) m)
  | 12 => k1i st fun x r => jG (r.length ≤ 4) inferInstance (jN (pc + 3) L (.int (if 0 ≤ x then x else 0 - x) :: r) m)
  | 13 => k2l st fun x y r => jG (r.length ≤ 4) inferInstance (jN (pc + 3) L (.long (if y < x then x else y) :: r) m)
  | 14 => k2l st fun x y r => jG (r.length ≤ 4) inferInstance (jN (pc + 3) L (.long (if y < x then y else x) :: r) m)
  | 15 => k1l st fun x r => jG (r.length ≤ 4) inferInstance (jN (pc + 3) L (.long (if 0 < x then x else -x) :: r) m)
  | 16 => k1i st fun n r => k1i r fun dp r => k1a r fun b r => k1i r fun sp r => k1a r fun a r =>
      jG (r.length ≤ 4 ∧ 0 ≤ n.toInt ∧ 0 ≤ dp.toInt ∧ 0 ≤ sp.toInt ∧ sp.toInt + n.toInt ≤ ((mS m a).2 : Int) ∧ dp.toInt + n.toInt ≤ ((mS m b).2 : Int) ∧ (mS m a).1 = (mS m b).1 ∧ ((mS m b).1 = 20 ∨ (mS m b).1 = 21)) inferInstance
        (if (mS m b).1 = 20 then jN (pc + 3) L r (cI m b (va_cpy (mI m a) (mI m b) (jx sp) (jx dp) (jx n))) else jN (pc + 3) L r (cL m b (va_cpy (mL m a) (mL m b) (jx sp) (jx dp) (jx n))))
  | _ => none
def jVirt (j idx pc kd tj n : Nat) (L : List (Option Value)) (st : List Value) (m : jmM) : jRes :=
  match kd with
  | 1 => jG (n < st.length ∧ (st.drop (n + 1)).length ≤ 4) inferInstance (k1a (st.drop n) fun a r => jG ((mS m a).1 = jO tj) inferInstance (jCl tj (.ref a :: (st.take n).reverse) (pc + 3) L r m))
  | 17 => k1a st fun a r => jG (jScr < a ∧ a ≤ jScr + 16 ∧ r.length ≤ 4) inferInstance (jN (pc + 3) L (.int (nI (jCh.getD (a - jScr - 1) []).length) :: r) m)
  | 18 => k1i st fun i r => k1a r fun a r => jG (jScr < a ∧ a ≤ jScr + 16 ∧ r.length ≤ 4 ∧ 0 ≤ i.toInt ∧ i.toInt < ((jCh.getD (a - jScr - 1) []).length : Int)) inferInstance (jN (pc + 3) L (.int ((jCh.getD (a - jScr - 1) []).getD (jx i) 0) :: r) m)
  | _ => none
def jSpec (j idx pc kd tj n : Nat) (L : List (Option Value)) (st : List Value) (m : jmM) : jRes :=
  match kd with
  | 3 | 5 => jG (n < st.length ∧ (st.drop (n + 1)).length ≤ 4) inferInstance (k1a (st.drop n) fun a r => jCl tj (.ref a :: (st.take n).reverse) (pc + 3) L r m)
  | 7 => k1a st fun _ r => jG (r.length ≤ 4) inferInstance (jN (pc + 3) L r m)
  | _ => none
def kd2 (st : List Value) (f : List Value → jRes) : jRes := match st with
  | .long x :: r => f (.long x :: .long x :: r)
  | st => k1c st fun v r => k1c r fun w r => f (v :: w :: v :: w :: r)
def kpf (st : List Value) (f : Value → Nat → List Value → jRes) : jRes := match st with
  | v :: .ref a :: r => f v a r
  | _ => none
def kq2 (st : List Value) (fn fr : List Value → jRes) : jRes := match st with
  | .null :: r => fn r
  | .ref _ :: r => fr r
  | _ => none
def kri (st : List Value) (f : Int32 → jRes) : jRes := match st with
  | [.int v] => f v
  | _ => none
def krl (st : List Value) (f : Int64 → jRes) : jRes := match st with
  | [.long v] => f v
  | _ => none
def krq (st : List Value) (f : Value → jRes) : jRes := match st with
  | [.ref v] => f (.ref v)
  | [.null] => f .null
  | _ => none
def kr0 (st : List Value) (f : jRes) : jRes := match st with
  | [] => f
  | _ => none
def jIsObj (t : Option FieldType) : Bool := match t with
  | some (.object _) => true
  | _ => false
/-- one instruction -/
def jEf (j pc : Nat) (i : Instr) (L : List (Option Value)) (st : List Value) (m : jmM) : jRes := match i with
  | .iconst n => jN (pc + 1) L (.int (Int32.ofInt n) :: st) m
  | .bipush n => jN (pc + 2) L (.int (Int8.ofInt n).toInt32 :: st) m
  | .sipush n => jN (pc + 3) L (.int (Int16.ofInt n).toInt32 :: st) m
  | .lconst n => jN (pc + 1) L (.long (Int64.ofNat (n : Nat)) :: st) m
  | .aconst_null => jN (pc + 1) L (.null :: st) m
  | .iload_n k => kgi L k fun v => jN (pc + 1) L (.int v :: st) m
  | .iload k => kgi L k fun v => jN (pc + 2) L (.int v :: st) m
  | .lload_n k => kgl L k fun v => jN (pc + 1) L (.long v :: st) m
  | .lload k => kgl L k fun v => jN (pc + 2) L (.long v :: st) m
  | .aload_n k => kgq L k fun v => jN (pc + 1) L (v :: st) m
  | .aload k => kgq L k fun v => jN (pc + 2) L (v :: st) m
  | .istore_n k => k1i st fun x r => jG ((k : Nat) < L.length) inferInstance (jN (pc + 1) (jst1 L k (.int x)) r m)
  | .istore k => k1i st fun x r => jG (k < L.length) inferInstance (jN (pc + 2) (jst1 L k (.int x)) r m)
  | .lstore_n k => k1l st fun x r => jG ((k : Nat) + 1 < L.length) inferInstance (jN (pc + 1) (jst2 L k (.long x)) r m)
  | .lstore k => k1l st fun x r => jG (k + 1 < L.length) inferInstance (jN (pc + 2) (jst2 L k (.long x)) r m)
  | .astore_n k => k1q st fun x r => jG ((k : Nat) < L.length) inferInstance (jN (pc + 1) (jst1 L k x) r m)
  | .astore k => k1q st fun x r => jG (k < L.length) inferInstance (jN (pc + 2) (jst1 L k x) r m)
  | .iinc k n => kgi L k fun v => jG (k < L.length) inferInstance (jN (pc + 3) (jst1 L k (.int (v + Int32.ofInt n))) st m)
  | .iadd => k2i st fun x y r => jN (pc + 1) L (.int (x + y) :: r) m
  | .isub => k2i st fun x y r => jN (pc + 1) L (.int (x - y) :: r) m
  | .imul => k2i st fun x y r => jN (pc + 1) L (.int (x * y) :: r) m
  | .iand => k2i st fun x y r => jN (pc + 1) L (.int (x &&& y) :: r) m
  | .ior => k2i st fun x y r => jN (pc + 1) L (.int (x ||| y) :: r) m
  | .idiv => k2i st fun x y r => jG (¬ y = 0) inferInstance (jN (pc + 1) L (.int (x / y) :: r) m)
  | .ineg => k1i st fun x r => jN (pc + 1) L (.int (-x) :: r) m
  | .ishr => k2i st fun x y r => jN (pc + 1) L (.int (x >>> (y &&& 31)) :: r) m
  | .iushr => k2i st fun x y r => jN (pc + 1) L (.int (x.toUInt32 >>> (y.toUInt32 &&& Int32.toUInt32 31)).toInt32 :: r) m
  | .ladd => k2l st fun x y r => jN (pc + 1) L (.long (x + y) :: r) m
  | .lsub => k2l st fun x y r => jN (pc + 1) L (.long (x - y) :: r) m
  | .lmul => k2l st fun x y r => jN (pc + 1) L (.long (x * y) :: r) m
  | .land => k2l st fun x y r => jN (pc + 1) L (.long (x &&& y) :: r) m
  | .lor => k2l st fun x y r => jN (pc + 1) L (.long (x ||| y) :: r) m
  | .ldiv => k2l st fun x y r => jG (¬ y = 0) inferInstance (jN (pc + 1) L (.long (x / y) :: r) m)
  | .lrem => k2l st fun x y r => jG (¬ y = 0) inferInstance (jN (pc + 1) L (.long (x - x / y * y) :: r) m)
  | .lshl => k1i st fun y r => k1l r fun x r => jN (pc + 1) L (.long (x <<< (y.toInt64 &&& 63)) :: r) m
  | .lcmp => k2l st fun x y r => jN (pc + 1) L (.int (lg_cmp x y) :: r) m
  | .i2l => k1i st fun x r => jN (pc + 1) L (.long x.toInt64 :: r) m
  | .l2i => k1l st fun x r => jN (pc + 1) L (.int x.toInt32 :: r) m
  | .i2b => k1i st fun x r => jN (pc + 1) L (.int x.toInt8.toInt32 :: r) m
  | .dup => k1c st fun v r => jN (pc + 1) L (v :: v :: r) m
  | .pop => k1c st fun _ r => jN (pc + 1) L r m
  | .dup2 => kd2 st fun s => jN (pc + 1) L s m
  | .goto off => jTo pc off L st m
  | .ifCond c off => k1i st fun x r => match c with
    | .eq => jIf (x = 0) inferInstance pc off L r m
    | .ne => jIf (¬ x = 0) inferInstance pc off L r m
    | .lt => jIf (x < 0) inferInstance pc off L r m
    | .ge => jIf (0 ≤ x) inferInstance pc off L r m
    | .gt => jIf (0 < x) inferInstance pc off L r m
    | .le => jIf (x ≤ 0) inferInstance pc off L r m
  | .if_icmp c off => k2i st fun x y r => match c with
    | .eq => jIf (x = y) inferInstance pc off L r m
    | .ne => jIf (¬ x = y) inferInstance pc off L r m
    | .lt => jIf (x < y) inferInstance pc off L r m
    | .ge => jIf (y ≤ x) inferInstance pc off L r m
    | .gt => jIf (y < x) inferInstance pc off L r m
    | .le => jIf (x ≤ y) inferInstance pc off L r m
  | .ifnull off => jG (0 ≤ (pc : Int) + off) inferInstance (kq2 st (fun r => jN ((pc : Int) + off).toNat L r m) (fun r => jN (pc + 3) L r m))
  | .ifnonnull off => jG (0 ≤ (pc : Int) + off) inferInstance (kq2 st (fun r => jN (pc + 3) L r m) (fun r => jN ((pc : Int) + off).toNat L r m))
  | .tableswitch dflt lo hi offs => k1i st fun x r => if x.toInt < lo ∨ hi < x.toInt then jTo pc dflt L r m else kop (offs[(x.toInt - lo).toNat]?) fun off => jTo pc off L r m
  | .lookupswitch dflt ps => k1i st fun x r => jG ((ps.toList.zip (ps.toList.drop 1)).all (fun (a, next) => a.1 < next.1) = true) inferInstance (jTo pc (Op.lookupswitch.offset ps.toList dflt x.toInt) L r m)
  | .iaload => k1i st fun i r => k1a r fun a r => jG (((mS m a).1 = 20 ∨ a = jScr) ∧ (0 ≤ i.toInt ∧ i.toInt < ((mS m a).2 : Int))) inferInstance (jN (pc + 1) L (.int (mI m a (jx i)) :: r) m)
  | .baload => k1i st fun i r => k1a r fun a r => jG (((mS m a).1 = 22 ∨ (mS m a).1 = 23) ∧ (0 ≤ i.toInt ∧ i.toInt < ((mS m a).2 : Int))) inferInstance (jN (pc + 1) L (.int (mI m a (jx i)) :: r) m)
  | .laload => jld 21 st m fun a i r => jN (pc + 1) L (.long (mL m a i) :: r) m
  | .aaload => k1i st fun i r => k1a r fun a r => jG (24 ≤ (mS m a).1 ∧ (mS m a).1 ≤ 26 ∧ (0 ≤ i.toInt ∧ i.toInt < ((mS m a).2 : Int))) inferInstance (jN (pc + 1) L (va_rf (mR m a (jx i)) :: r) m)
  | .iastore => k1i st fun x r => jld 20 r m fun a i r => jN (pc + 1) L r (cI m a (jup (mI m a) i x))
  | .lastore => k1l st fun x r => jld 21 r m fun a i r => jN (pc + 1) L r (cL m a (jup (mL m a) i x))
  | .bastore => k1i st fun x r => k1i r fun i r => k1a r fun a r => jG (((mS m a).1 = 22 ∨ (mS m a).1 = 23) ∧ (0 ≤ i.toInt ∧ i.toInt < ((mS m a).2 : Int))) inferInstance
      (jN (pc + 1) L r (cI m a (jup (mI m a) (jx i) (if (mS m a).1 = 22 then vp_nar .byte x else vp_nar .boolean x))))
  | .aastore => k1a st fun v r => k1i r fun i r => k1a r fun a r => jG (24 ≤ (mS m a).1 ∧ (mS m a).1 ≤ 26 ∧ (mS m v).1 = (if (mS m a).1 = 24 then 3 else if (mS m a).1 = 25 then 2 else 10) ∧ (0 ≤ i.toInt ∧ i.toInt < ((mS m a).2 : Int))) inferInstance
      (jN (pc + 1) L r (cR m a (jup (mR m a) (jx i) (some v))))
  | .arraylength => k1a st fun a r => jG ((20 ≤ (mS m a).1 ∧ (mS m a).1 ≤ 26) ∨ a = jScr) inferInstance (jN (pc + 1) L (.int (nI (mS m a).2) :: r) m)
  | .getfield idx => k1a st fun a r => kop (jfind2 jFl (jO j) idx) fun q => jG ((mS m a).1 = q.1) inferInstance (jN (pc + 3) L (jval (jTy q.1 q.2.1) m a q.2.1 :: r) m)
  | .putfield idx => kpf st fun v a r => kop (jfind2 jFl (jO j) idx) fun q => jG ((mS m a).1 = q.1 ∧ ((jT q.1 q.2.1).2.2.2 = true → (jY j).name = "<init>" ∧ jO j = q.1)) inferInstance (jPut (jTy q.1 q.2.1) m a q.2.1 v fun m1 => jN (pc + 3) L r m1)
  | .new idx => kop (jfind2 jNw (jO j) idx) fun q => jN (pc + 3) L (.ref (mN m) :: st) (jNew m q.1 (jNF q.1))
  | .newarray t => k1i st fun n r => kop (jArr t) fun k => jG (0 ≤ n.toInt ∧ n.toInt ≤ 100000) inferInstance (jN (pc + 2) L (.ref (mN m) :: r) (jNew m k (jx n)))
  | .anewarray idx => k1i st fun n r => kop (jfind2 jAn (jO j) idx) fun q => jG (0 ≤ n.toInt ∧ n.toInt ≤ 100000) inferInstance (jN (pc + 3) L (.ref (mN m) :: r) (jNew m q.1 (jx n)))
  | .ldc idx => if (jfind2 jLd (jO j) idx).isSome then kop (jfind2 jLd (jO j) idx) fun q => jN (pc + 2) L (.int q.1 :: st) m else kop (jfind2 jLs (jO j) idx) fun q => jN (pc + 2) L (.ref (jScr + 1 + q.1) :: st) m
  | .ldc_w idx => kop (jfind2 jLd (jO j) idx) fun q => jN (pc + 3) L (.int q.1 :: st) m
  | .ldc2_w idx => kop (jfind2 jL2 (jO j) idx) fun q => jN (pc + 3) L (.long q.1 :: st) m
  | .invokestatic idx => kop (jfind2 jSt (jO j) idx) fun q => jSite j idx pc q.1 q.2.1 q.2.2.1 false L st m
  | .invokevirtual idx => kop (jfind2 jSt (jO j) idx) fun q => jVirt j idx pc q.1 q.2.1 q.2.2.1 L st m
  | .invokespecial idx => kop (jfind2 jSt (jO j) idx) fun q => jSpec j idx pc q.1 q.2.1 q.2.2.1 L st m
  | .ireturn => kri st fun v => jG (jRt j = some .int ∨ (jRt j = some .boolean ∧ (v = 0 ∨ v = 1))) inferInstance (jRet (some (.int v)) m)
  | .lreturn => krl st fun v => jG (jRt j = some .long) inferInstance (jRet (some (.long v)) m)
  | .areturn => krq st fun v => jG (jIsObj (jRt j) = true) inferInstance (jRet (some v) m)
  | .return_ => kr0 st (jG (jRt j = none) inferInstance (jRet none m))
  | _ => none
def jLen (i : Instr) : Nat := match i with
  | .tableswitch .. => 0
  | .lookupswitch .. => 0
  | .bipush _ | .iload _ | .lload _ | .aload _ | .istore _ | .lstore _ | .astore _ | .newarray _ | .ldc _ => 2
  | .sipush _ | .iinc _ _ | .goto _ | .ifCond _ _ | .if_icmp _ _ | .ifnull _ | .ifnonnull _ | .getfield _ | .putfield _ | .new _ | .anewarray _ | .ldc_w _ | .ldc2_w _ | .invokestatic _ | .invokevirtual _ | .invokespecial _ => 3
  | _ => 1
def jStep (j pc : Nat) (L : List (Option Value)) (st : List Value) (m : jmM) : jRes := match decode (jB j) pc with
  | .ok (i, n) => jG (n = jLen i ∨ jLen i = 0) inferInstance (jEf j pc i L st m)
  | .error _ => none
abbrev jCC : Type := Nat → List Value → jmM → (Option Value → jmM → Prop) → Prop
def jSem (C : jCC) (K : Nat → List (Option Value) → List Value → jmM → Prop) (Q : Option Value → jmM → Prop) (r : jRes) : Prop := match r with
  | none => False
  | some (.inl (pc, L, st, m)) => K pc L st m
  | some (.inr (.inl (j, as, pc, L, r, m))) => C j as m (fun v m1 => K pc L (jpush v r) m1)
  | some (.inr (.inr (v, m))) => Q v m
def jRun (C : jCC) (j : Nat) (Q : Option Value → jmM → Prop) : Nat → Nat → List (Option Value) → List Value → jmM → Prop
  | 0, _, _, _, _ => False
  | k + 1, pc, L, st, m => jSem C (jRun C j Q k) Q (jStep j pc L st m)
/-- a call of depth d: method j comes back, with Q -/
def CC : Nat → jCC
  | 0, _, _, _, _ => False
  | d + 1, j, as, m, Q => (jargs as).length ≤ jMl j ∧ ∃ k, jRun (CC d) j Q k 0 (jent as (jMl j)) [] m
/-- from the place pc on method j comes to its end, with Q; its calls are of depth d -/
def AW (d j pc : Nat) (L : List (Option Value)) (st : List Value) (m : jmM) (Q : Option Value → jmM → Prop) : Prop := ∃ k, jRun (CC d) j Q k pc L st m
