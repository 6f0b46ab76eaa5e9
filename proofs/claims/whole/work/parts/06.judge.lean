/-! THE ABSTRACT HEAP: cells by numbers 0, 1, .. in the order of their making; a cell's kind, length and references (the shape), and its ints. The script is cell 1000000, its length is the int 0 of cell 1000001; String constants are 1000010 + j, their bytes 1000020 + j. -/
abbrev zK : Type := Nat ⊕ Nat
abbrev zS : Type := List (zK × Nat × List (Option Nat))
abbrev zM : Type := Nat → Nat → Int32
abbrev zH : Type := zS × zM
abbrev zQ : Type := Option Value → zH → Prop
abbrev zLs : Type := List (Nat × Value)
/-- base, tables, array classes, the script's cell, String constants and their bytes -/
abbrev zE : Type := Nat × va_G × (Nat → ClassId) × Nat × (Nat → Nat) × (Nat → Nat)
def zad (E : zE) (i : Nat) : Nat := if i < 1000000 then E.1 + i else if i = 1000000 then E.2.2.2.1 else if i < 1000020 then E.2.2.2.2.1 (i - 1000010) else E.2.2.2.2.2 (i - 1000020)
def zv (E : zE) : Value → Value
  | .ref a => .ref (zad E a)
  | v => v
def zrf (E : zE) : Option Nat → Value
  | none => .null
  | some a => .ref (zad E a)
def zfl (E : zE) (ci : Nat) (rs : List (Option Nat)) (m : Nat → Int32) (k : Nat) : Value := if zFk ci k = 2 then zrf E (rs.getD k none) else .int (m k)
def zce (E : zE) (e : zK × Nat × List (Option Nat)) (m : Nat → Int32) : va_E :=
  match e.1 with
  | .inl t => .inl (E.2.2.1 t, e.2.1, if t = 4 then .inr (.inr (.inr (.inr (fun j => (e.2.2.getD j none).map (zad E))))) else .inl m)
  | .inr ci => .inr (ci, (List.range (zN ci)).map (zfl E ci e.2.2 m))
def zws (E : zE) (h : zH) : va_W := (List.range h.1.length).map (fun i => (E.1 + i, zce E (h.1.getD i (.inl 0, 0, [])) (h.2 i)))
def ztys (E : zE) : List (ClassId × FieldType) := [(E.2.2.1 0, .int), (E.2.2.1 1, .byte), (E.2.2.1 2, .boolean), (E.2.2.1 3, .char), (E.2.2.1 4, .array .int)]
def zAr (E : zE) : Nat → Prop := fun q => E.1 ≤ q
/-- the String constants: rows of a message -/
def zSS : List (List Nat) := [[80, 73, 78, 83], [84, 69, 68, 67, 65], [81, 73, 79, 86], [82, 73, 79, 65], []]
def zSn (a : Nat) : Option Nat := if 1000010 ≤ a ∧ a < 1000015 then some (zSS.getD (a - 1000010) []).length else none
def zSc (a i : Nat) : Int32 := Int32.ofNat ((zSS.getD (a - 1000010) []).getD i 0)
def zST : List (Nat × Nat × Nat) := [(10, 284, 0), (3, 55, 1), (1, 42, 1), (10, 286, 2), (10, 288, 3), (10, 290, 4)]
def zSk (o i : Nat) : Option Nat := (zST.find? (fun e => e.1 == o && e.2.1 == i)).map (fun e => e.2.2)
/-- the String constants' lengths, bytes and texts -/
def zLn : List Nat := [4, 5, 4, 4, 0]
def zBy : List (List Int32) := [[80, 73, 78, 83], [84, 69, 68, 67, 65], [81, 73, 79, 86], [82, 73, 79, 65], []]
def zTx (j : Nat) : String := (["PINS", "TEDCA", "QIOV", "RIOA", ""] : List String).getD j ""
/-- what the machine knows of them, of two static fields (the second one's object, if any, stands at place 9), and of arrays of arrays -/
def zStr (E : zE) (s : State) : Prop :=
  vk_S 5 zLn zBy E.2.2.2.2.1 E.2.2.2.2.2 (zAr E) s s.heap ∧ (∀ e ∈ zST, vk_R (zRN e.1) e.2.1 (zTx e.2.2) (E.2.2.2.2.1 e.2.2) s) ∧
  va_Z "java/lang/String" "COMPACT_STRINGS" "Z" (.int 1) (zAr E) s s.heap ∧ (va_Z "jdk/internal/util/Preconditions" "SIOOBE_FORMATTER" "Ljava/util/function/BiFunction;" .null (zAr E) s s.heap ∨ va_Z "jdk/internal/util/Preconditions" "SIOOBE_FORMATTER" "Ljava/util/function/BiFunction;" (.ref (E.2.2.2.2.1 9)) (zAr E) s s.heap) ∧
  (Jvm.Cond.arrayOver (.array .int)).before #[] s = true
/-- what never changes: at the start of a method -/
def zT (E : zE) (L : Nat) (xs : Nat → Int32) (s : State) : Prop :=
  va_K E.2.1 vwCl (ztys E) s ∧ E.1 ≤ s.heap.size ∧ va_X E.2.2.2.1 L xs s s.heap ∧ E.2.2.2.1 < E.1 ∧ L ≤ 100000 ∧ (∀ w ∈ zNW, va_Nw w s) ∧ zStr E s
/-- the heap holds h -/
def zP (E : zE) (h : zH) (H : Heap) : Prop := H.size = E.1 + h.1.length ∧ h.1.length ≤ 1000000 ∧ va_P E.2.1 vwCl (zws E h) H
/-- the method's own -/
def zCx (k : Nat) (p : Program) (s : State) (m : MethodId) (args : Array Value) (meth : Method) (c : Code) : Prop :=
  p.tables.exec = Jvm.exec ∧ c.code = zC k ∧ c.maxLocals = zL k ∧ meth.sig.returnType = zRt k ∧ meth.locks = false ∧ s.vm.findClass (zRN (zO k)) = some m.cls ∧ (∀ w ∈ zTB, w.before args s = true) ∧ meth.name = (zY k).name
def zRm (k : Nat) (g : Nat × Nat × Nat × Nat) : Room := { frames := zFr k, cells := g.1, slots := g.2.1, locals := zLo k }
/-- a method's end -/
def zQc (E : zE) (L : Nat) (xs : Nat → Int32) (Q : zQ) : Array Value → State → Outcome → State → Prop := fun _ st oc t =>
  ∃ (r : Option Value) (h : zH), Q r h ∧ oc = .returned (r.map (zv E)) ∧ zP E h t.heap ∧ h.2 1000000 = xs ∧ h.2 1000001 0 = Int32.ofNat L ∧ va_F (zAr E) st t
/-- from pc on, with these locals, this stack and this heap, method k comes to its end with Q; g: cells and slots that it may make, those made -/
def ZW (k : Nat) (g : Nat × Nat × Nat × Nat) (pc : Nat) (ls : zLs) (st : List Value) (h : zH) (Q : zQ) : Prop :=
  ∀ (p : Program) (l : Launch) (e : Env) (s : State) (m : MethodId) (args : Array Value) (below : List Frame) (meth : Method) (c : Code) (E : zE) (L : Nat) (xs : Nat → Int32) (H : Heap) (locs : List Loc) (lsA : Array Slot),
    zCx k p s m args meth c → zT E L xs s → h.2 1000000 = xs → h.2 1000001 0 = Int32.ofNat L → zP E h H → va_S (zAr E) s.heap H locs → lv_has lsA (zL k) (ls.map (fun q => (q.1, zv E q.2))) →
    W p l e (zRm k g) s m args below meth c H locs g.2.2.1 g.2.2.2 (MQ below (zQc E L xs Q) args s g.1 g.2.1 (zAr E)) (F0 m pc lsA (st.map (zv E)))
/-- a call of method k -/
def ZM (k mc ms : Nat) (as : List Value) (h : zH) (Q : zQ) : Prop := ZW k (mc, ms, 0, 0) 0 (lv_args 0 as) [] h Q
def zup (m : zM) (a k : Nat) (v : Int32) : zM := fun b => if b = a then upd (m a) k v else m b
def zz (m : zM) (a : Nat) : zM := fun b => if b = a then (fun _ => 0) else m b
/-! THE EVALUATOR -/
def zi1 (st : List Value) (f : Int32 → List Value → Prop) : Prop := match st with | .int x :: r => f x r | _ => False
def zi2 (st : List Value) (f : Int32 → Int32 → List Value → Prop) : Prop := match st with | .int y :: .int x :: r => f x y r | _ => False
def zl1 (st : List Value) (f : Int64 → List Value → Prop) : Prop := match st with | .long x :: r => f x r | _ => False
def zl2 (st : List Value) (f : Int64 → Int64 → List Value → Prop) : Prop := match st with | .long y :: .long x :: r => f x y r | _ => False
def zli (st : List Value) (f : Int64 → Int32 → List Value → Prop) : Prop := match st with | .int y :: .long x :: r => f x y r | _ => False
def za1 (st : List Value) (f : Nat → List Value → Prop) : Prop := match st with | .ref a :: r => f a r | _ => False
def zai (st : List Value) (f : Nat → Int32 → List Value → Prop) : Prop := match st with | .int i :: .ref a :: r => f a i r | _ => False
def zaii (st : List Value) (f : Nat → Int32 → Int32 → List Value → Prop) : Prop := match st with | .int x :: .int i :: .ref a :: r => f a i x r | _ => False
def zav (st : List Value) (f : Nat → Value → List Value → Prop) : Prop := match st with | v :: .ref a :: r => f a v r | _ => False
def zld (ls : zLs) (i : Nat) (f : Value → Prop) : Prop := match ls.find? (fun q => q.1 == i) with | some q => f q.2 | none => False
def zIv (v : Value) (f : Int32 → Prop) : Prop := match v with | .int x => f x | _ => False
def zLv (v : Value) (f : Int64 → Prop) : Prop := match v with | .long x => f x | _ => False
def zRv (v : Value) (f : Nat → Prop) : Prop := match v with | .ref x => f x | _ => False
def zs1 (ls : zLs) (i : Nat) (v : Value) : zLs := (i, v) :: ls.filter (fun q => !(q.1 == i) && !(q.1 + 1 == i && q.2.category == 2))
def zs2 (ls : zLs) (i : Nat) (v : Value) : zLs := (i, v) :: ls.filter (fun q => !(q.1 == i) && (!(q.1 == i + 1) && !(q.1 + 1 == i && q.2.category == 2)))
def zbr (c : Prop) (a b : Prop) : Prop := (c → a) ∧ (¬ c → b)
def zcn (o : ClassFile.Cond) (x y : Int32) : Prop := match o with
  | .eq => x = y
  | .ne => ¬ x = y
  | .lt => x < y
  | .ge => y ≤ x
  | .gt => y < x
  | .le => x ≤ y
def zsw (x : Int32) (ps : List (Int × Nat)) (d : Nat) (f : Nat → Prop) : Prop := match ps with
  | [] => f d
  | (c, t) :: r => (x = Int32.ofInt c → f t) ∧ (¬ x = Int32.ofInt c → zsw x r d f)
def ztg (pc : Nat) (off : Int) : Nat := ((pc : Int) + off).toNat
def zdr (l : zIs) (t : Nat) : zIs := match l with
  | [] => []
  | e :: r => if e.1 == t then e :: r else zdr r t
def zat (k t : Nat) : zIs := zdr (zI k) t
def zpc (l : zIs) : Nat := match l with | [] => 0 | e :: _ => e.1
def zhd (l : zIs) : Bool := match l with | [] => false | e :: _ => e.2.2.2
def zob (h : zH) (a c : Nat) (f : List (Option Nat) → Prop) : Prop := match h.1[a]? with | some (.inr d, _, rs) => if d = c then f rs else False | _ => False
def zar (h : zH) (a t : Nat) (f : Nat → Prop) : Prop := match h.1[a]? with | some (.inl d, n, _) => if d = t then f n else False | _ => False
def zob2 (o : Option (Nat × Nat)) (f : Nat → Nat → Prop) : Prop := match o with | some (a, b) => f a b | none => False
def zo1 (o : Option Nat) (f : Nat → Prop) : Prop := match o with | some a => f a | none => False
def zrv (o : Option Nat) : Value := match o with | some a => .ref a | none => .null
def zret (ty : Option FieldType) (v : Int32) (f : Prop) : Prop := match ty with
  | some .int => f
  | some .boolean => (v = 0 ∨ v = 1) ∧ f
  | _ => False
def zcs (st : List Value) : Nat := (st.map fun v => v.category).sum
/-- a call's room -/
def zcr (k j : Nat) (rest : List Value) : Bool := decide (zFr j + 1 ≤ zFr k) && decide (8 + (zL j + 11) + zLo j ≤ zLo k) && decide (zcs rest ≤ 8)
def zsl (as : List Value) : Nat := (lg_sl as).length
def zif (c : Prop) [Decidable c] (a : Prop) : Prop := if c then a else False
def zif2 (c : Prop) [Decidable c] (a b : Prop) : Prop := if c then a else b
def zbz (h : zH) (a : Nat) (f f2 : Nat → Prop) : Prop := match h.1[a]? with
  | some (.inl 1, n, _) => f n
  | some (.inl 2, n, _) => f2 n
  | _ => False
def zra (h : zH) (a : Nat) (f : Nat → List (Option Nat) → Prop) : Prop := match h.1[a]? with
  | some (.inl 4, n, rs) => f n rs
  | _ => False
def zal (h : zH) (a : Nat) (f : Nat → Prop) : Prop := match h.1[a]? with
  | some (.inl t, n, _) => if t < 5 then f n else False
  | _ => False
def zrc (st : List Value) (na : Nat) (f : Nat → Prop) : Prop := match st.drop (na - 1) with
  | .ref a :: _ => f a
  | _ => False
def zor (o : Option Nat) (f : Nat → Prop) (b : Prop) : Prop := match o with
  | some v => f v
  | none => b
def zc1 (st : List Value) (f : Value → List Value → Prop) : Prop := match st with
  | v :: r => if v.category = 1 then f v r else False
  | [] => False
def zr1 (st : List Value) (f : Int32 → Prop) : Prop := match st with
  | [.int v] => f v
  | _ => False
def zrA (st : List Value) (ty : Option FieldType) (f : Nat → Prop) : Prop := match st, ty with
  | [.ref v], some (.object _) => f v
  | _, _ => False
def zr0 (st : List Value) (ty : Option FieldType) (f : Prop) : Prop := match st, ty with
  | [], none => f
  | _, _ => False
def zat0 (t : ArrayType) : Option Nat := match t with
  | .int => some 0
  | .byte => some 1
  | .boolean => some 2
  | .char => some 3
  | _ => none
noncomputable def zw (N : List Nat) : Nat → Nat → (Nat × Nat × Nat × Nat) → zIs → zLs → List Value → zH → zQ → Prop
  | 0, k, g, is, ls, st, h, Q => match is with
    | [] => False
    | e :: _ => ZW k g e.1 ls st h Q
  | n + 1, k, g, is, ls, st, h, Q =>
    match is with
    | [] => False
    | (pc, i, _, _) :: is =>
      let nx (is : zIs) (ls : zLs) (st : List Value) (h : zH) : Prop := zif2 (zhd is = true) (ZW k g (zpc is) ls st h Q) (zw N n k g is ls st h Q)
      let jm (off : Int) (ls : zLs) (st : List Value) (h : zH) : Prop := zif2 (off ≤ 0) (ZW k g (ztg pc off) ls st h Q) (nx (zat k (ztg pc off)) ls st h)
      let cl (j : Nat) (st : List Value) : Prop :=
        zif (j < 219 ∧ zcr k j (st.drop (zNa j)) = true ∧ zsl (st.take (zNa j)).reverse ≤ zL j ∧ (st.take (zNa j)).length = zNa j ∧ g.2.2.1 ≤ g.1 ∧ g.2.2.2 ≤ g.2.1)
          (zif2 (N.contains j = true) (zw N n j (0, 0, 0, 0) (zI j) (lv_args 0 (st.take (zNa j)).reverse) [] h (fun r h => nx is ls (r.toList ++ st.drop (zNa j)) h))
          (ZM j 0 0 (st.take (zNa j)).reverse h (fun r h => ZW k g (pc + 3) ls (r.toList ++ st.drop (zNa j)) h Q)))
      match i with
      | .iconst c => nx is ls (.int (Int32.ofInt c) :: st) h
      | .bipush c => nx is ls (.int (Int8.ofInt c).toInt32 :: st) h
      | .sipush c => nx is ls (.int (Int16.ofInt c).toInt32 :: st) h
      | .ldc x => zor (zKi (zO k) x) (fun v => nx is ls (.int (Int32.ofNat v) :: st) h) (zo1 (zSk (zO k) x) fun j => nx is ls (.ref (1000010 + j) :: st) h)
      | .ldc_w x => zo1 (zKi (zO k) x) fun v => nx is ls (.int (Int32.ofNat v) :: st) h
      | .ldc2_w x => zo1 (zKl (zO k) x) fun v => nx is ls (.long (Int64.ofNat v) :: st) h
      | .iload x => zld ls x fun v => zIv v fun y => nx is ls (.int y :: st) h
      | .iload_n x => zld ls x.val fun v => zIv v fun y => nx is ls (.int y :: st) h
      | .lload x => zld ls x fun v => zLv v fun y => nx is ls (.long y :: st) h
      | .lload_n x => zld ls x.val fun v => zLv v fun y => nx is ls (.long y :: st) h
      | .aload x => zld ls x fun v => zRv v fun y => nx is ls (.ref y :: st) h
      | .aload_n x => zld ls x.val fun v => zRv v fun y => nx is ls (.ref y :: st) h
      | .istore x => zi1 st fun v r => zif (x < zL k) (nx is (zs1 ls x (.int v)) r h)
      | .istore_n x => zi1 st fun v r => zif (x.val < zL k) (nx is (zs1 ls x.val (.int v)) r h)
      | .astore x => za1 st fun v r => zif (x < zL k) (nx is (zs1 ls x (.ref v)) r h)
      | .astore_n x => za1 st fun v r => zif (x.val < zL k) (nx is (zs1 ls x.val (.ref v)) r h)
      | .lstore x => zl1 st fun v r => zif (x + 1 < zL k) (nx is (zs2 ls x (.long v)) r h)
      | .iinc x c => zld ls x fun v => zIv v fun y => zif (x < zL k) (nx is (zs1 ls x (.int (y + Int32.ofInt c))) st h)
      | .iadd => zi2 st fun x y r => nx is ls (.int (x + y) :: r) h
      | .isub => zi2 st fun x y r => nx is ls (.int (x - y) :: r) h
      | .imul => zi2 st fun x y r => nx is ls (.int (x * y) :: r) h
      | .idiv => zi2 st fun x y r => ¬ y = 0 ∧ nx is ls (.int (x / y) :: r) h
      | .irem => zi2 st fun x y r => ¬ y = 0 ∧ nx is ls (.int (x - x / y * y) :: r) h
      | .ineg => zi1 st fun x r => nx is ls (.int (-x) :: r) h
      | .iand => zi2 st fun x y r => nx is ls (.int (x &&& y) :: r) h
      | .ior => zi2 st fun x y r => nx is ls (.int (x ||| y) :: r) h
      | .ishl => zi2 st fun x y r => nx is ls (.int (x <<< (y &&& 31)) :: r) h
      | .ishr => zi2 st fun x y r => nx is ls (.int (x >>> (y &&& 31)) :: r) h
      | .land => zl2 st fun x y r => nx is ls (.long (x &&& y) :: r) h
      | .lor => zl2 st fun x y r => nx is ls (.long (x ||| y) :: r) h
      | .lshl => zli st fun x y r => nx is ls (.long (x <<< (y.toInt64 &&& 63)) :: r) h
      | .lshr => zli st fun x y r => nx is ls (.long (x >>> (y.toInt64 &&& 63)) :: r) h
      | .lushr => zli st fun x y r => nx is ls (.long (x.toUInt64 >>> (y.toInt64.toUInt64 &&& Int64.toUInt64 63)).toInt64 :: r) h
      | .lcmp => zl2 st fun x y r => nx is ls (.int (lg_cmp x y) :: r) h
      | .i2l => zi1 st fun x r => nx is ls (.long x.toInt64 :: r) h
      | .l2i => zl1 st fun x r => nx is ls (.int x.toInt32 :: r) h
      | .i2b => zi1 st fun x r => nx is ls (.int x.toInt8.toInt32 :: r) h
      | .i2c => zi1 st fun x r => nx is ls (.int (x.toUInt32 % 65536).toInt32 :: r) h
      | .dup => zc1 st fun v r => nx is ls (v :: v :: r) h
      | .dup2 => zai st fun a x r => nx is ls (.int x :: .ref a :: .int x :: .ref a :: r) h
      | .pop => zc1 st fun _ r => nx is ls r h
      | .ifCond o off => zi1 st fun x r => zif (0 ≤ (pc : Int) + off) (zbr (zcn o x 0) (jm off ls r h) (nx is ls r h))
      | .if_icmp o off => zi2 st fun x y r => zif (0 ≤ (pc : Int) + off) (zbr (zcn o x y) (jm off ls r h) (nx is ls r h))
      | .goto off => zif (0 ≤ (pc : Int) + off) (jm off ls st h)
      | .tableswitch d lo hi offs => zi1 st fun x r => zif (hi = lo + (offs.size : Int) - 1 ∧ -2147483648 ≤ lo ∧ hi < 2147483648 ∧ 0 < d ∧ offs.toList.all (fun o => decide (0 < o)) = true) (zsw x (offs.toList.zipIdx.map (fun q => (lo + (q.2 : Int), ztg pc q.1))) (ztg pc d) fun t => nx (zat k t) ls r h)
      | .lookupswitch d ps => zi1 st fun x r => zif ((ps.toList.zip (ps.toList.drop 1)).all (fun (a, next) => a.1 < next.1) = true ∧ 0 < d ∧ ps.toList.all (fun q => decide (-2147483648 ≤ q.1 ∧ q.1 < 2147483648 ∧ 0 < q.2)) = true) (zsw x (ps.toList.map (fun q => (q.1, ztg pc q.2))) (ztg pc d) fun t => nx (zat k t) ls r h)
      | .getfield x => za1 st fun a r => zob2 (zF (zO k) x) fun c f => zob h a c fun rs => zif2 (zFk c f = 2) (nx is ls (zrv (rs.getD f none) :: r) h) (nx is ls (.int (h.2 a f) :: r) h)
      | .putfield x => zav st fun a v r => zob2 (zF (zO k) x) fun c f => zob h a c fun rs =>
          zif (zFw c f = true ∨ ((zY k).name = "<init>" ∧ zO k = c))
            (zif2 (zFk c f = 2) (zRv v fun b => zif (b < h.1.length ∧ rs.length = zN c) (nx is ls r (h.1.set a (.inr c, 0, rs.set f (some b)), h.2)))
            (zIv v fun y => zif2 (zFk c f = 0) (nx is ls r (h.1, zup h.2 a f y)) ((y = 0 ∨ y = 1) ∧ nx is ls r (h.1, zup h.2 a f y))))
      | .iaload => zai st fun a j r => zif2 (a = 1000000) (vp_in j (h.2 1000001 0).toNatClampNeg ∧ nx is ls (.int (h.2 a j.toNatClampNeg) :: r) h) (zar h a 0 fun n => vp_in j n ∧ nx is ls (.int (h.2 a j.toNatClampNeg) :: r) h)
      | .baload => zai st fun a j r => zbz h a (fun n => vp_in j n ∧ nx is ls (.int (h.2 a j.toNatClampNeg) :: r) h) (fun n => vp_in j n ∧ nx is ls (.int (h.2 a j.toNatClampNeg) :: r) h)
      | .caload => zai st fun a j r => zar h a 3 fun n => vp_in j n ∧ nx is ls (.int (h.2 a j.toNatClampNeg) :: r) h
      | .aaload => zai st fun a j r => zra h a fun n rs => vp_in j n ∧ zo1 (rs.getD j.toNatClampNeg none) fun b => nx is ls (.ref b :: r) h
      | .iastore => zaii st fun a j x r => zar h a 0 fun n => vp_in j n ∧ nx is ls r (h.1, zup h.2 a j.toNatClampNeg x)
      | .bastore => zaii st fun a j x r => zbz h a (fun n => vp_in j n ∧ nx is ls r (h.1, zup h.2 a j.toNatClampNeg (vp_nar .byte x))) (fun n => vp_in j n ∧ nx is ls r (h.1, zup h.2 a j.toNatClampNeg (vp_nar .boolean x)))
      | .castore => zaii st fun a j x r => zar h a 3 fun n => vp_in j n ∧ nx is ls r (h.1, zup h.2 a j.toNatClampNeg (vp_nar .char x))
      | .arraylength => za1 st fun a r => zif2 (a = 1000000) (nx is ls (.int (h.2 1000001 0) :: r) h) (zal h a fun n => nx is ls (.int (Int32.ofNat n) :: r) h)
      | .new x => zo1 (zCl (zO k) x) fun c => zif (g.2.2.1 + 1 ≤ g.1 ∧ g.2.2.2 + zN c ≤ g.2.1 ∧ h.1.length < 900000) (zw N n k (g.1, g.2.1, g.2.2.1 + 1, g.2.2.2 + zN c) is ls (.ref h.1.length :: st) (h.1 ++ [(.inr c, 0, List.replicate (zN c) none)], zz h.2 h.1.length) Q)
      | .newarray t => zi1 st fun x r => zo1 (zat0 t) fun d =>
          zif (¬ x < 0 ∧ x.toNatClampNeg ≤ 100000 ∧ g.2.2.1 + 1 ≤ g.1 ∧ g.2.2.2 + x.toNatClampNeg ≤ g.2.1 ∧ h.1.length < 900000) (zw N n k (g.1, g.2.1, g.2.2.1 + 1, g.2.2.2 + x.toNatClampNeg) is ls (.ref h.1.length :: r) (h.1 ++ [(.inl d, x.toNatClampNeg, [])], zz h.2 h.1.length) Q)
      | .invokespecial x => zo1 (zLk (zO k) x) fun j =>
          zif2 (j = 999) (za1 st fun _ r => zif (1 ≤ zFr k ∧ zcs r + 12 ≤ zLo k) (nx is ls r h))
          (zrc st (zNa j) fun _ => zif (j < 219 ∧ zSt j = false ∧ (zY j).name = "<init>" ∧ zRt j = none ∧ zcr k j (st.drop (zNa j)) = true ∧ zsl (st.take (zNa j)).reverse ≤ zL j ∧ (st.take (zNa j)).length = zNa j ∧ g.2.2.1 + zMc j ≤ g.1 ∧ g.2.2.2 + zMs j ≤ g.2.1)
            (ZM j (zMc j) (zMs j) (st.take (zNa j)).reverse h (fun r h => ZW k (g.1, g.2.1, g.2.2.1 + zMc j, g.2.2.2 + zMs j) (pc + 3) ls (r.toList ++ st.drop (zNa j)) h Q)))
      | .invokevirtual x => zo1 (zLk (zO k) x) fun j =>
          zif2 (j = 220) (za1 st fun a r => zo1 (zSn a) fun n => zif (zcr k j r = true ∧ g.2.2.1 ≤ g.1 ∧ g.2.2.2 ≤ g.2.1) (nx is ls (.int (Int32.ofNat n) :: r) h))
          (zif2 (j = 221) (za1 st fun a r => zo1 (zSn a) fun n => zif (zcr k j r = true ∧ g.2.2.1 ≤ g.1 ∧ g.2.2.2 ≤ g.2.1) (nx is ls (.int (if n = 0 then 1 else 0) :: r) h))
          (zif2 (j = 222) (zai st fun a i r => zo1 (zSn a) fun n => zif (zcr k j r = true ∧ g.2.2.1 ≤ g.1 ∧ g.2.2.2 ≤ g.2.1) (vp_in i n ∧ nx is ls (.int (zSc a i.toNatClampNeg) :: r) h))
          (zrc st (zNa j) fun a => zif (zSt j = false ∧ (zY j).name ≠ "<init>") (zob h a (zO j) fun _ => cl j st))))
      | .invokestatic x => zo1 (zLk (zO k) x) fun j =>
          zif2 (j = 232) (zi2 st fun x y r => zif (1 ≤ zFr k ∧ zcs r + 13 ≤ zLo k ∧ g.2.2.1 ≤ g.1 ∧ g.2.2.2 ≤ g.2.1) (nx is ls (.int (if x < y then y else x) :: r) h))
          (zif2 (j = 233) (zi2 st fun x y r => zif (1 ≤ zFr k ∧ zcs r + 13 ≤ zLo k ∧ g.2.2.1 ≤ g.1 ∧ g.2.2.2 ≤ g.2.1) (nx is ls (.int (if y < x then y else x) :: r) h))
          (zif (zSt j = true) (cl j st)))
      | .ireturn => zr1 st fun v => zret (zRt k) v (zif (g.2.2.1 ≤ g.1 ∧ g.2.2.2 ≤ g.2.1) (Q (some (.int v)) h))
      | .areturn => zrA st (zRt k) fun v => zif (g.2.2.1 ≤ g.1 ∧ g.2.2.2 ≤ g.2.1) (Q (some (.ref v)) h)
      | .return_ => zr0 st (zRt k) (zif (g.2.2.1 ≤ g.1 ∧ g.2.2.2 ≤ g.2.1) (Q none h))
      | _ => False
