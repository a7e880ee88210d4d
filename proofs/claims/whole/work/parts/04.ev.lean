/-! THE EVALUATOR: a method's bytecode, its instructions told by a table, over a heap of numbered cells (cell 0: the script; 1, 2 ..: what the law made, in its order; from a million on: String constants). -/
abbrev ex_C : Type := (FieldType × vp_A) ⊕ (Nat × List Value)
/-- exact: every cell is told; how many cells, how many slots at most; the cells -/
abbrev ex_H : Type := (Bool × Nat × Nat) × (Nat → Option ex_C)
/-- returned, or thrown (0 IllegalArgument, 1 IllegalState, 2 IndexOutOfBounds, 3 NoSuchElement, 4 UnsupportedOperation) -/
abbrev ex_R : Type := Option Value ⊕ Nat
/-- operation, next pc, two numbers, a constant, more numbers -/
abbrev ex_O : Type := Nat × Nat × Nat × Nat × Int32 × List Nat
/-- depth, method, pc, locals, stack, heap -/
abbrev ex_V : Type := Nat → Nat → Nat → List Value → List Value → ex_H → Option (ex_R × ex_H)
/-- name, code, locals, what it returns, its table of handlers -/
abbrev ex_Me : Type := MethodName × ByteArray × Nat × Option FieldType × List (Nat × Nat × Nat × Nat)
def ex_set (h : ex_H) (k : Nat) (c : ex_C) : ex_H := (h.1, fun j => if j = k then some c else h.2 j)
def ex_add (h : ex_H) (n : Nat) (c : ex_C) : ex_H := ((h.1.1, h.1.2.1 + 1, h.1.2.2 + n), fun j => if j = h.1.2.1 + 1 then some c else h.2 j)
def ex_thr (h : ex_H) : ex_H := ((false, h.1.2.1 + 1, h.1.2.2 + 6), h.2)
def ex_bin (k : Nat) (x y : Int32) : Option Int32 := match k with
  | 0 => some (x + y)
  | 1 => some (x - y)
  | 2 => some (x * y)
  | 3 => if y = 0 then none else some (x / y)
  | 4 => if y = 0 then none else some (x - x / y * y)
  | 5 => some (x &&& y)
  | 6 => some (x ||| y)
  | 7 => some (x ^^^ y)
  | 8 => some (x <<< (y &&& 31))
  | 9 => some (x >>> (y &&& 31))
  | 10 => some (x.toUInt32 >>> (y.toUInt32 &&& Int32.toUInt32 31)).toInt32
  | _ => none
def ex_cmp (k : Nat) (x y : Int32) : Bool := match k with
  | 0 => decide (x = y)
  | 1 => !decide (x = y)
  | 2 => decide (x < y)
  | 3 => decide (y ≤ x)
  | 4 => decide (y < x)
  | _ => decide (x ≤ y)
/-- a handler: the number of what is thrown, where it goes on (behind its astore), which local it takes -/
def ex_hd (E : Nat) : List Nat → Option (Nat × Nat)
  | k :: t :: i :: r => if k = E then some (t, i) else ex_hd E r
  | _ => none
/-- the words that stand on a stack -/
def ex_wd : List Value → Nat
  | [] => 0
  | v :: r => v.category + ex_wd r
def ex_one (v : Value) : Bool := match v with
  | .int _ => true
  | .ref _ => true
  | _ => false
def ex_pad (n : Nat) (vs : List Value) : List Value := vs ++ List.replicate (n - vs.length) .null
def ex_tgt (x lo : Int32) (ts : List Nat) (df : Nat) : Nat := if x.toInt < lo.toInt then df else (ts[(x.toInt - lo.toInt).toNat]?).getD df
/-- an int out of an array -/
def ex_ild (h : ex_H) (x : Nat) (i : Int32) : Option Int32 := match h.2 x with
  | some (.inl (.int, n, .inl f)) => if i < 0 then none else if n ≤ i.toNatClampNeg then none else some (f i.toNatClampNeg)
  | _ => none
def ex_ist (h : ex_H) (x : Nat) (i v : Int32) : Option ex_H := match h.2 x with
  | some (.inl (.int, n, .inl f)) => if x = 0 then none else if i < 0 then none else if n ≤ i.toNatClampNeg then none else some (ex_set h x (.inl (.int, n, .inl (upd f i.toNatClampNeg v))))
  | _ => none
def ex_zld (h : ex_H) (x : Nat) (i : Int32) : Option Int32 := match h.2 x with
  | some (.inl (.boolean, n, .inl f)) => if x = 0 then none else if i < 0 then none else if n ≤ i.toNatClampNeg then none else some (f i.toNatClampNeg)
  | _ => none
def ex_zst (h : ex_H) (x : Nat) (i v : Int32) : Option ex_H := match h.2 x with
  | some (.inl (.boolean, n, .inl f)) => if x = 0 then none else if i < 0 then none else if n ≤ i.toNatClampNeg then none else some (ex_set h x (.inl (.boolean, n, .inl (upd f i.toNatClampNeg (v &&& 1)))))
  | _ => none
def ex_lld (h : ex_H) (x : Nat) (i : Int32) : Option Int64 := match h.2 x with
  | some (.inl (.long, n, .inr (.inl f))) => if x = 0 then none else if i < 0 then none else if n ≤ i.toNatClampNeg then none else some (f i.toNatClampNeg)
  | _ => none
def ex_lst (h : ex_H) (x : Nat) (i : Int32) (v : Int64) : Option ex_H := match h.2 x with
  | some (.inl (.long, n, .inr (.inl f))) => if x = 0 then none else if i < 0 then none else if n ≤ i.toNatClampNeg then none else some (ex_set h x (.inl (.long, n, .inr (.inl (vp_updL f i.toNatClampNeg v)))))
  | _ => none
def ex_ald (h : ex_H) (x : Nat) (i : Int32) : Option Nat := match h.2 x with
  | some (.inl (.object _, n, .inr (.inr (.inr (.inr f))))) => if x = 0 then none else if i < 0 then none else if n ≤ i.toNatClampNeg then none else f i.toNatClampNeg
  | _ => none
def ex_ast (h : ex_H) (x : Nat) (i : Int32) (y : Nat) : Option ex_H := match h.2 x, h.2 y with
  | some (.inl (.object C, n, .inr (.inr (.inr (.inr f))))), some (.inr (ci, _)) => if x = 0 then none else if y = 0 then none else if i < 0 then none else if n ≤ i.toNatClampNeg then none else if (ex_cl[ci]?).map (fun r => r.1) = some C then some (ex_set h x (.inl (.object C, n, .inr (.inr (.inr (.inr (va_up f i.toNatClampNeg (some y)))))))) else none
  | _, _ => none
def ex_len (h : ex_H) (x : Nat) : Option Int32 := match h.2 x with
  | some (.inl (_, a)) => some (Int32.ofNat a.1)
  | _ => none
def ex_get (h : ex_H) (x ci k : Nat) : Option Value := match h.2 x with
  | some (.inr (c, fs)) => if x = 0 then none else if c = ci then fs[k]? else none
  | _ => none
/-- kinds of fields: 0 int, 1 boolean, else a reference -/
def ex_fit (t : Int32) (v : Value) : Bool := match v with
  | .int x => if t = 0 then true else if t = 1 then decide (x = 0) || decide (x = 1) else false
  | .ref _ => if t = 0 then false else if t = 1 then false else true
  | _ => false
def ex_put (h : ex_H) (x ci k : Nat) (t : Int32) (v : Value) : Option ex_H := match h.2 x with
  | some (.inr (c, fs)) => if x = 0 then none else if c = ci then if k < fs.length then if ex_fit t v then some (ex_set h x (.inr (c, fs.set k v))) else none else none else none
  | _ => none
def ex_cpi (h : ex_H) (x : Nat) (sp : Int32) (y : Nat) (dp n : Int32) : Option ex_H := match h.2 x, h.2 y with
  | some (.inl (.int, n0, .inl f)), some (.inl (.int, n1, .inl g)) => if x = 0 then none else if y = 0 then none else if sp < 0 then none else if dp < 0 then none else if n < 0 then none else if n0 < sp.toNatClampNeg + n.toNatClampNeg then none else if n1 < dp.toNatClampNeg + n.toNatClampNeg then none else some (ex_set h y (.inl (.int, n1, .inl (va_cpy f g sp.toNatClampNeg dp.toNatClampNeg n.toNatClampNeg))))
  | _, _ => none
/-- the bytes of a String constant -/
def ex_tx (x : Nat) : Option (List Int32) := if x < 1000000 then none else ex_byt[x - 1000000]?
/-- a fresh array by its type's number: 0 int, 1 boolean, 2 long -/
def ex_fr (t n : Nat) : Option ex_C := match t with
  | 0 => some (.inl (.int, n, .inl (fun _ => 0)))
  | 1 => some (.inl (.boolean, n, .inl (fun _ => 0)))
  | 2 => some (.inl (.long, n, .inr (.inl (fun _ => 0))))
  | _ => none
/-- the receiver: none (0), a new object (1), one of the class k (k + 2) -/
def ex_rc (h : ex_H) (k : Nat) (vs : List Value) : Bool := match k with
  | 0 => true
  | 1 => match vs with
    | .ref _ :: _ => true
    | _ => false
  | k + 2 => match vs with
    | .ref x :: _ => match h.2 x with
      | some (.inr (c, _)) => decide (c = k) && !decide (x = 0)
      | _ => false
    | _ => false
def ex_back (K : ex_V) (d mi nx : Nat) (L rest : List Value) (tl : List Nat) (q : Option (ex_R × ex_H)) : Option (ex_R × ex_H) := match q with
  | some (.inl none, h) => K d mi nx L rest h
  | some (.inl (some w), h) => if ex_one w then K d mi nx L (w :: rest) h else none
  | some (.inr E, h) => match ex_hd E tl with
    | some (t, i) => if i < L.length then K d mi t (L.set i .null) [] h else none
    | none => none
  | none => none
def ex_call (M : Nat → Option ex_Me) (K : ex_V) (nx a b : Nat) (tl : List Nat) (d mi : Nat) (L st : List Value) (h : ex_H) : Option (ex_R × ex_H) :=
  if st.length < b then none else if 8 < ex_wd (st.drop b) then none else if (st.take b).all ex_one then
    match d, M a with
    | d' + 1, some me => if me.2.2.1 < b then none else if ex_rc h (tl.getD 1 0) (st.take b).reverse = false then none else ex_back K d mi nx L (st.drop b) (tl.drop 2) (K d' a 0 (ex_pad me.2.2.1 (st.take b).reverse) [] h)
    | _, _ => none
  else none
def ex_do (M : Nat → Option ex_Me) (K : ex_V) (o : ex_O) (d mi : Nat) (L st : List Value) (h : ex_H) : Option (ex_R × ex_H) := match o with
  | (op, nx, a, b, v, tl) => match op with
    -- constants: iconst, bipush, sipush, ldc, ldc_w
    | 0 => K d mi nx L (.int v :: st) h
    | 1 => K d mi nx L (.int v :: st) h
    | 2 => K d mi nx L (.int v :: st) h
    | 3 => K d mi nx L (.int v :: st) h
    | 4 => K d mi nx L (.int v :: st) h
    -- iload_n, iload, aload_n, aload
    | 5 => match L[a]? with
      | some (.int x) => K d mi nx L (.int x :: st) h
      | _ => none
    | 6 => match L[a]? with
      | some (.int x) => K d mi nx L (.int x :: st) h
      | _ => none
    | 7 => match L[a]? with
      | some (.ref x) => K d mi nx L (.ref x :: st) h
      | _ => none
    | 8 => match L[a]? with
      | some (.ref x) => K d mi nx L (.ref x :: st) h
      | _ => none
    -- istore_n, istore, astore_n, astore, iinc
    | 9 => match st with
      | .int x :: r => K d mi nx (L.set a (.int x)) r h
      | _ => none
    | 10 => match st with
      | .int x :: r => K d mi nx (L.set a (.int x)) r h
      | _ => none
    | 11 => match st with
      | .ref x :: r => K d mi nx (L.set a (.ref x)) r h
      | _ => none
    | 12 => match st with
      | .ref x :: r => K d mi nx (L.set a (.ref x)) r h
      | _ => none
    | 13 => match L[a]? with
      | some (.int x) => K d mi nx (L.set a (.int (x + v))) st h
      | _ => none
    -- two ints, ineg
    | 14 => match st with
      | .int y :: .int x :: r => match ex_bin a x y with
        | some z => K d mi nx L (.int z :: r) h
        | none => none
      | _ => none
    | 15 => match st with
      | .int x :: r => K d mi nx L (.int (-x) :: r) h
      | _ => none
    -- if, if_icmp, goto, tableswitch
    | 16 => match st with
      | .int x :: r => if ex_cmp a x 0 then K d mi b L r h else K d mi nx L r h
      | _ => none
    | 17 => match st with
      | .int y :: .int x :: r => if ex_cmp a x y then K d mi b L r h else K d mi nx L r h
      | _ => none
    | 18 => K d mi b L st h
    | 19 => match st with
      | .int x :: r => K d mi (ex_tgt x v tl b) L r h
      | _ => none
    -- getfield, putfield, putfield of a final one
    | 20 => match st with
      | .ref x :: r => match ex_get h x a b with
        | some w => K d mi nx L (w :: r) h
        | none => none
      | _ => none
    | 21 => match st with
      | w :: .ref x :: r => match ex_put h x a b v w with
        | some h1 => K d mi nx L r h1
        | none => none
      | _ => none
    | 22 => match st with
      | w :: .ref x :: r => match ex_put h x a b v w with
        | some h1 => K d mi nx L r h1
        | none => none
      | _ => none
    -- arrays: int, boolean, long, references, length
    | 23 => match st with
      | .int i :: .ref x :: r => match ex_ild h x i with
        | some w => K d mi nx L (.int w :: r) h
        | none => none
      | _ => none
    | 24 => match st with
      | .int w :: .int i :: .ref x :: r => match ex_ist h x i w with
        | some h1 => K d mi nx L r h1
        | none => none
      | _ => none
    | 25 => match st with
      | .int i :: .ref x :: r => match ex_zld h x i with
        | some w => K d mi nx L (.int w :: r) h
        | none => none
      | _ => none
    | 26 => match st with
      | .int w :: .int i :: .ref x :: r => match ex_zst h x i w with
        | some h1 => K d mi nx L r h1
        | none => none
      | _ => none
    | 27 => match st with
      | .int i :: .ref x :: r => match ex_lld h x i with
        | some w => K d mi nx L (.long w :: r) h
        | none => none
      | _ => none
    | 28 => match st with
      | .long w :: .int i :: .ref x :: r => match ex_lst h x i w with
        | some h1 => K d mi nx L r h1
        | none => none
      | _ => none
    | 29 => match st with
      | .int i :: .ref x :: r => match ex_ald h x i with
        | some w => K d mi nx L (.ref w :: r) h
        | none => none
      | _ => none
    | 30 => match st with
      | .ref y :: .int i :: .ref x :: r => match ex_ast h x i y with
        | some h1 => K d mi nx L r h1
        | none => none
      | _ => none
    | 31 => match st with
      | .ref x :: r => match ex_len h x with
        | some w => K d mi nx L (.int w :: r) h
        | none => none
      | _ => none
    -- newarray, anewarray, new (a its class, b its slots)
    | 32 => match st with
      | .int n :: r => if h.1.1 then if n < 0 then none else if 100000 < n.toNatClampNeg then none else match ex_fr a n.toNatClampNeg with
        | some c => K d mi nx L (.ref (h.1.2.1 + 1) :: r) (ex_add h n.toNatClampNeg c)
        | none => none
        else none
      | _ => none
    | 33 => match st with
      | .int n :: r => if h.1.1 then if n < 0 then none else if 100000 < n.toNatClampNeg then none else match ex_cl[a]? with
        | some c => K d mi nx L (.ref (h.1.2.1 + 1) :: r) (ex_add h n.toNatClampNeg (.inl (.object c.1, n.toNatClampNeg, .inr (.inr (.inr (.inr (fun _ => none)))))))
        | none => none
        else none
      | _ => none
    | 34 => if h.1.1 then K d mi nx L (.ref (h.1.2.1 + 1) :: st) (ex_add h b (.inr (a, (tl.drop 4).map (fun t => if t = 0 then Value.int 0 else Value.null)))) else none
    -- dup, pop, dup2
    | 35 => match st with
      | w :: r => if ex_one w then K d mi nx L (w :: w :: r) h else none
      | _ => none
    | 36 => match st with
      | w :: r => if ex_one w then K d mi nx L r h else none
      | _ => none
    | 37 => match st with
      | w :: z :: r => if ex_one w then if ex_one z then K d mi nx L (w :: z :: w :: z :: r) h else none else none
      | _ => none
    -- return, ireturn of an int, of a boolean, areturn
    | 38 => match st with
      | [] => some (.inl none, h)
      | _ => none
    | 39 => match st with
      | [.int x] => some (.inl (some (.int x)), h)
      | _ => none
    | 40 => match st with
      | [.int x] => if x = 0 then some (.inl (some (.int 0)), h) else if x = 1 then some (.inl (some (.int 1)), h) else none
      | _ => none
    | 41 => match st with
      | [.ref x] => some (.inl (some (.ref x)), h)
      | _ => none
    -- i2l, lcmp, lconst
    | 42 => match st with
      | .int x :: r => K d mi nx L (.long x.toInt64 :: r) h
      | _ => none
    | 43 => match st with
      | .long y :: .long x :: r => K d mi nx L (.int (lg_cmp x y) :: r) h
      | _ => none
    | 44 => K d mi nx L (.long (Int64.ofNat a) :: st) h
    -- Object's constructor, arraycopy of ints, a call, a throw of a new one
    | 45 => match st with
      | .ref _ :: r => if d = 0 then none else if 8 < ex_wd r then none else K d mi nx L r h
      | _ => none
    | 46 => match st with
      | .int n :: .int dp :: .ref y :: .int sp :: .ref x :: r => if d = 0 then none else if 8 < ex_wd r then none else match ex_cpi h x sp y dp n with
        | some h1 => K d mi nx L r h1
        | none => none
      | _ => none
    | 47 => ex_call M K nx a b tl d mi L st h
    | 48 => if d < 8 then none else if 8 < ex_wd st then none else some (.inr a, ex_thr h)
    -- a String constant; its length; its char
    | 49 => K d mi nx L (.ref (1000000 + a) :: st) h
    | 52 => K d mi nx L (.ref (1000000 + a) :: st) h
    | 50 => match st with
      | .ref x :: r => if d < 8 then none else if 8 < ex_wd r then none else match ex_tx x with
        | some t => K d mi nx L (.int (Int32.ofNat t.length) :: r) h
        | none => none
      | _ => none
    | 51 => match st with
      | .int i :: .ref x :: r => if d < 8 then none else if 8 < ex_wd r then none else match ex_tx x with
        | some t => if i < 0 then none else match t[i.toNatClampNeg]? with
          | some w => K d mi nx L (.int w :: r) h
          | none => none
        | none => none
      | _ => none
    | _ => none
def ex_step (M : Nat → Option ex_Me) (T : Nat → Nat → Option ex_O) (K : ex_V) : ex_V := fun d mi pc L st h => match T mi pc with
  | some o => ex_do M K o d mi L st h
  | none => none
def ex_ev (M : Nat → Option ex_Me) (T : Nat → Nat → Option ex_O) (n : Nat) : ex_V := Nat.rec (motive := fun _ => ex_V) (fun _ _ _ _ _ _ => none) (fun _ K => ex_step M T K) n
theorem ex_ev_0 (M : Nat → Option ex_Me) (T : Nat → Nat → Option ex_O) : ex_ev M T 0 = fun _ _ _ _ _ _ => none := rfl
theorem ex_ev_1 (M : Nat → Option ex_Me) (T : Nat → Nat → Option ex_O) (n : Nat) : ex_ev M T (n + 1) = ex_step M T (ex_ev M T n) := rfl
