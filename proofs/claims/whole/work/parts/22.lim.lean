/-! THE EVALUATOR WITHOUT FUEL: its limit, and the equation that it meets -/
def ex_call2 (M : Nat → Option ex_Me) (K Kf : ex_V) (nx a b : Nat) (tl : List Nat) (d mi : Nat) (L st : List Value) (h : ex_H) : Option (ex_R × ex_H) :=
  if st.length < b then none else if 8 < ex_wd (st.drop b) then none else if (st.take b).all ex_one then
    match d, M a with
    | d' + 1, some me => if me.2.2.1 < b then none else if ex_rc h (tl.getD 1 0) (st.take b).reverse = false then none else ex_back K d mi nx L (st.drop b) (tl.drop 2) (Kf d' a 0 (ex_pad me.2.2.1 (st.take b).reverse) [] h)
    | _, _ => none
  else none
def ex_do2 (M : Nat → Option ex_Me) (K Kf : ex_V) (o : ex_O) (d mi : Nat) (L st : List Value) (h : ex_H) : Option (ex_R × ex_H) := match o with
  | (op, nx, a, b, v, tl) => match op with
    -- constants: iconst, bipush, sipush, ldc, ldc_w
    | 0 => K d mi nx L (.int v :: st) h
    | 1 => K d mi nx L (.int v :: st) h
    | 2 => K d mi nx L (.int v :: st) h
    | 3 => K d mi nx L (.int v :: st) h
    | 4 => K d mi nx L (.int v :: st) h
    -- iload_n, iload, aload_n, aload
    | 5 => match L[a]? with
      | some (.int x) => K d mi nx L (.int x :: st) h
      | _ => none
    | 6 => match L[a]? with
      | some (.int x) => K d mi nx L (.int x :: st) h
      | _ => none
    | 7 => match L[a]? with
      | some (.ref x) => K d mi nx L (.ref x :: st) h
      | _ => none
    | 8 => match L[a]? with
      | some (.ref x) => K d mi nx L (.ref x :: st) h
      | _ => none
    -- istore_n, istore, astore_n, astore, iinc
    | 9 => match st with
      | .int x :: r => K d mi nx (L.set a (.int x)) r h
      | _ => none
    | 10 => match st with
      | .int x :: r => K d mi nx (L.set a (.int x)) r h
      | _ => none
    | 11 => match st with
      | .ref x :: r => K d mi nx (L.set a (.ref x)) r h
      | _ => none
    | 12 => match st with
      | .ref x :: r => K d mi nx (L.set a (.ref x)) r h
      | _ => none
    | 13 => match L[a]? with
      | some (.int x) => K d mi nx (L.set a (.int (x + v))) st h
      | _ => none
    -- two ints, ineg
    | 14 => match st with
      | .int y :: .int x :: r => match ex_bin a x y with
        | some z => K d mi nx L (.int z :: r) h
        | none => none
      | _ => none
    | 15 => match st with
      | .int x :: r => K d mi nx L (.int (-x) :: r) h
      | _ => none
    -- if, if_icmp, goto, tableswitch
    | 16 => match st with
      | .int x :: r => if ex_cmp a x 0 then K d mi b L r h else K d mi nx L r h
      | _ => none
    | 17 => match st with
      | .int y :: .int x :: r => if ex_cmp a x y then K d mi b L r h else K d mi nx L r h
      | _ => none
    | 18 => K d mi b L st h
    | 19 => match st with
      | .int x :: r => K d mi (ex_tgt x v tl b) L r h
      | _ => none
    -- getfield, putfield, putfield of a final one
    | 20 => match st with
      | .ref x :: r => match ex_get h x a b with
        | some w => K d mi nx L (w :: r) h
        | none => none
      | _ => none
    | 21 => match st with
      | w :: .ref x :: r => match ex_put h x a b v w with
        | some h1 => K d mi nx L r h1
        | none => none
      | _ => none
    | 22 => match st with
      | w :: .ref x :: r => match ex_put h x a b v w with
        | some h1 => K d mi nx L r h1
        | none => none
      | _ => none
    -- arrays: int, boolean, long, references, length
    | 23 => match st with
      | .int i :: .ref x :: r => match ex_ild h x i with
        | some w => K d mi nx L (.int w :: r) h
        | none => none
      | _ => none
    | 24 => match st with
      | .int w :: .int i :: .ref x :: r => match ex_ist h x i w with
        | some h1 => K d mi nx L r h1
        | none => none
      | _ => none
    | 25 => match st with
      | .int i :: .ref x :: r => match ex_zld h x i with
        | some w => K d mi nx L (.int w :: r) h
        | none => none
      | _ => none
    | 26 => match st with
      | .int w :: .int i :: .ref x :: r => match ex_zst h x i w with
        | some h1 => K d mi nx L r h1
        | none => none
      | _ => none
    | 27 => match st with
      | .int i :: .ref x :: r => match ex_lld h x i with
        | some w => K d mi nx L (.long w :: r) h
        | none => none
      | _ => none
    | 28 => match st with
      | .long w :: .int i :: .ref x :: r => match ex_lst h x i w with
        | some h1 => K d mi nx L r h1
        | none => none
      | _ => none
    | 29 => match st with
      | .int i :: .ref x :: r => match ex_ald h x i with
        | some w => K d mi nx L (.ref w :: r) h
        | none => none
      | _ => none
    | 30 => match st with
      | .ref y :: .int i :: .ref x :: r => match ex_ast h x i y with
        | some h1 => K d mi nx L r h1
        | none => none
      | _ => none
    | 31 => match st with
      | .ref x :: r => match ex_len h x with
        | some w => K d mi nx L (.int w :: r) h
        | none => none
      | _ => none
    -- newarray, anewarray, new (a its class, b its slots)
    | 32 => match st with
      | .int n :: r => if h.1.1 then if n < 0 then none else if 100000 < n.toNatClampNeg then none else match ex_fr a n.toNatClampNeg with
        | some c => K d mi nx L (.ref (h.1.2.1 + 1) :: r) (ex_add h n.toNatClampNeg c)
        | none => none
        else none
      | _ => none
    | 33 => match st with
      | .int n :: r => if h.1.1 then if n < 0 then none else if 100000 < n.toNatClampNeg then none else match ex_cl[a]? with
        | some c => K d mi nx L (.ref (h.1.2.1 + 1) :: r) (ex_add h n.toNatClampNeg (.inl (.object c.1, n.toNatClampNeg, .inr (.inr (.inr (.inr (fun _ => none)))))))
        | none => none
        else none
      | _ => none
    | 34 => if h.1.1 then K d mi nx L (.ref (h.1.2.1 + 1) :: st) (ex_add h b (.inr (a, (tl.drop 4).map (fun t => if t = 0 then Value.int 0 else Value.null)))) else none
    -- dup, pop, dup2
    | 35 => match st with
      | w :: r => if ex_one w then K d mi nx L (w :: w :: r) h else none
      | _ => none
    | 36 => match st with
      | w :: r => if ex_one w then K d mi nx L r h else none
      | _ => none
    | 37 => match st with
      | w :: z :: r => if ex_one w then if ex_one z then K d mi nx L (w :: z :: w :: z :: r) h else none else none
      | _ => none
    -- return, ireturn of an int, of a boolean, areturn
    | 38 => match st with
      | [] => some (.inl none, h)
      | _ => none
    | 39 => match st with
      | [.int x] => some (.inl (some (.int x)), h)
      | _ => none
    | 40 => match st with
      | [.int x] => if x = 0 then some (.inl (some (.int 0)), h) else if x = 1 then some (.inl (some (.int 1)), h) else none
      | _ => none
    | 41 => match st with
      | [.ref x] => some (.inl (some (.ref x)), h)
      | _ => none
    -- i2l, lcmp, lconst
    | 42 => match st with
      | .int x :: r => K d mi nx L (.long x.toInt64 :: r) h
      | _ => none
    | 43 => match st with
      | .long y :: .long x :: r => K d mi nx L (.int (lg_cmp x y) :: r) h
      | _ => none
    | 44 => K d mi nx L (.long (Int64.ofNat a) :: st) h
    -- Object's constructor, arraycopy of ints, a call, a throw of a new one
    | 45 => match st with
      | .ref _ :: r => if d = 0 then none else if 8 < ex_wd r then none else K d mi nx L r h
      | _ => none
    | 46 => match st with
      | .int n :: .int dp :: .ref y :: .int sp :: .ref x :: r => if d = 0 then none else if 8 < ex_wd r then none else match ex_cpi h x sp y dp n with
        | some h1 => K d mi nx L r h1
        | none => none
      | _ => none
    | 47 => ex_call2 M K Kf nx a b tl d mi L st h
    | 48 => if d < 8 then none else if 8 < ex_wd st then none else some (.inr a, ex_thr h)
    -- a String constant; its length; its char
    | 49 => K d mi nx L (.ref (1000000 + a) :: st) h
    | 52 => K d mi nx L (.ref (1000000 + a) :: st) h
    | 50 => match st with
      | .ref x :: r => if d < 8 then none else if 8 < ex_wd r then none else match ex_tx x with
        | some t => K d mi nx L (.int (Int32.ofNat t.length) :: r) h
        | none => none
      | _ => none
    | 51 => match st with
      | .int i :: .ref x :: r => if d < 8 then none else if 8 < ex_wd r then none else match ex_tx x with
        | some t => if i < 0 then none else match t[i.toNatClampNeg]? with
          | some w => K d mi nx L (.int w :: r) h
          | none => none
        | none => none
      | _ => none
    | _ => none
theorem ex_do2_eq (M : Nat → Option ex_Me) (K : ex_V) (o : ex_O) (d mi : Nat) (L st : List Value) (h : ex_H) : ex_do M K o d mi L st h = ex_do2 M K K o d mi L st h := by
  obtain ⟨op, nx, a, b, v, tl⟩ := o
  unfold ex_do ex_do2 ex_call ex_call2
  rfl
/-- K' says all that K says -/
def ex_Lt (K K' : ex_V) : Prop := ∀ (d mi pc : Nat) (L st : List Value) (h : ex_H) (x : ex_R × ex_H), K d mi pc L st h = some x → K' d mi pc L st h = some x
theorem ex_back_lt {K K' : ex_V} (hK : ex_Lt K K') {d mi nx : Nat} {L rest : List Value} {tl : List Nat} {q q' : Option (ex_R × ex_H)} {x : ex_R × ex_H} (hq : ∀ y, q = some y → q' = some y) (H : ex_back K d mi nx L rest tl q = some x) : ex_back K' d mi nx L rest tl q' = some x := by
  cases q with
  | none => cases H
  | some y =>
    rw [hq y rfl]
    obtain ⟨r, h⟩ := y
    rcases r with v | E
    · cases v with
      | none => exact hK _ _ _ _ _ _ _ H
      | some w =>
        unfold ex_back at H ⊢
        dsimp only at H ⊢
        split at H
        · rename_i hw
          rw [if_pos hw]
          exact hK _ _ _ _ _ _ _ H
        · cases H
    · unfold ex_back at H ⊢
      dsimp only at H ⊢
      split at H
      · rename_i t i hti
        split at H
        · rename_i hi
          rw [if_pos hi]
          exact hK _ _ _ _ _ _ _ H
        · cases H
      · cases H
theorem ex_call2_lt {M : Nat → Option ex_Me} {K K' Kf Kf' : ex_V} (hK : ex_Lt K K') (hF : ex_Lt Kf Kf') {nx a b d mi : Nat} {tl : List Nat} {L st : List Value} {h : ex_H} {x : ex_R × ex_H} (H : ex_call2 M K Kf nx a b tl d mi L st h = some x) : ex_call2 M K' Kf' nx a b tl d mi L st h = some x := by
  unfold ex_call2 at H ⊢
  split at H
  · cases H
  rename_i h1
  rw [if_neg h1]
  split at H
  · cases H
  rename_i h2
  rw [if_neg h2]
  split at H
  · rename_i h3
    rw [if_pos h3]
    split at H
    · split at H
      · cases H
      rename_i h4
      rw [if_neg h4]
      split at H
      · cases H
      rename_i h5
      rw [if_neg h5]
      exact ex_back_lt hK (fun y hy => hF _ _ _ _ _ _ _ hy) H
    · cases H
  · cases H
set_option maxHeartbeats 8000000 in
theorem ex_do2_lt {M : Nat → Option ex_Me} {K K' Kf Kf' : ex_V} (hK : ex_Lt K K') (hF : ex_Lt Kf Kf') {o : ex_O} {d mi : Nat} {L st : List Value} {h : ex_H} {x : ex_R × ex_H} (H : ex_do2 M K Kf o d mi L st h = some x) : ex_do2 M K' Kf' o d mi L st h = some x := by
  obtain ⟨op, nx, a, b, v, tl⟩ := o
  unfold ex_do2 at H ⊢
  dsimp only at H ⊢
  split at H
  all_goals first
    | exact hK _ _ _ _ _ _ _ H
    | exact ex_call2_lt hK hF H
    | exact H
    | cases H
    | skip
  all_goals (repeat' split at H)
  all_goals first
    | exact hK _ _ _ _ _ _ _ H
    | (cases H; done)
    | exact H
    | (simp_all; exact hK _ _ _ _ _ _ _ H)
    | simp_all
