/-! THE EVALUATOR IS RIGHT -/
def ex_cd (k : Nat) : ClassFile.Cond := match k with
  | 0 => .eq
  | 1 => .ne
  | 2 => .lt
  | 3 => .ge
  | 4 => .gt
  | _ => .le
/-- the kinds of calls: what the tables say -/
def ex_Kd (me me' : ex_Me) (pc b : Nat) (v : Int32) (tl : List Nat) : Prop := ∃ n : Nat, (parseMethodDescriptor me'.1.desc).map (fun d => d.parameters.length) = some n ∧
  ((v = 0 ∧ me'.2.2.2.2 = [] ∧ Cond.code me'.1 me'.2.1 me'.2.2.1 me'.2.2.2.1 ∈ ex_W ∧ Cond.methodLink me.1.cls (tl.getD 0 0) me'.1 ∈ ex_W ∧ Cond.instanceMethod me'.1 ∈ ex_W ∧ Cond.selects me'.1.cls me'.1 me'.1 ∈ ex_W ∧ (∃ ci rc, tl.getD 1 0 = ci + 2 ∧ ex_cl[ci]? = some rc ∧ rc.1 = me'.1.cls) ∧ decode me.2.1 pc = .ok (.invokevirtual (tl.getD 0 0), 3) ∧ b = n + 1) ∨
   (v = 1 ∧ me'.2.2.2.2 = [] ∧ Cond.code me'.1 me'.2.1 me'.2.2.1 me'.2.2.2.1 ∈ ex_W ∧ (∃ host, Cond.methodLinkNest me.1.cls (tl.getD 0 0) me'.1 host ∈ ex_W) ∧ Cond.instanceMethod me'.1 ∈ ex_W ∧ Cond.selects me'.1.cls me'.1 me'.1 ∈ ex_W ∧ (∃ ci rc, tl.getD 1 0 = ci + 2 ∧ ex_cl[ci]? = some rc ∧ rc.1 = me'.1.cls) ∧ decode me.2.1 pc = .ok (.invokevirtual (tl.getD 0 0), 3) ∧ b = n + 1) ∨
   (v = 2 ∧ me'.2.2.2.2 = [] ∧ Cond.code me'.1 me'.2.1 me'.2.2.1 me'.2.2.2.1 ∈ ex_W ∧ Cond.methodLink me.1.cls (tl.getD 0 0) me'.1 ∈ ex_W ∧ Cond.static me'.1 ∈ ex_W ∧ decode me.2.1 pc = .ok (.invokestatic (tl.getD 0 0), 3) ∧ b = n) ∨
   (v = 3 ∧ me'.2.2.2.2 = [] ∧ Cond.code me'.1 me'.2.1 me'.2.2.1 me'.2.2.2.1 ∈ ex_W ∧ (∃ host, Cond.methodLinkNest me.1.cls (tl.getD 0 0) me'.1 host ∈ ex_W) ∧ Cond.static me'.1 ∈ ex_W ∧ decode me.2.1 pc = .ok (.invokestatic (tl.getD 0 0), 3) ∧ b = n) ∨
   (v = 4 ∧ me'.2.2.2.2 = [] ∧ me'.2.2.2.1 = none ∧ Cond.code me'.1 me'.2.1 me'.2.2.1 none ∈ ex_W ∧ Cond.methodLink me.1.cls (tl.getD 0 0) me'.1 ∈ ex_W ∧ Cond.instanceMethod me'.1 ∈ ex_W ∧ me'.1.name = "<init>" ∧ tl.getD 1 0 = 1 ∧ decode me.2.1 pc = .ok (.invokespecial (tl.getD 0 0), 3) ∧ b = n + 1) ∨
   (v = 5 ∧ me'.2.2.2.2 = [] ∧ me'.2.2.2.1 = none ∧ Cond.code me'.1 me'.2.1 me'.2.2.1 none ∈ ex_W ∧ (∃ host, Cond.methodLinkNest me.1.cls (tl.getD 0 0) me'.1 host ∈ ex_W) ∧ Cond.instanceMethod me'.1 ∈ ex_W ∧ me'.1.name = "<init>" ∧ tl.getD 1 0 = 1 ∧ decode me.2.1 pc = .ok (.invokespecial (tl.getD 0 0), 3) ∧ b = n + 1) ∨
   (v = 6 ∧ plainName me'.1.cls = true ∧ Cond.codeWith me'.1 me'.2.1 me'.2.2.1 me'.2.2.2.1 me'.2.2.2.2 ∈ ex_W ∧ Cond.methodLink me.1.cls (tl.getD 0 0) me'.1 ∈ ex_W ∧ Cond.static me'.1 ∈ ex_W ∧ decode me.2.1 pc = .ok (.invokestatic (tl.getD 0 0), 3) ∧ b = n))
def ex_Ok (M : Nat → Option ex_Me) (me : ex_Me) (pc : Nat) (o : ex_O) : Prop := match o with
  | (op, nx, a, b, v, tl) => match op with
    | 0 => decode me.2.1 pc = .ok (.iconst v.toInt, 1) ∧ nx = pc + 1
    | 1 => decode me.2.1 pc = .ok (.bipush v.toInt, 2) ∧ (Int8.ofInt v.toInt).toInt32 = v ∧ nx = pc + 2
    | 2 => decode me.2.1 pc = .ok (.sipush v.toInt, 3) ∧ (Int16.ofInt v.toInt).toInt32 = v ∧ nx = pc + 3
    | 3 => decode me.2.1 pc = .ok (.ldc a, 2) ∧ Cond.constant me.1.cls a v ∈ ex_W ∧ nx = pc + 2
    | 4 => decode me.2.1 pc = .ok (.ldc_w a, 3) ∧ Cond.constant me.1.cls a v ∈ ex_W ∧ nx = pc + 3
    | 5 => ∃ k : Fin 4, decode me.2.1 pc = .ok (.iload_n k, 1) ∧ (k : Nat) = a ∧ nx = pc + 1
    | 6 => decode me.2.1 pc = .ok (.iload a, 2) ∧ nx = pc + 2
    | 7 => ∃ k : Fin 4, decode me.2.1 pc = .ok (.aload_n k, 1) ∧ (k : Nat) = a ∧ nx = pc + 1
    | 8 => decode me.2.1 pc = .ok (.aload a, 2) ∧ nx = pc + 2
    | 9 => ∃ k : Fin 4, decode me.2.1 pc = .ok (.istore_n k, 1) ∧ (k : Nat) = a ∧ a < me.2.2.1 ∧ nx = pc + 1
    | 10 => decode me.2.1 pc = .ok (.istore a, 2) ∧ a < me.2.2.1 ∧ nx = pc + 2
    | 11 => ∃ k : Fin 4, decode me.2.1 pc = .ok (.astore_n k, 1) ∧ (k : Nat) = a ∧ a < me.2.2.1 ∧ nx = pc + 1
    | 12 => decode me.2.1 pc = .ok (.astore a, 2) ∧ a < me.2.2.1 ∧ nx = pc + 2
    | 13 => decode me.2.1 pc = .ok (.iinc a v.toInt, 3) ∧ a < me.2.2.1 ∧ nx = pc + 3
    | 14 => decode me.2.1 pc = .ok (ex_bi a, 1) ∧ nx = pc + 1
    | 15 => decode me.2.1 pc = .ok (.ineg, 1) ∧ nx = pc + 1
    | 16 => ∃ off : Int, decode me.2.1 pc = .ok (.ifCond (ex_cd a) off, 3) ∧ (pc : Int) + off = (b : Int) ∧ nx = pc + 3 ∧ a < 6
    | 17 => ∃ off : Int, decode me.2.1 pc = .ok (.if_icmp (ex_cd a) off, 3) ∧ (pc : Int) + off = (b : Int) ∧ nx = pc + 3 ∧ a < 6
    | 18 => ∃ off : Int, decode me.2.1 pc = .ok (.goto off, 3) ∧ (pc : Int) + off = (b : Int)
    | 19 => ∃ (df hi : Int) (offs : Array Int) (len : Nat), decode me.2.1 pc = .ok (.tableswitch df v.toInt hi offs, len) ∧ hi + 1 = v.toInt + (tl.length : Int) ∧ (pc : Int) + df = (b : Int) ∧ offs.toList.map (fun o => (pc : Int) + o) = tl.map (fun t : Nat => (t : Int))
    | 20 => ∃ (C : String) (T : u_T) (N : Nat), ex_cl[a]? = some (C, T, N) ∧ b < N ∧ Cond.fieldLink me.1.cls (tl.getD 0 0) (T b).1 (T b).2.1 (T b).2.2.1 ∈ ex_W ∧ decode me.2.1 pc = .ok (.getfield (tl.getD 0 0), 3) ∧ nx = pc + 3
    | 21 => ∃ (C : String) (T : u_T) (N : Nat) (ty : FieldType), ex_cl[a]? = some (C, T, N) ∧ b < N ∧ Cond.fieldLink me.1.cls (tl.getD 0 0) (T b).1 (T b).2.1 (T b).2.2.1 ∈ ex_W ∧ decode me.2.1 pc = .ok (.putfield (tl.getD 0 0), 3) ∧ nx = pc + 3 ∧ parseFieldDescriptor (T b).2.2.1 = some ty ∧ ex_ty v ty ∧ (T b).2.2.2 = false
    | 22 => ∃ (C : String) (T : u_T) (N : Nat) (ty : FieldType), ex_cl[a]? = some (C, T, N) ∧ b < N ∧ Cond.fieldLink me.1.cls (tl.getD 0 0) (T b).1 (T b).2.1 (T b).2.2.1 ∈ ex_W ∧ decode me.2.1 pc = .ok (.putfield (tl.getD 0 0), 3) ∧ nx = pc + 3 ∧ parseFieldDescriptor (T b).2.2.1 = some ty ∧ ex_ty v ty ∧ (T b).2.2.2 = true ∧ me.1.name = "<init>" ∧ (T b).1 = me.1.cls
    | 23 => decode me.2.1 pc = .ok (.iaload, 1) ∧ nx = pc + 1
    | 24 => decode me.2.1 pc = .ok (.iastore, 1) ∧ nx = pc + 1
    | 25 => decode me.2.1 pc = .ok (.baload, 1) ∧ nx = pc + 1
    | 26 => decode me.2.1 pc = .ok (.bastore, 1) ∧ nx = pc + 1
    | 27 => decode me.2.1 pc = .ok (.laload, 1) ∧ nx = pc + 1
    | 28 => decode me.2.1 pc = .ok (.lastore, 1) ∧ nx = pc + 1
    | 29 => decode me.2.1 pc = .ok (.aaload, 1) ∧ nx = pc + 1
    | 30 => decode me.2.1 pc = .ok (.aastore, 1) ∧ nx = pc + 1
    | 31 => decode me.2.1 pc = .ok (.arraylength, 1) ∧ nx = pc + 1
    | 32 => (a = 0 ∧ decode me.2.1 pc = .ok (.newarray .int, 2) ∧ Cond.arrayClass .int ∈ ex_W ∧ nx = pc + 2) ∨ (a = 1 ∧ decode me.2.1 pc = .ok (.newarray .boolean, 2) ∧ Cond.arrayClass .boolean ∈ ex_W ∧ nx = pc + 2) ∨ (a = 2 ∧ decode me.2.1 pc = .ok (.newarray .long, 2) ∧ Cond.arrayClass .long ∈ ex_W ∧ nx = pc + 2)
    | 33 => ∃ rc : vw_C, ex_cl[a]? = some rc ∧ (rc.1 = RX7 ∨ rc.1 = RX9) ∧ Cond.classLink me.1.cls (tl.getD 0 0) rc.1 ∈ ex_W ∧ decode me.2.1 pc = .ok (.anewarray (tl.getD 0 0), 3) ∧ nx = pc + 3
    | 34 => ∃ (C : String) (T : u_T), ex_cl[a]? = some (C, T, b) ∧ (∀ j, j < b → ∀ ty, parseFieldDescriptor (T j).2.2.1 = some ty → defaultValue ty = vp_V ((tl.drop 4).map (fun t => if t = 0 then Value.int 0 else Value.null)) j) ∧ Cond.classLink me.1.cls (tl.getD 0 0) C ∈ ex_W ∧ Cond.instantiable C b ∈ ex_W ∧ Cond.initialized C ∈ ex_W ∧ decode me.2.1 pc = .ok (.new (tl.getD 0 0), 3) ∧ nx = pc + 3
    | 35 => decode me.2.1 pc = .ok (.dup, 1) ∧ nx = pc + 1
    | 36 => decode me.2.1 pc = .ok (.pop, 1) ∧ nx = pc + 1
    | 37 => decode me.2.1 pc = .ok (.dup2, 1) ∧ nx = pc + 1
    | 38 => me.2.2.2.1 = none ∧ decode me.2.1 pc = .ok (.return_, 1)
    | 39 => me.2.2.2.1 = some .int ∧ decode me.2.1 pc = .ok (.ireturn, 1)
    | 40 => me.2.2.2.1 = some .boolean ∧ decode me.2.1 pc = .ok (.ireturn, 1)
    | 41 => ∃ C : String, me.2.2.2.1 = some (.object C) ∧ decode me.2.1 pc = .ok (.areturn, 1)
    | 42 => decode me.2.1 pc = .ok (.i2l, 1) ∧ nx = pc + 1
    | 43 => decode me.2.1 pc = .ok (.lcmp, 1) ∧ nx = pc + 1
    | 44 => ∃ k : Fin 2, decode me.2.1 pc = .ok (.lconst k, 1) ∧ (k : Nat) = a ∧ nx = pc + 1
    | 45 => Cond.methodLink me.1.cls (tl.getD 0 0) objectInit ∈ ex_W ∧ Cond.instanceMethod objectInit ∈ ex_W ∧ Cond.code objectInit ⟨#[0xb1]⟩ 1 none ∈ ex_W ∧ decode me.2.1 pc = .ok (.invokespecial (tl.getD 0 0), 3) ∧ nx = pc + 3
    | 46 => Cond.methodLink me.1.cls (tl.getD 0 0) arraycopyName ∈ ex_W ∧ Cond.native arraycopyName ∈ ex_W ∧ Cond.static arraycopyName ∈ ex_W ∧ Cond.initialized "java/lang/System" ∈ ex_W ∧ decode me.2.1 pc = .ok (.invokestatic (tl.getD 0 0), 3) ∧ nx = pc + 3
    | 47 => nx = pc + 3 ∧ (∀ k t i, ex_hd k (tl.drop 2) = some (t, i) → ex_Hd me pc k t i) ∧ ∃ me', M a = some me' ∧ ex_Mo me' ∧ ex_Kd me me' pc b v tl
    | 48 => me.2.2.2.2 = [] ∧ Bundle.fit (ex_nm a) = true ∧ (∀ n ∈ ex_sup, Bundle.fit n = true) ∧ Cond.classLink me.1.cls (tl.getD 0 0) (ex_nm a) ∈ ex_W ∧ Cond.initialized (ex_nm a) ∈ ex_W ∧ (∀ w ∈ vx_at0 me.1.cls (tl.getD 1 0) (ex_nm a) ex_sup, w ∈ ex_W) ∧ (∀ w ∈ Cond.classLink me.1.cls (tl.getD 0 0) (ex_nm a) :: Cond.initialized (ex_nm a) :: vx_at0 me.1.cls (tl.getD 1 0) (ex_nm a) ex_sup, vx_ot w = true) ∧ decode me.2.1 pc = .ok (.new (tl.getD 0 0), 3) ∧ decode me.2.1 (pc + 3) = .ok (.dup, 1) ∧ decode me.2.1 (pc + 4) = .ok (.invokespecial (tl.getD 1 0), 3) ∧ decode me.2.1 (pc + 7) = .ok (.athrow, 1)
    | 49 => ∃ tx : String, ex_str[a]? = some (me.1.cls, tl.getD 0 0, tx) ∧ decode me.2.1 pc = .ok (.ldc (tl.getD 0 0), 2) ∧ nx = pc + 2
    | 50 => Cond.methodLink me.1.cls (tl.getD 0 0) js_length ∈ ex_W ∧ decode me.2.1 pc = .ok (.invokevirtual (tl.getD 0 0), 3) ∧ nx = pc + 3
    | 51 => Cond.methodLink me.1.cls (tl.getD 0 0) js_charAt ∈ ex_W ∧ decode me.2.1 pc = .ok (.invokevirtual (tl.getD 0 0), 3) ∧ nx = pc + 3
    | 52 => ∃ tx : String, ex_str[a]? = some (me.1.cls, tl.getD 0 0, tx) ∧ decode me.2.1 pc = .ok (.ldc_w (tl.getD 0 0), 3) ∧ nx = pc + 3
    | _ => False
theorem ex_call_snd {l : Launch} {G : ex_P} {M : Nat → Option ex_Me} {K : ex_V} (ih : ex_Snd l G M K) (mn : ex_Mn K) {me me' : ex_Me} {pc nx a b d mi : Nat} {v : Int32} {tl : List Nat} {L st : List Value} {h h' : ex_H} {r : ex_R} (hme : M mi = some me) (hbd : h'.1.2.1 < 1000000) (q1 : nx = pc + 3) (q2 : ∀ k t i, ex_hd k (tl.drop 2) = some (t, i) → ex_Hd me pc k t i) (q3 : M a = some me') (q4 : ex_Mo me') (q5 : ex_Kd me me' pc b v tl) (H : ex_call M K nx a b tl d mi L st h = some (r, h')) : ex_Goal l G me d pc L st h r h' := by
  unfold ex_call at H
  split at H
  · cases H
  rename_i hlen
  split at H
  · cases H
  rename_i hwd
  split at H
  rotate_left
  · cases H
  rename_i hall
  rw [q3] at H
  split at H
  rotate_left
  · cases H
  rename_i d' me9 he9
  cases he9
  split at H
  · cases H
  rename_i hml
  split at H
  · cases H
  rename_i hrc
  rw [Bool.not_eq_false] at hrc
  cases hq : K d' a 0 (ex_pad me'.2.2.1 (st.take b).reverse) [] h with
  | none => rw [hq] at H; cases H
  | some q9 =>
    obtain ⟨q, h1⟩ := q9
    rw [hq] at H
    have hmo := mn _ _ _ _ _ _ _ _ hq
    have hst : st = (st.take b).reverse.reverse ++ st.drop b := by rw [List.reverse_reverse, List.take_append_drop]
    have hvl : (st.take b).reverse.length = b := by rw [List.length_reverse, List.length_take]; omega
    have h1' : (st.take b).reverse.all ex_one = true := by rw [List.all_reverse]; exact hall
    have hmo2 : ex_le h1 h' := ex_back_mono (h := h1) mn (fun r1 h2 e => by cases e; exact ex_le.rf _) H
    have Sg := ih _ _ _ _ _ _ _ _ _ hq q3 (Nat.lt_of_le_of_lt hmo2.1 hbd)
    have Sv : q = .inl none → ex_Goal l G me (d' + 1) nx L (st.drop b) h1 r h' := by
      intro e
      subst e
      exact ih _ _ _ _ _ _ _ _ _ H hme hbd
    have Sw : ∀ w, q = .inl (some w) → ex_Goal l G me (d' + 1) nx L (w :: st.drop b) h1 r h' := by
      intro w e
      subst e
      unfold ex_back at H
      dsimp only at H
      split at H
      · exact ih _ _ _ _ _ _ _ _ _ H hme hbd
      · cases H
    have Sx : ∀ k, q = .inr k → ∃ t i, ex_Hd me pc k t i ∧ ex_Goal l G me (d' + 1) t (L.set i .null) [] h1 r h' := by
      intro k e
      subst e
      unfold ex_back at H
      dsimp only at H
      split at H
      · rename_i t i hti
        split at H
        · exact ⟨t, i, q2 _ _ _ hti, ih _ _ _ _ _ _ _ _ _ H hme hbd⟩
        · cases H
      · cases H
    obtain ⟨n, hpn, hk⟩ := q5
    rw [hst]
    generalize hvs : (st.take b).reverse = vs at Sg hvl h1' hrc ⊢
    have hvn : vs.length ≤ me'.2.2.1 := by omega
    rcases hk with ⟨-, g1, g2, g3, g4, g5, ⟨ci, rc, g6, g7, g8⟩, g9, g10⟩ | ⟨-, g1, g2, ⟨host, g3⟩, g4, g5, ⟨ci, rc, g6, g7, g8⟩, g9, g10⟩ | ⟨-, g1, g2, g3, g4, g5, g6⟩ | ⟨-, g1, g2, ⟨host, g3⟩, g4, g5, g6⟩ | ⟨-, g1, g2, g3, g4, g5, g6, g7, g8, g9⟩ | ⟨-, g1, g2, g3, ⟨host, g4⟩, g5, g6, g7, g8, g9⟩ | ⟨-, g1, g2, g3, g4, g5, g6⟩
    · rw [g6] at hrc
      exact ex_c_V q4 Sg h1' hvn hwd hmo hmo2 q1 Sv Sw Sx hpn g1 g2 g3 g4 g5 hrc g7 g8 g9 (by omega)
    · rw [g6] at hrc
      exact ex_c_VN q4 Sg h1' hvn hwd hmo hmo2 q1 Sv Sw Sx hpn g1 g2 g3 g4 g5 hrc g7 g8 g9 (by omega)
    · exact ex_c_S q4 Sg h1' hvn hwd hmo hmo2 q1 Sv Sw Sx hpn g1 g2 g3 g4 g5 (by omega)
    · exact ex_c_SN q4 Sg h1' hvn hwd hmo hmo2 q1 Sv Sw Sx hpn g1 g2 g3 g4 g5 (by omega)
    · rw [g7] at hrc
      exact ex_c_I q4 Sg h1' hvn hwd hmo hmo2 q1 Sv Sw Sx hpn g1 g3 g4 g5 g2 hrc g6 g8 (by omega)
    · rw [g7] at hrc
      exact ex_c_IN q4 Sg h1' hvn hwd hmo hmo2 q1 Sv Sw Sx hpn g1 g3 g4 g5 g2 hrc g6 g8 (by omega)
    · exact ex_c_SH q4 Sg h1' hvn hwd hmo hmo2 q1 Sv Sw Sx hpn g1 g2 g3 g4 g5 (by omega)
set_option maxHeartbeats 8000000 in
set_option maxRecDepth 100000 in
theorem ex_do_snd {l : Launch} {G : ex_P} {M : Nat → Option ex_Me} {K : ex_V} (hst : l.stackTraces = false) (hCl : ∀ (a : Nat) (C : String) (T : u_T) (N : Nat), ex_cl[a]? = some (C, T, N) → ex_Cl C T N) (ih : ex_Snd l G M K) (mn : ex_Mn K) {o : ex_O} {me : ex_Me} {pc d mi : Nat} {L st : List Value} {h h' : ex_H} {r : ex_R} (hme : M mi = some me) (ok : ex_Ok M me pc o) (hbd : h'.1.2.1 < 1000000) (H : ex_do M K o d mi L st h = some (r, h')) : ex_Goal l G me d pc L st h r h' := by
  obtain ⟨op, nx, a, b, v, tl⟩ := o
  revert ok H
  match op with
  | 0 =>
    intro ok H
    change (K d mi nx L (.int v :: st) h) = some (r, h') at H
    change decode me.2.1 pc = .ok (.iconst v.toInt, 1) ∧ nx = pc + 1 at ok
    exact ex_iconst (ih _ _ _ _ _ _ _ _ _ H hme hbd) ok.1 ok.2
  | 1 =>
    intro ok H
    change (K d mi nx L (.int v :: st) h) = some (r, h') at H
    change decode me.2.1 pc = .ok (.bipush v.toInt, 2) ∧ (Int8.ofInt v.toInt).toInt32 = v ∧ nx = pc + 2 at ok
    exact ex_bipush (ih _ _ _ _ _ _ _ _ _ H hme hbd) ok.1 ok.2.1 ok.2.2
  | 2 =>
    intro ok H
    change (K d mi nx L (.int v :: st) h) = some (r, h') at H
    change decode me.2.1 pc = .ok (.sipush v.toInt, 3) ∧ (Int16.ofInt v.toInt).toInt32 = v ∧ nx = pc + 3 at ok
    exact ex_sipush (ih _ _ _ _ _ _ _ _ _ H hme hbd) ok.1 ok.2.1 ok.2.2
  | 3 =>
    intro ok H
    change (K d mi nx L (.int v :: st) h) = some (r, h') at H
    change decode me.2.1 pc = .ok (.ldc a, 2) ∧ Cond.constant me.1.cls a v ∈ ex_W ∧ nx = pc + 2 at ok
    exact ex_ldc (ih _ _ _ _ _ _ _ _ _ H hme hbd) ok.1 ok.2.1 ok.2.2
  | 4 =>
    intro ok H
    change (K d mi nx L (.int v :: st) h) = some (r, h') at H
    change decode me.2.1 pc = .ok (.ldc_w a, 3) ∧ Cond.constant me.1.cls a v ∈ ex_W ∧ nx = pc + 3 at ok
    exact ex_ldcw (ih _ _ _ _ _ _ _ _ _ H hme hbd) ok.1 ok.2.1 ok.2.2
  | 5 =>
    intro ok H
    change (match (generalizing := false) L[a]? with
            | some (.int x) => K d mi nx L (.int x :: st) h
            | _ => none) = some (r, h') at H
    change ∃ k : Fin 4, decode me.2.1 pc = .ok (.iload_n k, 1) ∧ (k : Nat) = a ∧ nx = pc + 1 at ok
    split at H
    · rename_i x hg
      obtain ⟨k, q1, q2, q3⟩ := ok
      exact ex_iload_n (ih _ _ _ _ _ _ _ _ _ H hme hbd) hg q1 q2 q3
    · cases H
  | 6 =>
    intro ok H
    change (match (generalizing := false) L[a]? with
            | some (.int x) => K d mi nx L (.int x :: st) h
            | _ => none) = some (r, h') at H
    change decode me.2.1 pc = .ok (.iload a, 2) ∧ nx = pc + 2 at ok
    split at H
    · rename_i x hg
      exact ex_iload (ih _ _ _ _ _ _ _ _ _ H hme hbd) hg ok.1 ok.2
    · cases H
  | 7 =>
    intro ok H
    change (match (generalizing := false) L[a]? with
            | some (.ref x) => K d mi nx L (.ref x :: st) h
            | _ => none) = some (r, h') at H
    change ∃ k : Fin 4, decode me.2.1 pc = .ok (.aload_n k, 1) ∧ (k : Nat) = a ∧ nx = pc + 1 at ok
    split at H
    · rename_i x hg
      obtain ⟨k, q1, q2, q3⟩ := ok
      exact ex_aload_n (ih _ _ _ _ _ _ _ _ _ H hme hbd) hg q1 q2 q3
    · cases H
  | 8 =>
    intro ok H
    change (match (generalizing := false) L[a]? with
            | some (.ref x) => K d mi nx L (.ref x :: st) h
            | _ => none) = some (r, h') at H
    change decode me.2.1 pc = .ok (.aload a, 2) ∧ nx = pc + 2 at ok
    split at H
    · rename_i x hg
      exact ex_aload (ih _ _ _ _ _ _ _ _ _ H hme hbd) hg ok.1 ok.2
    · cases H
  | 9 =>
    intro ok H
    change (match (generalizing := false) st with
            | .int x :: r => K d mi nx (L.set a (.int x)) r h
            | _ => none) = some (r, h') at H
    change ∃ k : Fin 4, decode me.2.1 pc = .ok (.istore_n k, 1) ∧ (k : Nat) = a ∧ a < me.2.2.1 ∧ nx = pc + 1 at ok
    split at H
    · obtain ⟨k, q1, q2, q3, q4⟩ := ok
      exact ex_istore_n (ih _ _ _ _ _ _ _ _ _ H hme hbd) q3 q1 q2 q4
    · cases H
  | 10 =>
    intro ok H
    change (match (generalizing := false) st with
            | .int x :: r => K d mi nx (L.set a (.int x)) r h
            | _ => none) = some (r, h') at H
    change decode me.2.1 pc = .ok (.istore a, 2) ∧ a < me.2.2.1 ∧ nx = pc + 2 at ok
    split at H
    · exact ex_istore (ih _ _ _ _ _ _ _ _ _ H hme hbd) ok.2.1 ok.1 ok.2.2
    · cases H
  | 11 =>
    intro ok H
    change (match (generalizing := false) st with
            | .ref x :: r => K d mi nx (L.set a (.ref x)) r h
            | _ => none) = some (r, h') at H
    change ∃ k : Fin 4, decode me.2.1 pc = .ok (.astore_n k, 1) ∧ (k : Nat) = a ∧ a < me.2.2.1 ∧ nx = pc + 1 at ok
    split at H
    · obtain ⟨k, q1, q2, q3, q4⟩ := ok
      exact ex_astore_n (ih _ _ _ _ _ _ _ _ _ H hme hbd) q3 q1 q2 q4
    · cases H
  | 12 =>
    intro ok H
    change (match (generalizing := false) st with
            | .ref x :: r => K d mi nx (L.set a (.ref x)) r h
            | _ => none) = some (r, h') at H
    change decode me.2.1 pc = .ok (.astore a, 2) ∧ a < me.2.2.1 ∧ nx = pc + 2 at ok
    split at H
    · exact ex_astore (ih _ _ _ _ _ _ _ _ _ H hme hbd) ok.2.1 ok.1 ok.2.2
    · cases H
  | 13 =>
    intro ok H
    change (match (generalizing := false) L[a]? with
            | some (.int x) => K d mi nx (L.set a (.int (x + v))) st h
            | _ => none) = some (r, h') at H
    change decode me.2.1 pc = .ok (.iinc a v.toInt, 3) ∧ a < me.2.2.1 ∧ nx = pc + 3 at ok
    split at H
    · rename_i x hg
      exact ex_iinc (ih _ _ _ _ _ _ _ _ _ H hme hbd) hg ok.2.1 ok.1 ok.2.2
    · cases H
  | 14 =>
    intro ok H
    change (match (generalizing := false) st with
            | .int y :: .int x :: r => match (generalizing := false) ex_bin a x y with
              | some z => K d mi nx L (.int z :: r) h
              | none => none
            | _ => none) = some (r, h') at H
    change decode me.2.1 pc = .ok (ex_bi a, 1) ∧ nx = pc + 1 at ok
    split at H
    · split at H
      · rename_i z hz
        exact ex_binop (ih _ _ _ _ _ _ _ _ _ H hme hbd) hz ok.1 ok.2
      · cases H
    · cases H
  | 15 =>
    intro ok H
    change (match (generalizing := false) st with
            | .int x :: r => K d mi nx L (.int (-x) :: r) h
            | _ => none) = some (r, h') at H
    change decode me.2.1 pc = .ok (.ineg, 1) ∧ nx = pc + 1 at ok
    split at H
    · exact ex_ineg (ih _ _ _ _ _ _ _ _ _ H hme hbd) ok.1 ok.2
    · cases H
  | 16 =>
    intro ok H
    change (match (generalizing := false) st with
            | .int x :: r => if ex_cmp a x 0 then K d mi b L r h else K d mi nx L r h
            | _ => none) = some (r, h') at H
    change ∃ off : Int, decode me.2.1 pc = .ok (.ifCond (ex_cd a) off, 3) ∧ (pc : Int) + off = (b : Int) ∧ nx = pc + 3 ∧ a < 6 at ok
    split at H
    · rename_i x rr
      obtain ⟨off, q1, q2, q3, q4⟩ := ok
      have K1 : ∀ t, t = (if ex_cmp a x 0 = true then b else nx) → ex_Goal l G me d t L rr h r h' := by
        intro t ht
        by_cases q : ex_cmp a x 0 = true
        · rw [if_pos q] at H ht
          subst ht
          exact (ih _ _ _ _ _ _ _ _ _ H hme hbd)
        · rw [if_neg q] at H ht
          subst ht
          exact (ih _ _ _ _ _ _ _ _ _ H hme hbd)
      match a, q4, q1, K1 with
      | 0, _, q1, K1 => exact ex_if1_eq K1 q1 q2 q3
      | 1, _, q1, K1 => exact ex_if1_ne K1 q1 q2 q3
      | 2, _, q1, K1 => exact ex_if1_lt K1 q1 q2 q3
      | 3, _, q1, K1 => exact ex_if1_ge K1 q1 q2 q3
      | 4, _, q1, K1 => exact ex_if1_gt K1 q1 q2 q3
      | 5, _, q1, K1 => exact ex_if1_le K1 q1 q2 q3
      | _ + 6, q4, _, _ => omega
    · cases H
  | 17 =>
    intro ok H
    change (match (generalizing := false) st with
            | .int y :: .int x :: r => if ex_cmp a x y then K d mi b L r h else K d mi nx L r h
            | _ => none) = some (r, h') at H
    change ∃ off : Int, decode me.2.1 pc = .ok (.if_icmp (ex_cd a) off, 3) ∧ (pc : Int) + off = (b : Int) ∧ nx = pc + 3 ∧ a < 6 at ok
    split at H
    · rename_i y x rr
      obtain ⟨off, q1, q2, q3, q4⟩ := ok
      have K1 : ∀ t, t = (if ex_cmp a x y = true then b else nx) → ex_Goal l G me d t L rr h r h' := by
        intro t ht
        by_cases q : ex_cmp a x y = true
        · rw [if_pos q] at H ht
          subst ht
          exact (ih _ _ _ _ _ _ _ _ _ H hme hbd)
        · rw [if_neg q] at H ht
          subst ht
          exact (ih _ _ _ _ _ _ _ _ _ H hme hbd)
      match a, q4, q1, K1 with
      | 0, _, q1, K1 => exact ex_if2_eq K1 q1 q2 q3
      | 1, _, q1, K1 => exact ex_if2_ne K1 q1 q2 q3
      | 2, _, q1, K1 => exact ex_if2_lt K1 q1 q2 q3
      | 3, _, q1, K1 => exact ex_if2_ge K1 q1 q2 q3
      | 4, _, q1, K1 => exact ex_if2_gt K1 q1 q2 q3
      | 5, _, q1, K1 => exact ex_if2_le K1 q1 q2 q3
      | _ + 6, q4, _, _ => omega
    · cases H
  | 18 =>
    intro ok H
    change (K d mi b L st h) = some (r, h') at H
    change ∃ off : Int, decode me.2.1 pc = .ok (.goto off, 3) ∧ (pc : Int) + off = (b : Int) at ok
    obtain ⟨off, q1, q2⟩ := ok
    exact ex_goto (nx := nx) (ih _ _ _ _ _ _ _ _ _ H hme hbd) q1 q2
  | 19 =>
    intro ok H
    change (match (generalizing := false) st with
            | .int x :: r => K d mi (ex_tgt x v tl b) L r h
            | _ => none) = some (r, h') at H
    change ∃ (df hi : Int) (offs : Array Int) (len : Nat), decode me.2.1 pc = .ok (.tableswitch df v.toInt hi offs, len) ∧ hi + 1 = v.toInt + (tl.length : Int) ∧ (pc : Int) + df = (b : Int) ∧ offs.toList.map (fun o => (pc : Int) + o) = tl.map (fun t : Nat => (t : Int)) at ok
    split at H
    · obtain ⟨df, hi, offs, len, q1, q2, q3, q4⟩ := ok
      exact ex_switch (nx := nx) (ih _ _ _ _ _ _ _ _ _ H hme hbd) q1 q2 q3 q4
    · cases H
  | 20 =>
    intro ok H
    change (match (generalizing := false) st with
            | .ref x :: r => match (generalizing := false) ex_get h x a b with
              | some w => K d mi nx L (w :: r) h
              | none => none
            | _ => none) = some (r, h') at H
    change ∃ (C : String) (T : u_T) (N : Nat), ex_cl[a]? = some (C, T, N) ∧ b < N ∧ Cond.fieldLink me.1.cls (tl.getD 0 0) (T b).1 (T b).2.1 (T b).2.2.1 ∈ ex_W ∧ decode me.2.1 pc = .ok (.getfield (tl.getD 0 0), 3) ∧ nx = pc + 3 at ok
    obtain ⟨C, T, N, q1, q2, q3, q4, q5⟩ := ok
    split at H
    · split at H
      · rename_i w hw
        exact ex_getf (ih _ _ _ _ _ _ _ _ _ H hme hbd) hw q1 (hCl _ _ _ _ q1) q2 q3 q4 q5
      · cases H
    · cases H
  | 21 =>
    intro ok H
    change (match (generalizing := false) st with
            | w :: .ref x :: r => match (generalizing := false) ex_put h x a b v w with
              | some h1 => K d mi nx L r h1
              | none => none
            | _ => none) = some (r, h') at H
    change ∃ (C : String) (T : u_T) (N : Nat) (ty : FieldType), ex_cl[a]? = some (C, T, N) ∧ b < N ∧ Cond.fieldLink me.1.cls (tl.getD 0 0) (T b).1 (T b).2.1 (T b).2.2.1 ∈ ex_W ∧ decode me.2.1 pc = .ok (.putfield (tl.getD 0 0), 3) ∧ nx = pc + 3 ∧ parseFieldDescriptor (T b).2.2.1 = some ty ∧ ex_ty v ty ∧ (T b).2.2.2 = false at ok
    obtain ⟨C, T, N, ty, q1, q2, q3, q4, q5, q6, q7, q8⟩ := ok
    split at H
    · split at H
      · rename_i h1 hw
        exact ex_putf (ih _ _ _ _ _ _ _ _ _ H hme hbd) hw q1 (hCl _ _ _ _ q1) q2 q3 q6 q7 q8 q4 q5
      · cases H
    · cases H
  | 22 =>
    intro ok H
    change (match (generalizing := false) st with
            | w :: .ref x :: r => match (generalizing := false) ex_put h x a b v w with
              | some h1 => K d mi nx L r h1
              | none => none
            | _ => none) = some (r, h') at H
    change ∃ (C : String) (T : u_T) (N : Nat) (ty : FieldType), ex_cl[a]? = some (C, T, N) ∧ b < N ∧ Cond.fieldLink me.1.cls (tl.getD 0 0) (T b).1 (T b).2.1 (T b).2.2.1 ∈ ex_W ∧ decode me.2.1 pc = .ok (.putfield (tl.getD 0 0), 3) ∧ nx = pc + 3 ∧ parseFieldDescriptor (T b).2.2.1 = some ty ∧ ex_ty v ty ∧ (T b).2.2.2 = true ∧ me.1.name = "<init>" ∧ (T b).1 = me.1.cls at ok
    obtain ⟨C, T, N, ty, q1, q2, q3, q4, q5, q6, q7, q8, q9, q10⟩ := ok
    split at H
    · split at H
      · rename_i h1 hw
        exact ex_putF (ih _ _ _ _ _ _ _ _ _ H hme hbd) hw q1 (hCl _ _ _ _ q1) q2 q3 q6 q7 q8 q9 q10 q4 q5
      · cases H
    · cases H
  | 23 =>
    intro ok H
    change (match (generalizing := false) st with
            | .int i :: .ref x :: r => match (generalizing := false) ex_ild h x i with
              | some w => K d mi nx L (.int w :: r) h
              | none => none
            | _ => none) = some (r, h') at H
    change decode me.2.1 pc = .ok (.iaload, 1) ∧ nx = pc + 1 at ok
    split at H
    · split at H
      · rename_i w hw
        exact ex_iald (ih _ _ _ _ _ _ _ _ _ H hme hbd) hw ok.1 ok.2
      · cases H
    · cases H
  | 24 =>
    intro ok H
    change (match (generalizing := false) st with
            | .int w :: .int i :: .ref x :: r => match (generalizing := false) ex_ist h x i w with
              | some h1 => K d mi nx L r h1
              | none => none
            | _ => none) = some (r, h') at H
    change decode me.2.1 pc = .ok (.iastore, 1) ∧ nx = pc + 1 at ok
    split at H
    · split at H
      · rename_i w hw
        exact ex_iast (ih _ _ _ _ _ _ _ _ _ H hme hbd) hw ok.1 ok.2
      · cases H
    · cases H
  | 25 =>
    intro ok H
    change (match (generalizing := false) st with
            | .int i :: .ref x :: r => match (generalizing := false) ex_zld h x i with
              | some w => K d mi nx L (.int w :: r) h
              | none => none
            | _ => none) = some (r, h') at H
    change decode me.2.1 pc = .ok (.baload, 1) ∧ nx = pc + 1 at ok
    split at H
    · split at H
      · rename_i w hw
        exact ex_zald (ih _ _ _ _ _ _ _ _ _ H hme hbd) hw ok.1 ok.2
      · cases H
    · cases H
  | 26 =>
    intro ok H
    change (match (generalizing := false) st with
            | .int w :: .int i :: .ref x :: r => match (generalizing := false) ex_zst h x i w with
              | some h1 => K d mi nx L r h1
              | none => none
            | _ => none) = some (r, h') at H
    change decode me.2.1 pc = .ok (.bastore, 1) ∧ nx = pc + 1 at ok
    split at H
    · split at H
      · rename_i w hw
        exact ex_zast (ih _ _ _ _ _ _ _ _ _ H hme hbd) hw ok.1 ok.2
      · cases H
    · cases H
  | 27 =>
    intro ok H
    change (match (generalizing := false) st with
            | .int i :: .ref x :: r => match (generalizing := false) ex_lld h x i with
              | some w => K d mi nx L (.long w :: r) h
              | none => none
            | _ => none) = some (r, h') at H
    change decode me.2.1 pc = .ok (.laload, 1) ∧ nx = pc + 1 at ok
    split at H
    · split at H
      · rename_i w hw
        exact ex_lald (ih _ _ _ _ _ _ _ _ _ H hme hbd) hw ok.1 ok.2
      · cases H
    · cases H
  | 28 =>
    intro ok H
    change (match (generalizing := false) st with
            | .long w :: .int i :: .ref x :: r => match (generalizing := false) ex_lst h x i w with
              | some h1 => K d mi nx L r h1
              | none => none
            | _ => none) = some (r, h') at H
    change decode me.2.1 pc = .ok (.lastore, 1) ∧ nx = pc + 1 at ok
    split at H
    · split at H
      · rename_i w hw
        exact ex_last (ih _ _ _ _ _ _ _ _ _ H hme hbd) hw ok.1 ok.2
      · cases H
    · cases H
  | 29 =>
    intro ok H
    change (match (generalizing := false) st with
            | .int i :: .ref x :: r => match (generalizing := false) ex_ald h x i with
              | some w => K d mi nx L (.ref w :: r) h
              | none => none
            | _ => none) = some (r, h') at H
    change decode me.2.1 pc = .ok (.aaload, 1) ∧ nx = pc + 1 at ok
    split at H
    · split at H
      · rename_i w hw
        exact ex_aald (ih _ _ _ _ _ _ _ _ _ H hme hbd) hw ok.1 ok.2
      · cases H
    · cases H
  | 30 =>
    intro ok H
    change (match (generalizing := false) st with
            | .ref y :: .int i :: .ref x :: r => match (generalizing := false) ex_ast h x i y with
              | some h1 => K d mi nx L r h1
              | none => none
            | _ => none) = some (r, h') at H
    change decode me.2.1 pc = .ok (.aastore, 1) ∧ nx = pc + 1 at ok
    split at H
    · split at H
      · rename_i w hw
        exact ex_aast (ih _ _ _ _ _ _ _ _ _ H hme hbd) hw ok.1 ok.2
      · cases H
    · cases H
  | 31 =>
    intro ok H
    change (match (generalizing := false) st with
            | .ref x :: r => match (generalizing := false) ex_len h x with
              | some w => K d mi nx L (.int w :: r) h
              | none => none
            | _ => none) = some (r, h') at H
    change decode me.2.1 pc = .ok (.arraylength, 1) ∧ nx = pc + 1 at ok
    split at H
    · split at H
      · rename_i w hw
        exact ex_alen (ih _ _ _ _ _ _ _ _ _ H hme hbd) hw ok.1 ok.2
      · cases H
    · cases H
  | 32 =>
    intro ok H
    change (match (generalizing := false) st with
            | .int n :: r => if h.1.1 then if n < 0 then none else if 100000 < n.toNatClampNeg then none else match (generalizing := false) ex_fr a n.toNatClampNeg with
              | some c => K d mi nx L (.ref (h.1.2.1 + 1) :: r) (ex_add h n.toNatClampNeg c)
              | none => none
              else none
            | _ => none) = some (r, h') at H
    change (a = 0 ∧ decode me.2.1 pc = .ok (.newarray .int, 2) ∧ Cond.arrayClass .int ∈ ex_W ∧ nx = pc + 2) ∨ (a = 1 ∧ decode me.2.1 pc = .ok (.newarray .boolean, 2) ∧ Cond.arrayClass .boolean ∈ ex_W ∧ nx = pc + 2) ∨ (a = 2 ∧ decode me.2.1 pc = .ok (.newarray .long, 2) ∧ Cond.arrayClass .long ∈ ex_W ∧ nx = pc + 2) at ok
    split at H
    · split at H
      · split at H
        · cases H
        · split at H
          · cases H
          · rename_i he hn0 hn1
            split at H
            · rename_i cc hcc
              have q9 := mn _ _ _ _ _ _ _ _ H
              have hb := hbd
              rcases ok with ⟨rfl, q1, q2, q3⟩ | ⟨rfl, q1, q2, q3⟩ | ⟨rfl, q1, q2, q3⟩
              · cases hcc; exact ex_newa_int (ih _ _ _ _ _ _ _ _ _ H hme hbd) (by have := q9.1; simp [ex_add] at this; omega) he hn0 hn1 q9 q2 q1 q3
              · cases hcc; exact ex_newa_boolean (ih _ _ _ _ _ _ _ _ _ H hme hbd) (by have := q9.1; simp [ex_add] at this; omega) he hn0 hn1 q9 q2 q1 q3
              · cases hcc; exact ex_newa_long (ih _ _ _ _ _ _ _ _ _ H hme hbd) (by have := q9.1; simp [ex_add] at this; omega) he hn0 hn1 q9 q2 q1 q3
            · cases H
      · cases H
    · cases H
  | 33 =>
    intro ok H
    change (match (generalizing := false) st with
            | .int n :: r => if h.1.1 then if n < 0 then none else if 100000 < n.toNatClampNeg then none else match (generalizing := false) ex_cl[a]? with
              | some c => K d mi nx L (.ref (h.1.2.1 + 1) :: r) (ex_add h n.toNatClampNeg (.inl (.object c.1, n.toNatClampNeg, .inr (.inr (.inr (.inr (fun _ => none)))))))
              | none => none
              else none
            | _ => none) = some (r, h') at H
    change ∃ rc : vw_C, ex_cl[a]? = some rc ∧ (rc.1 = RX7 ∨ rc.1 = RX9) ∧ Cond.classLink me.1.cls (tl.getD 0 0) rc.1 ∈ ex_W ∧ decode me.2.1 pc = .ok (.anewarray (tl.getD 0 0), 3) ∧ nx = pc + 3 at ok
    obtain ⟨rc, q1, q2, q3, q4, q5⟩ := ok
    split at H
    · split at H
      · split at H
        · cases H
        · split at H
          · cases H
          · rename_i he hn0 hn1
            split at H
            · rename_i cc hcc
              have e9 : cc = rc := Option.some.inj (hcc.symm.trans q1)
              subst e9
              have q9 := mn _ _ _ _ _ _ _ _ H
              have hb := hbd
              exact ex_anew (a := a) (t0 := 0) (ih _ _ _ _ _ _ _ _ _ H hme hbd) (by have := q9.1; simp [ex_add] at this; omega) he hn0 hn1 q9 q2 q3 q4 q5
            · cases H
      · cases H
    · cases H
  | 34 =>
    intro ok H
    change (if h.1.1 then K d mi nx L (.ref (h.1.2.1 + 1) :: st) (ex_add h b (.inr (a, (tl.drop 4).map (fun t => if t = 0 then Value.int 0 else Value.null)))) else none) = some (r, h') at H
    change ∃ (C : String) (T : u_T), ex_cl[a]? = some (C, T, b) ∧ (∀ j, j < b → ∀ ty, parseFieldDescriptor (T j).2.2.1 = some ty → defaultValue ty = vp_V ((tl.drop 4).map (fun t => if t = 0 then Value.int 0 else Value.null)) j) ∧ Cond.classLink me.1.cls (tl.getD 0 0) C ∈ ex_W ∧ Cond.instantiable C b ∈ ex_W ∧ Cond.initialized C ∈ ex_W ∧ decode me.2.1 pc = .ok (.new (tl.getD 0 0), 3) ∧ nx = pc + 3 at ok
    obtain ⟨C, T, q1, q2, q3, q4, q5, q6, q7⟩ := ok
    split at H
    · rename_i he
      have q9 := mn _ _ _ _ _ _ _ _ H
      have hb := hbd
      exact ex_new (ih _ _ _ _ _ _ _ _ _ H hme hbd) (by have := q9.1; simp [ex_add] at this; omega) he q9 q1 (hCl _ _ _ _ q1) q2 q3 q4 q5 q6 q7
    · cases H
  | 35 =>
    intro ok H
    change (match (generalizing := false) st with
            | w :: r => if ex_one w then K d mi nx L (w :: w :: r) h else none
            | _ => none) = some (r, h') at H
    change decode me.2.1 pc = .ok (.dup, 1) ∧ nx = pc + 1 at ok
    split at H
    · split at H
      · rename_i hw
        exact ex_dup (ih _ _ _ _ _ _ _ _ _ H hme hbd) hw ok.1 ok.2
      · cases H
    · cases H
  | 36 =>
    intro ok H
    change (match (generalizing := false) st with
            | w :: r => if ex_one w then K d mi nx L r h else none
            | _ => none) = some (r, h') at H
    change decode me.2.1 pc = .ok (.pop, 1) ∧ nx = pc + 1 at ok
    split at H
    · split at H
      · rename_i hw
        exact ex_pop (ih _ _ _ _ _ _ _ _ _ H hme hbd) hw ok.1 ok.2
      · cases H
    · cases H
  | 37 =>
    intro ok H
    change (match (generalizing := false) st with
            | w :: z :: r => if ex_one w then if ex_one z then K d mi nx L (w :: z :: w :: z :: r) h else none else none
            | _ => none) = some (r, h') at H
    change decode me.2.1 pc = .ok (.dup2, 1) ∧ nx = pc + 1 at ok
    split at H
    · split at H
      · rename_i hw
        split at H
        · rename_i hz
          exact ex_dup2 (ih _ _ _ _ _ _ _ _ _ H hme hbd) hw hz ok.1 ok.2
        · cases H
      · cases H
    · cases H
  | 38 =>
    intro ok H
    change (match (generalizing := false) st with
            | [] => some (.inl none, h)
            | _ => none) = some (r, h') at H
    change me.2.2.2.1 = none ∧ decode me.2.1 pc = .ok (.return_, 1) at ok
    split at H
    · cases H
      exact ex_ret_v ok.1 ok.2
    · cases H
  | 39 =>
    intro ok H
    change (match (generalizing := false) st with
            | [.int x] => some (.inl (some (.int x)), h)
            | _ => none) = some (r, h') at H
    change me.2.2.2.1 = some .int ∧ decode me.2.1 pc = .ok (.ireturn, 1) at ok
    split at H
    · cases H
      exact ex_ret_i ok.1 ok.2
    · cases H
  | 40 =>
    intro ok H
    change (match (generalizing := false) st with
            | [.int x] => if x = 0 then some (.inl (some (.int 0)), h) else if x = 1 then some (.inl (some (.int 1)), h) else none
            | _ => none) = some (r, h') at H
    change me.2.2.2.1 = some .boolean ∧ decode me.2.1 pc = .ok (.ireturn, 1) at ok
    split at H
    · split at H
      · rename_i e
        subst e
        cases H
        exact ex_ret_z (Or.inl rfl) ok.1 ok.2
      · split at H
        · rename_i e
          subst e
          cases H
          exact ex_ret_z (Or.inr rfl) ok.1 ok.2
        · cases H
    · cases H
  | 41 =>
    intro ok H
    change (match (generalizing := false) st with
            | [.ref x] => some (.inl (some (.ref x)), h)
            | _ => none) = some (r, h') at H
    change ∃ C : String, me.2.2.2.1 = some (.object C) ∧ decode me.2.1 pc = .ok (.areturn, 1) at ok
    obtain ⟨C, q1, q2⟩ := ok
    split at H
    · cases H
      exact ex_ret_a q1 q2
    · cases H
  | 42 =>
    intro ok H
    change (match (generalizing := false) st with
            | .int x :: r => K d mi nx L (.long x.toInt64 :: r) h
            | _ => none) = some (r, h') at H
    change decode me.2.1 pc = .ok (.i2l, 1) ∧ nx = pc + 1 at ok
    split at H
    · exact ex_i2l (ih _ _ _ _ _ _ _ _ _ H hme hbd) ok.1 ok.2
    · cases H
  | 43 =>
    intro ok H
    change (match (generalizing := false) st with
            | .long y :: .long x :: r => K d mi nx L (.int (lg_cmp x y) :: r) h
            | _ => none) = some (r, h') at H
    change decode me.2.1 pc = .ok (.lcmp, 1) ∧ nx = pc + 1 at ok
    split at H
    · exact ex_lcmp (ih _ _ _ _ _ _ _ _ _ H hme hbd) ok.1 ok.2
    · cases H
  | 44 =>
    intro ok H
    change (K d mi nx L (.long (Int64.ofNat a) :: st) h) = some (r, h') at H
    change ∃ k : Fin 2, decode me.2.1 pc = .ok (.lconst k, 1) ∧ (k : Nat) = a ∧ nx = pc + 1 at ok
    obtain ⟨k, q1, q2, q3⟩ := ok
    exact ex_lconst (ih _ _ _ _ _ _ _ _ _ H hme hbd) q1 q2 q3
  | 45 =>
    intro ok H
    change (match (generalizing := false) st with
            | .ref _ :: r => if d = 0 then none else if 8 < ex_wd r then none else K d mi nx L r h
            | _ => none) = some (r, h') at H
    change Cond.methodLink me.1.cls (tl.getD 0 0) objectInit ∈ ex_W ∧ Cond.instanceMethod objectInit ∈ ex_W ∧ Cond.code objectInit ⟨#[0xb1]⟩ 1 none ∈ ex_W ∧ decode me.2.1 pc = .ok (.invokespecial (tl.getD 0 0), 3) ∧ nx = pc + 3 at ok
    obtain ⟨q1, q2, q3, q4, q5⟩ := ok
    split at H
    · split at H
      · cases H
      · rename_i hd0
        split at H
        · cases H
        · rename_i hwd
          exact ex_objinit (ih _ _ _ _ _ _ _ _ _ H hme hbd) hd0 hwd q1 q2 q3 q4 q5
    · cases H
  | 46 =>
    intro ok H
    change (match (generalizing := false) st with
            | .int n :: .int dp :: .ref y :: .int sp :: .ref x :: r => if d = 0 then none else if 8 < ex_wd r then none else match (generalizing := false) ex_cpi h x sp y dp n with
              | some h1 => K d mi nx L r h1
              | none => none
            | _ => none) = some (r, h') at H
    change Cond.methodLink me.1.cls (tl.getD 0 0) arraycopyName ∈ ex_W ∧ Cond.native arraycopyName ∈ ex_W ∧ Cond.static arraycopyName ∈ ex_W ∧ Cond.initialized "java/lang/System" ∈ ex_W ∧ decode me.2.1 pc = .ok (.invokestatic (tl.getD 0 0), 3) ∧ nx = pc + 3 at ok
    obtain ⟨q1, q2, q3, q4, q5, q6⟩ := ok
    split at H
    · split at H
      · cases H
      · rename_i hd0
        split at H
        · cases H
        · rename_i hwd
          split at H
          · rename_i h1 hw
            exact ex_acopy (ih _ _ _ _ _ _ _ _ _ H hme hbd) hw hd0 hwd q1 q2 q3 q4 q5 q6
          · cases H
    · cases H
  | 47 =>
    intro ok H
    change (ex_call M K nx a b tl d mi L st h) = some (r, h') at H
    change nx = pc + 3 ∧ (∀ k t i, ex_hd k (tl.drop 2) = some (t, i) → ex_Hd me pc k t i) ∧ ∃ me', M a = some me' ∧ ex_Mo me' ∧ ex_Kd me me' pc b v tl at ok
    obtain ⟨q1, q2, me', q3, q4, q5⟩ := ok
    exact ex_call_snd ih mn hme hbd q1 q2 q3 q4 q5 H
  | 48 =>
    intro ok H
    change (if d < 8 then none else if 8 < ex_wd st then none else some (.inr a, ex_thr h)) = some (r, h') at H
    change me.2.2.2.2 = [] ∧ Bundle.fit (ex_nm a) = true ∧ (∀ n ∈ ex_sup, Bundle.fit n = true) ∧ Cond.classLink me.1.cls (tl.getD 0 0) (ex_nm a) ∈ ex_W ∧ Cond.initialized (ex_nm a) ∈ ex_W ∧ (∀ w ∈ vx_at0 me.1.cls (tl.getD 1 0) (ex_nm a) ex_sup, w ∈ ex_W) ∧ (∀ w ∈ Cond.classLink me.1.cls (tl.getD 0 0) (ex_nm a) :: Cond.initialized (ex_nm a) :: vx_at0 me.1.cls (tl.getD 1 0) (ex_nm a) ex_sup, vx_ot w = true) ∧ decode me.2.1 pc = .ok (.new (tl.getD 0 0), 3) ∧ decode me.2.1 (pc + 3) = .ok (.dup, 1) ∧ decode me.2.1 (pc + 4) = .ok (.invokespecial (tl.getD 1 0), 3) ∧ decode me.2.1 (pc + 7) = .ok (.athrow, 1) at ok
    obtain ⟨q1, q2, q3, q4, q5, q6, q7, q8, q9, q10, q11⟩ := ok
    split at H
    · cases H
    · rename_i hd8
      split at H
      · cases H
      · rename_i hwd
        cases H
        exact ex_throw hst hd8 hwd q1 q2 q3 q4 q5 q6 q7 q8 q9 q10 q11
  | 49 =>
    intro ok H
    change (K d mi nx L (.ref (1000000 + a) :: st) h) = some (r, h') at H
    change ∃ tx : String, ex_str[a]? = some (me.1.cls, tl.getD 0 0, tx) ∧ decode me.2.1 pc = .ok (.ldc (tl.getD 0 0), 2) ∧ nx = pc + 2 at ok
    obtain ⟨tx, q1, q2, q3⟩ := ok
    exact ex_ldcS (ih _ _ _ _ _ _ _ _ _ H hme hbd) q1 q2 q3
  | 50 =>
    intro ok H
    change (match (generalizing := false) st with
            | .ref x :: r => if d < 8 then none else if 8 < ex_wd r then none else match (generalizing := false) ex_tx x with
              | some t => K d mi nx L (.int (Int32.ofNat t.length) :: r) h
              | none => none
            | _ => none) = some (r, h') at H
    change Cond.methodLink me.1.cls (tl.getD 0 0) js_length ∈ ex_W ∧ decode me.2.1 pc = .ok (.invokevirtual (tl.getD 0 0), 3) ∧ nx = pc + 3 at ok
    obtain ⟨q1, q2, q3⟩ := ok
    split at H
    · split at H
      · cases H
      · rename_i hd8
        split at H
        · cases H
        · rename_i hwd
          split at H
          · rename_i t ht
            exact ex_slen (ih _ _ _ _ _ _ _ _ _ H hme hbd) (mn _ _ _ _ _ _ _ _ H) hd8 hwd (ex_tx_of ht).1 (ex_tx_of ht).2 q1 q2 q3
          · cases H
    · cases H
  | 51 =>
    intro ok H
    change (match (generalizing := false) st with
            | .int i :: .ref x :: r => if d < 8 then none else if 8 < ex_wd r then none else match (generalizing := false) ex_tx x with
              | some t => if i < 0 then none else match (generalizing := false) t[i.toNatClampNeg]? with
                | some w => K d mi nx L (.int w :: r) h
                | none => none
              | none => none
            | _ => none) = some (r, h') at H
    change Cond.methodLink me.1.cls (tl.getD 0 0) js_charAt ∈ ex_W ∧ decode me.2.1 pc = .ok (.invokevirtual (tl.getD 0 0), 3) ∧ nx = pc + 3 at ok
    obtain ⟨q1, q2, q3⟩ := ok
    split at H
    · split at H
      · cases H
      · rename_i hd8
        split at H
        · cases H
        · rename_i hwd
          split at H
          · rename_i t ht
            split at H
            · cases H
            · rename_i hi0
              split at H
              · rename_i w hw
                exact ex_schar (ih _ _ _ _ _ _ _ _ _ H hme hbd) (mn _ _ _ _ _ _ _ _ H) hd8 hwd (ex_tx_of ht).1 (ex_tx_of ht).2 hi0 hw q1 q2 q3
              · cases H
          · cases H
    · cases H
  | 52 =>
    intro ok H
    change (K d mi nx L (.ref (1000000 + a) :: st) h) = some (r, h') at H
    change ∃ tx : String, ex_str[a]? = some (me.1.cls, tl.getD 0 0, tx) ∧ decode me.2.1 pc = .ok (.ldc_w (tl.getD 0 0), 3) ∧ nx = pc + 3 at ok
    obtain ⟨tx, q1, q2, q3⟩ := ok
    exact ex_ldcSW (ih _ _ _ _ _ _ _ _ _ H hme hbd) q1 q2 q3
  | _ + 53 =>
    intro ok H
    exact ok.elim
theorem ex_sound {l : Launch} {G : ex_P} {M : Nat → Option ex_Me} {T : Nat → Nat → Option ex_O} (hst : l.stackTraces = false) (hCl : ∀ (a : Nat) (C : String) (T : u_T) (N : Nat), ex_cl[a]? = some (C, T, N) → ex_Cl C T N) (hT : ∀ (mi : Nat) (me : ex_Me) (pc : Nat) (o : ex_O), M mi = some me → T mi pc = some o → ex_Ok M me pc o) : ∀ n, ex_Snd l G M (ex_ev M T n)
  | 0 => fun _ _ _ _ _ _ _ _ _ H => by cases H
  | n + 1 => fun d mi pc L st h h' r me H hme hbd => by
    rw [ex_ev_1] at H
    unfold ex_step at H
    split at H
    · rename_i o ho
      exact ex_do_snd hst hCl (ex_sound hst hCl hT n) (ex_mono M T n) hme (hT mi me pc o hme ho) hbd H
    · cases H
