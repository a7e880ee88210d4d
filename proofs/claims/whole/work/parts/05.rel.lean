/-! WHAT THE EVALUATOR'S STATE SAYS OF THE MACHINE'S. G: classes' numbers, slots, array classes, the script's address, where the law's own cells begin, the script's length and ints, the String constants' addresses. -/
abbrev ex_P : Type := (Nat → ClassId) × (Nat → Nat → Nat) × (FieldType → ClassId) × Nat × Nat × Nat × (Nat → Int32) × (Nat → Nat)
abbrev gC (G : ex_P) : Nat → ClassId := G.1
abbrev gI (G : ex_P) : Nat → Nat → Nat := G.2.1
abbrev gA (G : ex_P) : FieldType → ClassId := G.2.2.1
abbrev gb (G : ex_P) : Nat := G.2.2.2.1
abbrev gB (G : ex_P) : Nat := G.2.2.2.2.1
abbrev gL (G : ex_P) : Nat := G.2.2.2.2.2.1
abbrev gX (G : ex_P) : Nat → Int32 := G.2.2.2.2.2.2.1
abbrev gS (G : ex_P) : Nat → Nat := G.2.2.2.2.2.2.2
def ex_A (G : ex_P) : Nat → Prop := fun q => gB G ≤ q
def ex_ad (G : ex_P) (k : Nat) : Nat := if k = 0 then gb G else if k < 1000000 then gB G + (k - 1) else gS G (k - 1000000)
def ex_z (G : ex_P) (v : Value) : Value := match v with
  | .ref a => .ref (ex_ad G a)
  | .int x => .int x
  | .long x => .long x
  | .float x => .float x
  | .double x => .double x
  | .null => .null
  | .retAddr x => .retAddr x
theorem ex_ad_0 (G : ex_P) : ex_ad G 0 = gb G := rfl
theorem ex_ad_in (G : ex_P) {k : Nat} (h0 : k ≠ 0) (h1 : k < 1000000) : ex_ad G k = gB G + (k - 1) := by unfold ex_ad; rw [if_neg h0, if_pos h1]
theorem ex_ad_ne (G : ex_P) {k j : Nat} (h0 : k ≠ 0) (h1 : k < 1000000) (g0 : j ≠ 0) (g1 : j < 1000000) (h : k ≠ j) : ex_ad G k ≠ ex_ad G j := by
  rw [ex_ad_in G h0 h1, ex_ad_in G g0 g1]; omega
def ex_e (G : ex_P) (c : ex_C) : va_E := match c with
  | .inl (ty, n, .inr (.inr (.inr (.inr f)))) => .inl (gA G ty, n, .inr (.inr (.inr (.inr (fun j => (f j).map (ex_ad G))))))
  | .inl (ty, a) => .inl (gA G ty, a)
  | .inr (ci, fs) => .inr (ci, fs.map (ex_z G))
abbrev ex_tl : List FieldType := [.int, .boolean, .long, .object RX7, .object RX9]
def ex_M (G : ex_P) (h : ex_H) (H : Heap) : Prop := (h.1.1 = true → H.size = gB G + h.1.2.1) ∧ (∀ (k : Nat) (c : ex_C), h.2 k = some c → k ≠ 0 → k < 1000000 ∧ va_at (gC G, gI G) ex_cl (ex_ad G k, ex_e G c) H) ∧ (∀ c : ex_C, h.2 0 = some c → c = .inl (.int, gL G, .inl (gX G))) ∧ ∀ (k : Nat) (ty : FieldType) (a : vp_A), h.2 k = some (.inl (ty, a)) → ty ∈ ex_tl
def ex_L (G : ex_P) (ls : Array Slot) (L : List Value) : Prop := ls.size = L.length ∧ lv_wf ls ∧ (∀ v ∈ L, v.category = 1) ∧ ∀ (i : Nat) (v : Value), L[i]? = some v → ex_one v = true → ls[i]? = some (.val (ex_z G v))
abbrev ex_ts (G : ex_P) : List (ClassId × FieldType) := ex_tl.map (fun t => (gA G t, t))
def ex_mv (w : Cond) : Bool := goodWord w || (match w with
  | .methodLinkNest .. => true
  | .castable .. => true
  | .declares .. => true
  | _ => false)
def ex_W : List Cond := lw_tbl.filter ex_mv
def ex_ws (s : State) : Prop := ∀ w ∈ ex_W, w.before #[] s = true
theorem ex_ws.use {s : State} (h : ex_ws s) {w : Cond} (hw : w ∈ ex_W) (args : Array Value) : w.before args s = true := by
  have hm := (List.mem_filter.mp hw).2
  have h0 := h w hw
  unfold ex_mv at hm
  rw [Bool.or_eq_true] at hm
  rcases hm with g | g
  · exact word_at (State.WarmedH.refl s) (good_of_word g) h0
  · cases w <;> first | (simp at g; done) | exact va_tabs rfl rfl h0
theorem ex_ws.all {s : State} (h : ex_ws s) (args : Array Value) : ∀ w ∈ ex_W, w.before args s = true := fun _ hw => h.use hw args
theorem ex_ws.moved {s U : State} (hW : s.WarmedH U.vm) (h : ex_ws s) : ex_ws U := by
  intro w hw
  have hm := (List.mem_filter.mp hw).2
  have h0 := h w hw
  unfold ex_mv at hm
  rw [Bool.or_eq_true] at hm
  rcases hm with g | g
  · exact word_at hW (good_of_word g) h0
  · cases w <;> first | (simp at g; done) | exact va_Nw.warmM hW h0 | exact va_Nw.warmC hW h0 | exact va_Nw.warmD hW h0
def ex_nm (k : Nat) : String := match k with
  | 0 => "java/lang/IllegalArgumentException"
  | 1 => "java/lang/IllegalStateException"
  | 2 => "java/lang/IndexOutOfBoundsException"
  | 3 => "java/util/NoSuchElementException"
  | _ => "java/lang/UnsupportedOperationException"
/-- what holds of every state in which a method is entered -/
def ex_G (G : ex_P) (s : State) : Prop := va_K (gC G, gI G) ex_cl (ex_ts G) s ∧ va_X (gb G) (gL G) (gX G) s s.heap ∧ gb G < gB G ∧ gB G ≤ s.heap.size ∧ ex_ws s ∧ va_AO RX7 s ∧ va_AO RX9 s ∧ vx_Zq Bundle.tN "UNASSIGNED_STACK" Bundle.steD (ex_A G) s s.heap ∧ vx_Zq Bundle.tN "SUPPRESSED_SENTINEL" Bundle.listD (ex_A G) s s.heap ∧ (∀ i j : Nat, i < 5 → j < 5 → i ≠ j → va_Nc (ex_nm i) (ex_nm j) s) ∧ vk_S 20 ex_len0 ex_byt (gS G) (fun j => gS G (100 + j)) (ex_A G) s s.heap ∧ (∀ (j : Nat) (q : String × Nat × String), ex_str[j]? = some q → vk_R q.1 q.2.1 q.2.2 (gS G j) s) ∧ va_Z "java/lang/String" "COMPACT_STRINGS" "Z" (.int 1) (ex_A G) s s.heap ∧ va_Zq "jdk/internal/util/Preconditions" "SIOOBE_FORMATTER" "Ljava/util/function/BiFunction;" (ex_A G) s s.heap
theorem ex_G.moved {G : ex_P} {s U : State} (hW : s.WarmedH U.vm) (hk : ∀ q : Nat, q < s.heap.size → ¬ ex_A G q → U.heap[q]? = s.heap[q]?) (hz : gB G ≤ U.heap.size) (h : ex_G G s) : ex_G G U := by
  obtain ⟨h1, h2, h3, h4, h5, h6, h7, h8, h9, h10, h11, h12, h13, h14⟩ := h
  have hA := hW.alike
  refine ⟨va_K.moved hA h1, ?_, h3, hz, h5.moved hW, va_AO.moved hA h6, va_AO.moved hA h7, vx_Zq.moved hA (h8.kept hk), vx_Zq.moved hA (h9.kept hk), fun i j a b c => (h10 i j a b c).moved hA, vk_S.moved hA (h11.kept hk), fun j q hq => (h12 j q hq).warm hW, va_Z.moved hA (h13.kept hk), va_Zq.moved hA (h14.kept hk)⟩
  obtain ⟨scr, q1, q2, q3, q4, q5⟩ := h2
  refine ⟨scr, ?_, State.isArrayOf_alike hA q2, q3, q4, q5⟩
  rw [hk _ (by omega) (by unfold ex_A; omega)]
  exact q1
/-- what a method's end says: what it returned, or threw; the heap; nothing below changed -/
def ex_Q (G : ex_P) (r : ex_R) (h : ex_H) : Array Value → State → Outcome → State → Prop := fun _ st o t => (∃ v, r = .inl v ∧ o = .returned (v.map (ex_z G))) ∧ ex_M G h t.heap ∧ va_F (ex_A G) st t
def ex_X (G : ex_P) (r : ex_R) (h : ex_H) : String → State → State → Prop := fun E st t => (∃ k, r = .inr k ∧ E = ex_nm k) ∧ ex_M G h t.heap ∧ va_F (ex_A G) st t
/-- where a method stands: the machine, its code, its tables -/
def ex_B (G : ex_P) (me : ex_Me) (p : Program) (s : State) (m : MethodId) (meth : Method) (c : Code) : Prop := p.tables.exec = Jvm.exec ∧ c.code = me.2.1 ∧ c.maxLocals = me.2.2.1 ∧ s.vm.findClass me.1.cls = some m.cls ∧ meth.locks = false ∧ meth.sig.returnType = me.2.2.2.1 ∧ meth.name = me.1.name ∧ c.exceptionTable.toList.map (fun x => (x.startPc, x.endPc, x.handlerPc, x.catchType)) = me.2.2.2.2 ∧ ex_G G s
def ex_Goal (l : Launch) (G : ex_P) (me : ex_Me) (d pc : Nat) (L st : List Value) (h : ex_H) (r : ex_R) (h' : ex_H) : Prop :=
  ∀ (p : Program) (e : Env) (R : Room) (s : State) (m : MethodId) (args : Array Value) (below : List Frame) (meth : Method) (c : Code) (H : Heap) (locs : List Loc) (cells slots mc ms : Nat) (ls : Array Slot),
    ex_B G me p s m meth c → ex_L G ls L → L.length = me.2.2.1 → ex_M G h H → va_S (ex_A G) s.heap H locs → cells + h'.1.2.1 ≤ mc + h.1.2.1 → slots + h'.1.2.2 ≤ ms + h.1.2.2 → d ≤ R.frames → d * 64 + 64 ≤ R.locals → mc ≤ R.cells → ms ≤ R.slots →
    W p l e R s m args below meth c H locs cells slots (vx_MQ below (ex_Q G r h') (ex_X G r h') args s mc ms (ex_A G)) (F0 m pc ls (st.map (ex_z G)))
/-- the evaluator K is right -/
def ex_Snd (l : Launch) (G : ex_P) (M : Nat → Option ex_Me) (K : ex_V) : Prop := ∀ (d mi pc : Nat) (L st : List Value) (h h' : ex_H) (r : ex_R) (me : ex_Me), K d mi pc L st h = some (r, h') → M mi = some me → h'.1.2.1 < 1000000 → ex_Goal l G me d pc L st h r h'
