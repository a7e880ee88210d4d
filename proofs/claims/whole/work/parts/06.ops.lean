/-! SINGLE OPERATIONS: if the evaluator's rest is right, so is it from here -/
def ex_pr (G : ex_P) (L : List Value) : List (Nat × Value) := (List.range L.length).filterMap (fun i => match L[i]? with
  | some v => if ex_one v = true then some (i, ex_z G v) else none
  | none => none)
theorem ex_pr_in {G : ex_P} {L : List Value} {i : Nat} {v : Value} (h : L[i]? = some v) (h1 : ex_one v = true) : (i, ex_z G v) ∈ ex_pr G L := by
  refine List.mem_filterMap.mpr ⟨i, List.mem_range.mpr (List.getElem?_eq_some_iff.mp h).1, ?_⟩
  rw [h]
  simp [h1]
theorem ex_pr_of {G : ex_P} {L : List Value} {q : Nat × Value} (h : q ∈ ex_pr G L) : ∃ v, L[q.1]? = some v ∧ ex_one v = true ∧ q.2 = ex_z G v := by
  obtain ⟨i, -, hi⟩ := List.mem_filterMap.mp h
  cases hv : L[i]? with
  | none => simp [hv] at hi
  | some v =>
    simp only [hv] at hi
    by_cases h1 : ex_one v = true
    · simp only [h1, if_true, Option.some.injEq] at hi
      subst hi
      exact ⟨v, hv, h1, rfl⟩
    · simp [h1] at hi
theorem ex_z_cat {G : ex_P} {v : Value} (h : ex_one v = true) : (ex_z G v).category = 1 := by
  cases v <;> first | rfl | (simp [ex_one] at h)
theorem ex_L.has {G : ex_P} {ls : Array Slot} {L : List Value} {n : Nat} (h : ex_L G ls L) (hn : L.length = n) : lv_has ls n (ex_pr G L) := by
  refine ⟨h.1.trans hn, h.2.1, fun q hq => ?_⟩
  obtain ⟨v, h1, h2, h3⟩ := ex_pr_of hq
  rw [h3]
  exact h.2.2.2 q.1 v h1 h2
theorem ex_L.set {G : ex_P} {ls ls' : Array Slot} {L : List Value} {i n : Nat} {v : Value} (h : ex_L G ls L) (hn : L.length = n) (hi : i < L.length) (hv : v.category = 1)
    (h' : lv_has ls' n ((i, ex_z G v) :: (ex_pr G L).filter (fun q => !(q.1 == i) && !(q.1 + 1 == i && q.2.category == 2)))) : ex_L G ls' (L.set i v) := by
  refine ⟨by rw [List.length_set]; exact h'.1.trans hn.symm, h'.2.1, fun w hw => ?_, fun j w hj hw => ?_⟩
  · rcases List.mem_or_eq_of_mem_set hw with g | g
    · exact h.2.2.1 w g
    · rw [g]; exact hv
  · by_cases e : i = j
    · subst e
      rw [List.getElem?_set_self hi] at hj
      cases hj
      exact h'.2.2 (i, ex_z G v) List.mem_cons_self
    · rw [List.getElem?_set_ne e] at hj
      refine h'.2.2 (j, ex_z G w) (List.mem_cons_of_mem _ (List.mem_filter.mpr ⟨ex_pr_in hj hw, ?_⟩))
      have hc := ex_z_cat (G := G) hw
      simp [hc, Ne.symm e]
theorem ex_L.get {G : ex_P} {ls : Array Slot} {L : List Value} {i : Nat} {v : Value} (h : ex_L G ls L) (hv : L[i]? = some v) (h1 : ex_one v = true) : ls[i]? = some (.val (ex_z G v)) := h.2.2.2 i v hv h1
theorem ex_M.set {G : ex_P} {h : ex_H} {H H1 : Heap} {x : Nat} {c c0 : ex_C} (hM : ex_M G h H) (hx : x ≠ 0) (h0 : h.2 x = some c0) (hz : H1.size = H.size) (ho : ∀ q : Nat, q ≠ ex_ad G x → H1[q]? = H[q]?) (hc : va_at (gC G, gI G) ex_cl (ex_ad G x, ex_e G c) H1) (ht : ∀ ty a, c = .inl (ty, a) → ∃ a0, c0 = .inl (ty, a0)) : ex_M G (ex_set h x c) H1 := by
  have hx1 := (hM.2.1 x c0 h0 hx).1
  refine ⟨fun e => by rw [hz]; exact hM.1 e, fun k c1 hk hk0 => ?_, fun c1 hk => ?_, fun k ty a hk => ?_⟩
  · by_cases e : k = x
    · subst e
      simp [ex_set] at hk
      subst hk
      exact ⟨hx1, hc⟩
    · simp [ex_set, e] at hk
      obtain ⟨g1, g2⟩ := hM.2.1 k c1 hk hk0
      exact ⟨g1, g2.kept (ho _ (ex_ad_ne G hk0 g1 hx hx1 e))⟩
  · simp [ex_set, Ne.symm hx] at hk
    exact hM.2.2.1 c1 hk
  · by_cases e : k = x
    · subst e
      simp [ex_set] at hk
      obtain ⟨a0, ha0⟩ := ht ty a hk
      rw [ha0] at h0
      exact hM.2.2.2 k ty a0 h0
    · simp [ex_set, e] at hk
      exact hM.2.2.2 k ty a hk
theorem ex_A_ad {G : ex_P} {h : ex_H} {H : Heap} {x : Nat} {c0 : ex_C} (hM : ex_M G h H) (hx : x ≠ 0) (h0 : h.2 x = some c0) : ex_A G (ex_ad G x) := by
  rw [ex_ad_in G hx (hM.2.1 x c0 h0 hx).1]; unfold ex_A; omega
theorem ex_M.add {G : ex_P} {h : ex_H} {H H1 : Heap} {c : ex_C} {n : Nat} (hM : ex_M G h H) (he : h.1.1 = true) (hb : h.1.2.1 + 1 < 1000000) (hz : H1.size = H.size + 1) (ho : ∀ q : Nat, q < H.size → H1[q]? = H[q]?) (hc : va_at (gC G, gI G) ex_cl (H.size, ex_e G c) H1) (ht : ∀ ty a, c = .inl (ty, a) → ty ∈ ex_tl) : ex_M G (ex_add h n c) H1 := by
  have hs := hM.1 he
  refine ⟨fun _ => by rw [hz, hs]; simp [ex_add]; omega, fun k c1 hk hk0 => ?_, fun c1 hk => ?_, fun k ty a hk => ?_⟩
  · by_cases e : k = h.1.2.1 + 1
    · subst e
      simp [ex_add] at hk
      subst hk
      refine ⟨hb, ?_⟩
      rw [ex_ad_in G (by omega) hb, show gB G + (h.1.2.1 + 1 - 1) = H.size by omega]
      exact hc
    · simp [ex_add, e] at hk
      obtain ⟨g1, g2⟩ := hM.2.1 k c1 hk hk0
      exact ⟨g1, g2.kept (ho _ g2.lt)⟩
  · simp [ex_add] at hk
    exact hM.2.2.1 c1 hk
  · by_cases e : k = h.1.2.1 + 1
    · subst e
      simp [ex_add] at hk
      exact ht ty a hk
    · simp [ex_add, e] at hk
      exact hM.2.2.2 k ty a hk
theorem ex_M.ty {G : ex_P} {h : ex_H} {H : Heap} {k : Nat} {ty : FieldType} {a : vp_A} (hM : ex_M G h H) (hk : h.2 k = some (.inl (ty, a))) : ∃ t0 : Nat, (ex_ts G)[t0]? = some (gA G ty, ty) := by
  obtain ⟨i, hi⟩ := List.getElem?_of_mem (hM.2.2.2 k ty a hk)
  exact ⟨i, by rw [List.getElem?_map, hi]; rfl⟩
theorem va_S.more {A : Nat → Prop} {H0 H H1 : Heap} {locs : List Loc} (h : va_S A H0 H locs) (z : H.size ≤ H1.size) (ho : ∀ q : Nat, q < H.size → H1[q]? = H[q]?) : va_S A H0 H1 locs := ⟨Nat.le_trans h.1 z, fun x h1 h2 => (ho x (Nat.lt_of_lt_of_le h1 h.1)).trans (h.2.1 x h1 h2), h.2.2⟩
theorem ex_iconst {l : Launch} {G : ex_P} {me : ex_Me} {d pc nx : Nat} {L st : List Value} {h h' : ex_H} {r : ex_R} {v : Int32} (S : ex_Goal l G me d nx L (.int v :: st) h r h') (hd : decode me.2.1 pc = .ok (.iconst v.toInt, 1)) (hx : nx = pc + 1) : ex_Goal l G me d pc L st h r h' := by
  intro p e R s m args below meth c H locs cells slots mc ms ls hB hL hn hM hS hc hs hfr hlo hmc hms
  subst hx
  refine lv_iconst hB.1 hB.2.1 hd (Int32.ofInt_toInt v) ?_
  exact S p e R s m args below meth c H locs cells slots mc ms ls hB hL hn hM hS hc hs hfr hlo hmc hms
theorem ex_bipush {l : Launch} {G : ex_P} {me : ex_Me} {d pc nx : Nat} {L st : List Value} {h h' : ex_H} {r : ex_R} {v : Int32} (S : ex_Goal l G me d nx L (.int v :: st) h r h') (hd : decode me.2.1 pc = .ok (.bipush v.toInt, 2)) (hv : (Int8.ofInt v.toInt).toInt32 = v) (hx : nx = pc + 2) : ex_Goal l G me d pc L st h r h' := by
  intro p e R s m args below meth c H locs cells slots mc ms ls hB hL hn hM hS hc hs hfr hlo hmc hms
  subst hx
  refine lv_bipush hB.1 hB.2.1 hd hv ?_
  exact S p e R s m args below meth c H locs cells slots mc ms ls hB hL hn hM hS hc hs hfr hlo hmc hms
theorem ex_sipush {l : Launch} {G : ex_P} {me : ex_Me} {d pc nx : Nat} {L st : List Value} {h h' : ex_H} {r : ex_R} {v : Int32} (S : ex_Goal l G me d nx L (.int v :: st) h r h') (hd : decode me.2.1 pc = .ok (.sipush v.toInt, 3)) (hv : (Int16.ofInt v.toInt).toInt32 = v) (hx : nx = pc + 3) : ex_Goal l G me d pc L st h r h' := by
  intro p e R s m args below meth c H locs cells slots mc ms ls hB hL hn hM hS hc hs hfr hlo hmc hms
  subst hx
  refine lv_sipush hB.1 hB.2.1 hd hv ?_
  exact S p e R s m args below meth c H locs cells slots mc ms ls hB hL hn hM hS hc hs hfr hlo hmc hms
theorem ex_ldc {l : Launch} {G : ex_P} {me : ex_Me} {d pc nx : Nat} {L st : List Value} {h h' : ex_H} {r : ex_R} {v : Int32} {a : Nat} (S : ex_Goal l G me d nx L (.int v :: st) h r h') (hd : decode me.2.1 pc = .ok (.ldc a, 2)) (hw : Cond.constant me.1.cls a v ∈ ex_W) (hx : nx = pc + 2) : ex_Goal l G me d pc L st h r h' := by
  intro p e R s m args below meth c H locs cells slots mc ms ls hB hL hn hM hS hc hs hfr hlo hmc hms
  subst hx
  obtain ⟨h1, h2, h3, h4, h5, h6, h7, h8, h9⟩ := id hB
  refine lv_ldc h1 h2 h4 (h9.2.2.2.2.1.use hw args) hd ?_
  exact S p e R s m args below meth c H locs cells slots mc ms ls hB hL hn hM hS hc hs hfr hlo hmc hms
theorem ex_ldcw {l : Launch} {G : ex_P} {me : ex_Me} {d pc nx : Nat} {L st : List Value} {h h' : ex_H} {r : ex_R} {v : Int32} {a : Nat} (S : ex_Goal l G me d nx L (.int v :: st) h r h') (hd : decode me.2.1 pc = .ok (.ldc_w a, 3)) (hw : Cond.constant me.1.cls a v ∈ ex_W) (hx : nx = pc + 3) : ex_Goal l G me d pc L st h r h' := by
  intro p e R s m args below meth c H locs cells slots mc ms ls hB hL hn hM hS hc hs hfr hlo hmc hms
  subst hx
  obtain ⟨h1, h2, h3, h4, h5, h6, h7, h8, h9⟩ := id hB
  refine lv_ldcw h1 h2 h4 (h9.2.2.2.2.1.use hw args) hd ?_
  exact S p e R s m args below meth c H locs cells slots mc ms ls hB hL hn hM hS hc hs hfr hlo hmc hms
theorem ex_iload_n {l : Launch} {G : ex_P} {me : ex_Me} {d pc nx : Nat} {L st : List Value} {h h' : ex_H} {r : ex_R} {k : Fin 4} {a : Nat} {x : Int32} (S : ex_Goal l G me d nx L (.int x :: st) h r h') (hg : L[a]? = some (.int x)) (hd : decode me.2.1 pc = .ok (.iload_n k, 1)) (hk : (k : Nat) = a) (hx : nx = pc + 1) : ex_Goal l G me d pc L st h r h' := by
  intro p e R s m args below meth c H locs cells slots mc ms ls hB hL hn hM hS hc hs hfr hlo hmc hms
  subst hx
  refine lv_iload_n hB.1 hB.2.1 hd hk (hL.get hg rfl) ?_
  exact S p e R s m args below meth c H locs cells slots mc ms ls hB hL hn hM hS hc hs hfr hlo hmc hms
theorem ex_iload {l : Launch} {G : ex_P} {me : ex_Me} {d pc nx : Nat} {L st : List Value} {h h' : ex_H} {r : ex_R} {a : Nat} {x : Int32} (S : ex_Goal l G me d nx L (.int x :: st) h r h') (hg : L[a]? = some (.int x)) (hd : decode me.2.1 pc = .ok (.iload a, 2)) (hx : nx = pc + 2) : ex_Goal l G me d pc L st h r h' := by
  intro p e R s m args below meth c H locs cells slots mc ms ls hB hL hn hM hS hc hs hfr hlo hmc hms
  subst hx
  refine lv_iload hB.1 hB.2.1 hd (hL.get hg rfl) ?_
  exact S p e R s m args below meth c H locs cells slots mc ms ls hB hL hn hM hS hc hs hfr hlo hmc hms
theorem ex_aload_n {l : Launch} {G : ex_P} {me : ex_Me} {d pc nx : Nat} {L st : List Value} {h h' : ex_H} {r : ex_R} {k : Fin 4} {a : Nat} {x : Nat} (S : ex_Goal l G me d nx L (.ref x :: st) h r h') (hg : L[a]? = some (.ref x)) (hd : decode me.2.1 pc = .ok (.aload_n k, 1)) (hk : (k : Nat) = a) (hx : nx = pc + 1) : ex_Goal l G me d pc L st h r h' := by
  intro p e R s m args below meth c H locs cells slots mc ms ls hB hL hn hM hS hc hs hfr hlo hmc hms
  subst hx
  refine lv_aload_n hB.1 hB.2.1 hd hk (hL.get hg rfl) ?_
  exact S p e R s m args below meth c H locs cells slots mc ms ls hB hL hn hM hS hc hs hfr hlo hmc hms
theorem ex_aload {l : Launch} {G : ex_P} {me : ex_Me} {d pc nx : Nat} {L st : List Value} {h h' : ex_H} {r : ex_R} {a : Nat} {x : Nat} (S : ex_Goal l G me d nx L (.ref x :: st) h r h') (hg : L[a]? = some (.ref x)) (hd : decode me.2.1 pc = .ok (.aload a, 2)) (hx : nx = pc + 2) : ex_Goal l G me d pc L st h r h' := by
  intro p e R s m args below meth c H locs cells slots mc ms ls hB hL hn hM hS hc hs hfr hlo hmc hms
  subst hx
  refine lv_aload hB.1 hB.2.1 hd (hL.get hg rfl) ?_
  exact S p e R s m args below meth c H locs cells slots mc ms ls hB hL hn hM hS hc hs hfr hlo hmc hms
theorem ex_istore_n {l : Launch} {G : ex_P} {me : ex_Me} {d pc nx : Nat} {L rr : List Value} {h h' : ex_H} {r : ex_R} {k : Fin 4} {a : Nat} {x : Int32} (S : ex_Goal l G me d nx (L.set a (.int x)) rr h r h') (ha : a < me.2.2.1) (hd : decode me.2.1 pc = .ok (.istore_n k, 1)) (hk : (k : Nat) = a) (hx : nx = pc + 1) : ex_Goal l G me d pc L (.int x :: rr) h r h' := by
  intro p e R s m args below meth c H locs cells slots mc ms ls hB hL hn hM hS hc hs hfr hlo hmc hms
  subst hx
  have hi : a < L.length := by rw [hn]; exact ha
  refine lv_istore_n hB.1 hB.2.1 hd hk (hL.has hn) ha rfl (fun ls' hl' => ?_)
  exact S p e R s m args below meth c H locs cells slots mc ms ls' (hB) (hL.set hn hi rfl hl') (by rw [List.length_set]; exact hn) hM hS hc hs hfr hlo hmc hms
theorem ex_istore {l : Launch} {G : ex_P} {me : ex_Me} {d pc nx : Nat} {L rr : List Value} {h h' : ex_H} {r : ex_R} {a : Nat} {x : Int32} (S : ex_Goal l G me d nx (L.set a (.int x)) rr h r h') (ha : a < me.2.2.1) (hd : decode me.2.1 pc = .ok (.istore a, 2)) (hx : nx = pc + 2) : ex_Goal l G me d pc L (.int x :: rr) h r h' := by
  intro p e R s m args below meth c H locs cells slots mc ms ls hB hL hn hM hS hc hs hfr hlo hmc hms
  subst hx
  have hi : a < L.length := by rw [hn]; exact ha
  refine lv_istore hB.1 hB.2.1 hd (hL.has hn) ha rfl (fun ls' hl' => ?_)
  exact S p e R s m args below meth c H locs cells slots mc ms ls' (hB) (hL.set hn hi rfl hl') (by rw [List.length_set]; exact hn) hM hS hc hs hfr hlo hmc hms
theorem ex_astore_n {l : Launch} {G : ex_P} {me : ex_Me} {d pc nx : Nat} {L rr : List Value} {h h' : ex_H} {r : ex_R} {k : Fin 4} {a : Nat} {x : Nat} (S : ex_Goal l G me d nx (L.set a (.ref x)) rr h r h') (ha : a < me.2.2.1) (hd : decode me.2.1 pc = .ok (.astore_n k, 1)) (hk : (k : Nat) = a) (hx : nx = pc + 1) : ex_Goal l G me d pc L (.ref x :: rr) h r h' := by
  intro p e R s m args below meth c H locs cells slots mc ms ls hB hL hn hM hS hc hs hfr hlo hmc hms
  subst hx
  have hi : a < L.length := by rw [hn]; exact ha
  refine lv_astore_n hB.1 hB.2.1 hd hk (hL.has hn) ha rfl (fun ls' hl' => ?_)
  exact S p e R s m args below meth c H locs cells slots mc ms ls' (hB) (hL.set hn hi rfl hl') (by rw [List.length_set]; exact hn) hM hS hc hs hfr hlo hmc hms
theorem ex_astore {l : Launch} {G : ex_P} {me : ex_Me} {d pc nx : Nat} {L rr : List Value} {h h' : ex_H} {r : ex_R} {a : Nat} {x : Nat} (S : ex_Goal l G me d nx (L.set a (.ref x)) rr h r h') (ha : a < me.2.2.1) (hd : decode me.2.1 pc = .ok (.astore a, 2)) (hx : nx = pc + 2) : ex_Goal l G me d pc L (.ref x :: rr) h r h' := by
  intro p e R s m args below meth c H locs cells slots mc ms ls hB hL hn hM hS hc hs hfr hlo hmc hms
  subst hx
  have hi : a < L.length := by rw [hn]; exact ha
  refine lv_astore hB.1 hB.2.1 hd (hL.has hn) ha rfl (fun ls' hl' => ?_)
  exact S p e R s m args below meth c H locs cells slots mc ms ls' (hB) (hL.set hn hi rfl hl') (by rw [List.length_set]; exact hn) hM hS hc hs hfr hlo hmc hms
theorem ex_iinc {l : Launch} {G : ex_P} {me : ex_Me} {d pc nx : Nat} {L st : List Value} {h h' : ex_H} {r : ex_R} {a : Nat} {x v : Int32} (S : ex_Goal l G me d nx (L.set a (.int (x + v))) st h r h') (hg : L[a]? = some (.int x)) (ha : a < me.2.2.1) (hd : decode me.2.1 pc = .ok (.iinc a v.toInt, 3)) (hx : nx = pc + 3) : ex_Goal l G me d pc L st h r h' := by
  intro p e R s m args below meth c H locs cells slots mc ms ls hB hL hn hM hS hc hs hfr hlo hmc hms
  subst hx
  have hi : a < L.length := by rw [hn]; exact ha
  obtain ⟨kx, hkx⟩ := List.getElem?_of_mem (ex_pr_in (G := G) hg rfl)
  refine lv_iinc (x := x) (v := x + v) hB.1 hB.2.1 hd (hL.has hn) hkx (by rw [Int32.ofInt_toInt]) ha rfl (fun ls' hl' => ?_)
  exact S p e R s m args below meth c H locs cells slots mc ms ls' (hB) (hL.set hn hi rfl hl') (by rw [List.length_set]; exact hn) hM hS hc hs hfr hlo hmc hms
def ex_bi (k : Nat) : Instr := match k with
  | 0 => .iadd
  | 1 => .isub
  | 2 => .imul
  | 3 => .idiv
  | 4 => .irem
  | 5 => .iand
  | 6 => .ior
  | 7 => .ixor
  | 8 => .ishl
  | 9 => .ishr
  | _ => .iushr
theorem ex_binop {l : Launch} {G : ex_P} {me : ex_Me} {d pc nx : Nat} {L rr : List Value} {h h' : ex_H} {r : ex_R} {a : Nat} {x y z : Int32} (S : ex_Goal l G me d nx L (.int z :: rr) h r h') (hz : ex_bin a x y = some z) (hd : decode me.2.1 pc = .ok (ex_bi a, 1)) (hx : nx = pc + 1) : ex_Goal l G me d pc L (.int y :: .int x :: rr) h r h' := by
  intro p e R s m args below meth c H locs cells slots mc ms ls hB hL hn hM hS hc hs hfr hlo hmc hms
  subst hx
  match a, hd, hz with
  | 0, hd, hz =>
    simp [ex_bin] at hz
    subst hz
    exact lv_iadd hB.1 hB.2.1 hd (S p e R s m args below meth c H locs cells slots mc ms ls hB hL hn hM hS hc hs hfr hlo hmc hms)
  | 1, hd, hz =>
    simp [ex_bin] at hz
    subst hz
    exact lv_isub hB.1 hB.2.1 hd (S p e R s m args below meth c H locs cells slots mc ms ls hB hL hn hM hS hc hs hfr hlo hmc hms)
  | 2, hd, hz =>
    simp [ex_bin] at hz
    subst hz
    exact lv_imul hB.1 hB.2.1 hd (S p e R s m args below meth c H locs cells slots mc ms ls hB hL hn hM hS hc hs hfr hlo hmc hms)
  | 3, hd, hz =>
    by_cases hy : y = 0
    · simp [ex_bin, hy] at hz
    · simp [ex_bin, hy] at hz
      subst hz
      exact lv_idiv hB.1 hB.2.1 hd hy (S p e R s m args below meth c H locs cells slots mc ms ls hB hL hn hM hS hc hs hfr hlo hmc hms)
  | 4, hd, hz =>
    by_cases hy : y = 0
    · simp [ex_bin, hy] at hz
    · simp [ex_bin, hy] at hz
      subst hz
      exact lv_irem hB.1 hB.2.1 hd hy (S p e R s m args below meth c H locs cells slots mc ms ls hB hL hn hM hS hc hs hfr hlo hmc hms)
  | 5, hd, hz =>
    simp [ex_bin] at hz
    subst hz
    exact lv_iand hB.1 hB.2.1 hd (S p e R s m args below meth c H locs cells slots mc ms ls hB hL hn hM hS hc hs hfr hlo hmc hms)
  | 6, hd, hz =>
    simp [ex_bin] at hz
    subst hz
    exact lv_ior hB.1 hB.2.1 hd (S p e R s m args below meth c H locs cells slots mc ms ls hB hL hn hM hS hc hs hfr hlo hmc hms)
  | 7, hd, hz =>
    simp [ex_bin] at hz
    subst hz
    exact lv_ixor hB.1 hB.2.1 hd (S p e R s m args below meth c H locs cells slots mc ms ls hB hL hn hM hS hc hs hfr hlo hmc hms)
  | 8, hd, hz =>
    simp [ex_bin] at hz
    subst hz
    exact lv_ishl hB.1 hB.2.1 hd (S p e R s m args below meth c H locs cells slots mc ms ls hB hL hn hM hS hc hs hfr hlo hmc hms)
  | 9, hd, hz =>
    simp [ex_bin] at hz
    subst hz
    exact lv_ishr hB.1 hB.2.1 hd (S p e R s m args below meth c H locs cells slots mc ms ls hB hL hn hM hS hc hs hfr hlo hmc hms)
  | 10, hd, hz =>
    simp [ex_bin] at hz
    subst hz
    exact lv_iushr hB.1 hB.2.1 hd rfl (S p e R s m args below meth c H locs cells slots mc ms ls hB hL hn hM hS hc hs hfr hlo hmc hms)
  | _ + 11, hd, hz => simp [ex_bin] at hz
theorem ex_ineg {l : Launch} {G : ex_P} {me : ex_Me} {d pc nx : Nat} {L rr : List Value} {h h' : ex_H} {r : ex_R} {x : Int32} (S : ex_Goal l G me d nx L (.int (-x) :: rr) h r h') (hd : decode me.2.1 pc = .ok (.ineg, 1)) (hx : nx = pc + 1) : ex_Goal l G me d pc L (.int x :: rr) h r h' := by
  intro p e R s m args below meth c H locs cells slots mc ms ls hB hL hn hM hS hc hs hfr hlo hmc hms
  subst hx
  refine lv_ineg hB.1 hB.2.1 hd ?_
  exact S p e R s m args below meth c H locs cells slots mc ms ls hB hL hn hM hS hc hs hfr hlo hmc hms
theorem ex_if1_eq {l : Launch} {G : ex_P} {me : ex_Me} {d pc nx : Nat} {L rr : List Value} {h h' : ex_H} {r : ex_R} {x : Int32} {b : Nat} {off : Int} (S : ∀ t, t = (if ex_cmp 0 x 0 = true then b else nx) → ex_Goal l G me d t L rr h r h') (hd : decode me.2.1 pc = .ok (.ifCond .eq off, 3)) (ht : (pc : Int) + off = (b : Int)) (hx : nx = pc + 3) : ex_Goal l G me d pc L (.int x :: rr) h r h' := by
  intro p e R s m args below meth c H locs cells slots mc ms ls hB hL hn hM hS hc hs hfr hlo hmc hms
  subst hx
  refine lv_if_eq hB.1 hB.2.1 hd ht (fun q => ?_) (fun q => ?_)
  · exact S b (by simp [ex_cmp, q]) p e R s m args below meth c H locs cells slots mc ms ls hB hL hn hM hS hc hs hfr hlo hmc hms
  · exact S (pc + 3) (by simp [ex_cmp, q]) p e R s m args below meth c H locs cells slots mc ms ls hB hL hn hM hS hc hs hfr hlo hmc hms
theorem ex_if1_ne {l : Launch} {G : ex_P} {me : ex_Me} {d pc nx : Nat} {L rr : List Value} {h h' : ex_H} {r : ex_R} {x : Int32} {b : Nat} {off : Int} (S : ∀ t, t = (if ex_cmp 1 x 0 = true then b else nx) → ex_Goal l G me d t L rr h r h') (hd : decode me.2.1 pc = .ok (.ifCond .ne off, 3)) (ht : (pc : Int) + off = (b : Int)) (hx : nx = pc + 3) : ex_Goal l G me d pc L (.int x :: rr) h r h' := by
  intro p e R s m args below meth c H locs cells slots mc ms ls hB hL hn hM hS hc hs hfr hlo hmc hms
  subst hx
  refine lv_if_ne hB.1 hB.2.1 hd ht (fun q => ?_) (fun q => ?_)
  · exact S b (by simp [ex_cmp, q]) p e R s m args below meth c H locs cells slots mc ms ls hB hL hn hM hS hc hs hfr hlo hmc hms
  · exact S (pc + 3) (by simp [ex_cmp, q]) p e R s m args below meth c H locs cells slots mc ms ls hB hL hn hM hS hc hs hfr hlo hmc hms
theorem ex_if1_lt {l : Launch} {G : ex_P} {me : ex_Me} {d pc nx : Nat} {L rr : List Value} {h h' : ex_H} {r : ex_R} {x : Int32} {b : Nat} {off : Int} (S : ∀ t, t = (if ex_cmp 2 x 0 = true then b else nx) → ex_Goal l G me d t L rr h r h') (hd : decode me.2.1 pc = .ok (.ifCond .lt off, 3)) (ht : (pc : Int) + off = (b : Int)) (hx : nx = pc + 3) : ex_Goal l G me d pc L (.int x :: rr) h r h' := by
  intro p e R s m args below meth c H locs cells slots mc ms ls hB hL hn hM hS hc hs hfr hlo hmc hms
  subst hx
  refine lv_if_lt hB.1 hB.2.1 hd ht (fun q => ?_) (fun q => ?_)
  · exact S b (by simp [ex_cmp, q]) p e R s m args below meth c H locs cells slots mc ms ls hB hL hn hM hS hc hs hfr hlo hmc hms
  · exact S (pc + 3) (by simp [ex_cmp, q]) p e R s m args below meth c H locs cells slots mc ms ls hB hL hn hM hS hc hs hfr hlo hmc hms
theorem ex_if1_ge {l : Launch} {G : ex_P} {me : ex_Me} {d pc nx : Nat} {L rr : List Value} {h h' : ex_H} {r : ex_R} {x : Int32} {b : Nat} {off : Int} (S : ∀ t, t = (if ex_cmp 3 x 0 = true then b else nx) → ex_Goal l G me d t L rr h r h') (hd : decode me.2.1 pc = .ok (.ifCond .ge off, 3)) (ht : (pc : Int) + off = (b : Int)) (hx : nx = pc + 3) : ex_Goal l G me d pc L (.int x :: rr) h r h' := by
  intro p e R s m args below meth c H locs cells slots mc ms ls hB hL hn hM hS hc hs hfr hlo hmc hms
  subst hx
  refine lv_if_ge hB.1 hB.2.1 hd ht (fun q => ?_) (fun q => ?_)
  · exact S b (by simp [ex_cmp, q]) p e R s m args below meth c H locs cells slots mc ms ls hB hL hn hM hS hc hs hfr hlo hmc hms
  · exact S (pc + 3) (by simp [ex_cmp, q]) p e R s m args below meth c H locs cells slots mc ms ls hB hL hn hM hS hc hs hfr hlo hmc hms
theorem ex_if1_gt {l : Launch} {G : ex_P} {me : ex_Me} {d pc nx : Nat} {L rr : List Value} {h h' : ex_H} {r : ex_R} {x : Int32} {b : Nat} {off : Int} (S : ∀ t, t = (if ex_cmp 4 x 0 = true then b else nx) → ex_Goal l G me d t L rr h r h') (hd : decode me.2.1 pc = .ok (.ifCond .gt off, 3)) (ht : (pc : Int) + off = (b : Int)) (hx : nx = pc + 3) : ex_Goal l G me d pc L (.int x :: rr) h r h' := by
  intro p e R s m args below meth c H locs cells slots mc ms ls hB hL hn hM hS hc hs hfr hlo hmc hms
  subst hx
  refine lv_if_gt hB.1 hB.2.1 hd ht (fun q => ?_) (fun q => ?_)
  · exact S b (by simp [ex_cmp, q]) p e R s m args below meth c H locs cells slots mc ms ls hB hL hn hM hS hc hs hfr hlo hmc hms
  · exact S (pc + 3) (by simp [ex_cmp, q]) p e R s m args below meth c H locs cells slots mc ms ls hB hL hn hM hS hc hs hfr hlo hmc hms
theorem ex_if1_le {l : Launch} {G : ex_P} {me : ex_Me} {d pc nx : Nat} {L rr : List Value} {h h' : ex_H} {r : ex_R} {x : Int32} {b : Nat} {off : Int} (S : ∀ t, t = (if ex_cmp 5 x 0 = true then b else nx) → ex_Goal l G me d t L rr h r h') (hd : decode me.2.1 pc = .ok (.ifCond .le off, 3)) (ht : (pc : Int) + off = (b : Int)) (hx : nx = pc + 3) : ex_Goal l G me d pc L (.int x :: rr) h r h' := by
  intro p e R s m args below meth c H locs cells slots mc ms ls hB hL hn hM hS hc hs hfr hlo hmc hms
  subst hx
  refine lv_if_le hB.1 hB.2.1 hd ht (fun q => ?_) (fun q => ?_)
  · exact S b (by simp [ex_cmp, q]) p e R s m args below meth c H locs cells slots mc ms ls hB hL hn hM hS hc hs hfr hlo hmc hms
  · exact S (pc + 3) (by simp [ex_cmp, q]) p e R s m args below meth c H locs cells slots mc ms ls hB hL hn hM hS hc hs hfr hlo hmc hms
theorem ex_if2_eq {l : Launch} {G : ex_P} {me : ex_Me} {d pc nx : Nat} {L rr : List Value} {h h' : ex_H} {r : ex_R} {x y : Int32} {b : Nat} {off : Int} (S : ∀ t, t = (if ex_cmp 0 x y = true then b else nx) → ex_Goal l G me d t L rr h r h') (hd : decode me.2.1 pc = .ok (.if_icmp .eq off, 3)) (ht : (pc : Int) + off = (b : Int)) (hx : nx = pc + 3) : ex_Goal l G me d pc L (.int y :: .int x :: rr) h r h' := by
  intro p e R s m args below meth c H locs cells slots mc ms ls hB hL hn hM hS hc hs hfr hlo hmc hms
  subst hx
  refine lv_icmp_eq hB.1 hB.2.1 hd ht (fun q => ?_) (fun q => ?_)
  · exact S b (by simp [ex_cmp, q]) p e R s m args below meth c H locs cells slots mc ms ls hB hL hn hM hS hc hs hfr hlo hmc hms
  · exact S (pc + 3) (by simp [ex_cmp, q]) p e R s m args below meth c H locs cells slots mc ms ls hB hL hn hM hS hc hs hfr hlo hmc hms
theorem ex_if2_ne {l : Launch} {G : ex_P} {me : ex_Me} {d pc nx : Nat} {L rr : List Value} {h h' : ex_H} {r : ex_R} {x y : Int32} {b : Nat} {off : Int} (S : ∀ t, t = (if ex_cmp 1 x y = true then b else nx) → ex_Goal l G me d t L rr h r h') (hd : decode me.2.1 pc = .ok (.if_icmp .ne off, 3)) (ht : (pc : Int) + off = (b : Int)) (hx : nx = pc + 3) : ex_Goal l G me d pc L (.int y :: .int x :: rr) h r h' := by
  intro p e R s m args below meth c H locs cells slots mc ms ls hB hL hn hM hS hc hs hfr hlo hmc hms
  subst hx
  refine lv_icmp_ne hB.1 hB.2.1 hd ht (fun q => ?_) (fun q => ?_)
  · exact S b (by simp [ex_cmp, q]) p e R s m args below meth c H locs cells slots mc ms ls hB hL hn hM hS hc hs hfr hlo hmc hms
  · exact S (pc + 3) (by simp [ex_cmp, q]) p e R s m args below meth c H locs cells slots mc ms ls hB hL hn hM hS hc hs hfr hlo hmc hms
theorem ex_if2_lt {l : Launch} {G : ex_P} {me : ex_Me} {d pc nx : Nat} {L rr : List Value} {h h' : ex_H} {r : ex_R} {x y : Int32} {b : Nat} {off : Int} (S : ∀ t, t = (if ex_cmp 2 x y = true then b else nx) → ex_Goal l G me d t L rr h r h') (hd : decode me.2.1 pc = .ok (.if_icmp .lt off, 3)) (ht : (pc : Int) + off = (b : Int)) (hx : nx = pc + 3) : ex_Goal l G me d pc L (.int y :: .int x :: rr) h r h' := by
  intro p e R s m args below meth c H locs cells slots mc ms ls hB hL hn hM hS hc hs hfr hlo hmc hms
  subst hx
  refine lv_icmp_lt hB.1 hB.2.1 hd ht (fun q => ?_) (fun q => ?_)
  · exact S b (by simp [ex_cmp, q]) p e R s m args below meth c H locs cells slots mc ms ls hB hL hn hM hS hc hs hfr hlo hmc hms
  · exact S (pc + 3) (by simp [ex_cmp, q]) p e R s m args below meth c H locs cells slots mc ms ls hB hL hn hM hS hc hs hfr hlo hmc hms
theorem ex_if2_ge {l : Launch} {G : ex_P} {me : ex_Me} {d pc nx : Nat} {L rr : List Value} {h h' : ex_H} {r : ex_R} {x y : Int32} {b : Nat} {off : Int} (S : ∀ t, t = (if ex_cmp 3 x y = true then b else nx) → ex_Goal l G me d t L rr h r h') (hd : decode me.2.1 pc = .ok (.if_icmp .ge off, 3)) (ht : (pc : Int) + off = (b : Int)) (hx : nx = pc + 3) : ex_Goal l G me d pc L (.int y :: .int x :: rr) h r h' := by
  intro p e R s m args below meth c H locs cells slots mc ms ls hB hL hn hM hS hc hs hfr hlo hmc hms
  subst hx
  refine lv_icmp_ge hB.1 hB.2.1 hd ht (fun q => ?_) (fun q => ?_)
  · exact S b (by simp [ex_cmp, q]) p e R s m args below meth c H locs cells slots mc ms ls hB hL hn hM hS hc hs hfr hlo hmc hms
  · exact S (pc + 3) (by simp [ex_cmp, q]) p e R s m args below meth c H locs cells slots mc ms ls hB hL hn hM hS hc hs hfr hlo hmc hms
theorem ex_if2_gt {l : Launch} {G : ex_P} {me : ex_Me} {d pc nx : Nat} {L rr : List Value} {h h' : ex_H} {r : ex_R} {x y : Int32} {b : Nat} {off : Int} (S : ∀ t, t = (if ex_cmp 4 x y = true then b else nx) → ex_Goal l G me d t L rr h r h') (hd : decode me.2.1 pc = .ok (.if_icmp .gt off, 3)) (ht : (pc : Int) + off = (b : Int)) (hx : nx = pc + 3) : ex_Goal l G me d pc L (.int y :: .int x :: rr) h r h' := by
  intro p e R s m args below meth c H locs cells slots mc ms ls hB hL hn hM hS hc hs hfr hlo hmc hms
  subst hx
  refine lv_icmp_gt hB.1 hB.2.1 hd ht (fun q => ?_) (fun q => ?_)
  · exact S b (by simp [ex_cmp, q]) p e R s m args below meth c H locs cells slots mc ms ls hB hL hn hM hS hc hs hfr hlo hmc hms
  · exact S (pc + 3) (by simp [ex_cmp, q]) p e R s m args below meth c H locs cells slots mc ms ls hB hL hn hM hS hc hs hfr hlo hmc hms
theorem ex_if2_le {l : Launch} {G : ex_P} {me : ex_Me} {d pc nx : Nat} {L rr : List Value} {h h' : ex_H} {r : ex_R} {x y : Int32} {b : Nat} {off : Int} (S : ∀ t, t = (if ex_cmp 5 x y = true then b else nx) → ex_Goal l G me d t L rr h r h') (hd : decode me.2.1 pc = .ok (.if_icmp .le off, 3)) (ht : (pc : Int) + off = (b : Int)) (hx : nx = pc + 3) : ex_Goal l G me d pc L (.int y :: .int x :: rr) h r h' := by
  intro p e R s m args below meth c H locs cells slots mc ms ls hB hL hn hM hS hc hs hfr hlo hmc hms
  subst hx
  refine lv_icmp_le hB.1 hB.2.1 hd ht (fun q => ?_) (fun q => ?_)
  · exact S b (by simp [ex_cmp, q]) p e R s m args below meth c H locs cells slots mc ms ls hB hL hn hM hS hc hs hfr hlo hmc hms
  · exact S (pc + 3) (by simp [ex_cmp, q]) p e R s m args below meth c H locs cells slots mc ms ls hB hL hn hM hS hc hs hfr hlo hmc hms
theorem ex_goto {l : Launch} {G : ex_P} {me : ex_Me} {d pc nx : Nat} {L st : List Value} {h h' : ex_H} {r : ex_R} {b : Nat} {off : Int} (S : ex_Goal l G me d b L st h r h') (hd : decode me.2.1 pc = .ok (.goto off, 3)) (ht : (pc : Int) + off = (b : Int)) : ex_Goal l G me d pc L st h r h' := by
  intro p e R s m args below meth c H locs cells slots mc ms ls hB hL hn hM hS hc hs hfr hlo hmc hms
  refine lv_goto hB.1 hB.2.1 hd ht ?_
  exact S p e R s m args below meth c H locs cells slots mc ms ls hB hL hn hM hS hc hs hfr hlo hmc hms
