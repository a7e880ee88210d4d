/-! CALLS: a callee's contract out of the evaluator, and what comes behind it -/
theorem ex_one_cat {v : Value} (h : ex_one v = true) : v.category = 1 := by
  cases v <;> first | rfl | (simp [ex_one] at h)
theorem ex_sl (G : ex_P) : ∀ vs : List Value, vs.all ex_one = true → lg_sl (vs.map (ex_z G)) = (vs.map (ex_z G)).map Slot.val
  | [], _ => rfl
  | v :: r, h => by
    simp only [List.all_cons, Bool.and_eq_true] at h
    have h2 := ex_sl G r h.2
    unfold lg_sl at h2 ⊢
    simp only [List.map_cons, List.flatMap_cons, h2, ex_z_cat (G := G) h.1]
    rfl
theorem ex_args_in (G : ex_P) : ∀ (vs : List Value) (k : Nat), vs.all ex_one = true → ∀ (i : Nat) (v : Value), vs[i]? = some v → (k + i, ex_z G v) ∈ lv_args k (vs.map (ex_z G))
  | [], _, _, i, v, hv => by simp at hv
  | w :: r, k, h, 0, v, hv => by
    simp at hv
    subst hv
    exact List.mem_cons_self
  | w :: r, k, h, i + 1, v, hv => by
    simp only [List.all_cons, Bool.and_eq_true] at h
    simp only [List.getElem?_cons_succ] at hv
    have h2 := ex_args_in G r (k + 1) h.2 i v hv
    simp only [List.map_cons, lv_args, ex_z_cat (G := G) h.1]
    rw [show k + (i + 1) = k + 1 + i by omega]
    exact List.mem_cons_of_mem _ h2
theorem ex_entry {G : ex_P} {vs : List Value} {n : Nat} (h : vs.all ex_one = true) (hn : vs.length ≤ n) : ex_L G ((lg_sl (vs.map (ex_z G)) ++ List.replicate (n - (lg_sl (vs.map (ex_z G))).length) Slot.unset).toArray) (ex_pad n vs) := by
  have hl : (lg_sl (vs.map (ex_z G))).length = vs.length := by rw [ex_sl G vs h]; simp
  have h0 := lv_entry (vs.map (ex_z G)) (n := n) (by rw [hl]; exact hn)
  refine ⟨?_, h0.2.1, fun v hv => ?_, fun i v hv h1 => ?_⟩
  · rw [h0.1]; simp [ex_pad]; omega
  · rcases List.mem_append.mp hv with g | g
    · exact ex_one_cat (List.all_eq_true.mp h v g)
    · rw [(List.mem_replicate.mp g).2]; rfl
  · by_cases hi : i < vs.length
    · unfold ex_pad at hv
      rw [List.getElem?_append_left hi] at hv
      have q := ex_args_in G vs 0 h i v hv
      rw [Nat.zero_add] at q
      exact h0.2.2 _ q
    · unfold ex_pad at hv
      rw [List.getElem?_append_right (by omega)] at hv
      have := (List.mem_replicate.mp (List.mem_of_getElem? hv)).2
      rw [this] at h1
      simp [ex_one] at h1
theorem ex_pad_len {vs : List Value} {n : Nat} (hn : vs.length ≤ n) : (ex_pad n vs).length = n := by simp [ex_pad]; omega
abbrev ex_Pc (G : ex_P) (vs : List Value) (h : ex_H) : Array Value → State → Prop := va_Pc (vs.map (ex_z G)) (fun U => ex_G G U ∧ ex_M G h U.heap)
abbrev ex_rm (d : Nat) (h h1 : ex_H) : Room := { frames := d, cells := h1.1.2.1 - h.1.2.1, slots := h1.1.2.2 - h.1.2.2, locals := d * 64 + 64 }
theorem ex_blind {G : ex_P} {vs : List Value} {h : ex_H} : FrameBlind (ex_Pc G vs h) := by
  intro a U g mk hp
  obtain ⟨h1, h2, h3⟩ := hp
  exact ⟨h1, ex_G.moved (U := U.calling g mk a) (State.WarmedH.refl U) (fun q _ _ => rfl) h2.2.2.2.1 h2, h3⟩
theorem ex_pre {G : ex_P} {vs : List Value} {h : ex_H} {s : State} {H : Heap} {locs : List Loc} (hG : ex_G G s) (hM : ex_M G h H) (hS : va_S (ex_A G) s.heap H locs) : ∀ U : State, U.heap = H → s.WarmedH U.vm → ex_Pc G vs h (vs.map (ex_z G)).toArray U := by
  intro U hU hW
  refine ⟨rfl, ex_G.moved hW (fun q h1 h2 => by rw [hU]; exact hS.2.1 q h1 h2) ?_ hG, by rw [hU]; exact hM⟩
  rw [hU]
  exact Nat.le_trans hG.2.2.2.1 hS.1
theorem vx_ofWF {l : Launch} {y : MethodName} {ws ws' : List Cond} {rm : Room} {Pc : Array Value → State → Prop} {Qc : Array Value → State → Outcome → State → Prop} {XC : String → State → State → Prop} {mc ms : Nat} {free : Addr → Prop} {cc : ByteArray} {maxL : Nat} {ret : Option FieldType}
    (hy : plainFor y = true) (hw : ws = Cond.code y cc maxL ret :: ws')
    (body : ∀ p e s m args below meth c s₁, BodyLoose p l y (headSpec ws rm) cc maxL ret e s m args below meth c s₁ → c.maxLocals = maxL → (∀ x ∈ c.exceptionTable.toList, False) → Pc args s →
      W p l e (headSpec ws rm).room s m args below meth c s.heap [] 0 0 (vx_MQ below Qc XC args s mc ms free) (entryFrame m args maxL)) : vx_Met l y ws rm Pc Qc XC mc ms free := by
  refine MetFree.of_bodySF (code := cc) (maxLocals := maxL) (ret := ret) hy ?_ ?_
  · intro args s m h hn
    obtain ⟨meth, c, h1, h2, h3, h4, h5, h6, -, -⟩ := Cond.code_spec hn (atoms_spec (ws := ws) h _ (by rw [hw]; exact List.mem_cons_self))
    exact ⟨meth, c, h1, h2, h3, h4, h5, h6⟩
  · intro p e s m args below meth c s₁ B hml hP _
    have hh0 : s₁.heap = s.heap := by rw [B.state]; rfl
    have ht : ∀ x ∈ c.exceptionTable.toList, False := by
      obtain ⟨meth9, c9, h1, h2, -, -, -, -, h7, -⟩ := Cond.code_spec B.named (atoms_spec (ws := ws) B.pre _ (by rw [hw]; exact List.mem_cons_self))
      cases Option.some.inj (h1.symm.trans B.method)
      cases Option.some.inj (h2.symm.trans (Stand.of_body B).code)
      intro x hx
      rw [Array.isEmpty_iff.mp h7] at hx
      cases hx
    obtain ⟨t, a1, o, b1, b2, b3⟩ := body p e s m args below meth c s₁ B hml ht hP s₁ hh0 (Stand.of_body B)
    exact ⟨t, o, a1, b1, b2, b3⟩
/-- a method without handlers -/
theorem ex_met {l : Launch} {G : ex_P} {me : ex_Me} {d : Nat} {vs : List Value} {h h1 : ex_H} {r : ex_R} (S : ex_Goal l G me d 0 (ex_pad me.2.2.1 vs) [] h r h1) (hh : me.2.2.2.2 = []) (hy : plainFor me.1 = true) (h1' : vs.all ex_one = true) (hn : vs.length ≤ me.2.2.1) (hmo : h.1.2.1 ≤ h1.1.2.1 ∧ h.1.2.2 ≤ h1.1.2.2) :
    vx_Met l me.1 [.code me.1 me.2.1 me.2.2.1 me.2.2.2.1] (ex_rm d h h1) (ex_Pc G vs h) (ex_Q G r h1) (ex_X G r h1) (h1.1.2.1 - h.1.2.1) (h1.1.2.2 - h.1.2.2) (ex_A G) := by
  refine vx_ofWF (cc := me.2.1) (maxL := me.2.2.1) (ret := me.2.2.2.1) hy rfl ?_
  intro p e s m args below meth c s₁ B hml htab hv
  obtain ⟨rfl, hG, hMh⟩ := hv
  rw [lg_entry_eq]
  refine S p e _ s m _ below meth c s.heap [] 0 0 _ _ _ ⟨B.exec, B.bytes, hml, findClass_of_methodNamed B.named, B.notSynchronized, B.returns, (name_of_methodNamed B.named B.method).1, ?_, hG⟩ (ex_entry h1' hn) (ex_pad_len hn) hMh va_S.rf (by omega) (by omega) (Nat.le_refl _) (Nat.le_refl _) (Nat.le_refl _) (Nat.le_refl _)
  rw [hh, show c.exceptionTable.toList = [] from List.eq_nil_iff_forall_not_mem.mpr (fun x hx => htab x hx)]
  rfl
/-- a method with handlers -/
theorem ex_metH {l : Launch} {G : ex_P} {me : ex_Me} {d : Nat} {vs : List Value} {h h1 : ex_H} {r : ex_R} (S : ex_Goal l G me d 0 (ex_pad me.2.2.1 vs) [] h r h1) (hy : plainName me.1.cls = true) (h1' : vs.all ex_one = true) (hn : vs.length ≤ me.2.2.1) (hmo : h.1.2.1 ≤ h1.1.2.1 ∧ h.1.2.2 ≤ h1.1.2.2) :
    vx_Met l me.1 [.codeWith me.1 me.2.1 me.2.2.1 me.2.2.2.1 me.2.2.2.2] (ex_rm d h h1) (ex_Pc G vs h) (ex_Q G r h1) (ex_X G r h1) (h1.1.2.1 - h.1.2.1) (h1.1.2.2 - h.1.2.2) (ex_A G) := by
  refine vx_ofWH (cc := me.2.1) (maxL := me.2.2.1) (ret := me.2.2.2.1) hy rfl ?_
  intro p e s m args below meth c s₁ B hml hv
  obtain ⟨rfl, hG, hMh⟩ := hv
  rw [lg_entry_eq]
  refine S p e _ s m _ below meth c s.heap [] 0 0 _ _ _ ⟨B.exec, B.bytes, hml, findClass_of_methodNamed B.named, B.notSynchronized, B.returns, (name_of_methodNamed B.named B.method).1, ?_, hG⟩ (ex_entry h1' hn) (ex_pad_len hn) hMh va_S.rf (by omega) (by omega) (Nat.le_refl _) (Nat.le_refl _) (Nat.le_refl _) (Nat.le_refl _)
  obtain ⟨m9, meth9, c9, hn9, g1, g2, -, -, g6, -⟩ := Cond.codeWith_spec (atoms_spec (ws := [.codeWith me.1 me.2.1 me.2.2.1 me.2.2.2.1 me.2.2.2.2]) B.pre _ List.mem_cons_self)
  cases Option.some.inj (hn9.symm.trans B.named)
  cases Option.some.inj (g1.symm.trans B.method)
  cases Option.some.inj (g2.symm.trans (Stand.of_body B).code)
  exact g6
theorem ex_L.drop {G : ex_P} {ls ls' : Array Slot} {L : List Value} {i n : Nat} {w : Value} (h : ex_L G ls L) (hn : L.length = n) (hi : i < L.length)
    (h' : lv_has ls' n ((i, w) :: (ex_pr G L).filter (fun q => !(q.1 == i) && !(q.1 + 1 == i && q.2.category == 2)))) : ex_L G ls' (L.set i .null) := by
  refine ⟨by rw [List.length_set]; exact h'.1.trans hn.symm, h'.2.1, fun w hw => ?_, fun j w hj hw => ?_⟩
  · rcases List.mem_or_eq_of_mem_set hw with g | g
    · exact h.2.2.1 w g
    · rw [g]; rfl
  · by_cases e : i = j
    · subst e
      rw [List.getElem?_set_self hi] at hj
      cases hj
      simp [ex_one] at hw
    · rw [List.getElem?_set_ne e] at hj
      refine h'.2.2 (j, ex_z G w) (List.mem_cons_of_mem _ (List.mem_filter.mpr ⟨ex_pr_in hj hw, ?_⟩))
      have hc := ex_z_cat (G := G) hw
      simp [hc, Ne.symm e]
/-- a handler k of this method at pc: behind its astore of i it goes on at t -/
def ex_Hd (me : ex_Me) (pc k t i : Nat) : Prop := k < 5 ∧ i < me.2.2.1 ∧ ∃ (pre suf : List (Nat × Nat × Nat × Nat)) (x : Nat × Nat × Nat × Nat), me.2.2.2.2 = pre ++ x :: suf ∧ x.1 ≤ pc ∧ pc < x.2.1 ∧ x.2.2.2 ≠ 0 ∧ Cond.classLink me.1.cls x.2.2.2 (ex_nm k) ∈ ex_W ∧ Cond.castable (ex_nm k) (ex_nm k) ∈ ex_W ∧
  (∀ z ∈ pre, z.2.2.2 ≠ 0 ∧ ∃ j, j < 5 ∧ k ≠ j ∧ Cond.classLink me.1.cls z.2.2.2 (ex_nm j) ∈ ex_W) ∧ ((∃ f : Fin 4, (f : Nat) = i ∧ decode me.2.1 x.2.2.1 = .ok (.astore_n f, 1) ∧ t = x.2.2.1 + 1) ∨ (decode me.2.1 x.2.2.1 = .ok (.astore i, 2) ∧ t = x.2.2.1 + 2))
