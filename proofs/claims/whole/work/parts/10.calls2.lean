theorem ex_split {me : ex_Me} {c : Code} (h8 : c.exceptionTable.toList.map (fun x => (x.startPc, x.endPc, x.handlerPc, x.catchType)) = me.2.2.2.2) {pre suf : List (Nat × Nat × Nat × Nat)} {x : Nat × Nat × Nat × Nat} (h : me.2.2.2.2 = pre ++ x :: suf) :
    ∃ (pre' suf' : List ExceptionTableEntry) (x' : ExceptionTableEntry), c.exceptionTable.toList = pre' ++ x' :: suf' ∧ pre'.map (fun x => (x.startPc, x.endPc, x.handlerPc, x.catchType)) = pre ∧ (x'.startPc, x'.endPc, x'.handlerPc, x'.catchType) = x := by
  rw [h] at h8
  obtain ⟨l1, l2, e1, e2, e3⟩ := List.map_eq_append_iff.mp h8
  obtain ⟨y, l3, e4, e5, e6⟩ := List.map_eq_cons_iff.mp e3
  exact ⟨l1, l3, y, by rw [e1, e4], e2, e5⟩
theorem ex_keep {G : ex_P} {H : Heap} {H0 : Heap} {locs L : List Loc} {st₀ t T' : State} (h0 : st₀.heap = H) (e1 : T'.heap = t.heap) (hS : va_S (ex_A G) H0 H locs) (hL : ∀ q ∈ L, ex_A G q.base) (hF : va_F (ex_A G) st₀ t) : va_S (ex_A G) H0 T'.heap (locs ++ L) :=
  (vx_keep (H := H) (A1 := ex_A G) (free := ex_A G) h0 e1 hS (fun _ _ h => h) (fun _ h => h) hL hF).2.2
section EXA
variable {l : Launch} {G : ex_P} {me : ex_Me} {d pc nx : Nat} {L rr : List Value} {h h1 h' : ex_H} {q r : ex_R} {st0 : List Value} {tl : List Nat} {a0 : Array Value} {p : Program} {e : Env} {R : Room} {s : State} {m : MethodId} {args : Array Value} {below : List Frame} {meth : Method} {c : Code} {H : Heap} {locs : List Loc} {cells slots mc ms : Nat} {ls : Array Slot}
/-- behind a call: what the evaluator says -/
theorem ex_after (hr : vx_Run p l e R s m args below meth c H locs cells slots (h1.1.2.1 - h.1.2.1) (h1.1.2.2 - h.1.2.2) (F0 m pc ls st0) (rr.map (ex_z G)) (ex_Q G q h1 a0) (ex_X G q h1) (ex_A G)) (hx : nx = pc + 3) (hmo : h.1.2.1 ≤ h1.1.2.1 ∧ h.1.2.2 ≤ h1.1.2.2) (hmo2 : h1.1.2.1 ≤ h'.1.2.1 ∧ h1.1.2.2 ≤ h'.1.2.2)
    (Sv : q = .inl none → ex_Goal l G me d nx L rr h1 r h') (Sw : ∀ w, q = .inl (some w) → ex_Goal l G me d nx L (w :: rr) h1 r h') (Sx : ∀ k, q = .inr k → ∃ t i, ex_Hd me pc k t i ∧ ex_Goal l G me d t (L.set i .null) [] h1 r h')
    (hB : ex_B G me p s m meth c) (hL : ex_L G ls L) (hn : L.length = me.2.2.1) (hS : va_S (ex_A G) s.heap H locs) (hc : cells + h'.1.2.1 ≤ mc + h.1.2.1) (hs : slots + h'.1.2.2 ≤ ms + h.1.2.2) (hfr : d ≤ R.frames) (hlo : d * 64 + 64 ≤ R.locals) (hmc : mc ≤ R.cells) (hms : ms ≤ R.slots) :
    W p l e R s m args below meth c H locs cells slots (vx_MQ below (ex_Q G r h') (ex_X G r h') args s mc ms (ex_A G)) (F0 m pc ls st0) := by
  intro T hT X
  rcases hr T hT X with ⟨v, st₀, t, T', L', h0, X', hL', e1, e2, ⟨⟨v', hq, hv⟩, hM1, hF⟩, st⟩ | ⟨q9, st₀, t, T', L', E, ce, h0, X', hL', e1, e2, ⟨⟨k, hq, hE⟩, hM1, hF⟩, hce, hcv, hcl, st⟩
  · cases hv
    subst hq
    have hS1 := ex_keep h0 e1 hS hL' hF
    rw [← e1] at hM1
    cases v' with
    | none =>
      obtain ⟨t2, a1, b1⟩ := Sv rfl p e R s m args below meth c T'.heap (locs ++ L') _ _ mc ms ls hB hL hn hM1 hS1 (by omega) (by omega) hfr hlo hmc hms T' rfl X'
      subst hx
      exact ⟨t2, st t2 a1, b1⟩
    | some w =>
      obtain ⟨t2, a1, b1⟩ := Sw w rfl p e R s m args below meth c T'.heap (locs ++ L') _ _ mc ms ls hB hL hn hM1 hS1 (by omega) (by omega) hfr hlo hmc hms T' rfl X'
      subst hx
      exact ⟨t2, st t2 a1, b1⟩
  · subst hq
    subst hE
    have hS1 := ex_keep h0 e1 hS hL' hF
    rw [← e1] at hM1 hce
    obtain ⟨t2, i, ⟨hk, hi, pre, suf, x, hsp, c1, c2, c3, w1, w2, hpre, hds⟩, Sg⟩ := Sx k rfl
    obtain ⟨b1, b2, b3, b4, b5, b6, b7, b8, b9⟩ := id hB
    have hws := b9.2.2.2.2.1
    obtain ⟨pre', suf', x', s1, s2, s3⟩ := ex_split b8 hsp
    subst s3
    have hiL : i < L.length := by rw [hn]; exact hi
    have K : vx_W p l e R s m args below meth c T'.heap (locs ++ L') (cells + (h1.1.2.1 - h.1.2.1)) (slots + (h1.1.2.2 - h.1.2.2)) (vx_MQ below (ex_Q G r h') (ex_X G r h') args s mc ms (ex_A G)) (F0 m pc ls (rr.map (ex_z G))) q9 := by
      refine vx_catch b4 pre' x' suf' s1 (fun z hz => ?_) ?_ c3 (hws.use w1 args) (hws.use w2 args) hce hcv hcl ?_
      · have hz2 := List.mem_map_of_mem (f := fun x : ExceptionTableEntry => (x.startPc, x.endPc, x.handlerPc, x.catchType)) hz
        rw [s2] at hz2
        obtain ⟨z0, j, hj, hkj, w3⟩ := hpre _ hz2
        exact Or.inr ⟨z0, _, hws.use w3 args, b9.2.2.2.2.2.2.2.2.2.1 k j hk hj hkj⟩
      · simp only [covers]
        simp [c1, c2]
      · rcases hds with ⟨f, hf, hd, ht⟩ | ⟨hd, ht⟩
        · refine lv_astore_n b1 b2 hd hf (hL.has hn) hi rfl (fun ls' hl' => ?_)
          subst ht
          exact Sg p e R s m args below meth c T'.heap (locs ++ L') _ _ mc ms ls' hB (hL.drop hn hiL hl') (by rw [List.length_set]; exact hn) hM1 hS1 (by omega) (by omega) hfr hlo hmc hms
        · refine lv_astore b1 b2 hd (hL.has hn) hi rfl (fun ls' hl' => ?_)
          subst ht
          exact Sg p e R s m args below meth c T'.heap (locs ++ L') _ _ mc ms ls' hB (hL.drop hn hiL hl') (by rw [List.length_set]; exact hn) hM1 hS1 (by omega) (by omega) hfr hlo hmc hms
    obtain ⟨t3, a1, b1⟩ := K T' rfl X'
    exact ⟨t3, st.trans a1, b1⟩
end EXA
