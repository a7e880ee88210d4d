/-! A THROW of a new one, and what the evaluator's counts say -/
theorem ex_M.kept {G : ex_P} {h : ex_H} {H H1 : Heap} (hM : ex_M G h H) (ho : ∀ q : Nat, q < H.size → H1[q]? = H[q]?) : ex_M G (ex_thr h) H1 := by
  refine ⟨fun e => by simp [ex_thr] at e, fun k c hk hk0 => ?_, hM.2.2.1, hM.2.2.2⟩
  obtain ⟨g1, g2⟩ := hM.2.1 k c hk hk0
  exact ⟨g1, g2.kept (ho _ g2.lt)⟩
abbrev ex_sup : List String := ["java/lang/RuntimeException", "java/lang/Exception"]
theorem ex_throw {l : Launch} {G : ex_P} {me : ex_Me} {d pc k ik ic : Nat} {L st : List Value} {h : ex_H} (hst : l.stackTraces = false) (hd8 : ¬ d < 8) (hwd : ¬ 8 < ex_wd st) (hh : me.2.2.2.2 = []) (hfit : Bundle.fit (ex_nm k) = true) (hnm : ∀ n ∈ ex_sup, Bundle.fit n = true) (w1 : Cond.classLink me.1.cls ik (ex_nm k) ∈ ex_W) (w2 : Cond.initialized (ex_nm k) ∈ ex_W) (w3 : ∀ w ∈ vx_at0 me.1.cls ic (ex_nm k) ex_sup, w ∈ ex_W) (hgood : ∀ w ∈ Cond.classLink me.1.cls ik (ex_nm k) :: Cond.initialized (ex_nm k) :: vx_at0 me.1.cls ic (ex_nm k) ex_sup, vx_ot w = true)
    (d0 : decode me.2.1 pc = .ok (.new ik, 3)) (d3 : decode me.2.1 (pc + 3) = .ok (.dup, 1)) (d4 : decode me.2.1 (pc + 4) = .ok (.invokespecial ic, 3)) (d7 : decode me.2.1 (pc + 7) = .ok (.athrow, 1)) : ex_Goal l G me d pc L st h (.inr k) (ex_thr h) := by
  intro p e R s m args below meth c H locs cells slots mc ms ls hB hL hn hM hS hc hs hfr hlo hmc hms
  obtain ⟨b1, b2, b3, b4, b5, b6, b7, b8, b9⟩ := id hB
  have hws := b9.2.2.2.2.1
  have hc' : cells + 1 ≤ mc := by simp only [ex_thr] at hc; omega
  have hs' : slots + 6 ≤ ms := by simp only [ex_thr] at hs; omega
  refine vx_throw0 (names := ex_sup) (A := ex_A G) b1 b2 hst b4 hfit hnm (hws.use w1 args) (hws.use w2 args) (fun w hw => hws.use (w3 w hw) args) hgood b9.2.2.2.2.2.2.2.1 b9.2.2.2.2.2.2.2.2.1 hS (by rw [b3, ← hn]; exact hL.1) d0 d3 d4 d7 (fun x hx => ?_) (by show 2 + 3 < _; omega) (by rw [ex_wd_z]; show _ + (13 * (2 + 1) + 42) ≤ _; omega) (by omega) (by omega) b5 (fun t hA hz ho => ⟨⟨k, rfl, rfl⟩, hM.kept ho, ?_⟩) hS.2.2 hc' hs'
  · rw [hh] at b8
    rw [List.map_eq_nil_iff.mp b8] at hx
    cases hx
  · exact ⟨Nat.le_trans hS.1 hz, fun q h1 h2 => (ho q (Nat.lt_of_lt_of_le h1 hS.1)).trans (hS.2.1 q h1 h2)⟩
