/-! the evaluator's operations on String constants -/
theorem ex_G.pre {G : ex_P} {s : State} {H : Heap} {locs : List Loc} {av : List Value} (hG : ex_G G s) (hS : va_S (ex_A G) s.heap H locs) : ∀ U : State, U.heap = H → s.WarmedH U.vm → js_Pc G av av.toArray U := by
  intro U hU hW
  refine ⟨rfl, ex_G.moved hW (fun q h1 h2 => by rw [hU]; exact hS.2.1 q h1 h2) ?_ hG⟩
  rw [hU]
  exact Nat.le_trans hG.2.2.2.1 hS.1
theorem ex_ad_str (G : ex_P) (j : Nat) : ex_ad G (1000000 + j) = gS G j := by
  unfold ex_ad
  rw [if_neg (by omega), if_neg (by omega), Nat.add_sub_cancel_left]
theorem ex_tx_of {x : Nat} {t : List Int32} (h : ex_tx x = some t) : ¬ x < 1000000 ∧ ex_byt[x - 1000000]? = some t := by
  unfold ex_tx at h
  by_cases q : x < 1000000
  · rw [if_pos q] at h; cases h
  · rw [if_neg q] at h; exact ⟨q, h⟩
theorem ex_ldcS {l : Launch} {G : ex_P} {me : ex_Me} {d pc nx : Nat} {L st : List Value} {h h' : ex_H} {r : ex_R} {a idx : Nat} {tx : String} (S : ex_Goal l G me d nx L (.ref (1000000 + a) :: st) h r h') (hq : ex_str[a]? = some (me.1.cls, idx, tx)) (hd : decode me.2.1 pc = .ok (.ldc idx, 2)) (hx : nx = pc + 2) : ex_Goal l G me d pc L st h r h' := by
  intro p e R s m args below meth c H locs cells slots mc ms ls hB hL hn hM hS hc hs hfr hlo hmc hms
  subst hx
  obtain ⟨b1, b2, b3, b4, b5, b6, b7, b8, b9⟩ := id hB
  refine va_ldcS b1 b2 b4 (b9.2.2.2.2.2.2.2.2.2.2.2.1 a _ hq) hd ?_
  have q := S p e R s m args below meth c H locs cells slots mc ms ls hB hL hn hM hS hc hs hfr hlo hmc hms
  rw [List.map_cons, show ex_z G (.ref (1000000 + a)) = .ref (gS G a) by simp [ex_z, ex_ad_str]] at q
  exact q
theorem ex_ldcwString {p : Program} {l : Launch} {e : Env} {R : Room} {s : State} {m : MethodId} {args : Array Value} {below : List Frame} {meth : Method} {c : Code} {T : State} {locs : List Loc} {cells slots : Nat}
    (X : Stand p l e R s m args below meth c T locs cells slots) (hexec : p.tables.exec = Jvm.exec) {own text : String} {index : Nat} {a : Addr} (hown : s.vm.findClass own = some m.cls)
    (hconst : (Cond.stringRef own index text).before #[] s = true) (hev : (Term.string own index).eval #[] s none [] s = some (.ref a)) {g : JFrame} (hg : g.method = m) (hdg : decode c.code g.pc = .ok (.ldc_w index, 3)) :
    ∀ target, Steps p.tables e below (T.setTop { g with pc := g.pc + 3, stack := .ref a :: g.stack }) target → Steps p.tables e below (T.setTop g) target := by
  obtain ⟨k, cf, i, a', hk, hcf, hcp, -, hr, hev'⟩ := Cond.stringRef_spec hown hconst
  cases hev.symm.trans hev'
  obtain ⟨k', hk', he⟩ := X.warmed.alike.2.2 _ _ hk
  have hr' : k'.resolved[index]? = some (some (.string a)) := by
    rcases X.warmed.entry hk hk' index with h | ⟨h, -⟩
    · rw [h]; exact hr
    · rw [hr] at h; cases h
  intro target hrest
  subst hg
  jvm_step X.here [hexec, hdg, ldc_w.wp_string (e := e) (s := T) (f := g) X.here.top hk' (by rw [he]; exact hcf) hcp hr']
  exact hrest
theorem ex_ldcSW {l : Launch} {G : ex_P} {me : ex_Me} {d pc nx : Nat} {L st : List Value} {h h' : ex_H} {r : ex_R} {a idx : Nat} {tx : String} (S : ex_Goal l G me d nx L (.ref (1000000 + a) :: st) h r h') (hq : ex_str[a]? = some (me.1.cls, idx, tx)) (hd : decode me.2.1 pc = .ok (.ldc_w idx, 3)) (hx : nx = pc + 3) : ex_Goal l G me d pc L st h r h' := by
  intro p e R s m args below meth c H locs cells slots mc ms ls hB hL hn hM hS hc hs hfr hlo hmc hms
  subst hx
  obtain ⟨b1, b2, b3, b4, b5, b6, b7, b8, b9⟩ := id hB
  have hZ := b9.2.2.2.2.2.2.2.2.2.2.2.1 a _ hq
  have q := S p e R s m args below meth c H locs cells slots mc ms ls hB hL hn hM hS hc hs hfr hlo hmc hms
  rw [List.map_cons, show ex_z G (.ref (1000000 + a)) = .ref (gS G a) by simp [ex_z, ex_ad_str]] at q
  intro T hT X
  obtain ⟨t, a1, b1'⟩ := q T hT X
  exact ⟨t, ex_ldcwString X b1 b4 (text := tx) (a := gS G a) hZ.1 hZ.2 (g := F0 m pc ls (st.map (ex_z G))) rfl (by rw [b2]; exact hd) t a1, b1'⟩
section STR
variable {l : Launch} {G : ex_P} {me : ex_Me} {d pc nx : Nat} {L rr : List Value} {h h' : ex_H} {r : ex_R}
theorem ex_slen {x idx : Nat} {t : List Int32} (S : ex_Goal l G me d nx L (.int (Int32.ofNat t.length) :: rr) h r h') (hmo : h.1.2.1 ≤ h'.1.2.1 ∧ h.1.2.2 ≤ h'.1.2.2) (hd8 : ¬ d < 8) (hwd : ¬ 8 < ex_wd rr) (hx0 : ¬ x < 1000000) (ht : ex_byt[x - 1000000]? = some t) (wl : Cond.methodLink me.1.cls idx js_length ∈ ex_W) (hd : decode me.2.1 pc = .ok (.invokevirtual idx, 3)) (hx : nx = pc + 3) : ex_Goal l G me d pc L (.ref x :: rr) h r h' := by
  intro p e R s m args below meth c H locs cells slots mc ms ls hB hL hn hM hS hc hs hfr hlo hmc hms
  subst hx
  obtain ⟨b1, b2, b3, b4, b5, b6, b7, b8, b9⟩ := id hB
  have hws := b9.2.2.2.2.1
  have hE := b9.2.2.2.2.2.2.2.2.2.2.1
  obtain ⟨j, rfl⟩ : ∃ j, x = 1000000 + j := ⟨x - 1000000, by omega⟩
  rw [Nat.add_sub_cancel_left] at ht
  obtain ⟨hj, hjt⟩ := js_text ht
  obtain ⟨⟨k1, k2⟩, -⟩ := js_bytes j hj
  rw [hjt] at k1 k2
  rw [List.map_cons, show ex_z G (.ref (1000000 + j)) = .ref (gS G j) by simp [ex_z, ex_ad_str]]
  refine js_afterI (rest := rr.map (ex_z G)) (va_runV (C := js_S) (As := []) (n := 0) ⟨b1, b2, b3, b4, hws.all _⟩ (js_length_met l G hj) ⟨js_CB hws rfl rfl (by show 1 + 1 ≤ _; omega) (by show 8 + (1 + 11) + 20 ≤ _; omega) js_c_length js_i0 wl (by decide) (by decide +kernel), hws.use js_m_length _, hws.use js_s_length _⟩ ⟨js_blind, vk_recv hE hj hS, b9.pre (av := [.ref (gS G j)]) hS⟩ rfl rfl (by rw [← hn]; exact hL.1) rfl (lv_room (by rw [ex_wd_z]; omega)) hd ⟨by omega, by omega⟩) (fun r0 hr0 => ?_)
  subst hr0
  rw [js_shr _ (by rw [k1]; exact k2), k1]
  exact S p e R s m args below meth c H locs cells slots mc ms ls hB hL hn hM hS hc hs hfr hlo hmc hms
theorem ex_schar {x idx : Nat} {t : List Int32} {i w : Int32} (S : ex_Goal l G me d nx L (.int w :: rr) h r h') (hmo : h.1.2.1 ≤ h'.1.2.1 ∧ h.1.2.2 ≤ h'.1.2.2) (hd8 : ¬ d < 8) (hwd : ¬ 8 < ex_wd rr) (hx0 : ¬ x < 1000000) (ht : ex_byt[x - 1000000]? = some t) (hi0 : ¬ i < 0) (hw : t[i.toNatClampNeg]? = some w) (wl : Cond.methodLink me.1.cls idx js_charAt ∈ ex_W) (hd : decode me.2.1 pc = .ok (.invokevirtual idx, 3)) (hx : nx = pc + 3) : ex_Goal l G me d pc L (.int i :: .ref x :: rr) h r h' := by
  intro p e R s m args below meth c H locs cells slots mc ms ls hB hL hn hM hS hc hs hfr hlo hmc hms
  subst hx
  obtain ⟨b1, b2, b3, b4, b5, b6, b7, b8, b9⟩ := id hB
  have hws := b9.2.2.2.2.1
  have hE := b9.2.2.2.2.2.2.2.2.2.2.1
  obtain ⟨j, rfl⟩ : ∃ j, x = 1000000 + j := ⟨x - 1000000, by omega⟩
  rw [Nat.add_sub_cancel_left] at ht
  obtain ⟨hj, hjt⟩ := js_text ht
  obtain ⟨⟨k1, k2⟩, k3⟩ := js_bytes j hj
  rw [hjt] at k1 k2 k3
  have hil := (List.getElem?_eq_some_iff.mp hw).1
  obtain ⟨k4, k5⟩ := k3 w (List.mem_of_getElem? hw)
  have hch : js_ch j i = w := by
    unfold js_ch
    rw [hjt, List.getD_eq_getElem?_getD, hw]
    exact k4
  have hi2 : i < Int32.ofNat (ex_len0.getD j 0) := by
    rw [k1]
    rw [Int32.lt_iff_toInt_lt]
    have e1 : (Int32.ofNat t.length).toInt = (t.length : Int) := Int32.toInt_ofNat_of_lt (by omega)
    have e2 : (0 : Int) ≤ i.toInt := by
      have := Int32.not_lt.mp hi0
      simpa using Int32.le_iff_toInt_le.mp this
    have e3 : i.toNatClampNeg = i.toInt.toNat := rfl
    rw [e1]
    omega
  have hst : (List.map (ex_z G) (.int i :: .ref (1000000 + j) :: rr)) = .int i :: .ref (gS G j) :: rr.map (ex_z G) := by simp [ex_z, ex_ad_str]
  rw [hst]
  refine js_afterI (rest := rr.map (ex_z G)) (va_runV (C := js_S) (As := [.int i]) (n := 1) ⟨b1, b2, b3, b4, hws.all _⟩ (js_charAt_met l G hj hi0 (by rw [k1]; exact hil) hi2 (by rw [hch]; exact k5)) ⟨js_CB hws rfl rfl (by show 3 + 1 ≤ _; omega) (by show 8 + (2 + 11) + 64 ≤ _; omega) js_c_charAt js_i0 wl (by decide) (by decide +kernel), hws.use js_m_charAt _, hws.use js_s_charAt _⟩ ⟨js_blind, vk_recv hE hj hS, b9.pre (av := [.ref (gS G j), .int i]) hS⟩ rfl rfl (by rw [← hn]; exact hL.1) rfl (lv_room (by rw [ex_wd_z]; omega)) hd ⟨by omega, by omega⟩) (fun r0 hr0 => ?_)
  subst hr0
  rw [hch]
  exact S p e R s m args below meth c H locs cells slots mc ms ls hB hL hn hM hS hc hs hfr hlo hmc hms
end STR
