theorem ex_ald_of {h : ex_H} {x y : Nat} {i : Int32} (hg : ex_ald h x i = some y) : x ≠ 0 ∧ ∃ C n f, h.2 x = some (.inl (.object C, n, .inr (.inr (.inr (.inr f))))) ∧ vp_in i n ∧ f i.toNatClampNeg = some y := by
  unfold ex_ald at hg
  split at hg
  · rename_i C n f he
    by_cases q0 : x = 0
    · simp [q0] at hg
    · by_cases q1 : i < 0
      · simp [q0, q1] at hg
      · by_cases q2 : n ≤ i.toNatClampNeg
        · simp [q0, q1, q2] at hg
        · simp [q0, q1, q2] at hg
          exact ⟨q0, C, n, f, he, by unfold vp_in; simp [q1, q2], hg⟩
  · cases hg
theorem ex_ast_of {h h1 : ex_H} {x y : Nat} {i : Int32} (hg : ex_ast h x i y = some h1) : x ≠ 0 ∧ y ≠ 0 ∧ ∃ C n f ci fs rc, h.2 x = some (.inl (.object C, n, .inr (.inr (.inr (.inr f))))) ∧ h.2 y = some (.inr (ci, fs)) ∧ vp_in i n ∧ ex_cl[ci]? = some rc ∧ rc.1 = C ∧ h1 = ex_set h x (.inl (.object C, n, .inr (.inr (.inr (.inr (va_up f i.toNatClampNeg (some y))))))) := by
  unfold ex_ast at hg
  split at hg
  · rename_i C n f ci fs he hy
    by_cases q0 : x = 0
    · simp [q0] at hg
    · by_cases q9 : y = 0
      · simp [q0, q9] at hg
      · by_cases q1 : i < 0
        · simp [q0, q9, q1] at hg
        · by_cases q2 : n ≤ i.toNatClampNeg
          · simp [q0, q9, q1, q2] at hg
          · rw [if_neg q0, if_neg q9, if_neg q1, if_neg q2] at hg
            by_cases q3 : (ex_cl[ci]?).map (fun r => r.1) = some C
            · rw [if_pos q3] at hg
              obtain ⟨rc, k1, k2⟩ := Option.map_eq_some_iff.mp q3
              exact ⟨q0, q9, C, n, f, ci, fs, rc, he, hy, by unfold vp_in; simp [q1, q2], k1, k2, (Option.some.inj hg).symm⟩
            · rw [if_neg q3] at hg
              cases hg
  · cases hg
theorem ex_aald {l : Launch} {G : ex_P} {me : ex_Me} {d pc nx : Nat} {L rr : List Value} {h h' : ex_H} {r : ex_R} {x y : Nat} {i : Int32} (S : ex_Goal l G me d nx L (.ref y :: rr) h r h') (hg : ex_ald h x i = some y) (hd : decode me.2.1 pc = .ok (.aaload, 1)) (hx : nx = pc + 1) : ex_Goal l G me d pc L (.int i :: .ref x :: rr) h r h' := by
  intro p e R s m args below meth c H locs cells slots mc ms ls hB hL hn hM hS hc hs hfr hlo hmc hms
  subst hx
  obtain ⟨b1, b2, b3, b4, b5, b6, b7, b8, b9⟩ := id hB
  obtain ⟨x0, C, n, f, g1, g2, g3⟩ := ex_ald_of hg
  have hat := (hM.2.1 x _ g1 x0).2
  obtain ⟨t0, ht⟩ := hM.ty g1
  refine va_aldq (D := (gC G, gI G)) (cl := ex_cl) (tys := ex_ts G) (ws := [(ex_ad G x, .inl (gA G (.object C), n, .inr (.inr (.inr (.inr (fun j => (f j).map (ex_ad G)))))))]) b1 b2 b9.1 (ex_one_wld hat) 0 t0 rfl ht g2 hd ?_
  rw [g3]
  exact S p e R s m args below meth c H locs cells slots mc ms ls hB hL hn hM hS hc hs hfr hlo hmc hms
theorem ex_aast {l : Launch} {G : ex_P} {me : ex_Me} {d pc nx : Nat} {L rr : List Value} {h h' : ex_H} {r : ex_R} {x y : Nat} {i : Int32} {h1 : ex_H} (S : ex_Goal l G me d nx L rr h1 r h') (hg : ex_ast h x i y = some h1) (hd : decode me.2.1 pc = .ok (.aastore, 1)) (hx : nx = pc + 1) : ex_Goal l G me d pc L (.ref y :: .int i :: .ref x :: rr) h r h' := by
  intro p e R s m args below meth c H locs cells slots mc ms ls hB hL hn hM hS hc hs hfr hlo hmc hms
  subst hx
  obtain ⟨b1, b2, b3, b4, b5, b6, b7, b8, b9⟩ := id hB
  obtain ⟨x0, y0, C, n, f, ci, fs, rc, g1, g2, g3, g4, g5, g6⟩ := ex_ast_of hg
  subst g6
  subst g5
  have hat := (hM.2.1 x _ g1 x0).2
  have hay := (hM.2.1 y _ g2 y0).2
  obtain ⟨t0, ht⟩ := hM.ty g1
  obtain ⟨kA, comp, a1, a2, a3, a4⟩ := (b9.1.2 t0 _ ht).2
  obtain ⟨rc', k1, cv, v1, v2, v3, -⟩ := hay
  have hr0 : rc' = rc := Option.some.inj (k1.symm.trans g4)
  subst hr0
  obtain ⟨hS0, hfc, kC, hkC, hkind⟩ := b9.1.1 ci _ g4
  have hcc : comp = gC G ci := Option.some.inj (a3.symm.trans hfc)
  subst hcc
  have hin2 := g3
  unfold vp_in at hin2
  refine W.aast b1 b2 (cell := arrV (gA G (.object rc'.1)) n (fun j => va_rf ((f j).map (ex_ad G)))) hat (fun q h9 => by cases h9) (fun q => by cases q) a1 a2 rfl hkC ⟨fun q => hin2 (Or.inl q), by rw [arrV_size]; exact Nat.lt_of_not_le (fun q => hin2 (Or.inr q))⟩ v1 (fun q h9 => by rw [v3] at h9; cases h9) (by rw [v2]; exact hkC) (by rw [v2]; exact va_assign ⟨hfc, kC, hkC, hkind⟩) rfl rfl hd fun H1 e1 e2 e3 => ?_
  refine S p e R s m args below meth c H1 _ cells slots mc ms ls hB hL hn (hM.set (c0 := .inl (.object rc'.1, n, .inr (.inr (.inr (.inr f))))) x0 g1 e2 e3 ?_ (fun ty a q => by cases q; exact ⟨_, rfl⟩)) (hS.put e2 e3 (ex_A_ad hM x0 g1)) hc hs hfr hlo hmc hms
  show H1[ex_ad G x]? = some (vp_cell _ _)
  rw [e1]
  show some ((arrV _ _ _).setSlot _ _) = some (vp_cell _ _)
  rw [vp_cell_q, arrV_store]
  congr 2
  funext q
  by_cases hq : q = i.toNatClampNeg
  · subst hq
    simp [updV, va_up, va_rf]
  · simp [updV, va_up, hq]
theorem ex_len_of {h : ex_H} {x : Nat} {w : Int32} (hg : ex_len h x = some w) : ∃ ty a, h.2 x = some (.inl (ty, a)) ∧ w = Int32.ofNat a.1 := by
  unfold ex_len at hg
  split at hg
  · rename_i ty a he
    exact ⟨ty, a, he, (Option.some.inj hg).symm⟩
  · cases hg
theorem ex_alen {l : Launch} {G : ex_P} {me : ex_Me} {d pc nx : Nat} {L rr : List Value} {h h' : ex_H} {r : ex_R} {x : Nat} {w : Int32} (S : ex_Goal l G me d nx L (.int w :: rr) h r h') (hg : ex_len h x = some w) (hd : decode me.2.1 pc = .ok (.arraylength, 1)) (hx : nx = pc + 1) : ex_Goal l G me d pc L (.ref x :: rr) h r h' := by
  intro p e R s m args below meth c H locs cells slots mc ms ls hB hL hn hM hS hc hs hfr hlo hmc hms
  subst hx
  obtain ⟨b1, b2, b3, b4, b5, b6, b7, b8, b9⟩ := id hB
  obtain ⟨ty, ⟨n, fa⟩, g1, g2⟩ := ex_len_of hg
  subst g2
  by_cases x0 : x = 0
  · subst x0
    have h0 := hM.2.2.1 _ g1
    simp only [Sum.inl.injEq, Prod.mk.injEq] at h0
    obtain ⟨-, h0a, -⟩ := h0
    subst h0a
    refine va_slen (A := ex_A G) b1 b2 b9.2.1 (Nat.lt_of_lt_of_le b9.2.2.1 b9.2.2.2.1) (Nat.not_le.mpr b9.2.2.1) hS hd ?_
    exact S p e R s m args below meth c H locs cells slots mc ms ls hB hL hn hM hS hc hs hfr hlo hmc hms
  · have hat := (hM.2.1 x _ g1 x0).2
    obtain ⟨t0, ht⟩ := hM.ty g1
    obtain ⟨a9, ha9, hn9⟩ : ∃ a9 : vp_A, ex_e G (.inl (ty, n, fa)) = .inl (gA G ty, a9) ∧ a9.1 = n := by
      rcases fa with f | f | f | f | f <;> exact ⟨_, rfl, rfl⟩
    rw [ha9] at hat
    refine va_alen (D := (gC G, gI G)) (cl := ex_cl) (tys := ex_ts G) (ws := [(ex_ad G x, .inl (gA G ty, a9))]) b1 b2 b9.1 (ex_one_wld hat) 0 t0 rfl ht (by rw [hn9]) hd ?_
    exact S p e R s m args below meth c H locs cells slots mc ms ls hB hL hn hM hS hc hs hfr hlo hmc hms
theorem ex_repl {cA : ClassId} {n : Nat} {v : Value} : ({ cls := cA, slots := Array.replicate n v, vm := .none } : Cell) = arrV cA n (fun _ => v) := by
  unfold arrV
  congr 1
  apply Array.ext
  · simp
  · intro i h1 h2
    simp
theorem ex_newa_int {l : Launch} {G : ex_P} {me : ex_Me} {d pc nx : Nat} {L rr : List Value} {h h' : ex_H} {r : ex_R} {n : Int32} (S : ex_Goal l G me d nx L (.ref (h.1.2.1 + 1) :: rr) (ex_add h n.toNatClampNeg (.inl (.int, n.toNatClampNeg, .inl (fun _ => 0)))) r h') (hb : h.1.2.1 + 1 < 1000000) (he : h.1.1 = true) (hn0 : ¬ n < 0) (hn1 : ¬ 100000 < n.toNatClampNeg) (hmo : h.1.2.1 + 1 ≤ h'.1.2.1 ∧ h.1.2.2 + n.toNatClampNeg ≤ h'.1.2.2) (hw : Cond.arrayClass .int ∈ ex_W) (hd : decode me.2.1 pc = .ok (.newarray .int, 2)) (hx : nx = pc + 2) : ex_Goal l G me d pc L (.int n :: rr) h r h' := by
  intro p e R s m args below meth c H locs cells slots mc ms ls hB hL hn hM hS hc hs hfr hlo hmc hms
  subst hx
  obtain ⟨b1, b2, b3, b4, b5, b6, b7, b8, b9⟩ := id hB
  have hz := hM.1 he
  refine va_newaK (atype := .int) b1 b2 (b9.2.2.2.2.1.use hw args) rfl hd rfl hn0 rfl (by show n.toNatClampNeg * _ ≤ _; simp [componentBytes, newarray.typeOf]; omega) (by omega) (by omega) rfl fun H1 cA e1 e2 e3 e4 e5 => ?_
  have hcA : cA = gA G .int := Option.some.inj (e5.symm.trans (b9.1.2 0 _ rfl).2)
  subst hcA
  have ha : ex_ad G (h.1.2.1 + 1) = H.size := by rw [ex_ad_in G (by omega) hb]; omega
  have hat : va_at (gC G, gI G) ex_cl (H.size, ex_e G (.inl (.int, n.toNatClampNeg, .inl (fun _ => 0)))) H1 := e1
  have q := S p e R s m args below meth c H1 locs (cells + 1) (slots + n.toNatClampNeg) mc ms ls hB hL hn (hM.add he hb e2 e3 hat (fun ty a q => by cases q; simp)) (hS.more (by omega) e3) (by simp only [ex_add]; omega) (by simp only [ex_add]; omega) hfr hlo hmc hms
  have hst : (List.map (ex_z G) (.ref (h.1.2.1 + 1) :: rr)) = .ref H.size :: List.map (ex_z G) rr := by simp [ex_z, ha]
  rw [hst] at q
  exact q
theorem ex_newa_boolean {l : Launch} {G : ex_P} {me : ex_Me} {d pc nx : Nat} {L rr : List Value} {h h' : ex_H} {r : ex_R} {n : Int32} (S : ex_Goal l G me d nx L (.ref (h.1.2.1 + 1) :: rr) (ex_add h n.toNatClampNeg (.inl (.boolean, n.toNatClampNeg, .inl (fun _ => 0)))) r h') (hb : h.1.2.1 + 1 < 1000000) (he : h.1.1 = true) (hn0 : ¬ n < 0) (hn1 : ¬ 100000 < n.toNatClampNeg) (hmo : h.1.2.1 + 1 ≤ h'.1.2.1 ∧ h.1.2.2 + n.toNatClampNeg ≤ h'.1.2.2) (hw : Cond.arrayClass .boolean ∈ ex_W) (hd : decode me.2.1 pc = .ok (.newarray .boolean, 2)) (hx : nx = pc + 2) : ex_Goal l G me d pc L (.int n :: rr) h r h' := by
  intro p e R s m args below meth c H locs cells slots mc ms ls hB hL hn hM hS hc hs hfr hlo hmc hms
  subst hx
  obtain ⟨b1, b2, b3, b4, b5, b6, b7, b8, b9⟩ := id hB
  have hz := hM.1 he
  refine va_newaK (atype := .boolean) b1 b2 (b9.2.2.2.2.1.use hw args) rfl hd rfl hn0 rfl (by show n.toNatClampNeg * _ ≤ _; simp [componentBytes, newarray.typeOf]; omega) (by omega) (by omega) rfl fun H1 cA e1 e2 e3 e4 e5 => ?_
  have hcA : cA = gA G .boolean := Option.some.inj (e5.symm.trans (b9.1.2 1 _ rfl).2)
  subst hcA
  have ha : ex_ad G (h.1.2.1 + 1) = H.size := by rw [ex_ad_in G (by omega) hb]; omega
  have hat : va_at (gC G, gI G) ex_cl (H.size, ex_e G (.inl (.boolean, n.toNatClampNeg, .inl (fun _ => 0)))) H1 := e1
  have q := S p e R s m args below meth c H1 locs (cells + 1) (slots + n.toNatClampNeg) mc ms ls hB hL hn (hM.add he hb e2 e3 hat (fun ty a q => by cases q; simp)) (hS.more (by omega) e3) (by simp only [ex_add]; omega) (by simp only [ex_add]; omega) hfr hlo hmc hms
  have hst : (List.map (ex_z G) (.ref (h.1.2.1 + 1) :: rr)) = .ref H.size :: List.map (ex_z G) rr := by simp [ex_z, ha]
  rw [hst] at q
  exact q
theorem ex_newa_long {l : Launch} {G : ex_P} {me : ex_Me} {d pc nx : Nat} {L rr : List Value} {h h' : ex_H} {r : ex_R} {n : Int32} (S : ex_Goal l G me d nx L (.ref (h.1.2.1 + 1) :: rr) (ex_add h n.toNatClampNeg (.inl (.long, n.toNatClampNeg, .inr (.inl (fun _ => 0))))) r h') (hb : h.1.2.1 + 1 < 1000000) (he : h.1.1 = true) (hn0 : ¬ n < 0) (hn1 : ¬ 100000 < n.toNatClampNeg) (hmo : h.1.2.1 + 1 ≤ h'.1.2.1 ∧ h.1.2.2 + n.toNatClampNeg ≤ h'.1.2.2) (hw : Cond.arrayClass .long ∈ ex_W) (hd : decode me.2.1 pc = .ok (.newarray .long, 2)) (hx : nx = pc + 2) : ex_Goal l G me d pc L (.int n :: rr) h r h' := by
  intro p e R s m args below meth c H locs cells slots mc ms ls hB hL hn hM hS hc hs hfr hlo hmc hms
  subst hx
  obtain ⟨b1, b2, b3, b4, b5, b6, b7, b8, b9⟩ := id hB
  have hz := hM.1 he
  refine va_newaK (atype := .long) b1 b2 (b9.2.2.2.2.1.use hw args) rfl hd rfl hn0 rfl (by show n.toNatClampNeg * _ ≤ _; simp [componentBytes, newarray.typeOf]; omega) (by omega) (by omega) rfl fun H1 cA e1 e2 e3 e4 e5 => ?_
  have hcA : cA = gA G .long := Option.some.inj (e5.symm.trans (b9.1.2 2 _ rfl).2)
  subst hcA
  have ha : ex_ad G (h.1.2.1 + 1) = H.size := by rw [ex_ad_in G (by omega) hb]; omega
  have hat : va_at (gC G, gI G) ex_cl (H.size, ex_e G (.inl (.long, n.toNatClampNeg, .inr (.inl (fun _ => 0))))) H1 := e1
  have q := S p e R s m args below meth c H1 locs (cells + 1) (slots + n.toNatClampNeg) mc ms ls hB hL hn (hM.add he hb e2 e3 hat (fun ty a q => by cases q; simp)) (hS.more (by omega) e3) (by simp only [ex_add]; omega) (by simp only [ex_add]; omega) hfr hlo hmc hms
  have hst : (List.map (ex_z G) (.ref (h.1.2.1 + 1) :: rr)) = .ref H.size :: List.map (ex_z G) rr := by simp [ex_z, ha]
  rw [hst] at q
  exact q
theorem ex_anew {l : Launch} {G : ex_P} {me : ex_Me} {d pc nx : Nat} {L rr : List Value} {h h' : ex_H} {r : ex_R} {n : Int32} {a idx : Nat} {rc : vw_C} {t0 : Nat} (S : ex_Goal l G me d nx L (.ref (h.1.2.1 + 1) :: rr) (ex_add h n.toNatClampNeg (.inl (.object rc.1, n.toNatClampNeg, .inr (.inr (.inr (.inr (fun _ => none))))))) r h') (hb : h.1.2.1 + 1 < 1000000) (he : h.1.1 = true) (hn0 : ¬ n < 0) (hn1 : ¬ 100000 < n.toNatClampNeg) (hmo : h.1.2.1 + 1 ≤ h'.1.2.1 ∧ h.1.2.2 + n.toNatClampNeg ≤ h'.1.2.2) (hty : rc.1 = RX7 ∨ rc.1 = RX9) (hw : Cond.classLink me.1.cls idx rc.1 ∈ ex_W) (hd : decode me.2.1 pc = .ok (.anewarray idx, 3)) (hx : nx = pc + 3) : ex_Goal l G me d pc L (.int n :: rr) h r h' := by
  intro p e R s m args below meth c H locs cells slots mc ms ls hB hL hn hM hS hc hs hfr hlo hmc hms
  subst hx
  obtain ⟨b1, b2, b3, b4, b5, b6, b7, b8, b9⟩ := id hB
  have hz := hM.1 he
  have hmem : FieldType.object rc.1 ∈ ex_tl := by rcases hty with e | e <;> rw [e] <;> simp
  obtain ⟨i, hi⟩ := List.getElem?_of_mem hmem
  have ht : (ex_ts G)[i]? = some (gA G (.object rc.1), .object rc.1) := by rw [List.getElem?_map, hi]; rfl
  have hov : va_AO rc.1 s := by
    rcases hty with e | e
    · rw [e]; exact b9.2.2.2.2.2.1
    · rw [e]; exact b9.2.2.2.2.2.2.1
  refine W.anew b1 b2 b4 (b9.2.2.2.2.1.use hw args) hov.use rfl hd rfl hn0 (by omega) (by omega) (by omega) fun cA kA comp e5 e6 e7 e8 => ?_
  obtain ⟨kA', comp', a1, a2, a3, a4⟩ := (b9.1.2 i _ ht).2
  have hcA : cA = gA G (.object rc.1) := Option.some.inj (e5.symm.trans a4)
  subst hcA
  rw [ex_repl]
  have ha : ex_ad G (h.1.2.1 + 1) = H.size := by rw [ex_ad_in G (by omega) hb]; omega
  have hat : va_at (gC G, gI G) ex_cl (H.size, ex_e G (.inl (.object rc.1, n.toNatClampNeg, .inr (.inr (.inr (.inr (fun _ => none))))))) (H.push (arrV (gA G (.object rc.1)) n.toNatClampNeg (fun _ => .null))) := by show (H.push _)[H.size]? = some (vp_cell _ _); simp [vp_cell, va_rf]
  have e3 : ∀ q : Nat, q < H.size → (H.push (arrV (gA G (.object rc.1)) n.toNatClampNeg (fun _ => .null)))[q]? = H[q]? := fun q hq => by rw [Array.getElem?_push]; simp [Nat.ne_of_lt hq]
  have q := S p e R s m args below meth c _ locs (cells + 1) (slots + n.toNatClampNeg) mc ms ls hB hL hn (hM.add he hb (by simp) e3 hat (fun ty a q => by cases q; exact hmem)) (hS.more (by simp) e3) (by simp only [ex_add]; omega) (by simp only [ex_add]; omega) hfr hlo hmc hms
  have hst : (List.map (ex_z G) (.ref (h.1.2.1 + 1) :: rr)) = .ref H.size :: List.map (ex_z G) rr := by simp [ex_z, ha]
  rw [hst] at q
  exact q
theorem ex_new {l : Launch} {G : ex_P} {me : ex_Me} {d pc nx : Nat} {L st : List Value} {h h' : ex_H} {r : ex_R} {a b idx : Nat} {C : String} {T : u_T} {ts : List Nat} (S : ex_Goal l G me d nx L (.ref (h.1.2.1 + 1) :: st) (ex_add h b (.inr (a, ts.map (fun t => if t = 0 then Value.int 0 else Value.null)))) r h') (hb : h.1.2.1 + 1 < 1000000) (he : h.1.1 = true) (hmo : h.1.2.1 + 1 ≤ h'.1.2.1 ∧ h.1.2.2 + b ≤ h'.1.2.2) (hcl : ex_cl[a]? = some (C, T, b)) (hC : ex_Cl C T b) (hts : ∀ j, j < b → ∀ ty, parseFieldDescriptor (T j).2.2.1 = some ty → defaultValue ty = vp_V (ts.map (fun t => if t = 0 then Value.int 0 else Value.null)) j) (hw : Cond.classLink me.1.cls idx C ∈ ex_W) (hw2 : Cond.instantiable C b ∈ ex_W) (hw3 : Cond.initialized C ∈ ex_W) (hd : decode me.2.1 pc = .ok (.new idx, 3)) (hx : nx = pc + 3) : ex_Goal l G me d pc L st h r h' := by
  intro p e R s m args below meth c H locs cells slots mc ms ls hB hL hn hM hS hc hs hfr hlo hmc hms
  subst hx
  obtain ⟨b1, b2, b3, b4, b5, b6, b7, b8, b9⟩ := id hB
  have hz := hM.1 he
  obtain ⟨ty0, hty⟩ := hC.2.1
  have hKn := b9.1.1 a _ hcl
  refine W.newcK b1 b2 b4 (b9.2.2.2.2.1.use hw args) (b9.2.2.2.2.1.use hw2 args) (b9.2.2.2.2.1.use hw3 args) rfl hd (by omega) (by omega) hKn.2.1 rfl fun H1 kC hkC e1 e2 e3 => ?_
  have ha : ex_ad G (h.1.2.1 + 1) = H.size := by rw [ex_ad_in G (by omega) hb]; omega
  have hzz : (ts.map (fun t => if t = 0 then Value.int 0 else Value.null)).map (ex_z G) = ts.map (fun t => if t = 0 then Value.int 0 else Value.null) := by
    rw [List.map_map]
    apply List.map_congr_left
    intro t _
    by_cases q : t = 0 <;> simp [q, ex_z]
  have hat : va_at (gC G, gI G) ex_cl (H.size, ex_e G (.inr (a, ts.map (fun t => if t = 0 then Value.int 0 else Value.null)))) H1 := by
    refine ⟨_, hcl, ?_⟩
    show t_OB _ _ _ _ _ (vp_V ((ts.map (fun t => if t = 0 then Value.int 0 else Value.null)).map (ex_z G)))
    rw [hzz]
    exact (u_born ty0 (b9.2.2.2.2.1.all args) hC.1 hKn hkC e1 hty).to (fun j hj => hts j hj _ (hty j hj))
  have q := S p e R s m args below meth c H1 locs (cells + 1) (slots + b) mc ms ls hB hL hn (hM.add he hb e2 e3 hat (fun ty a q => by cases q)) (hS.more (by omega) e3) (by simp only [ex_add]; omega) (by simp only [ex_add]; omega) hfr hlo hmc hms
  have hst : (List.map (ex_z G) (.ref (h.1.2.1 + 1) :: st)) = .ref H.size :: List.map (ex_z G) st := by simp [ex_z, ha]
  rw [hst] at q
  exact q
theorem ex_dup {l : Launch} {G : ex_P} {me : ex_Me} {d pc nx : Nat} {L rr : List Value} {h h' : ex_H} {r : ex_R} {w : Value} (S : ex_Goal l G me d nx L (w :: w :: rr) h r h') (hw : ex_one w = true) (hd : decode me.2.1 pc = .ok (.dup, 1)) (hx : nx = pc + 1) : ex_Goal l G me d pc L (w :: rr) h r h' := by
  intro p e R s m args below meth c H locs cells slots mc ms ls hB hL hn hM hS hc hs hfr hlo hmc hms
  subst hx
  refine lv_dup hB.1 hB.2.1 hd (ex_z_cat hw) ?_
  exact S p e R s m args below meth c H locs cells slots mc ms ls hB hL hn hM hS hc hs hfr hlo hmc hms
theorem ex_pop {l : Launch} {G : ex_P} {me : ex_Me} {d pc nx : Nat} {L rr : List Value} {h h' : ex_H} {r : ex_R} {w : Value} (S : ex_Goal l G me d nx L rr h r h') (hw : ex_one w = true) (hd : decode me.2.1 pc = .ok (.pop, 1)) (hx : nx = pc + 1) : ex_Goal l G me d pc L (w :: rr) h r h' := by
  intro p e R s m args below meth c H locs cells slots mc ms ls hB hL hn hM hS hc hs hfr hlo hmc hms
  subst hx
  refine lv_pop hB.1 hB.2.1 hd (ex_z_cat hw) ?_
  exact S p e R s m args below meth c H locs cells slots mc ms ls hB hL hn hM hS hc hs hfr hlo hmc hms
theorem ex_dup2 {l : Launch} {G : ex_P} {me : ex_Me} {d pc nx : Nat} {L rr : List Value} {h h' : ex_H} {r : ex_R} {w z : Value} (S : ex_Goal l G me d nx L (w :: z :: w :: z :: rr) h r h') (hw : ex_one w = true) (hz : ex_one z = true) (hd : decode me.2.1 pc = .ok (.dup2, 1)) (hx : nx = pc + 1) : ex_Goal l G me d pc L (w :: z :: rr) h r h' := by
  intro p e R s m args below meth c H locs cells slots mc ms ls hB hL hn hM hS hc hs hfr hlo hmc hms
  subst hx
  refine lv_dup2_11 hB.1 hB.2.1 hd (ex_z_cat hw) (ex_z_cat hz) ?_
  exact S p e R s m args below meth c H locs cells slots mc ms ls hB hL hn hM hS hc hs hfr hlo hmc hms
theorem ex_i2l {l : Launch} {G : ex_P} {me : ex_Me} {d pc nx : Nat} {L rr : List Value} {h h' : ex_H} {r : ex_R} {x : Int32} (S : ex_Goal l G me d nx L (.long x.toInt64 :: rr) h r h') (hd : decode me.2.1 pc = .ok (.i2l, 1)) (hx : nx = pc + 1) : ex_Goal l G me d pc L (.int x :: rr) h r h' := by
  intro p e R s m args below meth c H locs cells slots mc ms ls hB hL hn hM hS hc hs hfr hlo hmc hms
  subst hx
  refine lv_i2l hB.1 hB.2.1 hd rfl ?_
  exact S p e R s m args below meth c H locs cells slots mc ms ls hB hL hn hM hS hc hs hfr hlo hmc hms
theorem ex_lcmp {l : Launch} {G : ex_P} {me : ex_Me} {d pc nx : Nat} {L rr : List Value} {h h' : ex_H} {r : ex_R} {x y : Int64} (S : ex_Goal l G me d nx L (.int (lg_cmp x y) :: rr) h r h') (hd : decode me.2.1 pc = .ok (.lcmp, 1)) (hx : nx = pc + 1) : ex_Goal l G me d pc L (.long y :: .long x :: rr) h r h' := by
  intro p e R s m args below meth c H locs cells slots mc ms ls hB hL hn hM hS hc hs hfr hlo hmc hms
  subst hx
  refine W.lcmp hB.1 hB.2.1 hd ?_
  exact S p e R s m args below meth c H locs cells slots mc ms ls hB hL hn hM hS hc hs hfr hlo hmc hms
theorem ex_lconst {l : Launch} {G : ex_P} {me : ex_Me} {d pc nx : Nat} {L st : List Value} {h h' : ex_H} {r : ex_R} {a : Nat} {k : Fin 2} (S : ex_Goal l G me d nx L (.long (Int64.ofNat a) :: st) h r h') (hd : decode me.2.1 pc = .ok (.lconst k, 1)) (hk : (k : Nat) = a) (hx : nx = pc + 1) : ex_Goal l G me d pc L st h r h' := by
  intro p e R s m args below meth c H locs cells slots mc ms ls hB hL hn hM hS hc hs hfr hlo hmc hms
  subst hx
  subst hk
  refine lv_lconst hB.1 hB.2.1 hd rfl ?_
  exact S p e R s m args below meth c H locs cells slots mc ms ls hB hL hn hM hS hc hs hfr hlo hmc hms
theorem ex_ret_v {l : Launch} {G : ex_P} {me : ex_Me} {d pc : Nat} {L : List Value} {h : ex_H} (hr : me.2.2.2.1 = none) (hd : decode me.2.1 pc = .ok (.return_, 1)) : ex_Goal l G me d pc L ([]) h (.inl none) h := by
  intro p e R s m args below meth c H locs cells slots mc ms ls hB hL hn hM hS hc hs hfr hlo hmc hms
  obtain ⟨b1, b2, b3, b4, b5, b6, b7, b8, b9⟩ := id hB
  refine W.widen (k := mc) (n := ms) (by omega) (by omega) (vx_ret ?_)
  exact W.vret b1 b2 (b6.trans hr) (fun t ht hW => ⟨⟨_, rfl, rfl⟩, by rw [ht]; exact hM, hS.F ht⟩) hS.2.2 hd b5
theorem ex_ret_i {l : Launch} {G : ex_P} {me : ex_Me} {d pc : Nat} {L : List Value} {h : ex_H} {x : Int32} (hr : me.2.2.2.1 = some .int) (hd : decode me.2.1 pc = .ok (.ireturn, 1)) : ex_Goal l G me d pc L ([.int x]) h (.inl (some (.int x))) h := by
  intro p e R s m args below meth c H locs cells slots mc ms ls hB hL hn hM hS hc hs hfr hlo hmc hms
  obtain ⟨b1, b2, b3, b4, b5, b6, b7, b8, b9⟩ := id hB
  refine W.widen (k := mc) (n := ms) (by omega) (by omega) (vx_ret ?_)
  exact W.iret b1 b2 (b6.trans hr) (fun t ht hW => ⟨⟨_, rfl, rfl⟩, by rw [ht]; exact hM, hS.F ht⟩) hS.2.2 hd b5
theorem ex_ret_z {l : Launch} {G : ex_P} {me : ex_Me} {d pc : Nat} {L : List Value} {h : ex_H} {x : Int32} (hx : x = 0 ∨ x = 1) (hr : me.2.2.2.1 = some .boolean) (hd : decode me.2.1 pc = .ok (.ireturn, 1)) : ex_Goal l G me d pc L ([.int x]) h (.inl (some (.int x))) h := by
  intro p e R s m args below meth c H locs cells slots mc ms ls hB hL hn hM hS hc hs hfr hlo hmc hms
  obtain ⟨b1, b2, b3, b4, b5, b6, b7, b8, b9⟩ := id hB
  refine W.widen (k := mc) (n := ms) (by omega) (by omega) (vx_ret ?_)
  exact W.zret b1 b2 (b6.trans hr) (by rcases hx with rfl | rfl <;> rfl) (fun t ht hW => ⟨⟨_, rfl, rfl⟩, by rw [ht]; exact hM, hS.F ht⟩) hS.2.2 hd b5
theorem ex_ret_a {l : Launch} {G : ex_P} {me : ex_Me} {d pc : Nat} {L : List Value} {h : ex_H} {x : Nat} {C : String} (hr : me.2.2.2.1 = some (.object C)) (hd : decode me.2.1 pc = .ok (.areturn, 1)) : ex_Goal l G me d pc L ([.ref x]) h (.inl (some (.ref x))) h := by
  intro p e R s m args below meth c H locs cells slots mc ms ls hB hL hn hM hS hc hs hfr hlo hmc hms
  obtain ⟨b1, b2, b3, b4, b5, b6, b7, b8, b9⟩ := id hB
  refine W.widen (k := mc) (n := ms) (by omega) (by omega) (vx_ret ?_)
  exact W.aret b1 b2 (b6.trans hr) (Or.inl ⟨_, rfl⟩) (Or.inr ⟨_, rfl⟩) (fun t ht hW => ⟨⟨_, rfl, rfl⟩, by rw [ht]; exact hM, hS.F ht⟩) hS.2.2 hd b5
theorem ex_objinit {l : Launch} {G : ex_P} {me : ex_Me} {d pc nx : Nat} {L rr : List Value} {h h' : ex_H} {r : ex_R} {x idx : Nat} (S : ex_Goal l G me d nx L rr h r h') (hd0 : d ≠ 0) (hwd : ¬ 8 < ex_wd rr) (hw1 : Cond.methodLink me.1.cls idx objectInit ∈ ex_W) (hw2 : Cond.instanceMethod objectInit ∈ ex_W) (hw3 : Cond.code objectInit ⟨#[0xb1]⟩ 1 none ∈ ex_W) (hd : decode me.2.1 pc = .ok (.invokespecial idx, 3)) (hx : nx = pc + 3) : ex_Goal l G me d pc L (.ref x :: rr) h r h' := by
  intro p e R s m args below meth c H locs cells slots mc ms ls hB hL hn hM hS hc hs hfr hlo hmc hms
  subst hx
  obtain ⟨b1, b2, b3, b4, b5, b6, b7, b8, b9⟩ := id hB
  have hws := b9.2.2.2.2.1
  have hrm := lv_room (m := m) (pc := pc) (ls := ls) (rest := ((.ref x :: rr).map (ex_z G))) (st := rr.map (ex_z G)) (by rw [ex_wd_z]; omega)
  refine W.objInit b1 b2 b4 (hws.use hw1 args) (hws.use hw2 args) (hws.use hw3 args) rfl (by rw [b3, ← hn]; exact hL.1) (rest := rr.map (ex_z G)) rfl hd (by omega) (by omega) ?_
  exact S p e R s m args below meth c H locs cells slots mc ms ls hB hL hn hM hS hc hs hfr hlo hmc hms
theorem ex_nfw : nativeFrameWords "java/lang/System" "arraycopy" 5 = 7 := by decide +kernel
theorem ex_cpi_of {h h1 : ex_H} {x y : Nat} {sp dp n : Int32} (hg : ex_cpi h x sp y dp n = some h1) : x ≠ 0 ∧ y ≠ 0 ∧ ∃ n0 f n1 g, h.2 x = some (.inl (.int, n0, .inl f)) ∧ h.2 y = some (.inl (.int, n1, .inl g)) ∧ ¬ sp < 0 ∧ ¬ dp < 0 ∧ ¬ n < 0 ∧ sp.toNatClampNeg + n.toNatClampNeg ≤ n0 ∧ dp.toNatClampNeg + n.toNatClampNeg ≤ n1 ∧ h1 = ex_set h y (.inl (.int, n1, .inl (va_cpy f g sp.toNatClampNeg dp.toNatClampNeg n.toNatClampNeg))) := by
  unfold ex_cpi at hg
  split at hg
  · rename_i n0 f n1 g hx hy
    by_cases q0 : x = 0
    · simp [q0] at hg
    by_cases q1 : y = 0
    · simp [q0, q1] at hg
    by_cases q2 : sp < 0
    · simp [q0, q1, q2] at hg
    by_cases q3 : dp < 0
    · simp [q0, q1, q2, q3] at hg
    by_cases q4 : n < 0
    · simp [q0, q1, q2, q3, q4] at hg
    by_cases q5 : n0 < sp.toNatClampNeg + n.toNatClampNeg
    · simp [q0, q1, q2, q3, q4, q5] at hg
    by_cases q6 : n1 < dp.toNatClampNeg + n.toNatClampNeg
    · simp [q0, q1, q2, q3, q4, q5, q6] at hg
    simp only [q0, q1, q2, q3, q4, q5, q6, if_false, Option.some.injEq] at hg
    exact ⟨q0, q1, n0, f, n1, g, hx, hy, q2, q3, q4, by omega, by omega, hg.symm⟩
  · cases hg
theorem ex_acopy {l : Launch} {G : ex_P} {me : ex_Me} {d pc nx : Nat} {L rr : List Value} {h h' : ex_H} {r : ex_R} {x y idx : Nat} {sp dp n : Int32} {h1 : ex_H} (S : ex_Goal l G me d nx L rr h1 r h') (hg : ex_cpi h x sp y dp n = some h1) (hd0 : d ≠ 0) (hwd : ¬ 8 < ex_wd rr) (hw1 : Cond.methodLink me.1.cls idx arraycopyName ∈ ex_W) (hw2 : Cond.native arraycopyName ∈ ex_W) (hw3 : Cond.static arraycopyName ∈ ex_W) (hw4 : Cond.initialized "java/lang/System" ∈ ex_W) (hd : decode me.2.1 pc = .ok (.invokestatic idx, 3)) (hx : nx = pc + 3) : ex_Goal l G me d pc L (.int n :: .int dp :: .ref y :: .int sp :: .ref x :: rr) h r h' := by
  intro p e R s m args below meth c H locs cells slots mc ms ls hB hL hn hM hS hc hs hfr hlo hmc hms
  subst hx
  obtain ⟨b1, b2, b3, b4, b5, b6, b7, b8, b9⟩ := id hB
  obtain ⟨x0, y0, n0, f, n1, g, g1, g2, h1', h2', h3', h4', h5', g6⟩ := ex_cpi_of hg
  subst g6
  have hws := b9.2.2.2.2.1
  have hc0 : H[ex_ad G x]? = some (vp_cell (gA G .int) (n0, .inl f)) := (hM.2.1 x _ g1 x0).2
  have hc1 : H[ex_ad G y]? = some (vp_cell (gA G .int) (n1, .inl g)) := (hM.2.1 y _ g2 y0).2
  have nn : ∀ z : Int32, ¬ z < 0 → z.toInt = (z.toNatClampNeg : Int) := by
    intro z hz
    have hz0 : (0 : Int) ≤ z.toInt := by
      have := Int32.not_lt.mp hz
      simpa using Int32.le_iff_toInt_le.mp this
    show z.toInt = ((z.toInt.toNat : Nat) : Int)
    omega
  intro T hT X
  obtain ⟨-, k0, hk0, cm0, hkk0⟩ := (b9.1.2 0 _ rfl).1 n0 (fun j => .int (f j))
  obtain ⟨-, k1, hk1, cm1, hkk1⟩ := (b9.1.2 0 _ rfl).1 n1 (fun j => .int (g j))
  obtain ⟨vm', X', step⟩ := X.arraycopy b1 b4 (hws.use hw1 args) (hws.use hw2 args) (hws.use hw3 args) (hws.use hw4 args) (src := ex_ad G x) (dst := ex_ad G y) (cs := vp_cell (gA G .int) (n0, .inl f)) (cd := vp_cell (gA G .int) (n1, .inl g)) (srcPos := sp) (destPos := dp) (n := n) (by rw [hT]; exact hc0) (by rw [hT]; exact hc1)
    (fun _ h => by cases h) (fun _ h => by cases h) (fun h => by cases h) (fun h => by cases h) hk0 hk1 hkk0 hkk1 (by simp [refKind]) h1' h2' h3'
    (by rw [nn sp h1', nn n h3']; show ¬ _ > ((arrV (gA G .int) n0 (fun j => .int (f j))).slots.size : Int); rw [arrV_size]; omega)
    (by rw [nn dp h2', nn n h3']; show ¬ _ > ((arrV (gA G .int) n1 (fun j => .int (g j))).slots.size : Int); rw [arrV_size]; omega)
    (fun vm₁ _ i hi => by
      have e : (vp_cell (gA G .int) (n0, .inl f)).slots.getD (sp.toNatClampNeg + i) .null = .int (f (sp.toNatClampNeg + i)) := by
        show (arrV (gA G .int) n0 (fun j => .int (f j))).slots.getD _ _ = _
        rw [Array.getD_eq_getD_getElem?, arrV_read _ _ (by omega)]
        rfl
      refine ⟨?_, ?_⟩
      · rw [e]
        rfl
      · rw [e]
        exact trivial)
    (g := F0 m pc ls (.int n :: .int dp :: .ref (ex_ad G y) :: .int sp :: .ref (ex_ad G x) :: rr.map (ex_z G))) rfl (by rw [b3, ← hn]; exact hL.1) (rest := rr.map (ex_z G)) rfl (by rw [b2]; exact hd) (by omega) (by show 2 * 0 + _ + _ ≤ _; rw [ex_wd_z, ex_nfw]; omega)
  have e1 : copied (vp_cell (gA G .int) (n0, .inl f)) (vp_cell (gA G .int) (n1, .inl g)) sp dp n = vp_cell (gA G .int) (n1, .inl (va_cpy f g sp.toNatClampNeg dp.toNatClampNeg n.toNatClampNeg)) := va_copied (fun z => .int z) (gA G .int) (gA G .int) f g h4'
  rw [e1] at X' step
  have hl : ex_ad G y < H.size := (Array.getElem?_eq_some_iff.mp hc1).1
  have hheap : ((T.setVm vm').setCell (ex_ad G y) (vp_cell (gA G .int) (n1, .inl (va_cpy f g sp.toNatClampNeg dp.toNatClampNeg n.toNatClampNeg)))).heap = H.setIfInBounds (ex_ad G y) (vp_cell (gA G .int) (n1, .inl (va_cpy f g sp.toNatClampNeg dp.toNatClampNeg n.toNatClampNeg))) := by rw [← hT]; rfl
  have oq : ∀ q : Nat, q ≠ ex_ad G y → (H.setIfInBounds (ex_ad G y) (vp_cell (gA G .int) (n1, .inl (va_cpy f g sp.toNatClampNeg dp.toNatClampNeg n.toNatClampNeg))))[q]? = H[q]? := fun q hq => by simp [Array.getElem?_setIfInBounds, Ne.symm hq]
  have hay := ex_A_ad hM y0 g2
  obtain ⟨t, a1, b1⟩ := S p e R s m args below meth c _ _ cells slots mc ms ls hB hL hn (hM.set (H1 := H.setIfInBounds (ex_ad G y) (vp_cell (gA G .int) (n1, .inl (va_cpy f g sp.toNatClampNeg dp.toNatClampNeg n.toNatClampNeg)))) (c0 := .inl (.int, n1, .inl g)) y0 g2 (by simp) oq (show (H.setIfInBounds (ex_ad G y) _)[ex_ad G y]? = some _ by simp [Array.getElem?_setIfInBounds, hl]) (fun ty a q => by cases q; exact ⟨_, rfl⟩)) ⟨by simp; exact hS.1, fun q g1 g2 => by
      rw [oq q (fun e => g2 (by rw [e]; exact hay))]
      exact hS.2.1 q g1 g2, fun q hq => by
      rcases List.mem_append.mp hq with h | h
      · exact hS.2.2 q h
      · obtain ⟨z, -, hz⟩ := List.mem_map.mp h
        rw [← hz]
        exact hay⟩ hc hs hfr hlo hmc hms _ hheap X'
  exact ⟨t, step t a1, b1⟩
