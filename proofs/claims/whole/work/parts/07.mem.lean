theorem ex_wd_z (G : ex_P) : ∀ st : List Value, ((st.map (ex_z G)).map fun v => v.category).sum = ex_wd st
  | [] => rfl
  | v :: r => by
    have h := ex_wd_z G r
    have hv : (ex_z G v).category = v.category := by cases v <;> rfl
    simp only [List.map_cons, List.sum_cons, ex_wd, hv]
    rw [← h]
theorem ex_one_wld {D : va_G} {cl : List vw_C} {q : Nat × va_E} {H : Heap} (h : va_at D cl q H) : va_P D cl [q] H := by
  intro k x hx
  have hz : k < 1 := (List.getElem?_eq_some_iff.mp hx).1
  rw [show k = 0 by omega] at hx
  cases hx
  exact h
theorem ex_switch {l : Launch} {G : ex_P} {me : ex_Me} {d pc nx : Nat} {L rr : List Value} {h h' : ex_H} {r : ex_R} {b len : Nat} {x v : Int32} {df hi : Int} {offs : Array Int} {tl : List Nat} (S : ex_Goal l G me d (ex_tgt x v tl b) L rr h r h') (hd : decode me.2.1 pc = .ok (.tableswitch df v.toInt hi offs, len)) (hhi : hi + 1 = v.toInt + (tl.length : Int)) (hdf : (pc : Int) + df = (b : Int)) (ho : offs.toList.map (fun o => (pc : Int) + o) = tl.map (fun t : Nat => (t : Int))) : ex_Goal l G me d pc L (.int x :: rr) h r h' := by
  intro p e R s m args below meth c H locs cells slots mc ms ls hB hL hn hM hS hc hs hfr hlo hmc hms
  by_cases q1 : x.toInt < v.toInt
  · rw [show ex_tgt x v tl b = b by unfold ex_tgt; rw [if_pos q1]] at S
    exact lv_tableOut hB.1 hB.2.1 hd (Or.inl q1) hdf (S p e R s m args below meth c H locs cells slots mc ms ls hB hL hn hM hS hc hs hfr hlo hmc hms)
  · by_cases q2 : hi < x.toInt
    · have hnone : tl[(x.toInt - v.toInt).toNat]? = none := List.getElem?_eq_none (by omega)
      rw [show ex_tgt x v tl b = b by unfold ex_tgt; rw [if_neg q1, hnone]; rfl] at S
      exact lv_tableOut hB.1 hB.2.1 hd (Or.inr q2) hdf (S p e R s m args below meth c H locs cells slots mc ms ls hB hL hn hM hS hc hs hfr hlo hmc hms)
    · have hlt : (x.toInt - v.toInt).toNat < tl.length := by omega
      obtain ⟨t, ht⟩ : ∃ t, tl[(x.toInt - v.toInt).toNat]? = some t := ⟨_, List.getElem?_eq_getElem hlt⟩
      have h1 : (offs.toList.map (fun o => (pc : Int) + o))[(x.toInt - v.toInt).toNat]? = some (t : Int) := by rw [ho, List.getElem?_map, ht]; rfl
      rw [List.getElem?_map] at h1
      obtain ⟨o, h2, h3⟩ := Option.map_eq_some_iff.mp h1
      rw [show ex_tgt x v tl b = t by unfold ex_tgt; rw [if_neg q1, ht]; rfl] at S
      exact lv_tableIn hB.1 hB.2.1 hd q1 q2 (by rw [← Array.getElem?_toList]; exact h2) h3 (S p e R s m args below meth c H locs cells slots mc ms ls hB hL hn hM hS hc hs hfr hlo hmc hms)
theorem ex_get_of {h : ex_H} {x ci k : Nat} {w : Value} (hg : ex_get h x ci k = some w) : x ≠ 0 ∧ ∃ fs, h.2 x = some (.inr (ci, fs)) ∧ fs[k]? = some w := by
  unfold ex_get at hg
  split at hg
  · rename_i c fs he
    by_cases q1 : x = 0
    · simp [q1] at hg
    · by_cases q2 : c = ci
      · simp [q1, q2] at hg
        subst q2
        exact ⟨q1, fs, he, hg⟩
      · simp [q1, q2] at hg
  · cases hg
theorem ex_put_of {h h1 : ex_H} {x ci k : Nat} {t : Int32} {w : Value} (hg : ex_put h x ci k t w = some h1) : x ≠ 0 ∧ ∃ fs, h.2 x = some (.inr (ci, fs)) ∧ k < fs.length ∧ ex_fit t w = true ∧ h1 = ex_set h x (.inr (ci, fs.set k w)) := by
  unfold ex_put at hg
  split at hg
  · rename_i c fs he
    by_cases q1 : x = 0
    · simp [q1] at hg
    · by_cases q2 : c = ci
      · by_cases q3 : k < fs.length
        · by_cases q4 : ex_fit t w = true
          · simp [q1, q2, q3, q4] at hg
            subst q2
            exact ⟨q1, fs, he, q3, q4, hg.symm⟩
          · simp [q1, q2, q3, q4] at hg
        · simp [q1, q2, q3] at hg
      · simp [q1, q2] at hg
  · cases hg
/-- the kinds of a field's type -/
def ex_ty (t : Int32) (ty : FieldType) : Prop := (t = 0 ∧ ty = .int) ∨ (t = 1 ∧ ty = .boolean) ∨ (t ≠ 0 ∧ t ≠ 1 ∧ ((∃ n, ty = .object n) ∨ ∃ u, ty = .array u))
theorem ex_fit_of {G : ex_P} {t : Int32} {ty : FieldType} {w : Value} (ht : ex_ty t ty) (hf : ex_fit t w = true) : narrow ty (ex_z G w) = ex_z G w ∧ fits ty (ex_z G w) = true := by
  rcases ht with ⟨rfl, rfl⟩ | ⟨rfl, rfl⟩ | ⟨h0, h1, ⟨n, rfl⟩ | ⟨u, rfl⟩⟩
  · cases w <;> first | exact ⟨rfl, rfl⟩ | (simp [ex_fit] at hf)
  · cases w with
    | int x =>
      simp [ex_fit] at hf
      rcases hf with rfl | rfl <;> exact ⟨rfl, rfl⟩
    | _ => simp [ex_fit] at hf
  · cases w <;> first | exact ⟨rfl, rfl⟩ | (simp [ex_fit, h0, h1] at hf)
  · cases w <;> first | exact ⟨rfl, rfl⟩ | (simp [ex_fit, h0, h1] at hf)
/-- what is known of a class of the list -/
def ex_Cl (C : String) (T : u_T) (N : Nat) : Prop := (∀ w ∈ u_ws C T N, w ∈ ex_W) ∧ (∃ ty : Nat → FieldType, ∀ k, k < N → parseFieldDescriptor (T k).2.2.1 = some (ty k)) ∧ ∀ a, a < N → ∀ b, b < N → a ≠ b → (T a).2.1 ≠ (T b).2.1
theorem ex_getf {l : Launch} {G : ex_P} {me : ex_Me} {d pc nx : Nat} {L rr : List Value} {h h' : ex_H} {r : ex_R} {a b x : Nat} {w : Value} {C : String} {T : u_T} {N idx : Nat} (S : ex_Goal l G me d nx L (w :: rr) h r h') (hg : ex_get h x a b = some w) (hcl : ex_cl[a]? = some (C, T, N)) (hC : ex_Cl C T N) (hbN : b < N) (hw : Cond.fieldLink me.1.cls idx (T b).1 (T b).2.1 (T b).2.2.1 ∈ ex_W) (hd : decode me.2.1 pc = .ok (.getfield idx, 3)) (hx : nx = pc + 3) : ex_Goal l G me d pc L (.ref x :: rr) h r h' := by
  intro p e R s m args below meth c H locs cells slots mc ms ls hB hL hn hM hS hc hs hfr hlo hmc hms
  subst hx
  obtain ⟨b1, b2, b3, b4, b5, b6, b7, b8, b9⟩ := id hB
  obtain ⟨x0, fs, g1, g2⟩ := ex_get_of hg
  have hat := (hM.2.1 x _ g1 x0).2
  refine va_get (D := (gC G, gI G)) (cl := ex_cl) (tys := ex_ts G) (ws := [(ex_ad G x, .inr (a, fs.map (ex_z G)))]) b1 b2 (b9.2.2.2.2.1.all args) hC.1 b4 b9.1 (ex_one_wld hat) 0 rfl hcl b hbN (b9.2.2.2.2.1.use hw args) (fun _ h9 => h9) (v := ex_z G w) (by rw [List.getElem?_map, g2]; rfl) hd ?_
  exact S p e R s m args below meth c H locs cells slots mc ms ls hB hL hn hM hS hc hs hfr hlo hmc hms
theorem ex_putf {l : Launch} {G : ex_P} {me : ex_Me} {d pc nx : Nat} {L rr : List Value} {h h' : ex_H} {r : ex_R} {a b x : Nat} {w : Value} {h1 : ex_H} {t : Int32} {ty : FieldType} {C : String} {T : u_T} {N idx : Nat} (S : ex_Goal l G me d nx L rr h1 r h') (hg : ex_put h x a b t w = some h1) (hcl : ex_cl[a]? = some (C, T, N)) (hC : ex_Cl C T N) (hbN : b < N) (hw : Cond.fieldLink me.1.cls idx (T b).1 (T b).2.1 (T b).2.2.1 ∈ ex_W) (hdt : parseFieldDescriptor (T b).2.2.1 = some ty) (ht : ex_ty t ty) (hfin : (T b).2.2.2 = false) (hd : decode me.2.1 pc = .ok (.putfield idx, 3)) (hx : nx = pc + 3) : ex_Goal l G me d pc L (w :: .ref x :: rr) h r h' := by
  intro p e R s m args below meth c H locs cells slots mc ms ls hB hL hn hM hS hc hs hfr hlo hmc hms
  subst hx
  obtain ⟨b1, b2, b3, b4, b5, b6, b7, b8, b9⟩ := id hB
  obtain ⟨x0, fs, g1, g2, g3, g4⟩ := ex_put_of hg
  subst g4
  have hat := (hM.2.1 x _ g1 x0).2
  obtain ⟨ty0, hty⟩ := hC.2.1
  have hts := b9.2.2.2.2.1.all args
  have hap := va_apart (own := me.1.cls) (cl := ex_cl) (tys := ex_ts G) hts hC.1 ty0 hty hC.2.2 b9.1 hcl
  obtain ⟨rc, k1, cell, q1, q2, q3, q4⟩ := hat
  have hr0 : rc = (C, T, N) := Option.some.inj (k1.symm.trans hcl)
  subst hr0
  obtain ⟨hS0, hfc, kC, hkC, hkind⟩ := b9.1.1 a _ hcl
  obtain ⟨cf, kf, fi, f, hi, hsl⟩ := hS0 b hbN
  obtain ⟨n1, n2⟩ := ex_fit_of (G := G) ht g3
  have hlay := hts _ (hC.1 _ (u_in_lay hbN))
  unfold u_lay at hlay
  rw [if_neg (by rw [hfin]; decide)] at hlay
  have hst := (u_facts hfc hkC (u_lays hts hC.1 hbN) hi).1
  have h6 := u_store hfc hkC hkind hlay hi hdt n1 n2
  refine W.putK b1 b2 (f := f) ⟨b4, b9.2.2.2.2.1.use hw args, ⟨_, _, _, hi⟩, hst⟩ (by rw [q2]; exact h6) q1 q3 (by rw [hsl]; exact k2_hasslot (q4 b hbN)) rfl rfl hd fun H1 e1 e2 e3 => ?_
  rw [hsl] at e1
  refine S p e R s m args below meth c H1 _ cells slots mc ms ls hB hL hn (hM.set (c0 := .inr (a, fs)) x0 g1 e2 e3 ⟨_, hcl, ?_⟩ (fun ty a q => by cases q)) (hS.put e2 e3 (ex_A_ad hM x0 g1)) hc hs hfr hlo hmc hms
  rw [List.map_set]
  exact t_OB.to (V := updV (vp_V (fs.map (ex_z G))) b (ex_z G w)) ⟨_, e1, q2, q3, t_set q4 hap hbN (ex_z G w)⟩ (fun j _ => vp_updV_set (by rw [List.length_map]; exact g2) (ex_z G w) j)
theorem ex_putF {l : Launch} {G : ex_P} {me : ex_Me} {d pc nx : Nat} {L rr : List Value} {h h' : ex_H} {r : ex_R} {a b x : Nat} {w : Value} {h1 : ex_H} {t : Int32} {ty : FieldType} {C : String} {T : u_T} {N idx : Nat} (S : ex_Goal l G me d nx L rr h1 r h') (hg : ex_put h x a b t w = some h1) (hcl : ex_cl[a]? = some (C, T, N)) (hC : ex_Cl C T N) (hbN : b < N) (hw : Cond.fieldLink me.1.cls idx (T b).1 (T b).2.1 (T b).2.2.1 ∈ ex_W) (hdt : parseFieldDescriptor (T b).2.2.1 = some ty) (ht : ex_ty t ty) (hfin : (T b).2.2.2 = true) (hini : me.1.name = "<init>") (hown : (T b).1 = me.1.cls) (hd : decode me.2.1 pc = .ok (.putfield idx, 3)) (hx : nx = pc + 3) : ex_Goal l G me d pc L (w :: .ref x :: rr) h r h' := by
  intro p e R s m args below meth c H locs cells slots mc ms ls hB hL hn hM hS hc hs hfr hlo hmc hms
  subst hx
  obtain ⟨b1, b2, b3, b4, b5, b6, b7, b8, b9⟩ := id hB
  obtain ⟨x0, fs, g1, g2, g3, g4⟩ := ex_put_of hg
  subst g4
  have hat := (hM.2.1 x _ g1 x0).2
  obtain ⟨ty0, hty⟩ := hC.2.1
  have hts := b9.2.2.2.2.1.all args
  have hap := va_apart (own := me.1.cls) (cl := ex_cl) (tys := ex_ts G) hts hC.1 ty0 hty hC.2.2 b9.1 hcl
  obtain ⟨rc, k1, cell, q1, q2, q3, q4⟩ := hat
  have hr0 : rc = (C, T, N) := Option.some.inj (k1.symm.trans hcl)
  subst hr0
  obtain ⟨hS0, hfc, kC, hkC, hkind⟩ := b9.1.1 a _ hcl
  obtain ⟨cf, kf, fi, f, hi, hsl⟩ := hS0 b hbN
  obtain ⟨n1, n2⟩ := ex_fit_of (G := G) ht g3
  have hlay := hts _ (hC.1 _ (u_in_lay hbN))
  unfold u_lay at hlay
  rw [if_pos hfin] at hlay
  have hst := (u_facts hfc hkC (u_lays hts hC.1 hbN) hi).1
  have h6 := u_fits hfc hkC hkind (Or.inr hlay) hi hdt n1 n2
  have hcf : m.cls = cf := by
    obtain ⟨_, _, c', _, _, _, -, -, hf', -, -, -, hown2, -⟩ := Cond.laysFinal_spec hlay
    have e1 : c' = cf := by have := hi.symm.trans hf'; simp at this; exact this.1.symm
    rw [hown] at hown2
    rw [← e1]; exact Option.some.inj (b4.symm.trans hown2)
  refine W.putFinK b1 b2 b4 (b9.2.2.2.2.1.use hw args) hi hst hcf (b7.trans hini) (by rw [q2]; exact h6) q1 q3 (by rw [hsl]; exact k2_hasslot (q4 b hbN)) rfl rfl hd fun H1 e1 e2 e3 => ?_
  rw [hsl] at e1
  refine S p e R s m args below meth c H1 _ cells slots mc ms ls hB hL hn (hM.set (c0 := .inr (a, fs)) x0 g1 e2 e3 ⟨_, hcl, ?_⟩ (fun ty a q => by cases q)) (hS.put e2 e3 (ex_A_ad hM x0 g1)) hc hs hfr hlo hmc hms
  rw [List.map_set]
  exact t_OB.to (V := updV (vp_V (fs.map (ex_z G))) b (ex_z G w)) ⟨_, e1, q2, q3, t_set q4 hap hbN (ex_z G w)⟩ (fun j _ => vp_updV_set (by rw [List.length_map]; exact g2) (ex_z G w) j)
theorem ex_ild_of {h : ex_H} {x : Nat} {i w : Int32} (hg : ex_ild h x i = some w) : ∃ n f, h.2 x = some (.inl (.int, n, .inl f)) ∧ vp_in i n ∧ w = f i.toNatClampNeg := by
  unfold ex_ild at hg
  split at hg
  · rename_i n f he
    by_cases q1 : i < 0
    · simp [q1] at hg
    · by_cases q2 : n ≤ i.toNatClampNeg
      · simp [q1, q2] at hg
      · simp [q1, q2] at hg
        exact ⟨n, f, he, by unfold vp_in; simp [q1, q2], hg.symm⟩
  · cases hg
theorem ex_ist_of {h h1 : ex_H} {x : Nat} {i v : Int32} (hg : ex_ist h x i v = some h1) : x ≠ 0 ∧ ∃ n f, h.2 x = some (.inl (.int, n, .inl f)) ∧ vp_in i n ∧ h1 = ex_set h x (.inl (.int, n, .inl (upd f i.toNatClampNeg v))) := by
  unfold ex_ist at hg
  split at hg
  · rename_i n f he
    by_cases q0 : x = 0
    · simp [q0] at hg
    · by_cases q1 : i < 0
      · simp [q0, q1] at hg
      · by_cases q2 : n ≤ i.toNatClampNeg
        · simp [q0, q1, q2] at hg
        · simp [q0, q1, q2] at hg
          exact ⟨q0, n, f, he, by unfold vp_in; simp [q1, q2], hg.symm⟩
  · cases hg
theorem ex_zst_of {h h1 : ex_H} {x : Nat} {i v : Int32} (hg : ex_zst h x i v = some h1) : x ≠ 0 ∧ ∃ n f, h.2 x = some (.inl (.boolean, n, .inl f)) ∧ vp_in i n ∧ h1 = ex_set h x (.inl (.boolean, n, .inl (upd f i.toNatClampNeg (v &&& 1)))) := by
  unfold ex_zst at hg
  split at hg
  · rename_i n f he
    by_cases q0 : x = 0
    · simp [q0] at hg
    · by_cases q1 : i < 0
      · simp [q0, q1] at hg
      · by_cases q2 : n ≤ i.toNatClampNeg
        · simp [q0, q1, q2] at hg
        · simp [q0, q1, q2] at hg
          exact ⟨q0, n, f, he, by unfold vp_in; simp [q1, q2], hg.symm⟩
  · cases hg
theorem ex_lst_of {h h1 : ex_H} {x : Nat} {i : Int32} {v : Int64} (hg : ex_lst h x i v = some h1) : x ≠ 0 ∧ ∃ n f, h.2 x = some (.inl (.long, n, .inr (.inl f))) ∧ vp_in i n ∧ h1 = ex_set h x (.inl (.long, n, .inr (.inl (vp_updL f i.toNatClampNeg v)))) := by
  unfold ex_lst at hg
  split at hg
  · rename_i n f he
    by_cases q0 : x = 0
    · simp [q0] at hg
    · by_cases q1 : i < 0
      · simp [q0, q1] at hg
      · by_cases q2 : n ≤ i.toNatClampNeg
        · simp [q0, q1, q2] at hg
        · simp [q0, q1, q2] at hg
          exact ⟨q0, n, f, he, by unfold vp_in; simp [q1, q2], hg.symm⟩
  · cases hg
theorem ex_zld_of {h : ex_H} {x : Nat} {i : Int32} {w : Int32} (hg : ex_zld h x i = some w) : x ≠ 0 ∧ ∃ n f, h.2 x = some (.inl (.boolean, n, .inl f)) ∧ vp_in i n ∧ w = f i.toNatClampNeg := by
  unfold ex_zld at hg
  split at hg
  · rename_i n f he
    by_cases q0 : x = 0
    · simp [q0] at hg
    · by_cases q1 : i < 0
      · simp [q0, q1] at hg
      · by_cases q2 : n ≤ i.toNatClampNeg
        · simp [q0, q1, q2] at hg
        · simp [q0, q1, q2] at hg
          exact ⟨q0, n, f, he, by unfold vp_in; simp [q1, q2], hg.symm⟩
  · cases hg
theorem ex_lld_of {h : ex_H} {x : Nat} {i : Int32} {w : Int64} (hg : ex_lld h x i = some w) : x ≠ 0 ∧ ∃ n f, h.2 x = some (.inl (.long, n, .inr (.inl f))) ∧ vp_in i n ∧ w = f i.toNatClampNeg := by
  unfold ex_lld at hg
  split at hg
  · rename_i n f he
    by_cases q0 : x = 0
    · simp [q0] at hg
    · by_cases q1 : i < 0
      · simp [q0, q1] at hg
      · by_cases q2 : n ≤ i.toNatClampNeg
        · simp [q0, q1, q2] at hg
        · simp [q0, q1, q2] at hg
          exact ⟨q0, n, f, he, by unfold vp_in; simp [q1, q2], hg.symm⟩
  · cases hg
theorem ex_iald {l : Launch} {G : ex_P} {me : ex_Me} {d pc nx : Nat} {L rr : List Value} {h h' : ex_H} {r : ex_R} {x : Nat} {i w : Int32} (S : ex_Goal l G me d nx L (.int w :: rr) h r h') (hg : ex_ild h x i = some w) (hd : decode me.2.1 pc = .ok (.iaload, 1)) (hx : nx = pc + 1) : ex_Goal l G me d pc L (.int i :: .ref x :: rr) h r h' := by
  intro p e R s m args below meth c H locs cells slots mc ms ls hB hL hn hM hS hc hs hfr hlo hmc hms
  subst hx
  obtain ⟨b1, b2, b3, b4, b5, b6, b7, b8, b9⟩ := id hB
  obtain ⟨n, f, g1, g2, g3⟩ := ex_ild_of hg
  subst g3
  by_cases x0 : x = 0
  · subst x0
    have h0 := hM.2.2.1 _ g1
    simp only [Sum.inl.injEq, Prod.mk.injEq, true_and] at h0
    obtain ⟨h0a, h0b⟩ := h0
    cases h0b
    rw [h0a] at g2
    refine va_sld (A := ex_A G) b1 b2 b9.2.1 (Nat.lt_of_lt_of_le b9.2.2.1 b9.2.2.2.1) (Nat.not_le.mpr b9.2.2.1) hS g2 hd ?_
    exact S p e R s m args below meth c H locs cells slots mc ms ls hB hL hn hM hS hc hs hfr hlo hmc hms
  · have hat := (hM.2.1 x _ g1 x0).2
    refine va_iald (D := (gC G, gI G)) (cl := ex_cl) (tys := ex_ts G) (ws := [(ex_ad G x, .inl (gA G .int, n, .inl f))]) b1 b2 b9.1 (ex_one_wld hat) 0 0 rfl rfl g2 hd ?_
    exact S p e R s m args below meth c H locs cells slots mc ms ls hB hL hn hM hS hc hs hfr hlo hmc hms
theorem ex_zald {l : Launch} {G : ex_P} {me : ex_Me} {d pc nx : Nat} {L rr : List Value} {h h' : ex_H} {r : ex_R} {x : Nat} {i w : Int32} (S : ex_Goal l G me d nx L (.int w :: rr) h r h') (hg : ex_zld h x i = some w) (hd : decode me.2.1 pc = .ok (.baload, 1)) (hx : nx = pc + 1) : ex_Goal l G me d pc L (.int i :: .ref x :: rr) h r h' := by
  intro p e R s m args below meth c H locs cells slots mc ms ls hB hL hn hM hS hc hs hfr hlo hmc hms
  subst hx
  obtain ⟨b1, b2, b3, b4, b5, b6, b7, b8, b9⟩ := id hB
  obtain ⟨x0, n, f, g1, g2, g3⟩ := ex_zld_of hg
  subst g3
  have hat := (hM.2.1 x _ g1 x0).2
  refine va_zald (D := (gC G, gI G)) (cl := ex_cl) (tys := ex_ts G) (ws := [(ex_ad G x, .inl (gA G .boolean, n, .inl f))]) b1 b2 b9.1 (ex_one_wld hat) 0 1 rfl rfl g2 hd ?_
  exact S p e R s m args below meth c H locs cells slots mc ms ls hB hL hn hM hS hc hs hfr hlo hmc hms
theorem ex_lald {l : Launch} {G : ex_P} {me : ex_Me} {d pc nx : Nat} {L rr : List Value} {h h' : ex_H} {r : ex_R} {x : Nat} {i : Int32} {w : Int64} (S : ex_Goal l G me d nx L (.long w :: rr) h r h') (hg : ex_lld h x i = some w) (hd : decode me.2.1 pc = .ok (.laload, 1)) (hx : nx = pc + 1) : ex_Goal l G me d pc L (.int i :: .ref x :: rr) h r h' := by
  intro p e R s m args below meth c H locs cells slots mc ms ls hB hL hn hM hS hc hs hfr hlo hmc hms
  subst hx
  obtain ⟨b1, b2, b3, b4, b5, b6, b7, b8, b9⟩ := id hB
  obtain ⟨x0, n, f, g1, g2, g3⟩ := ex_lld_of hg
  subst g3
  have hat := (hM.2.1 x _ g1 x0).2
  refine va_lald (D := (gC G, gI G)) (cl := ex_cl) (tys := ex_ts G) (ws := [(ex_ad G x, .inl (gA G .long, n, .inr (.inl f)))]) b1 b2 b9.1 (ex_one_wld hat) 0 2 rfl rfl g2 hd ?_
  exact S p e R s m args below meth c H locs cells slots mc ms ls hB hL hn hM hS hc hs hfr hlo hmc hms
theorem ex_iast {l : Launch} {G : ex_P} {me : ex_Me} {d pc nx : Nat} {L rr : List Value} {h h' : ex_H} {r : ex_R} {x : Nat} {i : Int32} {v : Int32} {h1 : ex_H} (S : ex_Goal l G me d nx L rr h1 r h') (hg : ex_ist h x i v = some h1) (hd : decode me.2.1 pc = .ok (.iastore, 1)) (hx : nx = pc + 1) : ex_Goal l G me d pc L (.int v :: .int i :: .ref x :: rr) h r h' := by
  intro p e R s m args below meth c H locs cells slots mc ms ls hB hL hn hM hS hc hs hfr hlo hmc hms
  subst hx
  obtain ⟨b1, b2, b3, b4, b5, b6, b7, b8, b9⟩ := id hB
  obtain ⟨x0, n, f, g1, g2, g3⟩ := ex_ist_of hg
  subst g3
  have hat := (hM.2.1 x _ g1 x0).2
  refine W.iast b1 b2 hat ((b9.1.2 0 _ rfl).1 n (fun j => .int (f j))) (fun q => by cases q) (by show ¬ (i < 0 ∨ (arrV _ _ _).slots.size ≤ _); rw [arrV_size]; exact g2) rfl rfl hd fun H1 e1 e2 e3 => ?_
  refine S p e R s m args below meth c H1 _ cells slots mc ms ls hB hL hn (hM.set (c0 := .inl (.int, n, .inl f)) x0 g1 e2 e3 ?_ (fun ty a q => by cases q; exact ⟨_, rfl⟩)) (hS.put e2 e3 (ex_A_ad hM x0 g1)) hc hs hfr hlo hmc hms
  show H1[ex_ad G x]? = some (vp_cell _ _)
  rw [e1]
  show some ((arrV _ _ _).setSlot _ _) = some (vp_cell _ _)
  rw [vp_cell_i, arrV_store]
  congr 2
  funext q
  by_cases hq : q = i.toNatClampNeg
  · subst hq
    simp [updV, upd]
  · simp [updV, upd, hq]
theorem ex_zast {l : Launch} {G : ex_P} {me : ex_Me} {d pc nx : Nat} {L rr : List Value} {h h' : ex_H} {r : ex_R} {x : Nat} {i : Int32} {v : Int32} {h1 : ex_H} (S : ex_Goal l G me d nx L rr h1 r h') (hg : ex_zst h x i v = some h1) (hd : decode me.2.1 pc = .ok (.bastore, 1)) (hx : nx = pc + 1) : ex_Goal l G me d pc L (.int v :: .int i :: .ref x :: rr) h r h' := by
  intro p e R s m args below meth c H locs cells slots mc ms ls hB hL hn hM hS hc hs hfr hlo hmc hms
  subst hx
  obtain ⟨b1, b2, b3, b4, b5, b6, b7, b8, b9⟩ := id hB
  obtain ⟨x0, n, f, g1, g2, g3⟩ := ex_zst_of hg
  subst g3
  have hat := (hM.2.1 x _ g1 x0).2
  refine W.zast b1 b2 hat ((b9.1.2 1 _ rfl).1 n (fun j => .int (f j))) (fun q => by cases q) (by show ¬ (i < 0 ∨ (arrV _ _ _).slots.size ≤ _); rw [arrV_size]; exact g2) rfl rfl hd fun H1 e1 e2 e3 => ?_
  refine S p e R s m args below meth c H1 _ cells slots mc ms ls hB hL hn (hM.set (c0 := .inl (.boolean, n, .inl f)) x0 g1 e2 e3 ?_ (fun ty a q => by cases q; exact ⟨_, rfl⟩)) (hS.put e2 e3 (ex_A_ad hM x0 g1)) hc hs hfr hlo hmc hms
  show H1[ex_ad G x]? = some (vp_cell _ _)
  rw [e1]
  show some ((arrV _ _ _).setSlot _ _) = some (vp_cell _ _)
  rw [vp_cell_i, arrV_store]
  congr 2
  funext q
  by_cases hq : q = i.toNatClampNeg
  · subst hq
    simp [updV, upd, narrow]
  · simp [updV, upd, hq]
theorem ex_last {l : Launch} {G : ex_P} {me : ex_Me} {d pc nx : Nat} {L rr : List Value} {h h' : ex_H} {r : ex_R} {x : Nat} {i : Int32} {v : Int64} {h1 : ex_H} (S : ex_Goal l G me d nx L rr h1 r h') (hg : ex_lst h x i v = some h1) (hd : decode me.2.1 pc = .ok (.lastore, 1)) (hx : nx = pc + 1) : ex_Goal l G me d pc L (.long v :: .int i :: .ref x :: rr) h r h' := by
  intro p e R s m args below meth c H locs cells slots mc ms ls hB hL hn hM hS hc hs hfr hlo hmc hms
  subst hx
  obtain ⟨b1, b2, b3, b4, b5, b6, b7, b8, b9⟩ := id hB
  obtain ⟨x0, n, f, g1, g2, g3⟩ := ex_lst_of hg
  subst g3
  have hat := (hM.2.1 x _ g1 x0).2
  refine W.last b1 b2 hat ((b9.1.2 2 _ rfl).1 n (fun j => .long (f j))) (fun q => by cases q) (by show ¬ (i < 0 ∨ (arrV _ _ _).slots.size ≤ _); rw [arrV_size]; exact g2) rfl rfl hd fun H1 e1 e2 e3 => ?_
  refine S p e R s m args below meth c H1 _ cells slots mc ms ls hB hL hn (hM.set (c0 := .inl (.long, n, .inr (.inl f))) x0 g1 e2 e3 ?_ (fun ty a q => by cases q; exact ⟨_, rfl⟩)) (hS.put e2 e3 (ex_A_ad hM x0 g1)) hc hs hfr hlo hmc hms
  show H1[ex_ad G x]? = some (vp_cell _ _)
  rw [e1]
  show some ((arrV _ _ _).setSlot _ _) = some (vp_cell _ _)
  rw [vp_cell_l, arrV_store]
  congr 2
  funext q
  by_cases hq : q = i.toNatClampNeg
  · subst hq
    simp [updV, vp_updL]
  · simp [updV, vp_updL, hq]
