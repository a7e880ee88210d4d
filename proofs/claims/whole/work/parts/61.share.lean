/-! CALLS OF BOTH: share -/
def pt (m : Int → Int) (Bf : Int → Int) (r : Int) : Int := q_dv (SZ m r) (Bf r + 1)
def ndf (m : Int → Int) (Bf : Int → Int) (r t : Int) : Int := if pt m Bf t < pt m Bf r then r else t
def nd (m : Int → Int) (Bf : Int → Int) : Int := q_it (ndf m Bf) 4 0
def shf (m : Int → Int) (_ : Int) (Bf : Int → Int) : Int → Int := fun z => if z = nd m Bf then Bf z + 1 else Bf z
section SHA
variable {d L : Nat} {xs : Nat → Int32} {s t : Nat → Int → Int32} {O : Nat → Int64} {c : Bool × Nat × Nat} {b : Int} {m : Int → Int} {Bf : Int → Int}
theorem pt_rg {r : Int} (h0 : 0 ≤ Bf r) (h1 : Bf r ≤ 99) : 0 ≤ pt m Bf r ∧ pt m Bf r ≤ 48 := by
  have sr := sz_rg m r
  unfold pt q_dv
  rw [q_sg_id (by omega) (by omega), q_sg_id (by omega) (by omega), Int.tdiv_eq_ediv_of_nonneg (by omega)]
  refine ⟨Int.ediv_nonneg (by omega) (by omega), ?_⟩
  exact Int.le_trans (Int.ediv_le_self _ (by omega)) (by omega)
theorem ndf_rg (m : Int → Int) (Bf : Int → Int) {r t : Int} (h0 : 0 ≤ r) (h1 : r < 4) (h2 : 0 ≤ t) (h3 : t < 4) : 0 ≤ ndf m Bf r t ∧ ndf m Bf r t < 4 := by
  unfold ndf
  split <;> omega
theorem nd_rg (m : Int → Int) (Bf : Int → Int) : 0 ≤ nd m Bf ∧ nd m Bf < 4 := by
  have key : ∀ n : Nat, (n : Int) ≤ 4 → 0 ≤ q_it (ndf m Bf) n 0 ∧ q_it (ndf m Bf) n 0 < 4 := by
    intro n
    induction n with
    | zero =>
      intro _
      show (0 : Int) ≤ 0 ∧ (0 : Int) < 4
      omega
    | succ n ih =>
      intro hn
      have := ih (by omega)
      exact ndf_rg m Bf (by omega) (by omega) this.1 this.2
  exact key 4 (by omega)
theorem cc_neediest (Hv : Vw m) (e2 : ∀ v, 0 ≤ v → v < 5 → Wk m v t) (hB : ∀ z, 0 ≤ z → z < 4 → q_g t 269 z = Bf z ∧ 0 ≤ Bf z ∧ Bf z ≤ 99) : EV (d) 206 0 [.ref 1, .null, .null, .null, .null] [] (q_h L xs (t) O c) = some (.inl (some (.int (q_I (nd m Bf)))), q_h L xs (t) O c) := by
  simp (disch := first | omega | exact q_b_01 _) only [↓reduceIte, q_bk0, q_bk1, q_bk2, q_sg_b, q_b_0, q_b_n0, q_b_1, q_b_n1, q_b_T, q_b_F, q_sg_g, q_sg_sg, q_sg_xs, q_sg_id, q_gu_ne, q_gu_eq, q_g_fne, q_g_cpe, q_w_f, q_v_f, q_u_f, q_fn_f, q_cp_f, q_sg_pg, q_sg_hc, q_lt_t, q_lt_f, q_le_t, q_le_f, q_eq_t, q_eq_f, ne_eq, eq_self, Bool.false_eq_true, Bool.true_eq_false, not_true_eq_false, not_false_eq_true, true_and, and_true, false_and, and_false, true_or, or_true, false_or, or_false, if_true, if_false, Int.reduceAdd, Int.reduceMul, Int.reduceSub, Int.reduceNeg, R_206_0, R_206_11, R_206_17, R_206_20, R_206_24, R_206_30, R_206_33, R_206_39, R_206_42, R_206_50, R_206_55, R_206_61]
  obtain ⟨u, f1, f2, f3⟩ := q_for (fun j (u : Int × Value) => EV (d) 206 6 [.ref 1, .int (q_I (u.1)), .int (q_I ((if j = 0 then -1 else pt m Bf u.1))), .int (q_I (j)), u.2] [] (q_h L xs (t) O c)) (fun j u => u.1 = q_it (ndf m Bf) j.toNat 0 ∧ 0 ≤ u.1 ∧ u.1 < 4) (lo := 0) (hi := 4) (by omega) (fun j u a1 a2 ⟨eu, u0, u1⟩ => by
    have hb := hB j a1 a2
    have hu := hB u.1 u0 u1
    have p1 := pt_rg (m := m) (r := j) hb.2.1 hb.2.2
    have p2 := pt_rg (m := m) (r := u.1) hu.2.1 hu.2.2
    have hw := (e2 j a1 (by omega)).2.2.2.2
    have sr := sz_rg m j
    rw [sz_eq Hv a1 (by omega), q_sg_id (by omega) (by omega)] at hw
    have hW := r264_W a1 (show j < 5 by omega)
    have hn : q_sg (Bf j + 1) ≠ 0 := by
      rw [q_sg_id (by omega) (by omega)]
      omega
    have ep : q_dv (SZ m j) (Bf j + 1) = pt m Bf j := rfl
    refine ⟨(ndf m Bf j u.1, .int (q_I (pt m Bf j))), ?_, by rw [q_it_1 _ a1, eu], ?_⟩
    · rw [R_206_6]
      by_cases e0 : j = 0
      · subst e0
        have eu0 : u.1 = 0 := eu
        have en : ndf m Bf 0 u.1 = 0 := by
          unfold ndf
          rw [eu0]
          split <;> rfl
        simp (disch := first | omega | exact q_b_01 _) only [↓reduceIte, q_bk0, q_bk1, q_bk2, q_sg_b, q_b_0, q_b_n0, q_b_1, q_b_n1, q_b_T, q_b_F, q_sg_g, q_sg_sg, q_sg_xs, q_sg_id, q_gu_ne, q_gu_eq, q_g_fne, q_g_cpe, q_w_f, q_v_f, q_u_f, q_fn_f, q_cp_f, q_sg_pg, q_sg_hc, q_lt_t, q_lt_f, q_le_t, q_le_f, q_eq_t, q_eq_f, ne_eq, eq_self, Bool.false_eq_true, Bool.true_eq_false, not_true_eq_false, not_false_eq_true, true_and, and_true, false_and, and_false, true_or, or_true, false_or, or_false, if_true, if_false, Int.reduceAdd, Int.reduceMul, Int.reduceSub, Int.reduceNeg, hb.1, hw, ep, en, R_206_0, R_206_11, R_206_17, R_206_20, R_206_24, R_206_30, R_206_33, R_206_39, R_206_42, R_206_50, R_206_55, R_206_61, wk_g4 hW]
      · unfold ndf
        by_cases el : pt m Bf u.1 < pt m Bf j
        · simp (disch := first | omega | exact q_b_01 _) only [↓reduceIte, q_bk0, q_bk1, q_bk2, q_sg_b, q_b_0, q_b_n0, q_b_1, q_b_n1, q_b_T, q_b_F, q_sg_g, q_sg_sg, q_sg_xs, q_sg_id, q_gu_ne, q_gu_eq, q_g_fne, q_g_cpe, q_w_f, q_v_f, q_u_f, q_fn_f, q_cp_f, q_sg_pg, q_sg_hc, q_lt_t, q_lt_f, q_le_t, q_le_f, q_eq_t, q_eq_f, ne_eq, eq_self, Bool.false_eq_true, Bool.true_eq_false, not_true_eq_false, not_false_eq_true, true_and, and_true, false_and, and_false, true_or, or_true, false_or, or_false, if_true, if_false, Int.reduceAdd, Int.reduceMul, Int.reduceSub, Int.reduceNeg, hb.1, hw, ep, el, R_206_0, R_206_11, R_206_17, R_206_20, R_206_24, R_206_30, R_206_33, R_206_39, R_206_42, R_206_50, R_206_55, R_206_61, wk_g4 hW]
        · simp (disch := first | omega | exact q_b_01 _) only [↓reduceIte, q_bk0, q_bk1, q_bk2, q_sg_b, q_b_0, q_b_n0, q_b_1, q_b_n1, q_b_T, q_b_F, q_sg_g, q_sg_sg, q_sg_xs, q_sg_id, q_gu_ne, q_gu_eq, q_g_fne, q_g_cpe, q_w_f, q_v_f, q_u_f, q_fn_f, q_cp_f, q_sg_pg, q_sg_hc, q_lt_t, q_lt_f, q_le_t, q_le_f, q_eq_t, q_eq_f, ne_eq, eq_self, Bool.false_eq_true, Bool.true_eq_false, not_true_eq_false, not_false_eq_true, true_and, and_true, false_and, and_false, true_or, or_true, false_or, or_false, if_true, if_false, Int.reduceAdd, Int.reduceMul, Int.reduceSub, Int.reduceNeg, hb.1, hw, ep, el, R_206_0, R_206_11, R_206_17, R_206_20, R_206_24, R_206_30, R_206_33, R_206_39, R_206_42, R_206_50, R_206_55, R_206_61, wk_g4 hW]
    · show 0 ≤ ndf m Bf j u.1 ∧ ndf m Bf j u.1 < 4
      unfold ndf
      split <;> omega) (t := (0, .null)) ⟨rfl, by omega, by omega⟩
  refine Eq.trans f1 ?_
  rw [R_206_6, show u.1 = nd m Bf from f2]
  simp (disch := first | omega | exact q_b_01 _) only [↓reduceIte, q_bk0, q_bk1, q_bk2, q_sg_b, q_b_0, q_b_n0, q_b_1, q_b_n1, q_b_T, q_b_F, q_sg_g, q_sg_sg, q_sg_xs, q_sg_id, q_gu_ne, q_gu_eq, q_g_fne, q_g_cpe, q_w_f, q_v_f, q_u_f, q_fn_f, q_cp_f, q_sg_pg, q_sg_hc, q_lt_t, q_lt_f, q_le_t, q_le_f, q_eq_t, q_eq_f, ne_eq, eq_self, Bool.false_eq_true, Bool.true_eq_false, not_true_eq_false, not_false_eq_true, true_and, and_true, false_and, and_false, true_or, or_true, false_or, or_false, if_true, if_false, Int.reduceAdd, Int.reduceMul, Int.reduceSub, Int.reduceNeg, R_206_0, R_206_11, R_206_17, R_206_20, R_206_24, R_206_30, R_206_33, R_206_39, R_206_42, R_206_50, R_206_55, R_206_61]
theorem mm_to (em : q_g s 286 = m) (Hv : Vw m) {one n i : Int} (hB : ∀ z, 0 ≤ z → z < 4 → 0 ≤ Bf z ∧ Bf z ≤ 99) (W : Int → Int32) : ∃ W', EV (d + 16) 336 74 [.ref 285, .int (q_I (one)), .int (q_I (n)), .int (q_I (i)), .int (q_I (0)), .int (q_I (1))] [] (q_h L xs (q_v (q_v s 311 0 4 (fun z => q_I (Bf z))) 307 0 48 W) O c) = EV (d + 16) 336 125 [.ref 285, .int (q_I (one)), .int (q_I (n)), .int (q_I (i)), .int (q_I (nd m Bf)), .int (q_I (4))] [] (q_h L xs (q_v (q_v s 311 0 4 (fun z => q_I (Bf z))) 307 0 48 W') O c) := by
  have eM : ∀ W, q_g (q_v (q_v s 311 0 4 (fun z => q_I (Bf z))) 307 0 48 W) 286 = m := fun W => by rw [q_v_f (by decide), q_v_f (by decide), em]
  have eB : ∀ W z, 0 ≤ z → z < 4 → q_g (q_v (q_v s 311 0 4 (fun z => q_I (Bf z))) 307 0 48 W) 311 z = Bf z := fun W z z0 z1 => by
    have := hB z z0 z1
    rw [q_v_ne (by omega), q_v_g0 _ _ _ z0 z1, q_sgI, q_sg_id (by omega) (by omega)]
  have sz : ∀ (W : Int → Int32) (v : Int), 0 ≤ v → v < 5 → EV (d + 15) 296 0 [.ref 285, .int (q_I (v)), .null, .null] [] (q_h L xs (q_v (q_v s 311 0 4 (fun z => q_I (Bf z))) 307 0 48 W) O c) = some (.inl (some (.int (q_I (SZ m v)))), q_h L xs (q_v (q_v s 311 0 4 (fun z => q_I (Bf z))) 307 0 48 (fun q => q_I (mk m q))) O c) := fun W v v0 v1 => by
    have := mm_sizeOf (d := d) (L := L) (xs := xs) (s := q_v (q_v s 311 0 4 (fun z => q_I (Bf z))) 307 0 48 W) (O := O) (c := c) (by rw [eM]; exact Hv) v0 v1
    rw [this, eM, q_v_v]
  obtain ⟨u, f1, f2, f3⟩ := q_for (fun j (u : Int × (Int → Int32)) => EV (d + 16) 336 74 [.ref 285, .int (q_I (one)), .int (q_I (n)), .int (q_I (i)), .int (q_I (u.1)), .int (q_I (j))] [] (q_h L xs (q_v (q_v s 311 0 4 (fun z => q_I (Bf z))) 307 0 48 u.2) O c)) (fun j u => u.1 = q_it (ndf m Bf) j.toNat 0 ∧ 0 ≤ u.1 ∧ u.1 < 4) (lo := 1) (hi := 4) (by omega) (fun j u a1 a2 ⟨eu, u0, u1⟩ => by
    have hb := hB j (by omega) a2
    have hu := hB u.1 u0 u1
    have p1 := pt_rg (m := m) (r := j) hb.1 hb.2
    have p2 := pt_rg (m := m) (r := u.1) hu.1 hu.2
    have n1 : q_sg (Bf j + 1) ≠ 0 := by
      rw [q_sg_id (by omega) (by omega)]
      omega
    have n2 : q_sg (Bf u.1 + 1) ≠ 0 := by
      rw [q_sg_id (by omega) (by omega)]
      omega
    have ep : q_dv (SZ m j) (Bf j + 1) = pt m Bf j := rfl
    have ep' : q_dv (SZ m u.1) (Bf u.1 + 1) = pt m Bf u.1 := rfl
    refine ⟨(ndf m Bf j u.1, fun q => q_I (mk m q)), ?_, by rw [q_it_1 _ (by omega), eu], ndf_rg m Bf (by omega) a2 u0 u1⟩
    rw [R_336_74]
    unfold ndf
    by_cases el : pt m Bf u.1 < pt m Bf j
    · simp (disch := first | omega | exact q_b_01 _) only [↓reduceIte, q_bk0, q_bk1, q_bk2, q_sg_b, q_b_0, q_b_n0, q_b_1, q_b_n1, q_b_T, q_b_F, q_sg_g, q_sg_sg, q_sg_xs, q_sg_id, q_gu_ne, q_gu_eq, q_g_fne, q_g_cpe, q_w_f, q_v_f, q_u_f, q_fn_f, q_cp_f, q_sg_pg, q_sg_hc, q_lt_t, q_lt_f, q_le_t, q_le_f, q_eq_t, q_eq_f, ne_eq, eq_self, Bool.false_eq_true, Bool.true_eq_false, not_true_eq_false, not_false_eq_true, true_and, and_true, false_and, and_false, true_or, or_true, false_or, or_false, if_true, if_false, Int.reduceAdd, Int.reduceMul, Int.reduceSub, Int.reduceNeg, eB, ep, ep', el, R_336_0, R_336_7, R_336_10, R_336_14, R_336_21, R_336_24, R_336_28, R_336_29, R_336_32, R_336_39, R_336_41, R_336_48, R_336_55, R_336_61, R_336_68, R_336_80, R_336_86, R_336_93, R_336_96, R_336_102, R_336_109, R_336_112, R_336_115, R_336_119, R_336_125, R_336_133, R_336_136, R_336_142, R_336_148, C_336_4, C_336_18, C_336_83, C_336_99, sz]
    · simp (disch := first | omega | exact q_b_01 _) only [↓reduceIte, q_bk0, q_bk1, q_bk2, q_sg_b, q_b_0, q_b_n0, q_b_1, q_b_n1, q_b_T, q_b_F, q_sg_g, q_sg_sg, q_sg_xs, q_sg_id, q_gu_ne, q_gu_eq, q_g_fne, q_g_cpe, q_w_f, q_v_f, q_u_f, q_fn_f, q_cp_f, q_sg_pg, q_sg_hc, q_lt_t, q_lt_f, q_le_t, q_le_f, q_eq_t, q_eq_f, ne_eq, eq_self, Bool.false_eq_true, Bool.true_eq_false, not_true_eq_false, not_false_eq_true, true_and, and_true, false_and, and_false, true_or, or_true, false_or, or_false, if_true, if_false, Int.reduceAdd, Int.reduceMul, Int.reduceSub, Int.reduceNeg, eB, ep, ep', el, R_336_0, R_336_7, R_336_10, R_336_14, R_336_21, R_336_24, R_336_28, R_336_29, R_336_32, R_336_39, R_336_41, R_336_48, R_336_55, R_336_61, R_336_68, R_336_80, R_336_86, R_336_93, R_336_96, R_336_102, R_336_109, R_336_112, R_336_115, R_336_119, R_336_125, R_336_133, R_336_136, R_336_142, R_336_148, C_336_4, C_336_18, C_336_83, C_336_99, sz]) (t := (0, W)) ⟨by
      show (0 : Int) = ndf m Bf 0 0
      unfold ndf
      split <;> rfl, by omega, by omega⟩
  refine ⟨u.2, ?_⟩
  refine Eq.trans f1 ?_
  rw [R_336_74, show u.1 = nd m Bf from f2]
  simp (disch := first | omega | exact q_b_01 _) only [↓reduceIte, q_bk0, q_bk1, q_bk2, q_sg_b, q_b_0, q_b_n0, q_b_1, q_b_n1, q_b_T, q_b_F, q_sg_g, q_sg_sg, q_sg_xs, q_sg_id, q_gu_ne, q_gu_eq, q_g_fne, q_g_cpe, q_w_f, q_v_f, q_u_f, q_fn_f, q_cp_f, q_sg_pg, q_sg_hc, q_lt_t, q_lt_f, q_le_t, q_le_f, q_eq_t, q_eq_f, ne_eq, eq_self, Bool.false_eq_true, Bool.true_eq_false, not_true_eq_false, not_false_eq_true, true_and, and_true, false_and, and_false, true_or, or_true, false_or, or_false, if_true, if_false, Int.reduceAdd, Int.reduceMul, Int.reduceSub, Int.reduceNeg, R_336_0, R_336_7, R_336_10, R_336_14, R_336_21, R_336_24, R_336_28, R_336_29, R_336_32, R_336_39, R_336_41, R_336_48, R_336_55, R_336_61, R_336_68, R_336_80, R_336_86, R_336_93, R_336_96, R_336_102, R_336_109, R_336_112, R_336_115, R_336_119, R_336_133, R_336_136, R_336_142, R_336_148, C_336_4, C_336_18, C_336_83, C_336_99]
theorem shf_rg {j : Int} (h0 : 0 ≤ j) (hB : ∀ z, 0 ≤ z → z < 4 → 0 ≤ Bf z ∧ Bf z ≤ j) : ∀ z, 0 ≤ z → z < 4 → 0 ≤ shf m j Bf z ∧ shf m j Bf z ≤ j + 1 := fun z z0 z1 => by
  have := hB z z0 z1
  unfold shf
  split <;> omega
theorem op_share (B : Big b s) {one n : Int} (v1 : -2147483648 ≤ one) (v2 : one < 2147483648) (w1 : -2147483648 ≤ n) (w2 : n < 2147483648) : Op (Big b) (fun h => EV (d + 40) 27 0 [.ref 1, .int (q_I (one)), .int (q_I (n)), .ref 312, .null] [] h) (fun h => EV (d + 40) 336 0 [.ref 285, .int (q_I (one)), .int (q_I (n)), .null, .null, .null] [] h) L xs s O c := by
  have H := B.1.1
  have I := B.1.2.1
  have Hd := inv_hd I
  have Hv := inv_vw I
  by_cases h1 : 0 ≤ one ∧ one < 4
  · by_cases h2 : 0 ≤ n ∧ n ≤ 99
    · obtain ⟨t, e1, e2, e3⟩ := cc_readViews (d := d + 22) (L := L) (xs := xs) (O := O) (c := c) H Hd Hv
      have Wt : ∀ W v, 0 ≤ v → v < 5 → Wk (q_g s 286) v (q_v t 269 0 4 W) := fun W v v0 v1 => by
        have := e2 v v0 v1
        have hq : q_r264 v ≠ 269 ∧ q_r264 v + 1 ≠ 269 ∧ q_r264 v + 2 ≠ 269 := by unfold q_r264; omega
        unfold Wk at *
        rw [q_v_f hq.1, q_v_f hq.2.1, q_v_f hq.2.2]
        exact this
      obtain ⟨Bf, f1, f2, f3⟩ := q_for (fun j (Bf : Int → Int) => EV (d + 39) 169 47 [.ref 1, .int (q_I (one)), .int (q_I (n)), .int (q_I (j))] [] (q_h L xs (q_v t 269 0 4 (fun z => q_I (Bf z))) O c)) (fun j Bf => Bf = q_it (shf (q_g s 286)) j.toNat (fun _ => 0) ∧ ∀ z, 0 ≤ z → z < 4 → 0 ≤ Bf z ∧ Bf z ≤ j) (lo := 0) (hi := n) (by omega) (fun j Bf a1 a2 ⟨eB, rB⟩ => by
        have gB : ∀ z, 0 ≤ z → z < 4 → q_g (q_v t 269 0 4 (fun z => q_I (Bf z))) 269 z = Bf z := fun z z0 z1 => by
          have := rB z z0 z1
          rw [q_v_g0 _ _ _ z0 z1, q_sgI, q_sg_id (by omega) (by omega)]
        have en := cc_neediest (d := d + 38) (L := L) (xs := xs) (O := O) (c := c) Hv (Wt (fun z => q_I (Bf z))) (Bf := Bf) (fun z z0 z1 => ⟨gB z z0 z1, by have := rB z z0 z1; omega⟩)
        have nr := nd_rg (q_g s 286) Bf
        refine ⟨shf (q_g s 286) j Bf, ?_, by rw [q_it_1 _ a1, eB], shf_rg a1 rB⟩
        rw [R_169_47]
        simp (disch := first | omega | exact q_b_01 _) only [↓reduceIte, q_bk0, q_bk1, q_bk2, q_sg_b, q_b_0, q_b_n0, q_b_1, q_b_n1, q_b_T, q_b_F, q_sg_g, q_sg_sg, q_sg_xs, q_sg_id, q_gu_ne, q_gu_eq, q_g_fne, q_g_cpe, q_w_f, q_v_f, q_u_f, q_fn_f, q_cp_f, q_sg_pg, q_sg_hc, q_lt_t, q_lt_f, q_le_t, q_le_f, q_eq_t, q_eq_f, ne_eq, eq_self, Bool.false_eq_true, Bool.true_eq_false, not_true_eq_false, not_false_eq_true, true_and, and_true, false_and, and_false, true_or, or_true, false_or, or_false, if_true, if_false, Int.reduceAdd, Int.reduceMul, Int.reduceSub, Int.reduceNeg, gB, R_169_0, R_169_4, R_169_7, R_169_15, R_169_19, R_169_25, R_169_33, R_169_37, R_169_45, R_169_52, R_169_60, R_169_62, R_169_65, R_169_71, R_169_77, C_169_1, C_169_34, C_169_42, C_169_57, en, q_v_u0]
        refine congrArg (fun W => EV (d + 39) 169 47 [Value.ref 1, Value.int (q_I one), Value.int (q_I n), Value.int (q_I (j + 1))] [] (q_h L xs (q_v t 269 0 4 W) O c)) ?_
        funext z
        unfold shf
        by_cases ez : z = nd (q_g s 286) Bf
        · rw [if_pos ez, if_pos ez, ez]
        · rw [if_neg ez, if_neg ez]) (t := fun _ => 0) ⟨rfl, fun z _ _ => ⟨Int.le_refl 0, Int.le_refl 0⟩⟩
      have sT : Sm s (q_v t 269 0 4 (fun z => q_I (Bf z))) := Sm_v (Sm_k e3) (fun z => (by unfold relz relc; omega))
      have em : q_g (q_u (q_v t 269 0 4 (fun z => q_I (Bf z))) 285 0 0) 286 = q_g s 286 := by rw [q_u_f (by decide)]; exact Sm_f sT (by unfold relc; omega)
      have go := f3 one h1.1 h1.2
      have gO : q_g (q_v t 269 0 4 (fun z => q_I (Bf z))) 269 one = Bf one := by rw [q_v_g0 _ _ _ h1.1 h1.2, q_sgI, q_sg_id (by omega) (by omega)]
      generalize hOO : vp_updL O 0 (q_I (Bf one)).toInt64 = OO
      obtain ⟨u, g1, g2, g3⟩ := q_for (fun j (u : Value × Value × (Int → Int) × (Int → Int32)) => EV (d + 40) 336 63 [.ref 285, .int (q_I one), .int (q_I n), .int (q_I j), u.1, u.2.1] [] (q_h L xs (q_v (q_v (q_u (q_v t 269 0 4 (fun z => q_I (Bf z))) 285 0 0) 311 0 4 (fun z => q_I (u.2.2.1 z))) 307 0 48 u.2.2.2) OO c)) (fun j u => u.2.2.1 = q_it (shf (q_g s 286)) j.toNat (fun _ => 0) ∧ ∀ z, 0 ≤ z → z < 4 → 0 ≤ u.2.2.1 z ∧ u.2.2.1 z ≤ j) (lo := 0) (hi := n) (by omega) (fun j u a1 a2 ⟨eB, rB⟩ => by
        obtain ⟨W', k1⟩ := mm_to (d := d + 24) (L := L) (xs := xs) (O := OO) (c := c) em Hv (one := one) (n := n) (i := j) (Bf := u.2.2.1) (fun z z0 z1 => by have := rB z z0 z1; omega) u.2.2.2
        have nr := nd_rg (q_g s 286) u.2.2.1
        have gn : q_g (q_v (q_v (q_u (q_v t 269 0 4 (fun z => q_I (Bf z))) 285 0 0) 311 0 4 (fun z => q_I (u.2.2.1 z))) 307 0 48 W') 311 (nd (q_g s 286) u.2.2.1) = u.2.2.1 (nd (q_g s 286) u.2.2.1) := by
          have := rB _ nr.1 nr.2
          rw [q_v_ne (by omega), q_v_g0 _ _ _ nr.1 nr.2, q_sgI, q_sg_id (by omega) (by omega)]
        refine ⟨(.int (q_I (nd (q_g s 286) u.2.2.1)), .int (q_I 4), shf (q_g s 286) j u.2.2.1, W'), ?_, by rw [q_it_1 _ a1, eB], shf_rg a1 rB⟩
        rw [R_336_63]
        simp (disch := first | omega | exact q_b_01 _) only [↓reduceIte, q_bk0, q_bk1, q_bk2, q_sg_b, q_b_0, q_b_n0, q_b_1, q_b_n1, q_b_T, q_b_F, q_sg_g, q_sg_sg, q_sg_xs, q_sg_id, q_gu_ne, q_gu_eq, q_g_fne, q_g_cpe, q_w_f, q_v_f, q_u_f, q_fn_f, q_cp_f, q_sg_pg, q_sg_hc, q_lt_t, q_lt_f, q_le_t, q_le_f, q_eq_t, q_eq_f, ne_eq, eq_self, Bool.false_eq_true, Bool.true_eq_false, not_true_eq_false, not_false_eq_true, true_and, and_true, false_and, and_false, true_or, or_true, false_or, or_false, if_true, if_false, Int.reduceAdd, Int.reduceMul, Int.reduceSub, Int.reduceNeg, gn, R_336_0, R_336_7, R_336_10, R_336_14, R_336_21, R_336_24, R_336_28, R_336_29, R_336_32, R_336_39, R_336_41, R_336_48, R_336_55, R_336_61, R_336_68, R_336_80, R_336_86, R_336_93, R_336_96, R_336_102, R_336_109, R_336_112, R_336_115, R_336_119, R_336_125, R_336_133, R_336_136, R_336_142, R_336_148, C_336_4, C_336_18, C_336_83, C_336_99, k1]
        rw [q_vu_ne (by decide), q_v_u0 _ _ _ nr.1 nr.2]
        refine congrArg (fun W => EV (d + 40) 336 63 [Value.ref 285, Value.int (q_I one), Value.int (q_I n), Value.int (q_I (j + 1)), Value.int (q_I (nd (q_g s 286) u.2.2.1)), Value.int (q_I 4)] [] (q_h L xs (q_v (q_v (q_u (q_v t 269 0 4 (fun z => q_I (Bf z))) 285 0 0) 311 0 4 W) 307 0 48 W') OO c)) ?_
        funext z
        unfold shf
        by_cases ez : z = nd (q_g s 286) u.2.2.1
        · rw [if_pos ez, if_pos ez, ez]
        · rw [if_neg ez, if_neg ez]) (t := (.null, .null, fun _ => 0, fun z => q_v (q_u (q_v t 269 0 4 (fun z => q_I (Bf z))) 285 0 0) 311 0 4 (fun _ => q_I 0) 307 (0 + z))) ⟨rfl, fun z _ _ => ⟨Int.le_refl 0, Int.le_refl 0⟩⟩
      have eq : u.2.2.1 = Bf := g2.trans f2.symm
      have ef : EV (d + 38) 351 0 [.ref 269, .int (q_I (0)), .null, .null] [] (q_h L xs (t) O c) = some (.inl none, q_h L xs (q_v t 269 0 4 (fun _ => q_I 0)) O c) := jj_fill ly_a269 (by decide)
      refine ⟨0, Bf one, q_v t 269 0 4 (fun z => q_I (Bf z)), q_v (q_v (q_u (q_v t 269 0 4 (fun z => q_I (Bf z))) 285 0 0) 311 0 4 (fun z => q_I (u.2.2.1 z))) 307 0 48 u.2.2.2, vp_updL O 0 (q_I (Bf one)).toInt64, c, ?_, ?_, by omega, by omega, ?_, fun _ => rfl, Or.inl rfl, Big_sm B (Sm_v (Sm_v (Sm_u sT (by unfold relz relc; omega)) (fun z => (by unfold relz relc; omega))) (fun z => (by unfold relz relc; omega)))⟩
      · have f4 : EV (d + 39) 169 47 [.ref 1, .int (q_I (one)), .int (q_I (n)), .int (q_I (0))] [] (q_h L xs (q_v t 269 0 4 (fun _ => q_I 0)) O c) = some (.inl (some (.int (q_I (Bf one)))), q_h L xs (q_v t 269 0 4 (fun z => q_I (Bf z))) O c) := by
          refine Eq.trans f1 ?_
          rw [R_169_47]
          simp (disch := first | omega | exact q_b_01 _) only [↓reduceIte, q_bk0, q_bk1, q_bk2, q_sg_b, q_b_0, q_b_n0, q_b_1, q_b_n1, q_b_T, q_b_F, q_sg_g, q_sg_sg, q_sg_xs, q_sg_id, q_gu_ne, q_gu_eq, q_g_fne, q_g_cpe, q_w_f, q_v_f, q_u_f, q_fn_f, q_cp_f, q_sg_pg, q_sg_hc, q_lt_t, q_lt_f, q_le_t, q_le_f, q_eq_t, q_eq_f, ne_eq, eq_self, Bool.false_eq_true, Bool.true_eq_false, not_true_eq_false, not_false_eq_true, true_and, and_true, false_and, and_false, true_or, or_true, false_or, or_false, if_true, if_false, Int.reduceAdd, Int.reduceMul, Int.reduceSub, Int.reduceNeg, gO, R_169_0, R_169_4, R_169_7, R_169_15, R_169_19, R_169_25, R_169_33, R_169_37, R_169_45, R_169_52, R_169_60, R_169_62, R_169_65, R_169_71, R_169_77, C_169_1, C_169_34, C_169_42, C_169_57]
        simp (disch := first | omega | exact q_b_01 _) only [↓reduceIte, q_bk0, q_bk1, q_bk2, q_sg_b, q_b_0, q_b_n0, q_b_1, q_b_n1, q_b_T, q_b_F, q_sg_g, q_sg_sg, q_sg_xs, q_sg_id, q_gu_ne, q_gu_eq, q_g_fne, q_g_cpe, q_w_f, q_v_f, q_u_f, q_fn_f, q_cp_f, q_sg_pg, q_sg_hc, q_lt_t, q_lt_f, q_le_t, q_le_f, q_eq_t, q_eq_f, ne_eq, eq_self, Bool.false_eq_true, Bool.true_eq_false, not_true_eq_false, not_false_eq_true, true_and, and_true, false_and, and_false, true_or, or_true, false_or, or_false, if_true, if_false, Int.reduceAdd, Int.reduceMul, Int.reduceSub, Int.reduceNeg, R_27_0, R_27_8, R_27_10, R_27_15, R_27_19, C_27_5, R_169_0, R_169_4, R_169_7, R_169_15, R_169_19, R_169_25, R_169_33, R_169_37, R_169_45, R_169_52, R_169_60, R_169_62, R_169_65, R_169_71, R_169_77, C_169_1, C_169_34, C_169_42, C_169_57, cc_isReader, e1, ef, f4, q_lst, K_27_2, K_27_0]
      · rw [hOO]
        simp (disch := first | omega | exact q_b_01 _) only [↓reduceIte, q_bk0, q_bk1, q_bk2, q_sg_b, q_b_0, q_b_n0, q_b_1, q_b_n1, q_b_T, q_b_F, q_sg_g, q_sg_sg, q_sg_xs, q_sg_id, q_gu_ne, q_gu_eq, q_g_fne, q_g_cpe, q_w_f, q_v_f, q_u_f, q_fn_f, q_cp_f, q_sg_pg, q_sg_hc, q_lt_t, q_lt_f, q_le_t, q_le_f, q_eq_t, q_eq_f, ne_eq, eq_self, Bool.false_eq_true, Bool.true_eq_false, not_true_eq_false, not_false_eq_true, true_and, and_true, false_and, and_false, true_or, or_true, false_or, or_false, if_true, if_false, Int.reduceAdd, Int.reduceMul, Int.reduceSub, Int.reduceNeg, R_336_0, R_336_7, R_336_10, R_336_14, R_336_21, R_336_24, R_336_28, R_336_29, R_336_32, R_336_39, R_336_41, R_336_48, R_336_55, R_336_61, R_336_68, R_336_80, R_336_86, R_336_93, R_336_96, R_336_102, R_336_109, R_336_112, R_336_115, R_336_119, R_336_125, R_336_133, R_336_136, R_336_142, R_336_148, C_336_4, C_336_18, C_336_83, C_336_99, mm_isIn]
        refine (q_v_fl (fun j s => EV (d + 40) 336 43 [.ref 285, .int (q_I one), .int (q_I n), .int (q_I j), .null, .null] [] (q_h L xs s OO c)) (q_u (q_v t 269 0 4 (fun z => q_I (Bf z))) 285 0 0) 311 (fun _ => 0) (lo := 0) (n := 4) (by omega) (fun j W a1 a2 => ?_)).trans ?_
        · refine ⟨0, ?_, rfl⟩
          rw [R_336_43]
          simp (disch := first | omega | exact q_b_01 _) only [↓reduceIte, q_bk0, q_bk1, q_bk2, q_sg_b, q_b_0, q_b_n0, q_b_1, q_b_n1, q_b_T, q_b_F, q_sg_g, q_sg_sg, q_sg_xs, q_sg_id, q_gu_ne, q_gu_eq, q_g_fne, q_g_cpe, q_w_f, q_v_f, q_u_f, q_fn_f, q_cp_f, q_sg_pg, q_sg_hc, q_lt_t, q_lt_f, q_le_t, q_le_f, q_eq_t, q_eq_f, ne_eq, eq_self, Bool.false_eq_true, Bool.true_eq_false, not_true_eq_false, not_false_eq_true, true_and, and_true, false_and, and_false, true_or, or_true, false_or, or_false, if_true, if_false, Int.reduceAdd, Int.reduceMul, Int.reduceSub, Int.reduceNeg, Int.zero_add, R_336_0, R_336_7, R_336_10, R_336_14, R_336_21, R_336_24, R_336_28, R_336_29, R_336_32, R_336_39, R_336_41, R_336_48, R_336_55, R_336_61, R_336_68, R_336_80, R_336_86, R_336_93, R_336_96, R_336_102, R_336_109, R_336_112, R_336_115, R_336_119, R_336_125, R_336_133, R_336_136, R_336_142, R_336_148, C_336_4, C_336_18, C_336_83, C_336_99]
        · rw [R_336_43]
          simp (disch := first | omega | exact q_b_01 _) only [↓reduceIte, q_bk0, q_bk1, q_bk2, q_sg_b, q_b_0, q_b_n0, q_b_1, q_b_n1, q_b_T, q_b_F, q_sg_g, q_sg_sg, q_sg_xs, q_sg_id, q_gu_ne, q_gu_eq, q_g_fne, q_g_cpe, q_w_f, q_v_f, q_u_f, q_fn_f, q_cp_f, q_sg_pg, q_sg_hc, q_lt_t, q_lt_f, q_le_t, q_le_f, q_eq_t, q_eq_f, ne_eq, eq_self, Bool.false_eq_true, Bool.true_eq_false, not_true_eq_false, not_false_eq_true, true_and, and_true, false_and, and_false, true_or, or_true, false_or, or_false, if_true, if_false, Int.reduceAdd, Int.reduceMul, Int.reduceSub, Int.reduceNeg, R_336_0, R_336_7, R_336_10, R_336_14, R_336_21, R_336_24, R_336_28, R_336_29, R_336_32, R_336_39, R_336_41, R_336_48, R_336_55, R_336_61, R_336_68, R_336_80, R_336_86, R_336_93, R_336_96, R_336_102, R_336_109, R_336_112, R_336_115, R_336_119, R_336_125, R_336_133, R_336_136, R_336_142, R_336_148, C_336_4, C_336_18, C_336_83, C_336_99]
          have q0 := q_v_id (q_v (q_u (q_v t 269 0 4 (fun z => q_I (Bf z))) 285 0 0) 311 0 4 (fun _ => q_I 0)) 307 0 48
          have g1' := g1
          dsimp only at g1'
          rw [q0] at g1'
          refine Eq.trans g1' ?_
          have gu : q_g (q_v (q_v (q_u (q_v t 269 0 4 (fun z => q_I (Bf z))) 285 0 0) 311 0 4 (fun z => q_I (u.2.2.1 z))) 307 0 48 u.2.2.2) 311 one = Bf one := by
            rw [q_v_ne (by omega), q_v_g0 _ _ _ h1.1 h1.2, q_sgI, eq, q_sg_id (by omega) (by omega)]
          rw [R_336_63]
          simp (disch := first | omega | exact q_b_01 _) only [↓reduceIte, q_bk0, q_bk1, q_bk2, q_sg_b, q_b_0, q_b_n0, q_b_1, q_b_n1, q_b_T, q_b_F, q_sg_g, q_sg_sg, q_sg_xs, q_sg_id, q_gu_ne, q_gu_eq, q_g_fne, q_g_cpe, q_w_f, q_v_f, q_u_f, q_fn_f, q_cp_f, q_sg_pg, q_sg_hc, q_lt_t, q_lt_f, q_le_t, q_le_f, q_eq_t, q_eq_f, ne_eq, eq_self, Bool.false_eq_true, Bool.true_eq_false, not_true_eq_false, not_false_eq_true, true_and, and_true, false_and, and_false, true_or, or_true, false_or, or_false, if_true, if_false, Int.reduceAdd, Int.reduceMul, Int.reduceSub, Int.reduceNeg, gu, R_336_0, R_336_7, R_336_10, R_336_14, R_336_21, R_336_24, R_336_28, R_336_29, R_336_32, R_336_39, R_336_41, R_336_48, R_336_55, R_336_61, R_336_68, R_336_80, R_336_86, R_336_93, R_336_96, R_336_102, R_336_109, R_336_112, R_336_115, R_336_119, R_336_125, R_336_133, R_336_136, R_336_142, R_336_148, C_336_4, C_336_18, C_336_83, C_336_99]
      · simp (disch := first | omega | exact q_b_01 _) only [↓reduceIte, q_bk0, q_bk1, q_bk2, q_sg_b, q_b_0, q_b_n0, q_b_1, q_b_n1, q_b_T, q_b_F, q_sg_g, q_sg_sg, q_sg_xs, q_sg_id, q_gu_ne, q_gu_eq, q_g_fne, q_g_cpe, q_w_f, q_v_f, q_u_f, q_fn_f, q_cp_f, q_sg_pg, q_sg_hc, q_lt_t, q_lt_f, q_le_t, q_le_f, q_eq_t, q_eq_f, ne_eq, eq_self, Bool.false_eq_true, Bool.true_eq_false, not_true_eq_false, not_false_eq_true, true_and, and_true, false_and, and_false, true_or, or_true, false_or, or_false, if_true, if_false, Int.reduceAdd, Int.reduceMul, Int.reduceSub, Int.reduceNeg]
    · refine ⟨2, 0, s, q_u s 285 0 2, O, q_th c, ?_, ?_, by omega, by omega, by simp (disch := first | omega | exact q_b_01 _) only [↓reduceIte, q_bk0, q_bk1, q_bk2, q_sg_b, q_b_0, q_b_n0, q_b_1, q_b_n1, q_b_T, q_b_F, q_sg_g, q_sg_sg, q_sg_xs, q_sg_id, q_gu_ne, q_gu_eq, q_g_fne, q_g_cpe, q_w_f, q_v_f, q_u_f, q_fn_f, q_cp_f, q_sg_pg, q_sg_hc, q_lt_t, q_lt_f, q_le_t, q_le_f, q_eq_t, q_eq_f, ne_eq, eq_self, Bool.false_eq_true, Bool.true_eq_false, not_true_eq_false, not_false_eq_true, true_and, and_true, false_and, and_false, true_or, or_true, false_or, or_false, if_true, if_false, Int.reduceAdd, Int.reduceMul, Int.reduceSub, Int.reduceNeg], by omega, Or.inr rfl, Big_sm B (Sm_u Sm_rfl (by unfold relz relc; omega))⟩
      · by_cases h3 : n < 0
        · simp (disch := first | omega | exact q_b_01 _) only [↓reduceIte, q_bk0, q_bk1, q_bk2, q_sg_b, q_b_0, q_b_n0, q_b_1, q_b_n1, q_b_T, q_b_F, q_sg_g, q_sg_sg, q_sg_xs, q_sg_id, q_gu_ne, q_gu_eq, q_g_fne, q_g_cpe, q_w_f, q_v_f, q_u_f, q_fn_f, q_cp_f, q_sg_pg, q_sg_hc, q_lt_t, q_lt_f, q_le_t, q_le_f, q_eq_t, q_eq_f, ne_eq, eq_self, Bool.false_eq_true, Bool.true_eq_false, not_true_eq_false, not_false_eq_true, true_and, and_true, false_and, and_false, true_or, or_true, false_or, or_false, if_true, if_false, Int.reduceAdd, Int.reduceMul, Int.reduceSub, Int.reduceNeg, R_27_0, R_27_8, R_27_10, R_27_15, R_27_19, C_27_5, R_169_0, R_169_4, R_169_7, R_169_15, R_169_19, R_169_25, R_169_33, R_169_37, R_169_45, R_169_52, R_169_60, R_169_62, R_169_65, R_169_71, R_169_77, C_169_1, C_169_34, C_169_42, C_169_57, cc_isReader, K_27_2, K_27_0]
        · simp (disch := first | omega | exact q_b_01 _) only [↓reduceIte, q_bk0, q_bk1, q_bk2, q_sg_b, q_b_0, q_b_n0, q_b_1, q_b_n1, q_b_T, q_b_F, q_sg_g, q_sg_sg, q_sg_xs, q_sg_id, q_gu_ne, q_gu_eq, q_g_fne, q_g_cpe, q_w_f, q_v_f, q_u_f, q_fn_f, q_cp_f, q_sg_pg, q_sg_hc, q_lt_t, q_lt_f, q_le_t, q_le_f, q_eq_t, q_eq_f, ne_eq, eq_self, Bool.false_eq_true, Bool.true_eq_false, not_true_eq_false, not_false_eq_true, true_and, and_true, false_and, and_false, true_or, or_true, false_or, or_false, if_true, if_false, Int.reduceAdd, Int.reduceMul, Int.reduceSub, Int.reduceNeg, R_27_0, R_27_8, R_27_10, R_27_15, R_27_19, C_27_5, R_169_0, R_169_4, R_169_7, R_169_15, R_169_19, R_169_25, R_169_33, R_169_37, R_169_45, R_169_52, R_169_60, R_169_62, R_169_65, R_169_71, R_169_77, C_169_1, C_169_34, C_169_42, C_169_57, cc_isReader, K_27_2, K_27_0]
      · simp (disch := first | omega | exact q_b_01 _) only [↓reduceIte, q_bk0, q_bk1, q_bk2, q_sg_b, q_b_0, q_b_n0, q_b_1, q_b_n1, q_b_T, q_b_F, q_sg_g, q_sg_sg, q_sg_xs, q_sg_id, q_gu_ne, q_gu_eq, q_g_fne, q_g_cpe, q_w_f, q_v_f, q_u_f, q_fn_f, q_cp_f, q_sg_pg, q_sg_hc, q_lt_t, q_lt_f, q_le_t, q_le_f, q_eq_t, q_eq_f, ne_eq, eq_self, Bool.false_eq_true, Bool.true_eq_false, not_true_eq_false, not_false_eq_true, true_and, and_true, false_and, and_false, true_or, or_true, false_or, or_false, if_true, if_false, Int.reduceAdd, Int.reduceMul, Int.reduceSub, Int.reduceNeg, h2, R_336_0, R_336_7, R_336_10, R_336_14, R_336_21, R_336_24, R_336_28, R_336_29, R_336_32, R_336_39, R_336_41, R_336_48, R_336_55, R_336_61, R_336_68, R_336_80, R_336_86, R_336_93, R_336_96, R_336_102, R_336_109, R_336_112, R_336_115, R_336_119, R_336_125, R_336_133, R_336_136, R_336_142, R_336_148, C_336_4, C_336_18, C_336_83, C_336_99, mm_isIn]
  · have h1' : ¬ (0 ≤ one ∧ one ≤ 3) := by omega
    refine ⟨1, 0, s, q_u s 285 0 1, O, q_th c, ?_, ?_, by omega, by omega, by simp (disch := first | omega | exact q_b_01 _) only [↓reduceIte, q_bk0, q_bk1, q_bk2, q_sg_b, q_b_0, q_b_n0, q_b_1, q_b_n1, q_b_T, q_b_F, q_sg_g, q_sg_sg, q_sg_xs, q_sg_id, q_gu_ne, q_gu_eq, q_g_fne, q_g_cpe, q_w_f, q_v_f, q_u_f, q_fn_f, q_cp_f, q_sg_pg, q_sg_hc, q_lt_t, q_lt_f, q_le_t, q_le_f, q_eq_t, q_eq_f, ne_eq, eq_self, Bool.false_eq_true, Bool.true_eq_false, not_true_eq_false, not_false_eq_true, true_and, and_true, false_and, and_false, true_or, or_true, false_or, or_false, if_true, if_false, Int.reduceAdd, Int.reduceMul, Int.reduceSub, Int.reduceNeg], by omega, Or.inr rfl, Big_sm B (Sm_u Sm_rfl (by unfold relz relc; omega))⟩
    · simp (disch := first | omega | exact q_b_01 _) only [↓reduceIte, q_bk0, q_bk1, q_bk2, q_sg_b, q_b_0, q_b_n0, q_b_1, q_b_n1, q_b_T, q_b_F, q_sg_g, q_sg_sg, q_sg_xs, q_sg_id, q_gu_ne, q_gu_eq, q_g_fne, q_g_cpe, q_w_f, q_v_f, q_u_f, q_fn_f, q_cp_f, q_sg_pg, q_sg_hc, q_lt_t, q_lt_f, q_le_t, q_le_f, q_eq_t, q_eq_f, ne_eq, eq_self, Bool.false_eq_true, Bool.true_eq_false, not_true_eq_false, not_false_eq_true, true_and, and_true, false_and, and_false, true_or, or_true, false_or, or_false, if_true, if_false, Int.reduceAdd, Int.reduceMul, Int.reduceSub, Int.reduceNeg, h1, R_27_0, R_27_8, R_27_10, R_27_15, R_27_19, C_27_5, R_169_0, R_169_4, R_169_7, R_169_15, R_169_19, R_169_25, R_169_33, R_169_37, R_169_45, R_169_52, R_169_60, R_169_62, R_169_65, R_169_71, R_169_77, C_169_1, C_169_34, C_169_42, C_169_57, cc_isReader, K_27_2, K_27_0]
    · simp (disch := first | omega | exact q_b_01 _) only [↓reduceIte, q_bk0, q_bk1, q_bk2, q_sg_b, q_b_0, q_b_n0, q_b_1, q_b_n1, q_b_T, q_b_F, q_sg_g, q_sg_sg, q_sg_xs, q_sg_id, q_gu_ne, q_gu_eq, q_g_fne, q_g_cpe, q_w_f, q_v_f, q_u_f, q_fn_f, q_cp_f, q_sg_pg, q_sg_hc, q_lt_t, q_lt_f, q_le_t, q_le_f, q_eq_t, q_eq_f, ne_eq, eq_self, Bool.false_eq_true, Bool.true_eq_false, not_true_eq_false, not_false_eq_true, true_and, and_true, false_and, and_false, true_or, or_true, false_or, or_false, if_true, if_false, Int.reduceAdd, Int.reduceMul, Int.reduceSub, Int.reduceNeg, h1', R_336_0, R_336_7, R_336_10, R_336_14, R_336_21, R_336_24, R_336_28, R_336_29, R_336_32, R_336_39, R_336_41, R_336_48, R_336_55, R_336_61, R_336_68, R_336_80, R_336_86, R_336_93, R_336_96, R_336_102, R_336_109, R_336_112, R_336_115, R_336_119, R_336_125, R_336_133, R_336_136, R_336_142, R_336_148, C_336_4, C_336_18, C_336_83, C_336_99, mm_isIn]
end SHA
