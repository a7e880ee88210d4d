/-! THE REFERENCE: a plan is made, in one -/
section MP3
variable {d L : Nat} {xs : Nat → Int32} {s : Nat → Int → Int32} {O : Nat → Int64} {c : Bool × Nat × Nat} {m : Int → Int} {b n : Int} {Lv : Int → Prop} {T : Option Tr}
theorem dTs_c {ks vs ks' vs' : Int → Int} : ∀ (n : Nat), (∀ i : Int, 0 ≤ i → i < n → ks i = ks' i ∧ vs i = vs' i) → dTs T ks vs n = dTs T ks' vs' n ∧ dLs T ks vs n = dLs T ks' vs' n ∧ (dAs T ks vs n ↔ dAs T ks' vs' n)
  | 0, _ => ⟨rfl, rfl, Iff.rfl⟩
  | n + 1, h => by
    obtain ⟨i1, i2, i3⟩ := dTs_c n (fun i i0 i1 => h i i0 (by omega))
    obtain ⟨e1, e2⟩ := h n (by omega) (by omega)
    refine ⟨?_, ?_, ?_⟩
    · show dT (ks n) (vs n) (dTs T ks vs n) = dT (ks' n) (vs' n) (dTs T ks' vs' n)
      rw [i1, e1, e2]
    · funext z
      show (dLs T ks vs n z ∨ dL (ks n) (vs n) (dTs T ks vs n) z) = (dLs T ks' vs' n z ∨ dL (ks' n) (vs' n) (dTs T ks' vs' n) z)
      rw [i1, i2, e1, e2]
    · show (dAs T ks vs n ∨ dA (ks n) (vs n) (dTs T ks vs n)) ↔ (dAs T ks' vs' n ∨ dA (ks' n) (vs' n) (dTs T ks' vs' n))
      rw [i1, i3, e1, e2]
theorem mm_plans (em : q_g s 286 = m) (I : Inv m b) (hb : b < 2147483646) (S : St0 m T Lv) (D : Dsk m Lv) (hn : q_g s 285 19 = n) (n0 : 0 ≤ n) (n12 : n ≤ 12) {ks vs : Int → Int} (hK : ∀ i, 0 ≤ i → i < n → q_g s 292 i = ks i ∧ q_g s 293 i = vs i ∧ 0 ≤ ks i ∧ ks i < 100 ∧ 0 ≤ vs i ∧ vs i ≤ 100) (hLv : ∀ p, dLs T ks vs n.toNat p → Lv p) :
    (¬ dAs T ks vs n.toNat → ∃ u, EV (d + 18) 278 0 [.ref 285, .null] [] (q_h L xs s O c) = some (.inl none, q_h L xs (u) O c) ∧ q_g u 285 36 = 0 ∧ q_g u 285 39 = 0 ∧ MpF s u) ∧
    (dAs T ks vs n.toNat → ∀ sc, ScI m (frN m (dLs T ks vs n.toNat)) (cNo (dTs T ks vs n.toNat)) sc →
      (cNo (dTs T ks vs n.toNat) + sc ≤ cap m → ∃ u, EV (d + 18) 278 0 [.ref 285, .null] [] (q_h L xs s O c) = some (.inl none, q_h L xs (u) O c) ∧ q_g u 285 36 = 0 ∧ PlanM m (dTs T ks vs n.toNat) (dLs T ks vs n.toNat) sc u ∧ MpF s u) ∧
      (cap m < cNo (dTs T ks vs n.toNat) + sc → ∃ u, EV (d + 18) 278 0 [.ref 285, .null] [] (q_h L xs s O c) = some (.inl none, q_h L xs (u) O c) ∧ q_g u 285 36 = 1 ∧ q_g u 285 39 = 0 ∧ MpF s u)) := by
  obtain ⟨u, u1, ⟨u2, u3, u4⟩, u5, u6, u7, u8⟩ := mm_plansA (d := d + 13) (L := L) (xs := xs) (s := s) (O := O) (c := c) em I S hn n0 n12 (fun i i0 i1 => by have := hK i i0 i1; omega)
  obtain ⟨c1, c2, c3⟩ := dTs_c (T := T) (ks := q_g s 292) (vs := q_g s 293) (ks' := ks) (vs' := vs) n.toNat (fun i i0 i1 => by have := hK i i0 (by omega); exact ⟨this.1, this.2.1⟩)
  rw [c1, c2] at u2
  rw [c3] at u3 u4
  refine ⟨fun hA => ⟨u, ?_, u5, u6, u8⟩, fun hA sc Sc => ?_⟩
  · have ha := u4 hA
    rw [u1]
    simp (disch := first | omega | exact q_b_01 _) only [↓reduceIte, q_bk0, q_bk1, q_bk2, q_sg_b, q_b_0, q_b_n0, q_b_1, q_b_n1, q_b_T, q_b_F, q_sg_g, q_sg_sg, q_sg_xs, q_sg_id, q_gu_ne, q_gu_eq, q_g_fne, q_g_cpe, q_w_f, q_v_f, q_u_f, q_fn_f, q_cp_f, q_sg_pg, q_sg_hc, q_lt_t, q_lt_f, q_le_t, q_le_f, q_eq_t, q_eq_f, ne_eq, eq_self, Bool.false_eq_true, Bool.true_eq_false, not_true_eq_false, not_false_eq_true, true_and, and_true, false_and, and_false, true_or, or_true, false_or, or_false, if_true, if_false, Int.reduceAdd, Int.reduceMul, Int.reduceSub, Int.reduceNeg, ha, R_278_0, R_278_4, R_278_9, R_278_14, R_278_24, R_278_31, R_278_40, R_278_46, R_278_53, R_278_54, R_278_58, R_278_64, R_278_69, R_278_72, R_278_80, R_278_88, R_278_93, R_278_98, R_278_105, R_278_106, R_278_114, R_278_122, R_278_124, R_278_130, R_278_136, R_278_139, R_278_142, R_278_152, R_278_162, R_278_168, R_278_173, R_278_185, R_278_195, R_278_207, R_278_219, R_278_231, R_278_245, R_278_248, R_278_268, R_278_269, R_278_288, R_278_292, R_278_298, R_278_299, R_278_316, C_278_1, C_278_37, C_278_55, C_278_61, C_278_66, C_278_85, C_278_90, C_278_95, C_278_119, C_278_170, C_278_242, C_278_265]
  · have eu : q_g u 286 = m := by
      rw [← em]
      exact funext fun z => by
        show (u 286 z).toInt = _
        rw [u8 286 z (by omega) (by omega)]
        rfl
    have p0 := pot_0 1 (by omega) (dTs T ks vs n.toNat)
    have b9 := u2.2.2.2.1
    obtain ⟨r1, r2⟩ := mm_plansB (d := d) (L := L) (xs := xs) (s := u) (O := O) (c := c) (n := n) (T := dTs T ks vs n.toNat) (Lf := dLs T ks vs n.toNat) eu I hb (lf_i I (by omega) D hLv) u2.2.1 u2.2.2.1 u2.2.2.2.2.1 u2.2.2.2.2.2 (by omega) (u3 hA) u5 u6 u7 Sc
    have fw : ∀ v, MpF u v → MpF s v := fun v hv k z h1 h2 => by rw [hv k z h1 h2, u8 k z h1 h2]
    exact ⟨fun hk => by obtain ⟨v, v1, v2, v3, v4⟩ := r1 hk; exact ⟨v, u1.trans v1, v2, v3, fw v v4⟩, fun hk => by obtain ⟨v, v1, v2, v3, v4⟩ := r2 hk; exact ⟨v, u1.trans v1, v2, v3, fw v v4⟩⟩
end MP3
