/-! A TEXT OF WORK: what it may say; what it leaves -/
noncomputable def WG (w : Int × (Int → Int) × (Int → Int) × Int × Int) : Prop := (∀ k, 0 ≤ k → k < w.1 → 0 ≤ w.2.1 k ∧ w.2.1 k < 100 ∧ 0 ≤ w.2.2.1 k ∧ w.2.2.1 k ≤ 100) ∧ (-1 ≤ w.2.2.2.1 ∧ w.2.2.2.1 ≤ 100) ∧ -1 ≤ w.2.2.2.2 ∧ w.2.2.2.2 ≤ 999
section WKG
variable {T : Int → Int} {E : Int}
theorem WG_pu {w : Int × (Int → Int) × (Int → Int) × Int × Int} {k v : Int} (h : WG w) (k0 : 0 ≤ k) (k1 : k < 100) (v0 : 0 ≤ v) (v1 : v ≤ 100) : WG (wpu w k v) := by
  refine ⟨fun z z0 z1 => ?_, h.2.1, h.2.2⟩
  have z1 : z < w.1 + 1 := z1
  show 0 ≤ (if z = w.1 then k else w.2.1 z) ∧ (if z = w.1 then k else w.2.1 z) < 100 ∧ 0 ≤ (if z = w.1 then v else w.2.2.1 z) ∧ (if z = w.1 then v else w.2.2.1 z) ≤ 100
  by_cases e : z = w.1
  · rw [if_pos e, if_pos e]
    omega
  · rw [if_neg e, if_neg e]
    exact h.1 z z0 (by omega)
theorem wCh_g {va : Bool} : ∀ (f i : Nat) (w : Int × (Int → Int) × (Int → Int) × Int × Int) {i' : Nat} {w' : Int × (Int → Int) × (Int → Int) × Int × Int}, WG w → wCh T E va f i w = .inr (i', w') → WG w'
  | 0, i, w, i', w', h, e => by
    unfold wCh at e
    exact absurd e (by simp)
  | f + 1, i, w, i', w', h, e => by
    unfold wCh at e
    by_cases c1 : w.1 < 12 ∧ thg T E (bs T E i) = 2 ∧ 0 ≤ tel T E (bs T E i) ∧ tel T E (bs T E i) ≤ 99
    · rw [if_pos c1] at e
      by_cases c2 : va = true
      · rw [if_pos c2] at e
        by_cases c3 : thg T E (bs T E (i + 1)) = 2 ∧ 0 ≤ tel T E (bs T E (i + 1)) ∧ tel T E (bs T E (i + 1)) ≤ 99
        · rw [if_pos c3] at e
          have g := WG_pu (k := tel T E (bs T E i)) (v := tel T E (bs T E (i + 1))) h (by omega) (by omega) (by omega) (by omega)
          by_cases c4 : thg T E (bs T E (i + 2)) = 2
          · rw [if_pos c4] at e
            exact wCh_g f _ _ g e
          · rw [if_neg c4] at e
            have := (Prod.mk.inj (Sum.inr.inj e)).2
            rw [← this]
            exact g
        · rw [if_neg c3] at e
          exact absurd e (by simp)
      · rw [if_neg c2] at e
        have g := WG_pu (k := tel T E (bs T E i)) (v := 100) h (by omega) (by omega) (by omega) (by omega)
        by_cases c4 : thg T E (bs T E (i + 1)) = 2
        · rw [if_pos c4] at e
          exact wCh_g f _ _ g e
        · rw [if_neg c4] at e
          have := (Prod.mk.inj (Sum.inr.inj e)).2
          rw [← this]
          exact g
    · rw [if_neg c1] at e
      exact absurd e (by simp)
theorem wLine_g {i : Nat} {w : Int × (Int → Int) × (Int → Int) × Int × Int} {i' : Nat} {w' : Int × (Int → Int) × (Int → Int) × Int × Int} (h : WG w) (e : wLine T E i w = .inr (i', w')) : WG w' := by
  unfold wLine at e
  split at e
  · exact wCh_g _ _ _ h e
  · split at e
    · exact wCh_g _ _ _ h e
    · split at e
      · split at e
        · have := (Prod.mk.inj (Sum.inr.inj e)).2
          rw [← this]
          exact ⟨h.1, by dsimp only; omega, h.2.2⟩
        · exact absurd e (by simp)
      · split at e
        · split at e
          · have := (Prod.mk.inj (Sum.inr.inj e)).2
            rw [← this]
            exact ⟨h.1, h.2.1, by dsimp only; omega⟩
          · exact absurd e (by simp)
        · exact absurd e (by simp)
theorem wLines_g : ∀ (f i : Nat) (w : Int × (Int → Int) × (Int → Int) × Int × Int) {w' : Int × (Int → Int) × (Int → Int) × Int × Int}, WG w → wLines T E f i w = .inr w' → WG w'
  | 0, i, w, w', h, e => by
    unfold wLines at e
    exact absurd e (by simp)
  | f + 1, i, w, w', h, e => by
    unfold wLines at e
    cases hl : wLine T E i w with
    | inl a =>
      rw [hl] at e
      exact absurd e (by simp)
    | inr p =>
      obtain ⟨i1, w1⟩ := p
      have g := wLine_g h hl
      rw [hl] at e
      dsimp only at e
      split at e
      · have := Sum.inr.inj e
        rw [← this]
        exact g
      · split at e
        · exact wLines_g f _ _ g e
        · exact absurd e (by simp)
theorem wAll_g {w : Int × (Int → Int) × (Int → Int) × Int × Int} (e : wAll T E = .inr w) : WG w := by
  have g0 : WG w0 := ⟨fun k k0 k1 => by
    have : k < 0 := k1
    omega, by unfold w0; dsimp only; omega, by unfold w0; dsimp only; omega⟩
  unfold wAll at e
  split at e
  · have := Sum.inr.inj e
    rw [← this]
    exact g0
  · exact wLines_g _ _ _ g0 e
end WKG
section WKB
variable {s u : Nat → Int → Int32} {m : Int → Int} {b b' : Int}
theorem RB_risk (H : RB m s 7) (hr : ∀ q, 0 ≤ q → q < 48 → pg m q 1 ≤ 6) (h8 : m 8 ≤ 12) {v : Int} (v0 : 0 ≤ v) (v1 : v ≤ 99999) : RB (up m 3 v) (q_u s 7 6 v) 7 := by
  refine RB_up2 H hr (fun p w p0 p1 w0 w1 => up_ne (by omega)) (fun k k0 k1 => q_u_f (by omega)) (fun r r0 r1 => ?_) ⟨?_, fun k k0 k1 => ?_⟩ ⟨?_, ?_, ?_, ?_, ?_, ?_⟩ ⟨?_, fun a w a0 a1 w0 w1 => ?_⟩
  · rw [up_ne (by omega), up_ne (by omega), q_gu_ne (by omega), q_gu_ne (by omega)]
    exact H.2.2.1 r r0 r1
  · rw [up_ne (by omega), q_gu_ne (by omega)]
    exact rb_chg H
  · rw [up_ne (by omega)] at k1
    rw [up_ne (by omega), up_ne (by omega), q_gu_ne (by omega), q_gu_ne (by omega)]
    exact ⟨rb_ck H k0 k1, rb_cv H k0 k1⟩
  · rw [up_eq rfl, q_gu_eq rfl, q_sg_id (by omega) (by omega)]
  · rw [up_ne (by omega), q_gu_ne (by omega)]
    exact rb_cost H
  · rw [up_ne (by omega), q_gu_ne (by omega)]
    exact rb_tick H
  · rw [up_ne (by omega), q_gu_ne (by omega)]
    exact rb_seed H
  · rw [up_ne (by omega), q_gu_ne (by omega)]
    exact rb_texts H
  · rw [up_ne (by omega), q_gu_ne (by omega)]
    exact rb_logn H
  · rw [q_gu_ne (by omega)]
    exact rb_lnx H
  · rw [up_ne (by omega)] at a1
    rw [up_ne (by omega), q_gu_ne (by omega), q_gu_ne (by omega)]
    exact rb_log H a0 a1 w0 w1
theorem RB_texts (H : RB m s 7) (hr : ∀ q, 0 ≤ q → q < 48 → pg m q 1 ≤ 6) (h8 : m 8 ≤ 12) {v : Int} (v0 : 0 ≤ v) (v1 : v ≤ 99999) : RB (up m 0 v) (q_u s 7 10 v) 7 := by
  refine RB_up2 H hr (fun p w p0 p1 w0 w1 => up_ne (by omega)) (fun k k0 k1 => q_u_f (by omega)) (fun r r0 r1 => ?_) ⟨?_, fun k k0 k1 => ?_⟩ ⟨?_, ?_, ?_, ?_, ?_, ?_⟩ ⟨?_, fun a w a0 a1 w0 w1 => ?_⟩
  · rw [up_ne (by omega), up_ne (by omega), q_gu_ne (by omega), q_gu_ne (by omega)]
    exact H.2.2.1 r r0 r1
  · rw [up_ne (by omega), q_gu_ne (by omega)]
    exact rb_chg H
  · rw [up_ne (by omega)] at k1
    rw [up_ne (by omega), up_ne (by omega), q_gu_ne (by omega), q_gu_ne (by omega)]
    exact ⟨rb_ck H k0 k1, rb_cv H k0 k1⟩
  · rw [up_ne (by omega), q_gu_ne (by omega)]
    exact rb_risk H
  · rw [up_ne (by omega), q_gu_ne (by omega)]
    exact rb_cost H
  · rw [up_ne (by omega), q_gu_ne (by omega)]
    exact rb_tick H
  · rw [up_ne (by omega), q_gu_ne (by omega)]
    exact rb_seed H
  · rw [up_eq rfl, q_gu_eq rfl, q_sg_id (by omega) (by omega)]
  · rw [up_ne (by omega), q_gu_ne (by omega)]
    exact rb_logn H
  · rw [q_gu_ne (by omega)]
    exact rb_lnx H
  · rw [up_ne (by omega)] at a1
    rw [up_ne (by omega), q_gu_ne (by omega), q_gu_ne (by omega)]
    exact rb_log H a0 a1 w0 w1
theorem Inv_one (I : Inv m b) {z0 x : Int} (hz : z0 = 0 ∧ 0 ≤ x ∧ x ≤ 12 ∨ z0 = 3 ∧ 0 ≤ x ∧ x ≤ 100) : Inv (up m z0 x) b := by
  have ez : ∀ z, z ≠ z0 → up m z0 x z = m z := fun z hz => up_ne hz
  have i6 := I.2.2.1
  refine Inv_upd I (fun p w p0 p1 w0 w1 => ez _ (by omega)) (fun r r0 r1 hv => Or.inl ?_) (fun r r0 r1 => ?_) ?_ ?_
  · rw [ez _ (by omega)] at hv
    exact ⟨hv, ez _ (by omega), ez _ (by omega)⟩
  · rw [ez _ (by omega)]
    exact I.2.2.2 r r0 r1
  · rw [ez 8 (by omega)]
    refine ⟨I.2.1.1, I.2.1.2.1, fun k k0 k1 => ?_⟩
    rw [ez _ (by omega), ez _ (by omega)]
    exact I.2.1.2.2 k k0 k1
  · rcases hz with ⟨e, h1, h2⟩ | ⟨e, h1, h2⟩
    · rw [ez 3 (by omega), ez 4 (by omega), ez 5 (by omega), ez 6 (by omega), up_eq e.symm]
      omega
    · rw [ez 0 (by omega), ez 4 (by omega), ez 5 (by omega), ez 6 (by omega), up_eq e.symm]
      omega
/-- a text was read, and refused -/
theorem Big_wk (B : Big b s) (hb : b ≤ b') (hu : ∀ k z, relz k z → ¬ (7 ≤ k ∧ k ≤ 20) → k ≠ 286 → ¬ (k = 2 ∧ (z = 1 ∨ z = 6) ∨ k = 285 ∧ (z = 8 ∨ z = 12)) → u k z = s k z) (h0 : q_g u 2 1 = 0) (h8 : q_g u 285 8 = 0) (hf : q_g u 285 12 = q_g u 2 6) (hm : ∀ z, z = 1 ∨ z = 2 ∨ 1049 ≤ z → q_g u 286 z = q_g s 286 z) (hR : RB (q_g u 286) u 7) (hI : Inv (q_g u 286) b') : Big b' u := by
  let x : Nat → Int → Int32 := fun k z => if k = 2 ∧ (z = 1 ∨ z = 6) ∨ k = 285 ∧ (z = 8 ∨ z = 12) then u k z else s k z
  have xg : ∀ k z, k = 2 ∧ (z = 1 ∨ z = 6) ∨ k = 285 ∧ (z = 8 ∨ z = 12) → q_g x k z = q_g u k z := fun k z h => by
    show (if k = 2 ∧ (z = 1 ∨ z = 6) ∨ k = 285 ∧ (z = 8 ∨ z = 12) then u k z else s k z).toInt = _
    rw [if_pos h]
    rfl
  have Bx : Big b x := by
    refine Big_txt B (fun k z hz hk => ?_) ?_ ?_ ?_
    · show (if k = 2 ∧ (z = 1 ∨ z = 6) ∨ k = 285 ∧ (z = 8 ∨ z = 12) then u k z else s k z) = s k z
      rw [if_neg hk]
    · rw [xg 2 1 (by omega), h0]
    · rw [xg 285 8 (by omega), h8]
    · rw [xg 285 12 (by omega), xg 2 6 (by omega), hf]
  refine Big_now Bx hb (fun k z hz h1 h2 => ?_) (fun z hz => ?_) hR hI
  · show _ = if k = 2 ∧ (z = 1 ∨ z = 6) ∨ k = 285 ∧ (z = 8 ∨ z = 12) then u k z else s k z
    split
    · rfl
    · rename_i hk
      exact hu k z hz h1 h2 hk
  · rw [hm z hz]
    show _ = (if (286 : Nat) = 2 ∧ (z = 1 ∨ z = 6) ∨ (286 : Nat) = 285 ∧ (z = 8 ∨ z = 12) then u 286 z else s 286 z).toInt
    rw [if_neg (by omega)]
    rfl
/-- a text was read and done -/
theorem Big_wc (B : Big b s) (hb : b ≤ b') (hu : ∀ k z, relz k z → ¬ (7 ≤ k ∧ k ≤ 20) → k ≠ 286 → ¬ (k = 2 ∧ (z = 1 ∨ z = 6) ∨ k = 285 ∧ (z = 8 ∨ z = 12)) → ¬ (k = 71 ∧ z = 1) → ¬ (k = 285 ∧ z = 6) → u k z = s k z) (h0 : q_g u 2 1 = 0) (h8 : q_g u 285 8 = 0) (hf : q_g u 285 12 = q_g u 2 6) (h1 : q_g u 71 1 = 0) (h2 : q_g u 285 6 = 0) (hm : ∀ z, z = 1 ∨ z = 2 ∨ 1049 ≤ z → q_g u 286 z = q_g s 286 z) (hR : RB (q_g u 286) u 7) (hI : Inv (q_g u 286) b') : Big b' u := by
  let x : Nat → Int → Int32 := fun k z => if k = 2 ∧ (z = 1 ∨ z = 6) ∨ k = 285 ∧ (z = 8 ∨ z = 12) then u k z else s k z
  have xg : ∀ k z, k = 2 ∧ (z = 1 ∨ z = 6) ∨ k = 285 ∧ (z = 8 ∨ z = 12) → q_g x k z = q_g u k z := fun k z h => by
    show (if k = 2 ∧ (z = 1 ∨ z = 6) ∨ k = 285 ∧ (z = 8 ∨ z = 12) then u k z else s k z).toInt = _
    rw [if_pos h]
    rfl
  have Bx : Big b x := by
    refine Big_txt B (fun k z hz hk => ?_) ?_ ?_ ?_
    · show (if k = 2 ∧ (z = 1 ∨ z = 6) ∨ k = 285 ∧ (z = 8 ∨ z = 12) then u k z else s k z) = s k z
      rw [if_neg hk]
    · rw [xg 2 1 (by omega), h0]
    · rw [xg 285 8 (by omega), h8]
    · rw [xg 285 12 (by omega), xg 2 6 (by omega), hf]
  refine Big_clr Bx hb (fun k z hz c1 c2 c3 c4 c5 => ?_) h1 h2 ?_ hR hI
  · show _ = if k = 2 ∧ (z = 1 ∨ z = 6) ∨ k = 285 ∧ (z = 8 ∨ z = 12) then u k z else s k z
    split
    · rfl
    · rename_i hk
      exact hu k z hz c1 c3 hk c4 c5
  · exact LawP_sm (LawP_ext B.1.2.2 hm) (fun k z k0 k1 => hu k z (by unfold relz relc; omega) (by omega) (by omega) (by omega) (by omega) (by omega))
end WKB
