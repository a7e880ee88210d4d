/-! words by their numbers -/
theorem eqw_inj {T : Int → Int} : ∀ (w w' : List Int) (b : Int), w.length = w'.length → eqw T b w = true → eqw T b w' = true → w = w'
  | [], [], _, _, _, _ => rfl
  | [], _ :: _, _, h, _, _ => by simp at h
  | _ :: _, [], _, h, _, _ => by simp at h
  | x :: r, y :: r', b, h, h1, h2 => by
    have e1 : (decide (T b = x) && eqw T (b + 1) r) = true := h1
    have e2 : (decide (T b = y) && eqw T (b + 1) r') = true := h2
    rw [Bool.and_eq_true, decide_eq_true_iff] at e1 e2
    rw [eqw_inj r r' (b + 1) (by simpa using h) e1.2 e2.2, ← e1.1, ← e2.1]
theorem wix_at {T : Int → Int} {b e : Int} : ∀ (l : List (List Int)) (i : Int) (j : Nat) (w : List Int), l.Nodup → l[j]? = some w → 0 ≤ i → (wix T b e i l = i + j ↔ e - b = (w.length : Int) ∧ eqw T b w = true)
  | [], _, _, _, _, h, _ => by simp at h
  | v :: r, i, 0, w, hn, h, hi => by
    have : v = w := by simpa using h
    subst this
    by_cases c : e - b = (v.length : Int) ∧ eqw T b v = true
    · rw [wix_y c]
      simp [c]
    · rw [wix_n c]
      refine ⟨fun x => ?_, fun x => absurd x c⟩
      rcases wix_rg T b e r (i + 1) (by omega) with h' | h'
      · have key : ∀ (l : List (List Int)) (k : Int), 0 ≤ k → wix T b e k l = -1 ∨ k ≤ wix T b e k l := by
          intro l
          induction l with
          | nil => intro k _; exact Or.inl rfl
          | cons a l ih =>
            intro k hk
            by_cases c' : e - b = (a.length : Int) ∧ eqw T b a = true
            · rw [wix_y c']
              right
              omega
            · rw [wix_n c']
              rcases ih (k + 1) (by omega) with h | h
              · exact Or.inl h
              · right
                omega
        rcases key r (i + 1) (by omega) with h'' | h'' <;> simp at x <;> omega
      · simp at x
        omega
  | v :: r, i, j + 1, w, hn, h, hi => by
    have h' : r[j]? = some w := by simpa using h
    have ih := wix_at (T := T) (b := b) (e := e) r (i + 1) j w (List.nodup_cons.mp hn).2 h' (by omega)
    by_cases c : e - b = (v.length : Int) ∧ eqw T b v = true
    · rw [wix_y c]
      constructor
      · intro x
        omega
      · intro x
        have hv : v = w := eqw_inj v w b (by omega) c.2 x.2
        exact absurd (hv ▸ List.mem_of_getElem? h') (List.nodup_cons.mp hn).1
    · rw [wix_n c, ← ih]
      constructor <;> intro x <;> omega
theorem WL_nd : WL.Nodup := by decide
theorem wd_iff {T : Int → Int} {E b : Int} {j : Nat} {w : List Int} (hw : WL[j]? = some w) (hl : 0 < (w.length : Int)) : (run 97 122 T E b - b = (w.length : Int) ∧ eqw T b w = true) ↔ (thg T E b = 1 ∧ tel T E b = j) := by
  have ge := run_ge 97 122 T E b
  by_cases c0 : E ≤ b
  · have e1 : run 97 122 T E b = b := run_no (by omega)
    have e2 : thg T E b = 0 := by
      unfold thg
      rw [if_pos c0]
    rw [e1, e2]
    constructor
    · intro x
      omega
    · intro x
      omega
  · by_cases c1 : b < run 97 122 T E b
    · have e2 : thg T E b = 1 := by
        unfold thg
        rw [if_neg c0, if_pos c1]
      have e3 : tel T E b = wix T b (run 97 122 T E b) 0 WL := by
        unfold tel
        rw [if_neg c0, if_pos c1]
      rw [e2, e3]
      have := wix_at (T := T) (b := b) (e := run 97 122 T E b) WL 0 j w WL_nd hw (by omega)
      rw [Int.zero_add] at this
      rw [this]
      simp
    · have e1 : run 97 122 T E b = b := by omega
      have e2 : thg T E b ≠ 1 := by
        unfold thg
        rw [if_neg c0, if_neg c1]
        split <;> omega
      constructor
      · intro x
        omega
      · intro x
        exact absurd x.1 e2
theorem wd_end {T : Int → Int} {E b : Int} (h : thg T E b = 1) : tend T E b = run 97 122 T E b := by
  unfold thg at h
  unfold tend
  by_cases c0 : E ≤ b
  · rw [if_pos c0] at h
    omega
  · rw [if_neg c0] at h
    by_cases c1 : b < run 97 122 T E b
    · rw [if_pos c1]
    · rw [if_neg c1] at h
      split at h <;> omega
section HSK
variable {d L : Nat} {xs : Nat → Int32} {s : Nat → Int → Int32} {O : Nat → Int64} {c : Bool × Nat × Nat} {T : Int → Int} {E i : Int}
theorem mm_has_risk (h : TxM T E s) (E1 : E ≤ 400) (hr : ∀ j, 0 ≤ j → j < E → 0 ≤ T j ∧ T j ≤ 255) (ha : q_g s 285 11 = i) (i0 : 0 ≤ i) (i1 : i ≤ 1000) : EV (d + 9) 231 0 [.ref 285, .ref 1000001, .null, .null] [] (q_h L xs s O c) = some (.inl (some (.int (q_I (q_b (thg T E (sk T E i) = 1 ∧ tel T E (sk T E i) = 2))))), q_h L xs (q_u s 285 11 (if thg T E (sk T E i) = 1 ∧ tel T E (sk T E i) = 2 then tend T E (sk T E i) else sk T E i)) O c) := by
  have hs := hs_1 (d := d) (L := L) (xs := xs) (O := O) (c := c) h E1 hr ha i0 i1 rfl rfl
  have w := wd_iff (T := T) (E := E) (b := sk T E i) (j := 2) (w := [114, 105, 115, 107]) rfl (by decide)
  have w' : (run 97 122 T E (sk T E i) - sk T E i = 4 ∧ eqw T (sk T E i) [114, 105, 115, 107] = true) ↔ (thg T E (sk T E i) = 1 ∧ tel T E (sk T E i) = 2) := w
  by_cases x : thg T E (sk T E i) = 1 ∧ tel T E (sk T E i) = 2
  · rw [if_pos x, q_bt x, wd_end x.1]
    rw [if_pos (w'.mpr x), q_bt (w'.mpr x)] at hs
    exact hs
  · rw [if_neg x, q_bf x]
    rw [if_neg (fun y => x (w'.mp y)), q_bf (fun y => x (w'.mp y))] at hs
    exact hs
theorem mm_has_spare (h : TxM T E s) (E1 : E ≤ 400) (hr : ∀ j, 0 ≤ j → j < E → 0 ≤ T j ∧ T j ≤ 255) (ha : q_g s 285 11 = i) (i0 : 0 ≤ i) (i1 : i ≤ 1000) : EV (d + 9) 231 0 [.ref 285, .ref 1000002, .null, .null] [] (q_h L xs s O c) = some (.inl (some (.int (q_I (q_b (thg T E (sk T E i) = 1 ∧ tel T E (sk T E i) = 3))))), q_h L xs (q_u s 285 11 (if thg T E (sk T E i) = 1 ∧ tel T E (sk T E i) = 3 then tend T E (sk T E i) else sk T E i)) O c) := by
  have hs := hs_2 (d := d) (L := L) (xs := xs) (O := O) (c := c) h E1 hr ha i0 i1 rfl rfl
  have w := wd_iff (T := T) (E := E) (b := sk T E i) (j := 3) (w := [115, 112, 97, 114, 101]) rfl (by decide)
  have w' : (run 97 122 T E (sk T E i) - sk T E i = 5 ∧ eqw T (sk T E i) [115, 112, 97, 114, 101] = true) ↔ (thg T E (sk T E i) = 1 ∧ tel T E (sk T E i) = 3) := w
  by_cases x : thg T E (sk T E i) = 1 ∧ tel T E (sk T E i) = 3
  · rw [if_pos x, q_bt x, wd_end x.1]
    rw [if_pos (w'.mpr x), q_bt (w'.mpr x)] at hs
    exact hs
  · rw [if_neg x, q_bf x]
    rw [if_neg (fun y => x (w'.mp y)), q_bf (fun y => x (w'.mp y))] at hs
    exact hs
theorem mm_has_cost (h : TxM T E s) (E1 : E ≤ 400) (hr : ∀ j, 0 ≤ j → j < E → 0 ≤ T j ∧ T j ≤ 255) (ha : q_g s 285 11 = i) (i0 : 0 ≤ i) (i1 : i ≤ 1000) : EV (d + 9) 231 0 [.ref 285, .ref 1000003, .null, .null] [] (q_h L xs s O c) = some (.inl (some (.int (q_I (q_b (thg T E (sk T E i) = 1 ∧ tel T E (sk T E i) = 4))))), q_h L xs (q_u s 285 11 (if thg T E (sk T E i) = 1 ∧ tel T E (sk T E i) = 4 then tend T E (sk T E i) else sk T E i)) O c) := by
  have hs := hs_3 (d := d) (L := L) (xs := xs) (O := O) (c := c) h E1 hr ha i0 i1 rfl rfl
  have w := wd_iff (T := T) (E := E) (b := sk T E i) (j := 4) (w := [99, 111, 115, 116]) rfl (by decide)
  have w' : (run 97 122 T E (sk T E i) - sk T E i = 4 ∧ eqw T (sk T E i) [99, 111, 115, 116] = true) ↔ (thg T E (sk T E i) = 1 ∧ tel T E (sk T E i) = 4) := w
  by_cases x : thg T E (sk T E i) = 1 ∧ tel T E (sk T E i) = 4
  · rw [if_pos x, q_bt x, wd_end x.1]
    rw [if_pos (w'.mpr x), q_bt (w'.mpr x)] at hs
    exact hs
  · rw [if_neg x, q_bf x]
    rw [if_neg (fun y => x (w'.mp y)), q_bf (fun y => x (w'.mp y))] at hs
    exact hs
theorem mm_has_if (h : TxM T E s) (E1 : E ≤ 400) (hr : ∀ j, 0 ≤ j → j < E → 0 ≤ T j ∧ T j ≤ 255) (ha : q_g s 285 11 = i) (i0 : 0 ≤ i) (i1 : i ≤ 1000) : EV (d + 9) 231 0 [.ref 285, .ref 1000004, .null, .null] [] (q_h L xs s O c) = some (.inl (some (.int (q_I (q_b (thg T E (sk T E i) = 1 ∧ tel T E (sk T E i) = 5))))), q_h L xs (q_u s 285 11 (if thg T E (sk T E i) = 1 ∧ tel T E (sk T E i) = 5 then tend T E (sk T E i) else sk T E i)) O c) := by
  have hs := hs_4 (d := d) (L := L) (xs := xs) (O := O) (c := c) h E1 hr ha i0 i1 rfl rfl
  have w := wd_iff (T := T) (E := E) (b := sk T E i) (j := 5) (w := [105, 102]) rfl (by decide)
  have w' : (run 97 122 T E (sk T E i) - sk T E i = 2 ∧ eqw T (sk T E i) [105, 102] = true) ↔ (thg T E (sk T E i) = 1 ∧ tel T E (sk T E i) = 5) := w
  by_cases x : thg T E (sk T E i) = 1 ∧ tel T E (sk T E i) = 5
  · rw [if_pos x, q_bt x, wd_end x.1]
    rw [if_pos (w'.mpr x), q_bt (w'.mpr x)] at hs
    exact hs
  · rw [if_neg x, q_bf x]
    rw [if_neg (fun y => x (w'.mp y)), q_bf (fun y => x (w'.mp y))] at hs
    exact hs
theorem mm_has_not (h : TxM T E s) (E1 : E ≤ 400) (hr : ∀ j, 0 ≤ j → j < E → 0 ≤ T j ∧ T j ≤ 255) (ha : q_g s 285 11 = i) (i0 : 0 ≤ i) (i1 : i ≤ 1000) : EV (d + 9) 231 0 [.ref 285, .ref 1000005, .null, .null] [] (q_h L xs s O c) = some (.inl (some (.int (q_I (q_b (thg T E (sk T E i) = 1 ∧ tel T E (sk T E i) = 8))))), q_h L xs (q_u s 285 11 (if thg T E (sk T E i) = 1 ∧ tel T E (sk T E i) = 8 then tend T E (sk T E i) else sk T E i)) O c) := by
  have hs := hs_5 (d := d) (L := L) (xs := xs) (O := O) (c := c) h E1 hr ha i0 i1 rfl rfl
  have w := wd_iff (T := T) (E := E) (b := sk T E i) (j := 8) (w := [110, 111, 116]) rfl (by decide)
  have w' : (run 97 122 T E (sk T E i) - sk T E i = 3 ∧ eqw T (sk T E i) [110, 111, 116] = true) ↔ (thg T E (sk T E i) = 1 ∧ tel T E (sk T E i) = 8) := w
  by_cases x : thg T E (sk T E i) = 1 ∧ tel T E (sk T E i) = 8
  · rw [if_pos x, q_bt x, wd_end x.1]
    rw [if_pos (w'.mpr x), q_bt (w'.mpr x)] at hs
    exact hs
  · rw [if_neg x, q_bf x]
    rw [if_neg (fun y => x (w'.mp y)), q_bf (fun y => x (w'.mp y))] at hs
    exact hs
theorem mm_has_head (h : TxM T E s) (E1 : E ≤ 400) (hr : ∀ j, 0 ≤ j → j < E → 0 ≤ T j ∧ T j ≤ 255) (ha : q_g s 285 11 = i) (i0 : 0 ≤ i) (i1 : i ≤ 1000) : EV (d + 9) 231 0 [.ref 285, .ref 1000006, .null, .null] [] (q_h L xs s O c) = some (.inl (some (.int (q_I (q_b (thg T E (sk T E i) = 1 ∧ tel T E (sk T E i) = 9))))), q_h L xs (q_u s 285 11 (if thg T E (sk T E i) = 1 ∧ tel T E (sk T E i) = 9 then tend T E (sk T E i) else sk T E i)) O c) := by
  have hs := hs_6 (d := d) (L := L) (xs := xs) (O := O) (c := c) h E1 hr ha i0 i1 rfl rfl
  have w := wd_iff (T := T) (E := E) (b := sk T E i) (j := 9) (w := [104, 101, 97, 100]) rfl (by decide)
  have w' : (run 97 122 T E (sk T E i) - sk T E i = 4 ∧ eqw T (sk T E i) [104, 101, 97, 100] = true) ↔ (thg T E (sk T E i) = 1 ∧ tel T E (sk T E i) = 9) := w
  by_cases x : thg T E (sk T E i) = 1 ∧ tel T E (sk T E i) = 9
  · rw [if_pos x, q_bt x, wd_end x.1]
    rw [if_pos (w'.mpr x), q_bt (w'.mpr x)] at hs
    exact hs
  · rw [if_neg x, q_bf x]
    rw [if_neg (fun y => x (w'.mp y)), q_bf (fun y => x (w'.mp y))] at hs
    exact hs
theorem mm_has_slip (h : TxM T E s) (E1 : E ≤ 400) (hr : ∀ j, 0 ≤ j → j < E → 0 ≤ T j ∧ T j ≤ 255) (ha : q_g s 285 11 = i) (i0 : 0 ≤ i) (i1 : i ≤ 1000) : EV (d + 9) 231 0 [.ref 285, .ref 1000007, .null, .null] [] (q_h L xs s O c) = some (.inl (some (.int (q_I (q_b (thg T E (sk T E i) = 1 ∧ tel T E (sk T E i) = 10))))), q_h L xs (q_u s 285 11 (if thg T E (sk T E i) = 1 ∧ tel T E (sk T E i) = 10 then tend T E (sk T E i) else sk T E i)) O c) := by
  have hs := hs_7 (d := d) (L := L) (xs := xs) (O := O) (c := c) h E1 hr ha i0 i1 rfl rfl
  have w := wd_iff (T := T) (E := E) (b := sk T E i) (j := 10) (w := [115, 108, 105, 112]) rfl (by decide)
  have w' : (run 97 122 T E (sk T E i) - sk T E i = 4 ∧ eqw T (sk T E i) [115, 108, 105, 112] = true) ↔ (thg T E (sk T E i) = 1 ∧ tel T E (sk T E i) = 10) := w
  by_cases x : thg T E (sk T E i) = 1 ∧ tel T E (sk T E i) = 10
  · rw [if_pos x, q_bt x, wd_end x.1]
    rw [if_pos (w'.mpr x), q_bt (w'.mpr x)] at hs
    exact hs
  · rw [if_neg x, q_bf x]
    rw [if_neg (fun y => x (w'.mp y)), q_bf (fun y => x (w'.mp y))] at hs
    exact hs
theorem mm_has_even (h : TxM T E s) (E1 : E ≤ 400) (hr : ∀ j, 0 ≤ j → j < E → 0 ≤ T j ∧ T j ≤ 255) (ha : q_g s 285 11 = i) (i0 : 0 ≤ i) (i1 : i ≤ 1000) : EV (d + 9) 231 0 [.ref 285, .ref 1000008, .null, .null] [] (q_h L xs s O c) = some (.inl (some (.int (q_I (q_b (thg T E (sk T E i) = 1 ∧ tel T E (sk T E i) = 11))))), q_h L xs (q_u s 285 11 (if thg T E (sk T E i) = 1 ∧ tel T E (sk T E i) = 11 then tend T E (sk T E i) else sk T E i)) O c) := by
  have hs := hs_8 (d := d) (L := L) (xs := xs) (O := O) (c := c) h E1 hr ha i0 i1 rfl rfl
  have w := wd_iff (T := T) (E := E) (b := sk T E i) (j := 11) (w := [101, 118, 101, 110]) rfl (by decide)
  have w' : (run 97 122 T E (sk T E i) - sk T E i = 4 ∧ eqw T (sk T E i) [101, 118, 101, 110] = true) ↔ (thg T E (sk T E i) = 1 ∧ tel T E (sk T E i) = 11) := w
  by_cases x : thg T E (sk T E i) = 1 ∧ tel T E (sk T E i) = 11
  · rw [if_pos x, q_bt x, wd_end x.1]
    rw [if_pos (w'.mpr x), q_bt (w'.mpr x)] at hs
    exact hs
  · rw [if_neg x, q_bf x]
    rw [if_neg (fun y => x (w'.mp y)), q_bf (fun y => x (w'.mp y))] at hs
    exact hs
theorem mm_has_page (h : TxM T E s) (E1 : E ≤ 400) (hr : ∀ j, 0 ≤ j → j < E → 0 ≤ T j ∧ T j ≤ 255) (ha : q_g s 285 11 = i) (i0 : 0 ≤ i) (i1 : i ≤ 1000) : EV (d + 9) 231 0 [.ref 285, .ref 1000009, .null, .null] [] (q_h L xs s O c) = some (.inl (some (.int (q_I (q_b (thg T E (sk T E i) = 1 ∧ tel T E (sk T E i) = 12))))), q_h L xs (q_u s 285 11 (if thg T E (sk T E i) = 1 ∧ tel T E (sk T E i) = 12 then tend T E (sk T E i) else sk T E i)) O c) := by
  have hs := hs_9 (d := d) (L := L) (xs := xs) (O := O) (c := c) h E1 hr ha i0 i1 rfl rfl
  have w := wd_iff (T := T) (E := E) (b := sk T E i) (j := 12) (w := [112, 97, 103, 101]) rfl (by decide)
  have w' : (run 97 122 T E (sk T E i) - sk T E i = 4 ∧ eqw T (sk T E i) [112, 97, 103, 101] = true) ↔ (thg T E (sk T E i) = 1 ∧ tel T E (sk T E i) = 12) := w
  by_cases x : thg T E (sk T E i) = 1 ∧ tel T E (sk T E i) = 12
  · rw [if_pos x, q_bt x, wd_end x.1]
    rw [if_pos (w'.mpr x), q_bt (w'.mpr x)] at hs
    exact hs
  · rw [if_neg x, q_bf x]
    rw [if_neg (fun y => x (w'.mp y)), q_bf (fun y => x (w'.mp y))] at hs
    exact hs
theorem mm_has_kind (h : TxM T E s) (E1 : E ≤ 400) (hr : ∀ j, 0 ≤ j → j < E → 0 ≤ T j ∧ T j ≤ 255) (ha : q_g s 285 11 = i) (i0 : 0 ≤ i) (i1 : i ≤ 1000) : EV (d + 9) 231 0 [.ref 285, .ref 1000010, .null, .null] [] (q_h L xs s O c) = some (.inl (some (.int (q_I (q_b (thg T E (sk T E i) = 1 ∧ tel T E (sk T E i) = 13))))), q_h L xs (q_u s 285 11 (if thg T E (sk T E i) = 1 ∧ tel T E (sk T E i) = 13 then tend T E (sk T E i) else sk T E i)) O c) := by
  have hs := hs_10 (d := d) (L := L) (xs := xs) (O := O) (c := c) h E1 hr ha i0 i1 rfl rfl
  have w := wd_iff (T := T) (E := E) (b := sk T E i) (j := 13) (w := [107, 105, 110, 100]) rfl (by decide)
  have w' : (run 97 122 T E (sk T E i) - sk T E i = 4 ∧ eqw T (sk T E i) [107, 105, 110, 100] = true) ↔ (thg T E (sk T E i) = 1 ∧ tel T E (sk T E i) = 13) := w
  by_cases x : thg T E (sk T E i) = 1 ∧ tel T E (sk T E i) = 13
  · rw [if_pos x, q_bt x, wd_end x.1]
    rw [if_pos (w'.mpr x), q_bt (w'.mpr x)] at hs
    exact hs
  · rw [if_neg x, q_bf x]
    rw [if_neg (fun y => x (w'.mp y)), q_bf (fun y => x (w'.mp y))] at hs
    exact hs
theorem mm_has_wear (h : TxM T E s) (E1 : E ≤ 400) (hr : ∀ j, 0 ≤ j → j < E → 0 ≤ T j ∧ T j ≤ 255) (ha : q_g s 285 11 = i) (i0 : 0 ≤ i) (i1 : i ≤ 1000) : EV (d + 9) 231 0 [.ref 285, .ref 1000011, .null, .null] [] (q_h L xs s O c) = some (.inl (some (.int (q_I (q_b (thg T E (sk T E i) = 1 ∧ tel T E (sk T E i) = 14))))), q_h L xs (q_u s 285 11 (if thg T E (sk T E i) = 1 ∧ tel T E (sk T E i) = 14 then tend T E (sk T E i) else sk T E i)) O c) := by
  have hs := hs_11 (d := d) (L := L) (xs := xs) (O := O) (c := c) h E1 hr ha i0 i1 rfl rfl
  have w := wd_iff (T := T) (E := E) (b := sk T E i) (j := 14) (w := [119, 101, 97, 114]) rfl (by decide)
  have w' : (run 97 122 T E (sk T E i) - sk T E i = 4 ∧ eqw T (sk T E i) [119, 101, 97, 114] = true) ↔ (thg T E (sk T E i) = 1 ∧ tel T E (sk T E i) = 14) := w
  by_cases x : thg T E (sk T E i) = 1 ∧ tel T E (sk T E i) = 14
  · rw [if_pos x, q_bt x, wd_end x.1]
    rw [if_pos (w'.mpr x), q_bt (w'.mpr x)] at hs
    exact hs
  · rw [if_neg x, q_bf x]
    rw [if_neg (fun y => x (w'.mp y)), q_bf (fun y => x (w'.mp y))] at hs
    exact hs
theorem mm_has_rows (h : TxM T E s) (E1 : E ≤ 400) (hr : ∀ j, 0 ≤ j → j < E → 0 ≤ T j ∧ T j ≤ 255) (ha : q_g s 285 11 = i) (i0 : 0 ≤ i) (i1 : i ≤ 1000) : EV (d + 9) 231 0 [.ref 285, .ref 1000012, .null, .null] [] (q_h L xs s O c) = some (.inl (some (.int (q_I (q_b (thg T E (sk T E i) = 1 ∧ tel T E (sk T E i) = 15))))), q_h L xs (q_u s 285 11 (if thg T E (sk T E i) = 1 ∧ tel T E (sk T E i) = 15 then tend T E (sk T E i) else sk T E i)) O c) := by
  have hs := hs_12 (d := d) (L := L) (xs := xs) (O := O) (c := c) h E1 hr ha i0 i1 rfl rfl
  have w := wd_iff (T := T) (E := E) (b := sk T E i) (j := 15) (w := [114, 111, 119, 115]) rfl (by decide)
  have w' : (run 97 122 T E (sk T E i) - sk T E i = 4 ∧ eqw T (sk T E i) [114, 111, 119, 115] = true) ↔ (thg T E (sk T E i) = 1 ∧ tel T E (sk T E i) = 15) := w
  by_cases x : thg T E (sk T E i) = 1 ∧ tel T E (sk T E i) = 15
  · rw [if_pos x, q_bt x, wd_end x.1]
    rw [if_pos (w'.mpr x), q_bt (w'.mpr x)] at hs
    exact hs
  · rw [if_neg x, q_bf x]
    rw [if_neg (fun y => x (w'.mp y)), q_bf (fun y => x (w'.mp y))] at hs
    exact hs
theorem mm_has_version (h : TxM T E s) (E1 : E ≤ 400) (hr : ∀ j, 0 ≤ j → j < E → 0 ≤ T j ∧ T j ≤ 255) (ha : q_g s 285 11 = i) (i0 : 0 ≤ i) (i1 : i ≤ 1000) : EV (d + 9) 231 0 [.ref 285, .ref 1000013, .null, .null] [] (q_h L xs s O c) = some (.inl (some (.int (q_I (q_b (thg T E (sk T E i) = 1 ∧ tel T E (sk T E i) = 16))))), q_h L xs (q_u s 285 11 (if thg T E (sk T E i) = 1 ∧ tel T E (sk T E i) = 16 then tend T E (sk T E i) else sk T E i)) O c) := by
  have hs := hs_13 (d := d) (L := L) (xs := xs) (O := O) (c := c) h E1 hr ha i0 i1 rfl rfl
  have w := wd_iff (T := T) (E := E) (b := sk T E i) (j := 16) (w := [118, 101, 114, 115, 105, 111, 110]) rfl (by decide)
  have w' : (run 97 122 T E (sk T E i) - sk T E i = 7 ∧ eqw T (sk T E i) [118, 101, 114, 115, 105, 111, 110] = true) ↔ (thg T E (sk T E i) = 1 ∧ tel T E (sk T E i) = 16) := w
  by_cases x : thg T E (sk T E i) = 1 ∧ tel T E (sk T E i) = 16
  · rw [if_pos x, q_bt x, wd_end x.1]
    rw [if_pos (w'.mpr x), q_bt (w'.mpr x)] at hs
    exact hs
  · rw [if_neg x, q_bf x]
    rw [if_neg (fun y => x (w'.mp y)), q_bf (fun y => x (w'.mp y))] at hs
    exact hs
theorem mm_has_readers (h : TxM T E s) (E1 : E ≤ 400) (hr : ∀ j, 0 ≤ j → j < E → 0 ≤ T j ∧ T j ≤ 255) (ha : q_g s 285 11 = i) (i0 : 0 ≤ i) (i1 : i ≤ 1000) : EV (d + 9) 231 0 [.ref 285, .ref 1000014, .null, .null] [] (q_h L xs s O c) = some (.inl (some (.int (q_I (q_b (thg T E (sk T E i) = 1 ∧ tel T E (sk T E i) = 17))))), q_h L xs (q_u s 285 11 (if thg T E (sk T E i) = 1 ∧ tel T E (sk T E i) = 17 then tend T E (sk T E i) else sk T E i)) O c) := by
  have hs := hs_14 (d := d) (L := L) (xs := xs) (O := O) (c := c) h E1 hr ha i0 i1 rfl rfl
  have w := wd_iff (T := T) (E := E) (b := sk T E i) (j := 17) (w := [114, 101, 97, 100, 101, 114, 115]) rfl (by decide)
  have w' : (run 97 122 T E (sk T E i) - sk T E i = 7 ∧ eqw T (sk T E i) [114, 101, 97, 100, 101, 114, 115] = true) ↔ (thg T E (sk T E i) = 1 ∧ tel T E (sk T E i) = 17) := w
  by_cases x : thg T E (sk T E i) = 1 ∧ tel T E (sk T E i) = 17
  · rw [if_pos x, q_bt x, wd_end x.1]
    rw [if_pos (w'.mpr x), q_bt (w'.mpr x)] at hs
    exact hs
  · rw [if_neg x, q_bf x]
    rw [if_neg (fun y => x (w'.mp y)), q_bf (fun y => x (w'.mp y))] at hs
    exact hs
theorem mm_has_tick (h : TxM T E s) (E1 : E ≤ 400) (hr : ∀ j, 0 ≤ j → j < E → 0 ≤ T j ∧ T j ≤ 255) (ha : q_g s 285 11 = i) (i0 : 0 ≤ i) (i1 : i ≤ 1000) : EV (d + 9) 231 0 [.ref 285, .ref 1000015, .null, .null] [] (q_h L xs s O c) = some (.inl (some (.int (q_I (q_b (thg T E (sk T E i) = 1 ∧ tel T E (sk T E i) = 18))))), q_h L xs (q_u s 285 11 (if thg T E (sk T E i) = 1 ∧ tel T E (sk T E i) = 18 then tend T E (sk T E i) else sk T E i)) O c) := by
  have hs := hs_15 (d := d) (L := L) (xs := xs) (O := O) (c := c) h E1 hr ha i0 i1 rfl rfl
  have w := wd_iff (T := T) (E := E) (b := sk T E i) (j := 18) (w := [116, 105, 99, 107]) rfl (by decide)
  have w' : (run 97 122 T E (sk T E i) - sk T E i = 4 ∧ eqw T (sk T E i) [116, 105, 99, 107] = true) ↔ (thg T E (sk T E i) = 1 ∧ tel T E (sk T E i) = 18) := w
  by_cases x : thg T E (sk T E i) = 1 ∧ tel T E (sk T E i) = 18
  · rw [if_pos x, q_bt x, wd_end x.1]
    rw [if_pos (w'.mpr x), q_bt (w'.mpr x)] at hs
    exact hs
  · rw [if_neg x, q_bf x]
    rw [if_neg (fun y => x (w'.mp y)), q_bf (fun y => x (w'.mp y))] at hs
    exact hs
theorem mm_has_and (h : TxM T E s) (E1 : E ≤ 400) (hr : ∀ j, 0 ≤ j → j < E → 0 ≤ T j ∧ T j ≤ 255) (ha : q_g s 285 11 = i) (i0 : 0 ≤ i) (i1 : i ≤ 1000) : EV (d + 9) 231 0 [.ref 285, .ref 1000016, .null, .null] [] (q_h L xs s O c) = some (.inl (some (.int (q_I (q_b (thg T E (sk T E i) = 1 ∧ tel T E (sk T E i) = 7))))), q_h L xs (q_u s 285 11 (if thg T E (sk T E i) = 1 ∧ tel T E (sk T E i) = 7 then tend T E (sk T E i) else sk T E i)) O c) := by
  have hs := hs_16 (d := d) (L := L) (xs := xs) (O := O) (c := c) h E1 hr ha i0 i1 rfl rfl
  have w := wd_iff (T := T) (E := E) (b := sk T E i) (j := 7) (w := [97, 110, 100]) rfl (by decide)
  have w' : (run 97 122 T E (sk T E i) - sk T E i = 3 ∧ eqw T (sk T E i) [97, 110, 100] = true) ↔ (thg T E (sk T E i) = 1 ∧ tel T E (sk T E i) = 7) := w
  by_cases x : thg T E (sk T E i) = 1 ∧ tel T E (sk T E i) = 7
  · rw [if_pos x, q_bt x, wd_end x.1]
    rw [if_pos (w'.mpr x), q_bt (w'.mpr x)] at hs
    exact hs
  · rw [if_neg x, q_bf x]
    rw [if_neg (fun y => x (w'.mp y)), q_bf (fun y => x (w'.mp y))] at hs
    exact hs
theorem mm_has_or (h : TxM T E s) (E1 : E ≤ 400) (hr : ∀ j, 0 ≤ j → j < E → 0 ≤ T j ∧ T j ≤ 255) (ha : q_g s 285 11 = i) (i0 : 0 ≤ i) (i1 : i ≤ 1000) : EV (d + 9) 231 0 [.ref 285, .ref 1000017, .null, .null] [] (q_h L xs s O c) = some (.inl (some (.int (q_I (q_b (thg T E (sk T E i) = 1 ∧ tel T E (sk T E i) = 6))))), q_h L xs (q_u s 285 11 (if thg T E (sk T E i) = 1 ∧ tel T E (sk T E i) = 6 then tend T E (sk T E i) else sk T E i)) O c) := by
  have hs := hs_17 (d := d) (L := L) (xs := xs) (O := O) (c := c) h E1 hr ha i0 i1 rfl rfl
  have w := wd_iff (T := T) (E := E) (b := sk T E i) (j := 6) (w := [111, 114]) rfl (by decide)
  have w' : (run 97 122 T E (sk T E i) - sk T E i = 2 ∧ eqw T (sk T E i) [111, 114] = true) ↔ (thg T E (sk T E i) = 1 ∧ tel T E (sk T E i) = 6) := w
  by_cases x : thg T E (sk T E i) = 1 ∧ tel T E (sk T E i) = 6
  · rw [if_pos x, q_bt x, wd_end x.1]
    rw [if_pos (w'.mpr x), q_bt (w'.mpr x)] at hs
    exact hs
  · rw [if_neg x, q_bf x]
    rw [if_neg (fun y => x (w'.mp y)), q_bf (fun y => x (w'.mp y))] at hs
    exact hs
theorem mm_has_put (h : TxM T E s) (E1 : E ≤ 400) (hr : ∀ j, 0 ≤ j → j < E → 0 ≤ T j ∧ T j ≤ 255) (ha : q_g s 285 11 = i) (i0 : 0 ≤ i) (i1 : i ≤ 1000) : EV (d + 9) 231 0 [.ref 285, .ref 1000018, .null, .null] [] (q_h L xs s O c) = some (.inl (some (.int (q_I (q_b (thg T E (sk T E i) = 1 ∧ tel T E (sk T E i) = 0))))), q_h L xs (q_u s 285 11 (if thg T E (sk T E i) = 1 ∧ tel T E (sk T E i) = 0 then tend T E (sk T E i) else sk T E i)) O c) := by
  have hs := hs_18 (d := d) (L := L) (xs := xs) (O := O) (c := c) h E1 hr ha i0 i1 rfl rfl
  have w := wd_iff (T := T) (E := E) (b := sk T E i) (j := 0) (w := [112, 117, 116]) rfl (by decide)
  have w' : (run 97 122 T E (sk T E i) - sk T E i = 3 ∧ eqw T (sk T E i) [112, 117, 116] = true) ↔ (thg T E (sk T E i) = 1 ∧ tel T E (sk T E i) = 0) := w
  by_cases x : thg T E (sk T E i) = 1 ∧ tel T E (sk T E i) = 0
  · rw [if_pos x, q_bt x, wd_end x.1]
    rw [if_pos (w'.mpr x), q_bt (w'.mpr x)] at hs
    exact hs
  · rw [if_neg x, q_bf x]
    rw [if_neg (fun y => x (w'.mp y)), q_bf (fun y => x (w'.mp y))] at hs
    exact hs
theorem mm_has_drop (h : TxM T E s) (E1 : E ≤ 400) (hr : ∀ j, 0 ≤ j → j < E → 0 ≤ T j ∧ T j ≤ 255) (ha : q_g s 285 11 = i) (i0 : 0 ≤ i) (i1 : i ≤ 1000) : EV (d + 9) 231 0 [.ref 285, .ref 1000019, .null, .null] [] (q_h L xs s O c) = some (.inl (some (.int (q_I (q_b (thg T E (sk T E i) = 1 ∧ tel T E (sk T E i) = 1))))), q_h L xs (q_u s 285 11 (if thg T E (sk T E i) = 1 ∧ tel T E (sk T E i) = 1 then tend T E (sk T E i) else sk T E i)) O c) := by
  have hs := hs_19 (d := d) (L := L) (xs := xs) (O := O) (c := c) h E1 hr ha i0 i1 rfl rfl
  have w := wd_iff (T := T) (E := E) (b := sk T E i) (j := 1) (w := [100, 114, 111, 112]) rfl (by decide)
  have w' : (run 97 122 T E (sk T E i) - sk T E i = 4 ∧ eqw T (sk T E i) [100, 114, 111, 112] = true) ↔ (thg T E (sk T E i) = 1 ∧ tel T E (sk T E i) = 1) := w
  by_cases x : thg T E (sk T E i) = 1 ∧ tel T E (sk T E i) = 1
  · rw [if_pos x, q_bt x, wd_end x.1]
    rw [if_pos (w'.mpr x), q_bt (w'.mpr x)] at hs
    exact hs
  · rw [if_neg x, q_bf x]
    rw [if_neg (fun y => x (w'.mp y)), q_bf (fun y => x (w'.mp y))] at hs
    exact hs
end HSK
