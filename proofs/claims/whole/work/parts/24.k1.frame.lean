/-! CELL 0 APART: what runs with that cell empty runs the same with it; no cell stands above the count; behind an array's end there is nothing -/
def fz_ (c : ex_C) (h : ex_H) : ex_H := (h.1, fun k => if k = 0 then some c else h.2 k)
def fz_Q (q : ex_C) : Prop := (∀ ty n f, q = .inl (ty, n, .inl f) → ∀ j, n ≤ j → f j = 0) ∧ ∀ ty n f, q = .inl (ty, n, .inr (.inr (.inr (.inr f)))) → ∀ j, n ≤ j → f j = none
def fz_J (h : ex_H) : Prop := h.2 0 = none ∧ (∀ k, h.1.2.1 < k → h.2 k = none) ∧ ∀ k q, h.2 k = some q → fz_Q q
theorem fz_1 (c : ex_C) (h : ex_H) : (fz_ c h).1 = h.1 := rfl
theorem fz_at {c : ex_C} {h : ex_H} {x : Nat} (x0 : x ≠ 0) : (fz_ c h).2 x = h.2 x := if_neg x0
theorem fz_set {c q : ex_C} {h : ex_H} {x : Nat} (x0 : x ≠ 0) : ex_set (fz_ c h) x q = fz_ c (ex_set h x q) := by
  unfold ex_set fz_
  refine Prod.ext rfl (funext fun j => ?_)
  dsimp only
  by_cases e : j = x
  · rw [if_pos e, if_neg (by omega), if_pos e]
  · rw [if_neg e, if_neg e]
theorem fz_add {c q : ex_C} {h : ex_H} {n : Nat} : ex_add (fz_ c h) n q = fz_ c (ex_add h n q) := by
  unfold ex_add fz_
  refine Prod.ext rfl (funext fun j => ?_)
  dsimp only
  by_cases e : j = h.1.2.1 + 1
  · rw [if_pos e, if_neg (by omega), if_pos e]
  · rw [if_neg e, if_neg e]
theorem fz_Jset {q q0 : ex_C} {h : ex_H} {x : Nat} (hJ : fz_J h) (x0 : x ≠ 0) (hx : h.2 x = some q0) (hq : fz_Q q) : fz_J (ex_set h x q) := by
  refine ⟨?_, fun k hk => ?_, fun k q' hk => ?_⟩
  · show (if 0 = x then some q else h.2 0) = none
    rw [if_neg (fun e => x0 e.symm)]
    exact hJ.1
  · show (if k = x then some q else h.2 k) = none
    have h1 := hJ.2.1 k hk
    by_cases e : k = x
    · subst e
      rw [hx] at h1
      cases h1
    · rw [if_neg e]
      exact h1
  · change (if k = x then some q else h.2 k) = some q' at hk
    by_cases e : k = x
    · rw [if_pos e] at hk
      cases hk
      exact hq
    · rw [if_neg e] at hk
      exact hJ.2.2 k q' hk
theorem fz_Jadd {q : ex_C} {h : ex_H} {n : Nat} (hJ : fz_J h) (hq : fz_Q q) : fz_J (ex_add h n q) := by
  refine ⟨?_, fun k hk => ?_, fun k q' hk => ?_⟩
  · show (if 0 = h.1.2.1 + 1 then some q else h.2 0) = none
    rw [if_neg (by omega)]
    exact hJ.1
  · change h.1.2.1 + 1 < k at hk
    show (if k = h.1.2.1 + 1 then some q else h.2 k) = none
    rw [if_neg (by omega)]
    exact hJ.2.1 k (by omega)
  · change (if k = h.1.2.1 + 1 then some q else h.2 k) = some q' at hk
    by_cases e : k = h.1.2.1 + 1
    · rw [if_pos e] at hk
      cases hk
      exact hq
    · rw [if_neg e] at hk
      exact hJ.2.2 k q' hk
theorem fz_Jthr {h : ex_H} (hJ : fz_J h) : fz_J (ex_thr h) := ⟨hJ.1, fun k hk => hJ.2.1 k (by change h.1.2.1 + 1 < k at hk; omega), hJ.2.2⟩
theorem fz_Qo {ci : Nat} {fs : List Value} : fz_Q (.inr (ci, fs)) := ⟨fun _ _ _ e => (by cases e), fun _ _ _ e => by cases e⟩
theorem fz_Qi {ty : FieldType} {n i : Nat} {f : Nat → Int32} {v : Int32} (hi : i < n) (hq : fz_Q (.inl (ty, n, .inl f))) : fz_Q (.inl (ty, n, .inl (upd f i v))) := by
  refine ⟨fun ty' n' f' e j hj => ?_, fun _ _ _ e => by cases e⟩
  cases e
  unfold upd
  rw [if_neg (by omega)]
  exact hq.1 _ _ _ rfl j hj
theorem fz_Ql {ty : FieldType} {n : Nat} {f : Nat → Int64} : fz_Q (.inl (ty, n, .inr (.inl f))) := ⟨fun _ _ _ e => (by cases e), fun _ _ _ e => by cases e⟩
theorem fz_Qa {ty : FieldType} {n i : Nat} {f : Nat → Option Nat} {v : Option Nat} (hi : i < n) (hq : fz_Q (.inl (ty, n, .inr (.inr (.inr (.inr f)))))) : fz_Q (.inl (ty, n, .inr (.inr (.inr (.inr (va_up f i v)))))) := by
  refine ⟨fun _ _ _ e => (by cases e), fun ty' n' f' e j hj => ?_⟩
  cases e
  unfold va_up
  rw [if_neg (by omega)]
  exact hq.2 _ _ _ rfl j hj
theorem fz_Qc {ty : FieldType} {n sp dp m : Nat} {f g : Nat → Int32} (hi : dp + m ≤ n) (hq : fz_Q (.inl (ty, n, .inl g))) : fz_Q (.inl (ty, n, .inl (va_cpy f g sp dp m))) := by
  refine ⟨fun ty' n' f' e j hj => ?_, fun _ _ _ e => by cases e⟩
  cases e
  unfold va_cpy
  rw [if_neg (by omega)]
  exact hq.1 _ _ _ rfl j hj
theorem fz_Qf {t n : Nat} {c : ex_C} (h : ex_fr t n = some c) : fz_Q c := by
  unfold ex_fr at h
  split at h
  · cases h
    exact ⟨fun ty' n' f' e j hj => (by cases e; rfl), fun _ _ _ e => by cases e⟩
  · cases h
    exact ⟨fun ty' n' f' e j hj => (by cases e; rfl), fun _ _ _ e => by cases e⟩
  · cases h
    exact fz_Ql
  · cases h
theorem fz_Qn {ty : FieldType} {n : Nat} : fz_Q (.inl (ty, n, .inr (.inr (.inr (.inr (fun _ => none)))))) := ⟨fun _ _ _ e => (by cases e), fun ty' n' f' e j hj => by cases e; rfl⟩
theorem fz_get {h : ex_H} {x ci k : Nat} {w : Value} (hg : ex_get h x ci k = some w) (c : ex_C) : ex_get (fz_ c h) x ci k = some w := by
  obtain ⟨x0, -⟩ := ex_get_of hg
  unfold ex_get at hg ⊢
  rw [fz_at x0]
  exact hg
theorem fz_put {h h1 : ex_H} {x ci k : Nat} {t : Int32} {w : Value} (hJ : fz_J h) (hg : ex_put h x ci k t w = some h1) : fz_J h1 ∧ ∀ c, ex_put (fz_ c h) x ci k t w = some (fz_ c h1) := by
  obtain ⟨x0, fs, hx, hk, hf, e⟩ := ex_put_of hg
  subst e
  refine ⟨fz_Jset hJ x0 hx fz_Qo, fun c => ?_⟩
  unfold ex_put
  rw [fz_at x0, hx]
  dsimp only
  rw [if_neg x0, if_pos rfl, if_pos hk, if_pos hf, fz_set x0]
theorem fz_ild {h : ex_H} {x : Nat} {i w : Int32} (hJ : fz_J h) (hg : ex_ild h x i = some w) (c : ex_C) : ex_ild (fz_ c h) x i = some w := by
  have x0 : x ≠ 0 := by
    intro e
    subst e
    unfold ex_ild at hg
    rw [hJ.1] at hg
    cases hg
  unfold ex_ild at hg ⊢
  rw [fz_at x0]
  exact hg
theorem fz_zld {h : ex_H} {x : Nat} {i w : Int32} (hJ : fz_J h) (hg : ex_zld h x i = some w) (c : ex_C) : ex_zld (fz_ c h) x i = some w := by
  have x0 : x ≠ 0 := by
    intro e
    subst e
    unfold ex_zld at hg
    rw [hJ.1] at hg
    cases hg
  unfold ex_zld at hg ⊢
  rw [fz_at x0]
  exact hg
theorem fz_lld {h : ex_H} {x : Nat} {i : Int32} {w : Int64} (hJ : fz_J h) (hg : ex_lld h x i = some w) (c : ex_C) : ex_lld (fz_ c h) x i = some w := by
  have x0 : x ≠ 0 := by
    intro e
    subst e
    unfold ex_lld at hg
    rw [hJ.1] at hg
    cases hg
  unfold ex_lld at hg ⊢
  rw [fz_at x0]
  exact hg
theorem fz_ald {h : ex_H} {x : Nat} {i : Int32} {w : Nat} (hJ : fz_J h) (hg : ex_ald h x i = some w) (c : ex_C) : ex_ald (fz_ c h) x i = some w := by
  have x0 : x ≠ 0 := by
    intro e
    subst e
    unfold ex_ald at hg
    rw [hJ.1] at hg
    cases hg
  unfold ex_ald at hg ⊢
  rw [fz_at x0]
  exact hg
theorem fz_len {h : ex_H} {x : Nat} {w : Int32} (hJ : fz_J h) (hg : ex_len h x = some w) (c : ex_C) : ex_len (fz_ c h) x = some w := by
  have x0 : x ≠ 0 := by
    intro e
    subst e
    unfold ex_len at hg
    rw [hJ.1] at hg
    cases hg
  unfold ex_len at hg ⊢
  rw [fz_at x0]
  exact hg
theorem fz_ist {h h1 : ex_H} {x : Nat} {i v : Int32} (hJ : fz_J h) (hg : ex_ist h x i v = some h1) : fz_J h1 ∧ ∀ c, ex_ist (fz_ c h) x i v = some (fz_ c h1) := by
  obtain ⟨x0, n, f, hx, hi, e⟩ := ex_ist_of hg
  refine ⟨by rw [e]; exact fz_Jset hJ x0 hx (fz_Qi (by have := hi; unfold vp_in at this; omega) (hJ.2.2 _ _ hx)), fun c => ?_⟩
  have q : ex_ist (fz_ c h) x i v = (ex_ist h x i v).map (fz_ c) := by
    unfold ex_ist
    rw [fz_at x0, hx]
    dsimp only
    rw [fz_set x0]
    repeat' split
    all_goals rfl
  rw [q, hg]
  rfl
theorem fz_zst {h h1 : ex_H} {x : Nat} {i v : Int32} (hJ : fz_J h) (hg : ex_zst h x i v = some h1) : fz_J h1 ∧ ∀ c, ex_zst (fz_ c h) x i v = some (fz_ c h1) := by
  obtain ⟨x0, n, f, hx, hi, e⟩ := ex_zst_of hg
  refine ⟨by rw [e]; exact fz_Jset hJ x0 hx (fz_Qi (by have := hi; unfold vp_in at this; omega) (hJ.2.2 _ _ hx)), fun c => ?_⟩
  have q : ex_zst (fz_ c h) x i v = (ex_zst h x i v).map (fz_ c) := by
    unfold ex_zst
    rw [fz_at x0, hx]
    dsimp only
    rw [fz_set x0]
    repeat' split
    all_goals rfl
  rw [q, hg]
  rfl
theorem fz_lst {h h1 : ex_H} {x : Nat} {i : Int32} {v : Int64} (hJ : fz_J h) (hg : ex_lst h x i v = some h1) : fz_J h1 ∧ ∀ c, ex_lst (fz_ c h) x i v = some (fz_ c h1) := by
  obtain ⟨x0, n, f, hx, hi, e⟩ := ex_lst_of hg
  refine ⟨by rw [e]; exact fz_Jset hJ x0 hx fz_Ql, fun c => ?_⟩
  have q : ex_lst (fz_ c h) x i v = (ex_lst h x i v).map (fz_ c) := by
    unfold ex_lst
    rw [fz_at x0, hx]
    dsimp only
    rw [fz_set x0]
    repeat' split
    all_goals rfl
  rw [q, hg]
  rfl
theorem fz_ast {h h1 : ex_H} {x y : Nat} {i : Int32} (hJ : fz_J h) (hg : ex_ast h x i y = some h1) : fz_J h1 ∧ ∀ c, ex_ast (fz_ c h) x i y = some (fz_ c h1) := by
  obtain ⟨x0, y0, C, n, f, ci, fs, rc, hx, hy, hi, -, -, e⟩ := ex_ast_of hg
  refine ⟨by rw [e]; exact fz_Jset hJ x0 hx (fz_Qa (by have := hi; unfold vp_in at this; omega) (hJ.2.2 _ _ hx)), fun c => ?_⟩
  have q : ex_ast (fz_ c h) x i y = (ex_ast h x i y).map (fz_ c) := by
    unfold ex_ast
    rw [fz_at x0, fz_at y0, hx, hy]
    dsimp only
    rw [fz_set x0]
    repeat' split
    all_goals rfl
  rw [q, hg]
  rfl
theorem fz_cpi {h h1 : ex_H} {x y : Nat} {sp dp n : Int32} (hJ : fz_J h) (hg : ex_cpi h x sp y dp n = some h1) : fz_J h1 ∧ ∀ c, ex_cpi (fz_ c h) x sp y dp n = some (fz_ c h1) := by
  obtain ⟨x0, y0, n0, f, n1, g, hx, hy, -, -, -, -, hb, e⟩ := ex_cpi_of hg
  refine ⟨by rw [e]; exact fz_Jset hJ y0 hy (fz_Qc hb (hJ.2.2 _ _ hy)), fun c => ?_⟩
  have q : ex_cpi (fz_ c h) x sp y dp n = (ex_cpi h x sp y dp n).map (fz_ c) := by
    unfold ex_cpi
    rw [fz_at x0, fz_at y0, hx, hy]
    dsimp only
    rw [fz_set y0]
    repeat' split
    all_goals rfl
  rw [q, hg]
  rfl
theorem fz_rc {h : ex_H} {k : Nat} {vs : List Value} (hJ : fz_J h) (hg : ¬ ex_rc h k vs = false) (c : ex_C) : ¬ ex_rc (fz_ c h) k vs = false := by
  unfold ex_rc at hg ⊢
  split at hg
  · exact hg
  · exact hg
  · split at hg
    · rename_i x r
      have x0 : x ≠ 0 := by
        intro e
        subst e
        rw [hJ.1] at hg
        exact hg rfl
      rw [fz_at x0]
      exact hg
    · exact absurd rfl hg
def fz_P (K : ex_V) : Prop := ∀ (d mi pc : Nat) (L st : List Value) (h h' : ex_H) (r : ex_R), fz_J h → K d mi pc L st h = some (r, h') → fz_J h' ∧ ∀ c, K d mi pc L st (fz_ c h) = some (r, fz_ c h')
theorem fz_back {K : ex_V} (ih : fz_P K) {d mi nx : Nat} {L rest : List Value} {tl : List Nat} {q : Option (ex_R × ex_H)} {q' : ex_C → Option (ex_R × ex_H)} {h' : ex_H} {r : ex_R} (hq : ∀ r1 h1, q = some (r1, h1) → fz_J h1 ∧ ∀ c, q' c = some (r1, fz_ c h1)) (H : ex_back K d mi nx L rest tl q = some (r, h')) : fz_J h' ∧ ∀ c, ex_back K d mi nx L rest tl (q' c) = some (r, fz_ c h') := by
  unfold ex_back at H
  split at H
  · rename_i h1
    obtain ⟨g1, g2⟩ := hq _ _ rfl
    obtain ⟨k1, k2⟩ := ih _ _ _ _ _ _ _ _ g1 H
    exact ⟨k1, fun c => by rw [g2 c]; exact k2 c⟩
  · rename_i w h1
    obtain ⟨g1, g2⟩ := hq _ _ rfl
    split at H
    · rename_i hw
      obtain ⟨k1, k2⟩ := ih _ _ _ _ _ _ _ _ g1 H
      refine ⟨k1, fun c => ?_⟩
      rw [g2 c]
      unfold ex_back
      dsimp only
      rw [if_pos hw]
      exact k2 c
    · cases H
  · rename_i E h1
    obtain ⟨g1, g2⟩ := hq _ _ rfl
    split at H
    · rename_i t i hti
      split at H
      · rename_i hi
        obtain ⟨k1, k2⟩ := ih _ _ _ _ _ _ _ _ g1 H
        refine ⟨k1, fun c => ?_⟩
        rw [g2 c]
        unfold ex_back
        dsimp only
        rw [hti]
        dsimp only
        rw [if_pos hi]
        exact k2 c
      · cases H
    · cases H
  · cases H
theorem fz_call {M : Nat → Option ex_Me} {K : ex_V} (ih : fz_P K) {nx a b d mi : Nat} {tl : List Nat} {L st : List Value} {h h' : ex_H} {r : ex_R} (hJ : fz_J h) (H : ex_call M K nx a b tl d mi L st h = some (r, h')) : fz_J h' ∧ ∀ c, ex_call M K nx a b tl d mi L st (fz_ c h) = some (r, fz_ c h') := by
  unfold ex_call at H ⊢
  split at H
  · cases H
  rename_i h1
  split at H
  · cases H
  rename_i h2
  split at H
  · rename_i h3
    split at H
    · rename_i d' me hm
      split at H
      · cases H
      rename_i h4
      split at H
      · cases H
      rename_i h5
      obtain ⟨k1, k2⟩ := fz_back ih (q' := fun c => K d' a 0 (ex_pad me.2.2.1 (st.take b).reverse) [] (fz_ c h)) (fun r1 h1 e => ih _ _ _ _ _ _ _ _ hJ e) H
      refine ⟨k1, fun c => ?_⟩
      rw [if_neg h1, if_neg h2, if_pos h3, if_neg h4, if_neg (fz_rc hJ h5 c)]
      exact k2 c
    · cases H
  · cases H
set_option maxHeartbeats 8000000 in
theorem fz_do {M : Nat → Option ex_Me} {K : ex_V} (ih : fz_P K) {o : ex_O} {d mi : Nat} {L st : List Value} {h h' : ex_H} {r : ex_R} (hJ : fz_J h) (H : ex_do M K o d mi L st h = some (r, h')) : fz_J h' ∧ ∀ c, ex_do M K o d mi L st (fz_ c h) = some (r, fz_ c h') := by
  obtain ⟨op, nx, a, b, v, tl⟩ := o
  unfold ex_do at H ⊢
  dsimp only at H ⊢
  split at H
  all_goals first
    | exact ih _ _ _ _ _ _ _ _ hJ H
    | exact fz_call ih hJ H
    | cases H
    | skip
  all_goals (repeat' split at H)
  all_goals first
    | (cases H; done)
    | exact ih _ _ _ _ _ _ _ _ hJ H
    | (cases H; exact ⟨hJ, fun c => rfl⟩)
    | skip
  all_goals first
    | (cases H; refine ⟨fz_Jthr hJ, fun c => ?_⟩; simp_all [fz_, ex_thr]; done)
    | (cases H; refine ⟨hJ, fun c => ?_⟩; simp_all; done)
    | (rename_i hq; have g := fz_get hq; obtain ⟨k1, k2⟩ := ih _ _ _ _ _ _ _ _ hJ H; refine ⟨k1, fun c => ?_⟩; have k3 := k2 c; rw [g c]; exact k3)
    | (rename_i hq; have g := fz_ild hJ hq; obtain ⟨k1, k2⟩ := ih _ _ _ _ _ _ _ _ hJ H; refine ⟨k1, fun c => ?_⟩; have k3 := k2 c; rw [g c]; exact k3)
    | (rename_i hq; have g := fz_zld hJ hq; obtain ⟨k1, k2⟩ := ih _ _ _ _ _ _ _ _ hJ H; refine ⟨k1, fun c => ?_⟩; have k3 := k2 c; rw [g c]; exact k3)
    | (rename_i hq; have g := fz_lld hJ hq; obtain ⟨k1, k2⟩ := ih _ _ _ _ _ _ _ _ hJ H; refine ⟨k1, fun c => ?_⟩; have k3 := k2 c; rw [g c]; exact k3)
    | (rename_i hq; have g := fz_ald hJ hq; obtain ⟨k1, k2⟩ := ih _ _ _ _ _ _ _ _ hJ H; refine ⟨k1, fun c => ?_⟩; have k3 := k2 c; rw [g c]; exact k3)
    | (rename_i hq; have g := fz_len hJ hq; obtain ⟨k1, k2⟩ := ih _ _ _ _ _ _ _ _ hJ H; refine ⟨k1, fun c => ?_⟩; have k3 := k2 c; rw [g c]; exact k3)
    | (rename_i hq; have g := fz_put hJ hq; obtain ⟨k1, k2⟩ := ih _ _ _ _ _ _ _ _ g.1 H; refine ⟨k1, fun c => ?_⟩; have k3 := k2 c; rw [g.2 c]; exact k3)
    | (rename_i hq; have g := fz_ist hJ hq; obtain ⟨k1, k2⟩ := ih _ _ _ _ _ _ _ _ g.1 H; refine ⟨k1, fun c => ?_⟩; have k3 := k2 c; rw [g.2 c]; exact k3)
    | (rename_i hq; have g := fz_zst hJ hq; obtain ⟨k1, k2⟩ := ih _ _ _ _ _ _ _ _ g.1 H; refine ⟨k1, fun c => ?_⟩; have k3 := k2 c; rw [g.2 c]; exact k3)
    | (rename_i hq; have g := fz_lst hJ hq; obtain ⟨k1, k2⟩ := ih _ _ _ _ _ _ _ _ g.1 H; refine ⟨k1, fun c => ?_⟩; have k3 := k2 c; rw [g.2 c]; exact k3)
    | (rename_i hq; have g := fz_ast hJ hq; obtain ⟨k1, k2⟩ := ih _ _ _ _ _ _ _ _ g.1 H; refine ⟨k1, fun c => ?_⟩; have k3 := k2 c; rw [g.2 c]; exact k3)
    | (rename_i hq; have g := fz_cpi hJ hq; obtain ⟨k1, k2⟩ := ih _ _ _ _ _ _ _ _ g.1 H; refine ⟨k1, fun c => ?_⟩; have k3 := k2 c; rw [if_neg (by assumption), if_neg (by assumption), g.2 c]; exact k3)
    | (rename_i hq; have g := fz_Qf hq; obtain ⟨k1, k2⟩ := ih _ _ _ _ _ _ _ _ (fz_Jadd hJ g) H; refine ⟨k1, fun c => ?_⟩; have k3 := k2 c; simp_all [fz_1, fz_add]; done)
    | (obtain ⟨k1, k2⟩ := ih _ _ _ _ _ _ _ _ (fz_Jadd hJ fz_Qn) H; refine ⟨k1, fun c => ?_⟩; have k3 := k2 c; simp_all [fz_1, fz_add]; done)
    | (obtain ⟨k1, k2⟩ := ih _ _ _ _ _ _ _ _ (fz_Jadd hJ fz_Qo) H; refine ⟨k1, fun c => ?_⟩; have k3 := k2 c; simp_all [fz_1, fz_add]; done)
    | (obtain ⟨k1, k2⟩ := ih _ _ _ _ _ _ _ _ hJ H; refine ⟨k1, fun c => ?_⟩; have k3 := k2 c; simp_all; done)
theorem fz_ev (M : Nat → Option ex_Me) (T : Nat → Nat → Option ex_O) : ∀ n, fz_P (ex_ev M T n)
  | 0 => fun _ _ _ _ _ _ _ _ _ H => by cases H
  | n + 1 => fun d mi pc L st h h' r hJ H => by
    rw [ex_ev_1] at H ⊢
    unfold ex_step at H ⊢
    cases ho : T mi pc with
    | none => rw [ho] at H; cases H
    | some o =>
      rw [ho] at H
      exact fz_do (fz_ev M T n) hJ H
