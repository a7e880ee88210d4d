/-! the evaluator's counts of cells and slots only grow -/
def ex_le (h h' : ex_H) : Prop := h.1.2.1 ≤ h'.1.2.1 ∧ h.1.2.2 ≤ h'.1.2.2
def ex_Mn (K : ex_V) : Prop := ∀ (d mi pc : Nat) (L st : List Value) (h h' : ex_H) (r : ex_R), K d mi pc L st h = some (r, h') → ex_le h h'
theorem ex_le.rf (h : ex_H) : ex_le h h := ⟨Nat.le_refl _, Nat.le_refl _⟩
theorem ex_le.tr {h h1 h' : ex_H} (a : ex_le h h1) (b : ex_le h1 h') : ex_le h h' := ⟨Nat.le_trans a.1 b.1, Nat.le_trans a.2 b.2⟩
theorem ex_le.eq {h h1 h' : ex_H} (e : h1.1 = h.1) (b : ex_le h1 h') : ex_le h h' := by unfold ex_le at b ⊢; rw [e] at b; exact b
theorem ex_put_c {h h1 : ex_H} {x ci k : Nat} {t : Int32} {w : Value} (hg : ex_put h x ci k t w = some h1) : h1.1 = h.1 := by
  obtain ⟨-, fs, -, -, -, e⟩ := ex_put_of hg
  rw [e]; rfl
theorem ex_ist_c {h h1 : ex_H} {x : Nat} {i v : Int32} (hg : ex_ist h x i v = some h1) : h1.1 = h.1 := by
  obtain ⟨-, n, f, -, -, e⟩ := ex_ist_of hg
  rw [e]; rfl
theorem ex_zst_c {h h1 : ex_H} {x : Nat} {i v : Int32} (hg : ex_zst h x i v = some h1) : h1.1 = h.1 := by
  obtain ⟨-, n, f, -, -, e⟩ := ex_zst_of hg
  rw [e]; rfl
theorem ex_lst_c {h h1 : ex_H} {x : Nat} {i : Int32} {v : Int64} (hg : ex_lst h x i v = some h1) : h1.1 = h.1 := by
  obtain ⟨-, n, f, -, -, e⟩ := ex_lst_of hg
  rw [e]; rfl
theorem ex_ast_c {h h1 : ex_H} {x y : Nat} {i : Int32} (hg : ex_ast h x i y = some h1) : h1.1 = h.1 := by
  obtain ⟨-, -, C, n, f, ci, fs, rc, -, -, -, -, -, e⟩ := ex_ast_of hg
  rw [e]; rfl
theorem ex_cpi_c {h h1 : ex_H} {x y : Nat} {sp dp n : Int32} (hg : ex_cpi h x sp y dp n = some h1) : h1.1 = h.1 := by
  obtain ⟨-, -, n0, f, n1, g, -, -, -, -, -, -, -, e⟩ := ex_cpi_of hg
  rw [e]; rfl
theorem ex_le.add {h h' : ex_H} {n : Nat} {c : ex_C} (b : ex_le (ex_add h n c) h') : ex_le h h' := by
  unfold ex_le ex_add at b
  exact ⟨by have := b.1; simp at this; omega, by have := b.2; simp at this; omega⟩
theorem ex_back_mono {K : ex_V} (ih : ex_Mn K) {d mi nx : Nat} {L rest : List Value} {tl : List Nat} {q : Option (ex_R × ex_H)} {h h' : ex_H} {r : ex_R} (hq : ∀ r1 h1, q = some (r1, h1) → ex_le h h1) (H : ex_back K d mi nx L rest tl q = some (r, h')) : ex_le h h' := by
  unfold ex_back at H
  split at H
  · rename_i h1
    exact (hq _ _ rfl).tr (ih _ _ _ _ _ _ _ _ H)
  · rename_i w h1
    split at H
    · exact (hq _ _ rfl).tr (ih _ _ _ _ _ _ _ _ H)
    · cases H
  · rename_i E h1
    split at H
    · split at H
      · exact (hq _ _ rfl).tr (ih _ _ _ _ _ _ _ _ H)
      · cases H
    · cases H
  · cases H
theorem ex_call_mono {M : Nat → Option ex_Me} {K : ex_V} (ih : ex_Mn K) {nx a b d mi : Nat} {tl : List Nat} {L st : List Value} {h h' : ex_H} {r : ex_R} (H : ex_call M K nx a b tl d mi L st h = some (r, h')) : ex_le h h' := by
  unfold ex_call at H
  split at H
  · cases H
  split at H
  · cases H
  split at H
  · split at H
    · split at H
      · cases H
      split at H
      · cases H
      exact ex_back_mono ih (fun r1 h1 e => ih _ _ _ _ _ _ _ _ e) H
    · cases H
  · cases H
set_option maxHeartbeats 4000000 in
theorem ex_do_mono {M : Nat → Option ex_Me} {K : ex_V} (ih : ex_Mn K) {o : ex_O} {d mi : Nat} {L st : List Value} {h h' : ex_H} {r : ex_R} (H : ex_do M K o d mi L st h = some (r, h')) : ex_le h h' := by
  obtain ⟨op, nx, a, b, v, tl⟩ := o
  unfold ex_do at H
  dsimp only at H
  split at H
  all_goals first
    | exact ih _ _ _ _ _ _ _ _ H
    | exact ex_call_mono ih H
    | cases H
    | skip
  all_goals (repeat' split at H)
  all_goals first
    | exact ih _ _ _ _ _ _ _ _ H
    | exact (ih _ _ _ _ _ _ _ _ H).add
    | (cases H; done)
    | (cases H; exact ex_le.rf _)
    | (cases H; exact ⟨Nat.le_succ _, by simp [ex_thr]⟩)
    | exact ex_le.eq (ex_put_c (by assumption)) (ih _ _ _ _ _ _ _ _ H)
    | exact ex_le.eq (ex_ist_c (by assumption)) (ih _ _ _ _ _ _ _ _ H)
    | exact ex_le.eq (ex_zst_c (by assumption)) (ih _ _ _ _ _ _ _ _ H)
    | exact ex_le.eq (ex_lst_c (by assumption)) (ih _ _ _ _ _ _ _ _ H)
    | exact ex_le.eq (ex_ast_c (by assumption)) (ih _ _ _ _ _ _ _ _ H)
    | exact ex_le.eq (ex_cpi_c (by assumption)) (ih _ _ _ _ _ _ _ _ H)
theorem ex_mono (M : Nat → Option ex_Me) (T : Nat → Nat → Option ex_O) : ∀ n, ex_Mn (ex_ev M T n)
  | 0 => fun _ _ _ _ _ _ _ _ H => by cases H
  | n + 1 => fun d mi pc L st h h' r H => by
    rw [ex_ev_1] at H
    unfold ex_step at H
    split at H
    · exact ex_do_mono (ex_mono M T n) H
    · cases H
