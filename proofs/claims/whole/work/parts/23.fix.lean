section FIX
variable (M : Nat → Option ex_Me) (T : Nat → Nat → Option ex_O)
theorem ex_step2 (K : ex_V) (d mi pc : Nat) (L st : List Value) (h : ex_H) : ex_step M T K d mi pc L st h = (match T mi pc with
  | some o => ex_do2 M K K o d mi L st h
  | none => none) := by
  unfold ex_step
  cases T mi pc with
  | none => rfl
  | some o => exact ex_do2_eq M K o d mi L st h
theorem ex_step_lt {K K' : ex_V} (hK : ex_Lt K K') : ex_Lt (ex_step M T K) (ex_step M T K') := by
  intro d mi pc L st h x H
  rw [ex_step2] at H ⊢
  split at H
  · exact ex_do2_lt hK hK H
  · cases H
theorem ex_ev_s : ∀ n, ex_Lt (ex_ev M T n) (ex_ev M T (n + 1))
  | 0 => fun _ _ _ _ _ _ _ H => by cases H
  | n + 1 => by
    rw [ex_ev_1, ex_ev_1]
    exact ex_step_lt M T (ex_ev_s n)
theorem ex_ev_le {n k : Nat} (h : n ≤ k) : ex_Lt (ex_ev M T n) (ex_ev M T k) := by
  induction h with
  | refl => exact fun _ _ _ _ _ _ _ H => H
  | step _ ih => exact fun _ _ _ _ _ _ _ H => ex_ev_s M T _ _ _ _ _ _ _ _ (ih _ _ _ _ _ _ _ H)
/-- the evaluator's limit -/
noncomputable def ex_lim : ex_V := fun d mi pc L st h => @dite _ (∃ x, ∃ n, ex_ev M T n d mi pc L st h = some x) (Classical.propDecidable _) (fun hx => some (Classical.choose hx)) (fun _ => none)
theorem ex_lim_iff {d mi pc : Nat} {L st : List Value} {h : ex_H} {x : ex_R × ex_H} : ex_lim M T d mi pc L st h = some x ↔ ∃ n, ex_ev M T n d mi pc L st h = some x := by
  unfold ex_lim
  constructor
  · intro H
    split at H
    · rename_i hx
      cases H
      exact Classical.choose_spec hx
    · cases H
  · rintro ⟨n, hn⟩
    have hx : ∃ x, ∃ n, ex_ev M T n d mi pc L st h = some x := ⟨x, n, hn⟩
    rw [dif_pos hx]
    obtain ⟨k, hk⟩ := Classical.choose_spec hx
    have h1 := ex_ev_le M T (Nat.le_max_left n k) _ _ _ _ _ _ _ hn
    have h2 := ex_ev_le M T (Nat.le_max_right n k) _ _ _ _ _ _ _ hk
    rw [h1] at h2
    exact h2.symm
theorem ex_ev_lim (n : Nat) : ex_Lt (ex_ev M T n) (ex_lim M T) := fun _ _ _ _ _ _ _ H => (ex_lim_iff M T).mpr ⟨n, H⟩
theorem ex_back_app {d mi nx : Nat} {L rest : List Value} {tl : List Nat} {q : Option (ex_R × ex_H)} {x : ex_R × ex_H} (H : ex_back (ex_lim M T) d mi nx L rest tl q = some x) : ∃ n, ex_back (ex_ev M T n) d mi nx L rest tl q = some x := by
  cases q with
  | none => cases H
  | some y =>
    obtain ⟨r, h⟩ := y
    rcases r with v | E
    · cases v with
      | none => exact (ex_lim_iff M T).mp H
      | some w =>
        unfold ex_back at H ⊢
        dsimp only at H ⊢
        split at H
        · rename_i hw
          obtain ⟨n, hn⟩ := (ex_lim_iff M T).mp H
          exact ⟨n, by rw [if_pos hw]; exact hn⟩
        · cases H
    · unfold ex_back at H ⊢
      dsimp only at H ⊢
      split at H
      · rename_i t i hti
        split at H
        · rename_i hi
          obtain ⟨n, hn⟩ := (ex_lim_iff M T).mp H
          exact ⟨n, by rw [if_pos hi]; exact hn⟩
        · cases H
      · cases H
theorem ex_call2_app {nx a b d mi : Nat} {tl : List Nat} {L st : List Value} {h : ex_H} {x : ex_R × ex_H} (H : ex_call2 M (ex_lim M T) (ex_lim M T) nx a b tl d mi L st h = some x) : ∃ n, ex_call2 M (ex_ev M T n) (ex_ev M T n) nx a b tl d mi L st h = some x := by
  unfold ex_call2 at H ⊢
  split at H
  · cases H
  rename_i h1
  split at H
  · cases H
  rename_i h2
  split at H
  · rename_i h3
    split at H
    · rename_i d' me hm
      split at H
      · cases H
      rename_i h4
      split at H
      · cases H
      rename_i h5
      cases hq : ex_lim M T d' a 0 (ex_pad me.2.2.1 (st.take b).reverse) [] h with
      | none => rw [hq] at H; cases H
      | some y =>
        obtain ⟨n1, hn1⟩ := (ex_lim_iff M T).mp hq
        rw [hq] at H
        obtain ⟨n2, hn2⟩ := ex_back_app M T H
        refine ⟨max n1 n2, ?_⟩
        rw [if_neg h1, if_neg h2, if_pos h3, if_neg h4, if_neg h5]
        exact ex_back_lt (ex_ev_le M T (Nat.le_max_right n1 n2)) (fun z hz => by cases hz; exact ex_ev_le M T (Nat.le_max_left n1 n2) _ _ _ _ _ _ _ hn1) hn2
    · cases H
  · cases H
set_option maxHeartbeats 8000000 in
theorem ex_do2_app {o : ex_O} {d mi : Nat} {L st : List Value} {h : ex_H} {x : ex_R × ex_H} (H : ex_do2 M (ex_lim M T) (ex_lim M T) o d mi L st h = some x) : ∃ n, ex_do2 M (ex_ev M T n) (ex_ev M T n) o d mi L st h = some x := by
  obtain ⟨op, nx, a, b, v, tl⟩ := o
  unfold ex_do2 at H ⊢
  dsimp only at H ⊢
  split at H
  all_goals first
    | exact (ex_lim_iff M T).mp H
    | exact ex_call2_app M T H
    | cases H
    | skip
  all_goals (repeat' split at H)
  all_goals first
    | exact (ex_lim_iff M T).mp H
    | (cases H; done)
    | exact ⟨0, H⟩
    | (refine ⟨0, ?_⟩; rw [if_pos (by assumption)]; exact H)
    | (refine ⟨0, ?_⟩; rw [if_neg (by assumption), if_pos (by assumption)]; exact H)
    | (refine ⟨0, ?_⟩; rw [if_neg (by assumption), if_neg (by assumption)]; exact H)
    | (obtain ⟨n, hn⟩ := (ex_lim_iff M T).mp H; refine ⟨n, ?_⟩; simp_all; done)
    | (refine ⟨0, ?_⟩; simp_all; done)
/-- the equation -/
theorem ex_lim_eq (d mi pc : Nat) (L st : List Value) (h : ex_H) : ex_lim M T d mi pc L st h = (match T mi pc with
  | some o => ex_do2 M (ex_lim M T) (ex_lim M T) o d mi L st h
  | none => none) := by
  apply Option.ext
  intro x
  constructor
  · intro H
    obtain ⟨n, hn⟩ := (ex_lim_iff M T).mp H
    cases n with
    | zero => cases hn
    | succ n =>
      rw [ex_ev_1, ex_step2] at hn
      split at hn
      · exact ex_do2_lt (ex_ev_lim M T n) (ex_ev_lim M T n) hn
      · cases hn
  · intro H
    split at H
    · rename_i o ho
      obtain ⟨n, hn⟩ := ex_do2_app M T H
      refine (ex_lim_iff M T).mpr ⟨n + 1, ?_⟩
      rw [ex_ev_1, ex_step2, ho]
      exact hn
    · cases H
/-- k steps at most within a method, up to where 'stop' says; calls by the limit -/
noncomputable def ex_blk (stop : Nat → Bool) (k : Nat) : ex_V := Nat.rec (motive := fun _ => ex_V) (ex_lim M T) (fun _ B d mi pc L st h => match T mi pc with
  | some o => ex_do2 M (fun d' mi' pc' L' st' h' => if stop pc' then ex_lim M T d' mi' pc' L' st' h' else B d' mi' pc' L' st' h') (ex_lim M T) o d mi L st h
  | none => none) k
theorem ex_blk_eq (stop : Nat → Bool) : ∀ (k d mi pc : Nat) (L st : List Value) (h : ex_H), ex_lim M T d mi pc L st h = ex_blk M T stop k d mi pc L st h
  | 0, _, _, _, _, _, _ => rfl
  | k + 1, d, mi, pc, L, st, h => by
    rw [ex_lim_eq]
    show _ = (match T mi pc with
      | some o => ex_do2 M (fun d' mi' pc' L' st' h' => if stop pc' then ex_lim M T d' mi' pc' L' st' h' else ex_blk M T stop k d' mi' pc' L' st' h') (ex_lim M T) o d mi L st h
      | none => none)
    have e : (fun d' mi' pc' L' st' h' => if stop pc' then ex_lim M T d' mi' pc' L' st' h' else ex_blk M T stop k d' mi' pc' L' st' h') = ex_lim M T := by
      funext d' mi' pc' L' st' h'
      by_cases q : stop pc'
      · rw [if_pos q]
      · rw [if_neg q]
        exact (ex_blk_eq stop k d' mi' pc' L' st' h').symm
    rw [e]
end FIX
noncomputable abbrev EV : ex_V := ex_lim ex_M0 ex_T0
