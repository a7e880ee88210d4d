/-! TEXTS: their things by places -/
section RUN
variable {lo hi : Int} {T : Int → Int} {E i : Int}
theorem run_yes (h : i < E) (h1 : lo ≤ T i) (h2 : T i ≤ hi) : run lo hi T E i = run lo hi T E (i + 1) := by
  unfold run
  rw [show (E - i).toNat = (E - (i + 1)).toNat + 1 by omega]
  show (if i < E ∧ lo ≤ T i ∧ T i ≤ hi then _ else _) = _
  rw [if_pos ⟨h, h1, h2⟩]
theorem run_no (h : ¬ (i < E ∧ lo ≤ T i ∧ T i ≤ hi)) : run lo hi T E i = i := by
  unfold run
  cases hn : (E - i).toNat with
  | zero => rfl
  | succ n =>
    show (if i < E ∧ lo ≤ T i ∧ T i ≤ hi then _ else _) = _
    rw [if_neg h]
theorem run_all : ∀ (n : Nat) (i : Int), E - i ≤ n → i ≤ run lo hi T E i ∧ (i ≤ E → run lo hi T E i ≤ E) ∧ (∀ j, i ≤ j → j < run lo hi T E i → lo ≤ T j ∧ T j ≤ hi) ∧ ¬ (run lo hi T E i < E ∧ lo ≤ T (run lo hi T E i) ∧ T (run lo hi T E i) ≤ hi)
  | 0, i, h => by
    rw [run_no (by omega)]
    exact ⟨by omega, fun h => h, fun j h1 h2 => by omega, by omega⟩
  | n + 1, i, h => by
    by_cases c : i < E ∧ lo ≤ T i ∧ T i ≤ hi
    · rw [run_yes c.1 c.2.1 c.2.2]
      obtain ⟨a1, a2, a3, a4⟩ := run_all n (i + 1) (by omega)
      refine ⟨by omega, fun _ => a2 (by omega), fun j h1 h2 => ?_, a4⟩
      by_cases e : j = i
      · rw [e]
        exact c.2
      · exact a3 j (by omega) h2
    · rw [run_no c]
      exact ⟨by omega, fun h => h, fun j h1 h2 => by omega, c⟩
theorem run_ge (lo hi : Int) (T : Int → Int) (E i : Int) : i ≤ run lo hi T E i := (run_all (E - i).toNat i (by omega)).1
theorem run_le (h : i ≤ E) : run lo hi T E i ≤ E := (run_all (E - i).toNat i (by omega)).2.1 h
theorem run_in {j : Int} (h1 : i ≤ j) (h2 : j < run lo hi T E i) : lo ≤ T j ∧ T j ≤ hi := (run_all (E - i).toNat i (by omega)).2.2.1 j h1 h2
theorem run_stop (lo hi : Int) (T : Int → Int) (E i : Int) : ¬ (run lo hi T E i < E ∧ lo ≤ T (run lo hi T E i) ∧ T (run lo hi T E i) ≤ hi) := (run_all (E - i).toNat i (by omega)).2.2.2
theorem run_idem : run lo hi T E (run lo hi T E i) = run lo hi T E i := run_no (run_stop lo hi T E i)
end RUN
/-- the words -/
theorem tend_gt {T : Int → Int} {E b : Int} (h : b < E) : b < tend T E b ∧ tend T E b ≤ E := by
  unfold tend
  split
  · exact ⟨by assumption, run_le (by omega)⟩
  · split
    · exact ⟨by assumption, run_le (by omega)⟩
    · omega
theorem nxt_gt {T : Int → Int} {E b : Int} (h : b < E) : b < nxt T E b ∧ nxt T E b ≤ E := by
  have := tend_gt (T := T) h
  have g := run_ge 32 32 T E (tend T E b)
  have l := run_le (lo := 32) (hi := 32) (T := T) (E := E) (i := tend T E b) this.2
  unfold nxt sk
  omega
