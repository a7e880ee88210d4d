/-! TEXTS: their things by places -/
def rnx (lo hi : Int) (T : Int → Int) (E : Int) : Nat → Int → Int
  | 0, i => i
  | f + 1, i => if i < E ∧ lo ≤ T i ∧ T i ≤ hi then rnx lo hi T E f (i + 1) else i
/-- where a run of bytes ends -/
def run (lo hi : Int) (T : Int → Int) (E i : Int) : Int := rnx lo hi T E (E - i).toNat i
section RUN
variable {lo hi : Int} {T : Int → Int} {E i : Int}
theorem run_yes (h : i < E) (h1 : lo ≤ T i) (h2 : T i ≤ hi) : run lo hi T E i = run lo hi T E (i + 1) := by
  unfold run
  rw [show (E - i).toNat = (E - (i + 1)).toNat + 1 by omega]
  show (if i < E ∧ lo ≤ T i ∧ T i ≤ hi then _ else _) = _
  rw [if_pos ⟨h, h1, h2⟩]
theorem run_no (h : ¬ (i < E ∧ lo ≤ T i ∧ T i ≤ hi)) : run lo hi T E i = i := by
  unfold run
  cases hn : (E - i).toNat with
  | zero => rfl
  | succ n =>
    show (if i < E ∧ lo ≤ T i ∧ T i ≤ hi then _ else _) = _
    rw [if_neg h]
theorem run_all : ∀ (n : Nat) (i : Int), E - i ≤ n → i ≤ run lo hi T E i ∧ (i ≤ E → run lo hi T E i ≤ E) ∧ (∀ j, i ≤ j → j < run lo hi T E i → lo ≤ T j ∧ T j ≤ hi) ∧ ¬ (run lo hi T E i < E ∧ lo ≤ T (run lo hi T E i) ∧ T (run lo hi T E i) ≤ hi)
  | 0, i, h => by
    rw [run_no (by omega)]
    exact ⟨by omega, fun h => h, fun j h1 h2 => by omega, by omega⟩
  | n + 1, i, h => by
    by_cases c : i < E ∧ lo ≤ T i ∧ T i ≤ hi
    · rw [run_yes c.1 c.2.1 c.2.2]
      obtain ⟨a1, a2, a3, a4⟩ := run_all n (i + 1) (by omega)
      refine ⟨by omega, fun _ => a2 (by omega), fun j h1 h2 => ?_, a4⟩
      by_cases e : j = i
      · rw [e]
        exact c.2
      · exact a3 j (by omega) h2
    · rw [run_no c]
      exact ⟨by omega, fun h => h, fun j h1 h2 => by omega, c⟩
theorem run_ge (lo hi : Int) (T : Int → Int) (E i : Int) : i ≤ run lo hi T E i := (run_all (E - i).toNat i (by omega)).1
theorem run_le (h : i ≤ E) : run lo hi T E i ≤ E := (run_all (E - i).toNat i (by omega)).2.1 h
theorem run_in {j : Int} (h1 : i ≤ j) (h2 : j < run lo hi T E i) : lo ≤ T j ∧ T j ≤ hi := (run_all (E - i).toNat i (by omega)).2.2.1 j h1 h2
theorem run_stop (lo hi : Int) (T : Int → Int) (E i : Int) : ¬ (run lo hi T E i < E ∧ lo ≤ T (run lo hi T E i) ∧ T (run lo hi T E i) ≤ hi) := (run_all (E - i).toNat i (by omega)).2.2.2
theorem run_idem : run lo hi T E (run lo hi T E i) = run lo hi T E i := run_no (run_stop lo hi T E i)
end RUN
def sk (T : Int → Int) (E i : Int) : Int := run 32 32 T E i
/-- where the thing at b ends; what it is; what it tells; where the next one begins -/
def tend (T : Int → Int) (E b : Int) : Int := if b < run 97 122 T E b then run 97 122 T E b else if b < run 48 57 T E b then run 48 57 T E b else b + 1
def thg (T : Int → Int) (E b : Int) : Int := if E ≤ b then 0 else if b < run 97 122 T E b then 1 else if b < run 48 57 T E b then 2 else 3
def nv (T : Int → Int) (b : Int) : Nat → Int
  | 0 => 0
  | n + 1 => 10 * nv T b n + T (b + n) - 48
/-- the words -/
def WL : List (List Int) := [[112, 117, 116], [100, 114, 111, 112], [114, 105, 115, 107], [115, 112, 97, 114, 101], [99, 111, 115, 116], [105, 102], [111, 114], [97, 110, 100], [110, 111, 116], [104, 101, 97, 100], [115, 108, 105, 112], [101, 118, 101, 110], [112, 97, 103, 101], [107, 105, 110, 100], [119, 101, 97, 114], [114, 111, 119, 115], [118, 101, 114, 115, 105, 111, 110], [114, 101, 97, 100, 101, 114, 115], [116, 105, 99, 107]]
def eqw (T : Int → Int) : Int → List Int → Bool
  | _, [] => true
  | b, x :: r => decide (T b = x) && eqw T (b + 1) r
def wix (T : Int → Int) (b e : Int) : Int → List (List Int) → Int
  | _, [] => -1
  | i, w :: r => if (decide (e - b = (w.length : Int)) && eqw T b w) = true then i else wix T b e (i + 1) r
def tel (T : Int → Int) (E b : Int) : Int := if E ≤ b then -1 else if b < run 97 122 T E b then wix T b (run 97 122 T E b) 0 WL else if b < run 48 57 T E b then (if 3 < run 48 57 T E b - b then -1 else nv T b (run 48 57 T E b - b).toNat) else T b
def nxt (T : Int → Int) (E b : Int) : Int := sk T E (tend T E b)
theorem tend_gt {T : Int → Int} {E b : Int} (h : b < E) : b < tend T E b ∧ tend T E b ≤ E := by
  unfold tend
  split
  · exact ⟨by assumption, run_le (by omega)⟩
  · split
    · exact ⟨by assumption, run_le (by omega)⟩
    · omega
theorem nxt_gt {T : Int → Int} {E b : Int} (h : b < E) : b < nxt T E b ∧ nxt T E b ≤ E := by
  have := tend_gt (T := T) h
  have g := run_ge 32 32 T E (tend T E b)
  have l := run_le (lo := 32) (hi := 32) (T := T) (E := E) (i := tend T E b) this.2
  unfold nxt sk
  omega
