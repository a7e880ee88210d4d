/-! TEXTS: their things by places, and the codes of a law -/
def rnx (lo hi : Int) (T : Int → Int) (E : Int) : Nat → Int → Int
  | 0, i => i
  | f + 1, i => if i < E ∧ lo ≤ T i ∧ T i ≤ hi then rnx lo hi T E f (i + 1) else i
def run (lo hi : Int) (T : Int → Int) (E i : Int) : Int := rnx lo hi T E (E - i).toNat i
def sk (T : Int → Int) (E i : Int) : Int := run 32 32 T E i
def tend (T : Int → Int) (E b : Int) : Int := if b < run 97 122 T E b then run 97 122 T E b else if b < run 48 57 T E b then run 48 57 T E b else b + 1
def thg (T : Int → Int) (E b : Int) : Int := if E ≤ b then 0 else if b < run 97 122 T E b then 1 else if b < run 48 57 T E b then 2 else 3
def nv (T : Int → Int) (b : Int) : Nat → Int
  | 0 => 0
  | n + 1 => 10 * nv T b n + T (b + n) - 48
def WL : List (List Int) := [[112, 117, 116], [100, 114, 111, 112], [114, 105, 115, 107], [115, 112, 97, 114, 101], [99, 111, 115, 116], [105, 102], [111, 114], [97, 110, 100], [110, 111, 116], [104, 101, 97, 100], [115, 108, 105, 112], [101, 118, 101, 110], [112, 97, 103, 101], [107, 105, 110, 100], [119, 101, 97, 114], [114, 111, 119, 115], [118, 101, 114, 115, 105, 111, 110], [114, 101, 97, 100, 101, 114, 115], [116, 105, 99, 107]]
def eqw (T : Int → Int) : Int → List Int → Bool
  | _, [] => true
  | b, x :: r => decide (T b = x) && eqw T (b + 1) r
def wix (T : Int → Int) (b e : Int) : Int → List (List Int) → Int
  | _, [] => -1
  | i, w :: r => if (decide (e - b = (w.length : Int)) && eqw T b w) = true then i else wix T b e (i + 1) r
def tel (T : Int → Int) (E b : Int) : Int := if E ≤ b then -1 else if b < run 97 122 T E b then wix T b (run 97 122 T E b) 0 WL else if b < run 48 57 T E b then (if 3 < run 48 57 T E b - b then -1 else nv T b (run 48 57 T E b - b).toNat) else T b
def nxt (T : Int → Int) (E b : Int) : Int := sk T E (tend T E b)
def bs (T : Int → Int) (E : Int) : Nat → Int
  | 0 => sk T E 0
  | n + 1 => nxt T E (bs T E n)
abbrev PR := Sum Int (Nat × List Int)
def pb (r : PR) (k : Nat → List Int → PR) : PR := match r with
  | .inl e => .inl e
  | .inr p => k p.1 p.2
abbrev tk (T : Int → Int) (E : Int) (i : Nat) (a b : Int) : Prop := thg T E (bs T E i) = a ∧ tel T E (bs T E i) = b
def pPart (T : Int → Int) (E : Int) (i : Nat) : PR := if thg T E (bs T E i) = 1 ∧ 12 ≤ tel T E (bs T E i) ∧ tel T E (bs T E i) ≤ 18 then .inr (i + 1, [1000 + tel T E (bs T E i) - 12]) else if thg T E (bs T E i) = 2 ∧ 0 ≤ tel T E (bs T E i) ∧ tel T E (bs T E i) ≤ 999 then .inr (i + 1, [tel T E (bs T E i)]) else .inl (bs T E i)
def pSumL (T : Int → Int) (E : Int) : Nat → Nat → List Int → PR
  | 0, i, _ => .inl (bs T E i)
  | f + 1, i, l => if tk T E i 3 43 then pb (pPart T E (i + 1)) (fun i' q => pSumL T E f i' (l ++ q ++ [4000])) else .inr (i, l)
def pSum (T : Int → Int) (E : Int) (i : Nat) : PR := pb (pPart T E i) (fun i' q => pSumL T E 400 i' q)
def pCmp (T : Int → Int) (E : Int) (i : Nat) : PR := pb (pSum T E i) (fun i1 l1 => if tk T E i1 3 60 then pb (pSum T E (i1 + 1)) (fun i2 l2 => .inr (i2, l1 ++ l2 ++ [4001])) else if tk T E i1 3 62 then pb (pSum T E (i1 + 1)) (fun i2 l2 => .inr (i2, l1 ++ l2 ++ [4002])) else .inl (bs T E i1))
def pPlain (T : Int → Int) (E : Int) (i : Nat) : PR := if thg T E (bs T E i) = 1 ∧ 9 ≤ tel T E (bs T E i) ∧ tel T E (bs T E i) ≤ 11 then .inr (i + 1, [2000 + tel T E (bs T E i) - 9]) else pCmp T E i
def pE (T : Int → Int) (E : Int) (a : Nat → PR) : Nat → Nat → List Int → PR
  | 0, i, _ => .inl (bs T E i)
  | f + 1, i, l => if tk T E i 1 7 then pb (a (i + 1)) (fun i' q => pE T E a f i' (l ++ q ++ [4003])) else .inr (i, l)
def pO (T : Int → Int) (E : Int) (a : Nat → PR) : Nat → Nat → List Int → PR
  | 0, i, _ => .inl (bs T E i)
  | f + 1, i, l => if tk T E i 1 6 then pb (pb (a (i + 1)) (fun i' q => pE T E a 400 i' q)) (fun i' q => pO T E a f i' (l ++ q ++ [4004])) else .inr (i, l)
def pC (T : Int → Int) (E : Int) (a : Nat → PR) (i : Nat) : PR := pb (pb (a i) (fun i' q => pE T E a 400 i' q)) (fun i' q => pO T E a 400 i' q)
def pAtom (T : Int → Int) (E : Int) : Nat → Nat → PR
  | 0, i => if tk T E i 1 8 then .inl (bs T E i) else if tk T E i 3 40 then .inl (bs T E i) else pPlain T E i
  | r + 1, i => if tk T E i 1 8 then pb (pAtom T E r (i + 1)) (fun i' l => .inr (i', l ++ [3000])) else if tk T E i 3 40 then pb (pC T E (pAtom T E r) (i + 1)) (fun i' l => if tk T E i' 3 41 then .inr (i' + 1, l) else .inl (bs T E i')) else pPlain T E i
def lLine (T : Int → Int) (E : Int) (i : Nat) : Sum Int (Nat × Int × Int × List Int) := if thg T E (bs T E i) = 1 ∧ 2 ≤ tel T E (bs T E i) ∧ tel T E (bs T E i) ≤ 4 then (if thg T E (bs T E (i + 1)) = 2 ∧ 0 ≤ tel T E (bs T E (i + 1)) ∧ tel T E (bs T E (i + 1)) ≤ 99 then (if tk T E (i + 2) 1 5 then (match pC T E (pAtom T E 6) (i + 3) with
    | .inl e => .inl e
    | .inr (i', l) => .inr (i', tel T E (bs T E i), tel T E (bs T E (i + 1)), l)) else .inr (i + 2, tel T E (bs T E i), tel T E (bs T E (i + 1)), [])) else .inl (bs T E (i + 1))) else .inl (bs T E i)
def lLines (T : Int → Int) (E : Int) : Nat → Nat → List (Int × Int × List Int) → Sum Int (List (Int × Int × List Int))
  | 0, i, _ => .inl (bs T E i)
  | f + 1, i, ls => match lLine T E i with
    | .inl e => .inl e
    | .inr (i', w, n, l) => if thg T E (bs T E i') = 0 then .inr (ls ++ [(w, n, l)]) else if tk T E i' 3 59 then lLines T E f (i' + 1) (ls ++ [(w, n, l)]) else .inl (bs T E i')
def lAll (T : Int → Int) (E : Int) : Sum Int (List (Int × Int × List Int)) := if thg T E (bs T E 0) = 0 then .inr [] else lLines T E 12 0 []
def fl : List (Int × Int × List Int) → List Int
  | [] => []
  | x :: r => x.2.2 ++ fl r
/-- the law in the class's rows -/
def LWf (ls : List (Int × Int × List Int)) (g lw ln le cd : Int → Int) : Prop := g 0 = ls.length ∧ ls.length ≤ 12 ∧ (∀ k : Nat, k < ls.length → lw k = (ls.getD k (0, 0, [])).1 ∧ ln k = (ls.getD k (0, 0, [])).2.1 ∧ le k = (fl (ls.take (k + 1))).length) ∧ (fl ls).length ≤ 400 ∧ g 5 = (fl ls).length ∧ ∀ k : Nat, k < (fl ls).length → cd k = (fl ls).getD k 0
/-- the text of the law in the row -/
def LT (m : Int → Int) : Int → Int := fun j => if 0 ≤ j ∧ j < m 2 then m (1049 + j) else 0
/-- the law in the row against the law in the class's rows -/
def LawP (m g lw ln le cd : Int → Int) : Prop := (m 1 = -1 ∧ g 0 = -1) ∨ (0 ≤ m 2 ∧ m 2 ≤ 400 ∧ (∀ j, 0 ≤ j → j < m 2 → 0 ≤ m (1049 + j) ∧ m (1049 + j) ≤ 255) ∧ ∃ ls, lAll (LT m) (m 2) = .inr ls ∧ m 1 = ls.length ∧ LWf ls g lw ln le cd)
theorem LawP_0 {m g lw ln le cd : Int → Int} (h : LawP m g lw ln le cd) : g 0 = m 1 := by
  rcases h with ⟨h1, h2⟩ | ⟨_, _, _, ls, _, h5, h6⟩
  · rw [h1, h2]
  · rw [h5, h6.1]
