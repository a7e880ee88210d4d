/-! THE CONSTRUCTORS' RUN, the script's cell empty: run and checked by the kernel -/
def row0 (z : Int) : Int := if z = 1 then -1 else if z = 7 then 1 else if z = 9 ∨ z = 11 ∨ z = 13 ∨ z = 15 then -1 else if z = 281 then 4 else if z = 297 then 5 else if z = 286 ∨ z = 287 then -1 else if z = 288 then 2 else if 281 ≤ z ∧ z < 1049 ∧ (z - 281) % 16 = 3 then -1 else 0
def off0 (k : Nat) : Nat := if 7 ≤ k ∧ k ≤ 48 then (k - 7) % 14 else if 73 ≤ k ∧ k ≤ 240 then (k - 73) % 14 else 14
def st0 (o : Nat) (z : Int) : Int := if o = 0 then (if z = 9 then 1 else 0) else if o = 2 then (if z = 0 then 4 else if z = 1 then 5 else 0) else if o = 5 then (if 0 ≤ z ∧ z < 48 then -1 else 0) else if o = 8 then (if z = 1 ∨ z = 2 then -1 else if z = 3 then 2 else 0) else if o = 9 ∨ o = 10 then (if 0 ≤ z ∧ z < 4 then -1 else 0) else 0
def mem0 (k : Nat) (z : Int) : Int32 := if k = 286 then Int32.ofInt (row0 z) else if k = 1 ∧ z = 18 ∨ k = 2 ∧ z = 6 ∨ (k = 49 ∨ k = 55 ∨ k = 61) ∧ z = 0 ∨ k = 68 ∧ (z = 4 ∨ z = 5) ∨ k = 242 ∧ z = 10 ∨ k = 285 ∧ z = 12 then Int32.ofInt (-1) else Int32.ofInt (st0 (off0 k) z)
def cs_t11 : List Nat := [8, 0, 0, 0, 1, 1, 1, 1, 0, 1, 1, 1, 1, 1, 1, 1, 1, 1, 1, 1, 1, 1, 0, 1]
def cs_t12 : List Nat := [124, 0, 0, 0, 0, 1, 1, 0, 1, 1, 0, 1, 0, 0, 0, 0, 0, 0, 1, 0, 0, 1, 1, 0, 1, 1, 1, 1, 1, 0, 0, 1, 1, 0, 1, 1, 1, 1, 0, 0, 0, 1, 1, 0, 0, 1, 1, 1, 1, 1]
def cs_n (a : Nat) (tl : List Nat) : ex_C := .inr (a, (tl.drop 4).map (fun t => if t = 0 then Value.int 0 else Value.null))
def cs_h0 : ex_H := ((true, 0, 0), fun _ => none)
def cs_h1 : ex_H := ex_add cs_h0 20 (cs_n 11 cs_t11)
def cs_r1 : Option (ex_R × ex_H) := ex_ev ex_M0 ex_T0 2000 99 135 0 (ex_pad 2 [.ref 1]) [] cs_h1
def cs_r2 (h : ex_H) : Option (ex_R × ex_H) := ex_ev ex_M0 ex_T0 2000 99 212 0 (ex_pad 2 [.ref 285]) [] (ex_add h 46 (cs_n 12 cs_t12))
def cs_all (p : Nat → Bool) (n : Nat) : Bool := (List.range (n / 64 + 1)).all (fun b => (List.range 64).all (fun i => decide (n ≤ 64 * b + i) || p (64 * b + i)))
/-- cells whose numbers are not all 0 -/
def cs_nz (k : Nat) : Bool := decide (k = 286) || decide (off0 k = 2) || decide (off0 k = 5) || decide (off0 k = 8) || decide (off0 k = 9) || decide (off0 k = 10)
def cs_ar (k : Nat) : Bool := !(decide (k = 1) || decide (k = 2) || decide (k = 49) || decide (k = 55) || decide (k = 61) || decide (k = 68) || decide (k = 242) || decide (k = 285) || decide (off0 k = 0))
def cs_nd (k : Nat) : Nat := if k = 286 then 1049 else if off0 k = 5 then 48 else 4
def cs_fs (b : Nat → Int32) : Nat → List Value → List (Option Nat) → Bool
  | _, [], [] => true
  | j, .int v :: r, none :: s => decide (v = b j) && cs_fs b (j + 1) r s
  | j, .ref x :: r, some a :: s => decide (x = a) && cs_fs b (j + 1) r s
  | _, _, _ => false
def cs_ce (k : Nat) (q : Option ex_C) : Bool := match q, ly_at k with
  | some (.inl (ty, n, .inl f)), some (.inl (ty', n')) => decide (ty = ty') && decide (n = n') && cs_ar k && (if cs_nz k then decide (cs_nd k ≤ n) && cs_all (fun j => decide (f j = mem0 k (j : Int))) n else cs_all (fun j => decide (f j = 0)) n)
  | some (.inr (ci, vs)), some (.inr (ci', fs)) => decide (ci = ci') && cs_fs (fun j => mem0 k (j : Int)) 0 vs fs
  | _, _ => false
def cs_ra (C : String) (l : List Nat) (q : Option ex_C) : Bool := match q with
  | some (.inl (.object D, n, .inr (.inr (.inr (.inr f))))) => decide (D = C) && decide (n = l.length) && (List.range n).all (fun j => decide (f j = l[j]?))
  | _ => false
def cs_hk (h : ex_H) : Bool := h.1.1 && decide (h.1.2.1 = 311) && decide (h.1.2.2 < 4000000) && cs_ra RX7 ly_r1 (h.2 72) && cs_ra RX9 ly_r2 (h.2 264) && (List.range 311).all (fun i => decide (i + 1 = 72) || decide (i + 1 = 264) || cs_ce (i + 1) (h.2 (i + 1)))
def cs_of (r1 : Option (ex_R × ex_H)) (r2 : ex_H → Option (ex_R × ex_H)) : Bool := match r1 with
  | some (.inl none, h1) => h1.1.1 && decide (h1.1.2.1 = 284) && (match r2 h1 with
    | some (.inl none, h2) => cs_hk h2
    | _ => false)
  | _ => false
