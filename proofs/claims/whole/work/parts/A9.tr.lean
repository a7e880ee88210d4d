/-! TREES of leaves and branches, each a function on the ways down: what a declared type would give, by hand -/
abbrev tr_L : Type := (Int × Int × (Int → Int)) × Option (Int → Int)
def tr_R (s r : List Int → tr_L) : Prop := (r []).2 = none ∧ ∃ k, s = fun l => r (k :: l)
def tr_C (r : List Int → tr_L) : Prop := ∀ l, (r l).2 ≠ none → ∀ l', r (l ++ l') = r l
def Tr : Type := { r : List Int → tr_L // _root_.Acc tr_R r ∧ tr_C r }
theorem tr_Ck {r : List Int → tr_L} (h : tr_C r) (k : Int) : tr_C (fun l => r (k :: l)) := fun l hl l' => h (k :: l) hl l'
def tr_lf (p n : Int) (a b : Int → Int) : List Int → tr_L := fun _ => ((p, n, a), some b)
def tr_lfA (p n : Int) (a b : Int → Int) : _root_.Acc tr_R (tr_lf p n a b) := _root_.Acc.intro _ (fun _ hs => absurd hs.1 (by unfold tr_lf; exact fun e => by cases e))
def tr_lfC (p n : Int) (a b : Int → Int) : tr_C (tr_lf p n a b) := fun _ _ _ => rfl
def tr_lfP (p n : Int) (a b : Int → Int) : _root_.Acc tr_R (tr_lf p n a b) ∧ tr_C (tr_lf p n a b) := ⟨tr_lfA p n a b, tr_lfC p n a b⟩
def Tr.lf (p n : Int) (a b : Int → Int) : Tr := ⟨tr_lf p n a b, tr_lfP p n a b⟩
noncomputable def tr_br (p n : Int) (a : Int → Int) (c : Int → Tr) : List Int → tr_L := fun l => List.rec (motive := fun _ => tr_L) ((p, n, a), none) (fun k l' _ => (c k).1 l') l
def tr_brA (p n : Int) (a : Int → Int) (c : Int → Tr) : _root_.Acc tr_R (tr_br p n a c) := _root_.Acc.intro _ (fun _ hs => hs.2.elim (fun k e => e ▸ (c k).2.1))
theorem tr_brC (p n : Int) (a : Int → Int) (c : Int → Tr) : tr_C (tr_br p n a c) := fun l hl l' => by
  cases l with
  | nil => exact absurd rfl hl
  | cons k l => exact (c k).2.2 l hl l'
def tr_brP (p n : Int) (a : Int → Int) (c : Int → Tr) : _root_.Acc tr_R (tr_br p n a c) ∧ tr_C (tr_br p n a c) := ⟨tr_brA p n a c, tr_brC p n a c⟩
noncomputable def Tr.br (p n : Int) (a : Int → Int) (c : Int → Tr) : Tr := ⟨tr_br p n a c, tr_brP p n a c⟩
def tr_ac (t : Tr) : _root_.Acc tr_R t.1 := Subtype.rec (motive := fun t => _root_.Acc tr_R t.1) (fun _ h => And.rec (motive := fun _ => _root_.Acc tr_R _) (fun h1 _ => h1) h) t
def tr_cc (t : Tr) : tr_C t.1 := t.2.2
noncomputable def tr_st {β : Type} (L : Int → Int → (Int → Int) → (Int → Int) → β) (B : Int → Int → (Int → Int) → (Int → Tr) → (Int → β) → β) (r : List Int → tr_L) (hr : ∀ s, tr_R s r → _root_.Acc tr_R s) (ih : ∀ s, tr_R s r → tr_C s → β) (hc : tr_C r) (o : Option (Int → Int)) (e : (r []).2 = o) : β :=
  Option.rec (motive := fun o => (r []).2 = o → β) (fun e => B (r []).1.1 (r []).1.2.1 (r []).1.2.2 (fun k => ⟨fun l => r (k :: l), hr _ ⟨e, k, rfl⟩, tr_Ck hc k⟩) (fun k => ih _ ⟨e, k, rfl⟩ (tr_Ck hc k))) (fun b _ => L (r []).1.1 (r []).1.2.1 (r []).1.2.2 b) o e
noncomputable def tr_rec {β : Type} (L : Int → Int → (Int → Int) → (Int → Int) → β) (B : Int → Int → (Int → Int) → (Int → Tr) → (Int → β) → β) (t : Tr) : β :=
  _root_.Acc.rec (motive := fun r _ => tr_C r → β) (fun r hr ih hc => tr_st L B r hr ih hc (r []).2 rfl) (tr_ac t) (tr_cc t)
section TRX
variable {β : Type} {L : Int → Int → (Int → Int) → (Int → Int) → β} {B : Int → Int → (Int → Int) → (Int → Tr) → (Int → β) → β} {p n : Int} {a b : Int → Int} {c : Int → Tr}
theorem tr_rec_lf : tr_rec L B (Tr.lf p n a b) = L p n a b := rfl
theorem tr_rec_br : tr_rec L B (Tr.br p n a c) = B p n a c (fun k => tr_rec L B (c k)) := rfl
end TRX
theorem Tr_rc {motive : Tr → Prop} (lf : ∀ p n a b, motive (Tr.lf p n a b)) (br : ∀ p n a c, (∀ k, motive (c k)) → motive (Tr.br p n a c)) (t : Tr) : motive t := by
  obtain ⟨r, hA, hC⟩ := t
  revert hC
  induction hA with
  | intro r h ih =>
    intro hC
    cases e : (r []).2 with
    | some b =>
      have q : (⟨r, _root_.Acc.intro r h, hC⟩ : Tr) = Tr.lf (r []).1.1 (r []).1.2.1 (r []).1.2.2 b := by
        refine Subtype.ext (funext fun l => ?_)
        have := hC [] (by rw [e]; exact fun x => by cases x) l
        rw [List.nil_append] at this
        show r l = (((r []).1.1, (r []).1.2.1, (r []).1.2.2), some b)
        rw [this, ← e]
      rw [q]
      exact lf _ _ _ _
    | none =>
      have q : (⟨r, _root_.Acc.intro r h, hC⟩ : Tr) = Tr.br (r []).1.1 (r []).1.2.1 (r []).1.2.2 (fun k => ⟨fun l => r (k :: l), h _ ⟨e, k, rfl⟩, tr_Ck hC k⟩) := by
        refine Subtype.ext (funext fun l => ?_)
        cases l with
        | nil =>
          show r [] = (((r []).1.1, (r []).1.2.1, (r []).1.2.2), none)
          rw [← e]
        | cons k l => rfl
      rw [q]
      exact br _ _ _ _ (fun k => ih _ ⟨e, k, rfl⟩ (tr_Ck hC k))
theorem Tr_cs {motive : Tr → Prop} (lf : ∀ p n a b, motive (Tr.lf p n a b)) (br : ∀ p n a c, motive (Tr.br p n a c)) (t : Tr) : motive t := Tr_rc lf (fun p n a c _ => br p n a c) t
theorem Tr_lf_inj {p n p' n' : Int} {a b a' b' : Int → Int} (h : Tr.lf p n a b = Tr.lf p' n' a' b') : p = p' ∧ n = n' ∧ a = a' ∧ b = b' := by
  have q : (((p, n, a), some b) : tr_L) = ((p', n', a'), some b') := congrFun (congrArg Subtype.val h) []
  cases q
  exact ⟨rfl, rfl, rfl, rfl⟩
theorem Tr_br_inj {p n p' n' : Int} {a a' : Int → Int} {c c' : Int → Tr} (h : Tr.br p n a c = Tr.br p' n' a' c') : p = p' ∧ n = n' ∧ a = a' ∧ c = c' := by
  have q : (((p, n, a), none) : tr_L) = ((p', n', a'), none) := congrFun (congrArg Subtype.val h) []
  cases q
  exact ⟨rfl, rfl, rfl, funext fun k => Subtype.ext (funext fun l => congrFun (congrArg Subtype.val h) (k :: l))⟩
theorem Tr_lf_br {p n p' n' : Int} {a b a' : Int → Int} {c' : Int → Tr} (h : Tr.lf p n a b = Tr.br p' n' a' c') : False := by
  have q : (((p, n, a), some b) : tr_L) = ((p', n', a'), none) := congrFun (congrArg Subtype.val h) []
  cases q
