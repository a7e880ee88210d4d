/-! THE LAW'S RUN, from behind the constructors -/
theorem run_pure {h0 : ex_H} {l0 : List Value} {L : Nat} {xs : Nat → Int32} {c0 : Bool × Nat × Nat} (hL : L ≤ 3072) (e : EV 100 0 0 l0 [] h0 = EV 100 0 23 [.ref 0, .ref 1, .ref 285, .ref 312, .int (q_I 0), .null, .null] [] (q_h L xs mem0 (fun _ => 0) c0)) (c1 : c0.2.1 + 512 ≤ 601024) (c2 : c0.2.2 + 3072 ≤ 7293034) : ∃ (n : Nat) (h' : ex_H), ex_ev ex_M0 ex_T0 n 100 0 0 l0 [] h0 = some (.inl (some (.int 1)), h') ∧ h'.1.2.1 ≤ 601024 ∧ h'.1.2.2 ≤ 7293034 := by
  obtain ⟨t, O', c', g1, g2, g3⟩ := law_run (d := 59) (L := L) (xs := xs) (by omega) 512 0 0 mem0 (fun _ => 0) c0 .null .null (by omega) (by omega) (by omega) (by omega) Big_0
  have g : EV 100 0 0 l0 [] h0 = some (.inl (some (.int (q_I 1))), q_h L xs t O' c') := e.trans g1
  obtain ⟨n, hn⟩ := (ex_lim_iff ex_M0 ex_T0).mp g
  refine ⟨n, q_h L xs t O' c', ?_, ?_, ?_⟩
  · rw [hn]
    rfl
  · show c'.2.1 ≤ 601024
    omega
  · show c'.2.2 ≤ 7293034
    omega
