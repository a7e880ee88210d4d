/-! THE CLAIM: the tables are right, the evaluator comes to 1 on every script -/
theorem ex_pure_t : ex_Pure := by
  intro L xs hL
  obtain ⟨c0, h1, h2, e⟩ := cs_run
  exact run_pure (c0 := c0) (xs := xs) hL (e L xs) (by omega) (by omega)
theorem i_vc : Claimed_1_1 ∧ Claimed_1_2 := i_vc_open ex_tab0 ex_pure_t
