/-! A CHECKER of the evaluator's tables: what a program decides -/
def ex_wp (p : Nat) (w : Cond) : Bool := decide (lw_tbl[p]? = some w) && ex_mv w
theorem ex_wp_ok {p : Nat} {w : Cond} (h : ex_wp p w = true) : w ∈ ex_W := by
  unfold ex_wp at h
  simp only [Bool.and_eq_true, decide_eq_true_eq] at h
  exact ex_in p h.1 h.2
def ex_tyb (t : Int32) (o : Option FieldType) : Bool := match o with
  | some .int => decide (t = 0)
  | some .boolean => decide (t = 1)
  | some (.object _) => !decide (t = 0) && !decide (t = 1)
  | some (.array _) => !decide (t = 0) && !decide (t = 1)
  | _ => false
theorem ex_tyb_ok {t : Int32} {o : Option FieldType} (h : ex_tyb t o = true) : ∃ ty, o = some ty ∧ ex_ty t ty := by
  unfold ex_tyb at h
  split at h
  · exact ⟨_, rfl, Or.inl ⟨of_decide_eq_true h, rfl⟩⟩
  · exact ⟨_, rfl, Or.inr (Or.inl ⟨of_decide_eq_true h, rfl⟩)⟩
  · simp at h
    exact ⟨_, rfl, Or.inr (Or.inr ⟨h.1, h.2, Or.inl ⟨_, rfl⟩⟩)⟩
  · simp at h
    exact ⟨_, rfl, Or.inr (Or.inr ⟨h.1, h.2, Or.inr ⟨_, rfl⟩⟩)⟩
  · cases h
def ex_hl : List Nat → List (Nat × Nat × Nat)
  | k :: t :: i :: r => (k, t, i) :: ex_hl r
  | _ => []
theorem ex_hl_in {k t i : Nat} : ∀ {l : List Nat}, ex_hd k l = some (t, i) → (k, t, i) ∈ ex_hl l
  | [], h => by simp [ex_hd] at h
  | [_], h => by simp [ex_hd] at h
  | [_, _], h => by simp [ex_hd] at h
  | k0 :: t0 :: i0 :: r, h => by
    unfold ex_hd at h
    unfold ex_hl
    by_cases e : k0 = k
    · rw [if_pos e] at h
      cases h
      subst e
      exact List.mem_cons_self
    · rw [if_neg e] at h
      exact List.mem_cons_of_mem _ (ex_hl_in h)
def ex_hk (me : ex_Me) (pc k t i : Nat) (ps : List Nat) : Bool := decide (k < 5) && decide (i < me.2.2.1) && (List.range me.2.2.2.2.length).any (fun m => match me.2.2.2.2[m]? with
  | some x => decide (x.1 ≤ pc) && decide (pc < x.2.1) && decide (x.2.2.2 ≠ 0) && ps.any (fun p => ex_wp p (.classLink me.1.cls x.2.2.2 (ex_nm k))) && ps.any (fun p => ex_wp p (.castable (ex_nm k) (ex_nm k))) && (me.2.2.2.2.take m).all (fun z => decide (z.2.2.2 ≠ 0) && (List.range 5).any (fun j => decide (k ≠ j) && ps.any (fun p => ex_wp p (.classLink me.1.cls z.2.2.2 (ex_nm j))))) &&
    ((decide (i < 4) && decide (decode me.2.1 x.2.2.1 = .ok (.astore_n (Fin.ofNat 4 i), 1)) && decide (t = x.2.2.1 + 1)) || (decide (decode me.2.1 x.2.2.1 = .ok (.astore i, 2)) && decide (t = x.2.2.1 + 2)))
  | none => false)
theorem ex_any_w {ps : List Nat} {w : Cond} (h : ps.any (fun p => ex_wp p w) = true) : w ∈ ex_W := by
  obtain ⟨p, -, hp⟩ := List.any_eq_true.mp h
  exact ex_wp_ok hp
theorem ex_hk_ok {me : ex_Me} {pc k t i : Nat} {ps : List Nat} (h : ex_hk me pc k t i ps = true) : ex_Hd me pc k t i := by
  unfold ex_hk at h
  simp only [Bool.and_eq_true, decide_eq_true_eq] at h
  obtain ⟨⟨h1, h2⟩, h3⟩ := h
  obtain ⟨m, hm, h4⟩ := List.any_eq_true.mp h3
  split at h4
  · rename_i x hx
    simp only [Bool.and_eq_true, Bool.or_eq_true, decide_eq_true_eq] at h4
    obtain ⟨⟨⟨⟨⟨⟨a1, a2⟩, a3⟩, a4⟩, a5⟩, a6⟩, a7⟩ := h4
    have hsp : me.2.2.2.2 = me.2.2.2.2.take m ++ x :: me.2.2.2.2.drop (m + 1) := by
      have hlt := (List.getElem?_eq_some_iff.mp hx).1
      have he := (List.getElem?_eq_some_iff.mp hx).2
      rw [← he, ← List.drop_eq_getElem_cons hlt, List.take_append_drop]
    refine ⟨h1, h2, _, _, x, hsp, a1, a2, a3, ex_any_w a4, ex_any_w a5, fun z hz => ?_, ?_⟩
    · have q := List.all_eq_true.mp a6 z hz
      simp only [Bool.and_eq_true, decide_eq_true_eq] at q
      obtain ⟨j, hj, q2⟩ := List.any_eq_true.mp q.2
      simp only [Bool.and_eq_true, decide_eq_true_eq] at q2
      exact ⟨q.1, j, List.mem_range.mp hj, q2.1, ex_any_w q2.2⟩
    · rcases a7 with q | q
      · exact Or.inl ⟨_, Nat.mod_eq_of_lt q.1.1, q.1.2, q.2⟩
      · exact Or.inr ⟨q.1, q.2⟩
  · cases h4
def ex_mk (me : ex_Me) (ps : List Nat) : Bool := plainName me.1.cls && decide (me.1.cls ≠ "java/lang/invoke/MethodHandle") && decide (me.1.cls ≠ "java/lang/invoke/VarHandle") && ex_wp (ps.getD 2 0) (.initialized me.1.cls) && decide (me.2.2.1 ≤ 40)
theorem ex_mk_ok {me : ex_Me} {ps : List Nat} (h : ex_mk me ps = true) : ex_Mo me := by
  unfold ex_mk at h
  simp only [Bool.and_eq_true, decide_eq_true_eq] at h
  exact ⟨h.1.1.1.1, h.1.1.1.2, h.1.1.2, ex_wp_ok h.1.2, h.2⟩
def ex_kk (me me' : ex_Me) (pc b : Nat) (v : Int32) (tl ps : List Nat) : Bool := match (parseMethodDescriptor me'.1.desc).map (fun d => d.parameters.length) with
  | some n => (decide (v = 0) && decide (me'.2.2.2.2 = []) && ex_wp (ps.getD 1 0) (.code me'.1 me'.2.1 me'.2.2.1 me'.2.2.2.1) && ex_wp (ps.getD 0 0) (.methodLink me.1.cls (tl.getD 0 0) me'.1) && ex_wp (ps.getD 3 0) (.instanceMethod me'.1) && ex_wp (ps.getD 4 0) (.selects me'.1.cls me'.1 me'.1) && decide (2 ≤ tl.getD 1 0) && decide ((ex_cl[tl.getD 1 0 - 2]?).map (fun r => r.1) = some me'.1.cls) && decide (decode me.2.1 pc = .ok (.invokevirtual (tl.getD 0 0), 3)) && decide (b = n + 1)) ||
    (decide (v = 1) && decide (me'.2.2.2.2 = []) && ex_wp (ps.getD 1 0) (.code me'.1 me'.2.1 me'.2.2.1 me'.2.2.2.1) && ex_wp (ps.getD 0 0) (.methodLinkNest me.1.cls (tl.getD 0 0) me'.1 RX11) && ex_wp (ps.getD 3 0) (.instanceMethod me'.1) && ex_wp (ps.getD 4 0) (.selects me'.1.cls me'.1 me'.1) && decide (2 ≤ tl.getD 1 0) && decide ((ex_cl[tl.getD 1 0 - 2]?).map (fun r => r.1) = some me'.1.cls) && decide (decode me.2.1 pc = .ok (.invokevirtual (tl.getD 0 0), 3)) && decide (b = n + 1)) ||
    (decide (v = 2) && decide (me'.2.2.2.2 = []) && ex_wp (ps.getD 1 0) (.code me'.1 me'.2.1 me'.2.2.1 me'.2.2.2.1) && ex_wp (ps.getD 0 0) (.methodLink me.1.cls (tl.getD 0 0) me'.1) && ex_wp (ps.getD 3 0) (.static me'.1) && decide (decode me.2.1 pc = .ok (.invokestatic (tl.getD 0 0), 3)) && decide (b = n)) ||
    (decide (v = 3) && decide (me'.2.2.2.2 = []) && ex_wp (ps.getD 1 0) (.code me'.1 me'.2.1 me'.2.2.1 me'.2.2.2.1) && ex_wp (ps.getD 0 0) (.methodLinkNest me.1.cls (tl.getD 0 0) me'.1 RX11) && ex_wp (ps.getD 3 0) (.static me'.1) && decide (decode me.2.1 pc = .ok (.invokestatic (tl.getD 0 0), 3)) && decide (b = n)) ||
    (decide (v = 4) && decide (me'.2.2.2.2 = []) && decide (me'.2.2.2.1 = none) && ex_wp (ps.getD 1 0) (.code me'.1 me'.2.1 me'.2.2.1 me'.2.2.2.1) && ex_wp (ps.getD 0 0) (.methodLink me.1.cls (tl.getD 0 0) me'.1) && ex_wp (ps.getD 3 0) (.instanceMethod me'.1) && decide (me'.1.name = "<init>") && decide (tl.getD 1 0 = 1) && decide (decode me.2.1 pc = .ok (.invokespecial (tl.getD 0 0), 3)) && decide (b = n + 1)) ||
    (decide (v = 5) && decide (me'.2.2.2.2 = []) && decide (me'.2.2.2.1 = none) && ex_wp (ps.getD 1 0) (.code me'.1 me'.2.1 me'.2.2.1 me'.2.2.2.1) && ex_wp (ps.getD 0 0) (.methodLinkNest me.1.cls (tl.getD 0 0) me'.1 RX11) && ex_wp (ps.getD 3 0) (.instanceMethod me'.1) && decide (me'.1.name = "<init>") && decide (tl.getD 1 0 = 1) && decide (decode me.2.1 pc = .ok (.invokespecial (tl.getD 0 0), 3)) && decide (b = n + 1)) ||
    (decide (v = 6) && ex_wp (ps.getD 1 0) (.codeWith me'.1 me'.2.1 me'.2.2.1 me'.2.2.2.1 me'.2.2.2.2) && ex_wp (ps.getD 0 0) (.methodLink me.1.cls (tl.getD 0 0) me'.1) && ex_wp (ps.getD 3 0) (.static me'.1) && decide (decode me.2.1 pc = .ok (.invokestatic (tl.getD 0 0), 3)) && decide (b = n))
  | none => false
theorem ex_kk_rc {k : Nat} {C : String} (h1 : 2 ≤ k) (h2 : (ex_cl[k - 2]?).map (fun r => r.1) = some C) : ∃ ci rc, k = ci + 2 ∧ ex_cl[ci]? = some rc ∧ rc.1 = C := by
  obtain ⟨rc, q1, q2⟩ := Option.map_eq_some_iff.mp h2
  exact ⟨k - 2, rc, by omega, q1, q2⟩
theorem ex_kk_ok {me me' : ex_Me} {pc b : Nat} {v : Int32} {tl ps : List Nat} (h : ex_kk me me' pc b v tl ps = true) : ex_Kd me me' pc b v tl := by
  unfold ex_kk at h
  split at h
  · rename_i n hn
    refine ⟨n, hn, ?_⟩
    simp only [Bool.or_eq_true, Bool.and_eq_true, decide_eq_true_eq] at h
    rcases h with (((((h | h) | h) | h) | h) | h) | h
    · obtain ⟨⟨⟨⟨⟨⟨⟨⟨⟨a1, a2⟩, a3⟩, a4⟩, a5⟩, a6⟩, a7⟩, a8⟩, a9⟩, a10⟩ := h
      exact Or.inl ⟨a1, a2, ex_wp_ok a3, ex_wp_ok a4, ex_wp_ok a5, ex_wp_ok a6, ex_kk_rc a7 a8, a9, a10⟩
    · obtain ⟨⟨⟨⟨⟨⟨⟨⟨⟨a1, a2⟩, a3⟩, a4⟩, a5⟩, a6⟩, a7⟩, a8⟩, a9⟩, a10⟩ := h
      exact Or.inr (Or.inl ⟨a1, a2, ex_wp_ok a3, ⟨_, ex_wp_ok a4⟩, ex_wp_ok a5, ex_wp_ok a6, ex_kk_rc a7 a8, a9, a10⟩)
    · obtain ⟨⟨⟨⟨⟨⟨a1, a2⟩, a3⟩, a4⟩, a5⟩, a6⟩, a7⟩ := h
      exact Or.inr (Or.inr (Or.inl ⟨a1, a2, ex_wp_ok a3, ex_wp_ok a4, ex_wp_ok a5, a6, a7⟩))
    · obtain ⟨⟨⟨⟨⟨⟨a1, a2⟩, a3⟩, a4⟩, a5⟩, a6⟩, a7⟩ := h
      exact Or.inr (Or.inr (Or.inr (Or.inl ⟨a1, a2, ex_wp_ok a3, ⟨_, ex_wp_ok a4⟩, ex_wp_ok a5, a6, a7⟩)))
    · obtain ⟨⟨⟨⟨⟨⟨⟨⟨⟨a1, a2⟩, a3⟩, a4⟩, a5⟩, a6⟩, a7⟩, a8⟩, a9⟩, a10⟩ := h
      rw [a3] at a4
      exact Or.inr (Or.inr (Or.inr (Or.inr (Or.inl ⟨a1, a2, a3, ex_wp_ok a4, ex_wp_ok a5, ex_wp_ok a6, a7, a8, a9, a10⟩))))
    · obtain ⟨⟨⟨⟨⟨⟨⟨⟨⟨a1, a2⟩, a3⟩, a4⟩, a5⟩, a6⟩, a7⟩, a8⟩, a9⟩, a10⟩ := h
      rw [a3] at a4
      exact Or.inr (Or.inr (Or.inr (Or.inr (Or.inr (Or.inl ⟨a1, a2, a3, ex_wp_ok a4, ⟨_, ex_wp_ok a5⟩, ex_wp_ok a6, a7, a8, a9, a10⟩)))))
    · obtain ⟨⟨⟨⟨⟨a1, a2⟩, a3⟩, a4⟩, a5⟩, a6⟩ := h
      exact Or.inr (Or.inr (Or.inr (Or.inr (Or.inr (Or.inr ⟨a1, ex_wp_ok a2, ex_wp_ok a3, ex_wp_ok a4, a5, a6⟩)))))
  · cases h
theorem ex_wO1 : Cond.instanceMethod objectInit ∈ ex_W := ex_in 194 (by decide +kernel) rfl
theorem ex_wO2 : Cond.code objectInit ⟨#[0xb1]⟩ 1 none ∈ ex_W := ex_in 195 (by decide +kernel) rfl
theorem ex_wA1 : Cond.native arraycopyName ∈ ex_W := ex_in 700 (by decide +kernel) rfl
theorem ex_wA2 : Cond.static arraycopyName ∈ ex_W := ex_in 699 (by decide +kernel) rfl
theorem ex_wA3 : Cond.initialized "java/lang/System" ∈ ex_W := ex_in 177 (by decide +kernel) rfl
/-- the throws: which, its class's entry, its constructor's entry in CopiedPages -/
def ex_tt : List (Nat × Nat × Nat) := [(0, 123, 125), (1, 145, 147), (2, 178, 180), (3, 216, 218), (4, 129, 131)]
theorem ex_fits : ∀ n ∈ ex_sup, Bundle.fit n = true := by decide +kernel
def ex_tk (q : Nat × Nat × Nat) (ps : List Nat) : Bool := Bundle.fit (ex_nm q.1) && ps.any (fun p => ex_wp p (.classLink RX11 q.2.1 (ex_nm q.1))) && ps.any (fun p => ex_wp p (.initialized (ex_nm q.1))) && (vx_at0 RX11 q.2.2 (ex_nm q.1) ex_sup).all (fun w => ps.any (fun p => ex_wp p w)) && (Cond.classLink RX11 q.2.1 (ex_nm q.1) :: Cond.initialized (ex_nm q.1) :: vx_at0 RX11 q.2.2 (ex_nm q.1) ex_sup).all vx_ot
theorem ex_tk_0 : ex_tk (0, 123, 125) [1, 172, 173, 174, 175, 194, 195, 728, 729, 730, 731, 732, 733, 734, 735, 736, 737, 738, 739, 740, 741, 742, 743, 744, 745, 746, 747, 748, 749, 750, 751, 752, 753, 754, 755, 756, 757, 758, 759, 760, 766, 767, 768, 769, 770, 771, 985, 986, 987, 988, 989, 990, 991, 992, 993, 994, 995, 996, 997, 998, 999, 1000, 1001, 1002, 1003, 1004, 1005, 1006, 1007, 1008, 1009, 1384, 1385, 1386, 1387, 1388, 1389, 1390, 1391, 1392, 1393, 1394, 2637, 2660, 2668] = true := by decide +kernel
theorem ex_tk_1 : ex_tk (1, 145, 147) [1, 172, 173, 174, 186, 194, 195, 731, 732, 733, 734, 735, 736, 740, 742, 744, 746, 748, 749, 750, 751, 752, 753, 754, 755, 756, 757, 758, 759, 760, 762, 766, 767, 768, 769, 770, 771, 989, 990, 991, 992, 993, 994, 995, 996, 997, 998, 999, 1000, 1001, 1002, 1003, 1004, 1005, 1007, 1008, 1389, 1390, 1391, 1392, 1393, 1394, 1410, 1411, 1412, 1413, 1414, 1415, 1416, 1417, 1418, 1419, 1420, 1421, 1422, 1423, 1424, 2637, 2665, 2668] = true := by decide +kernel
theorem ex_tk_2 : ex_tk (2, 178, 180) [1, 172, 173, 174, 184, 194, 195, 731, 732, 733, 734, 735, 736, 740, 742, 744, 746, 748, 749, 750, 751, 752, 753, 754, 755, 756, 757, 758, 759, 760, 763, 766, 767, 768, 769, 770, 771, 989, 990, 991, 992, 993, 994, 995, 996, 997, 998, 999, 1000, 1001, 1002, 1003, 1004, 1005, 1007, 1008, 1037, 1038, 1055, 1056, 1057, 1389, 1390, 1391, 1392, 1393, 1394, 1552, 1553, 1554, 1555, 1556, 1557, 1558, 1559, 1560, 1561, 1562, 1563, 1564, 1565, 1566, 2637, 2666, 2668] = true := by decide +kernel
theorem ex_tk_3 : ex_tk (3, 216, 218) [1, 172, 173, 174, 187, 194, 195, 731, 732, 733, 734, 735, 736, 740, 742, 744, 746, 748, 749, 750, 751, 752, 753, 754, 755, 756, 757, 758, 759, 760, 765, 766, 767, 768, 769, 770, 771, 989, 990, 991, 992, 993, 994, 995, 996, 997, 998, 999, 1000, 1001, 1002, 1003, 1004, 1005, 1007, 1008, 1389, 1390, 1391, 1392, 1393, 1394, 1590, 1591, 1592, 1593, 1594, 1595, 1596, 1597, 1598, 1599, 1600, 1601, 1602, 1603, 1604, 2637, 2667, 2668] = true := by decide +kernel
theorem ex_tk_4 : ex_tk (4, 129, 131) [1, 172, 173, 174, 176, 194, 195, 731, 732, 733, 734, 735, 736, 740, 742, 744, 746, 748, 749, 750, 751, 752, 753, 754, 755, 756, 757, 758, 759, 760, 764, 766, 767, 768, 769, 770, 771, 989, 990, 991, 992, 993, 994, 995, 996, 997, 998, 999, 1000, 1001, 1002, 1003, 1004, 1005, 1007, 1008, 1389, 1390, 1391, 1392, 1393, 1394, 1395, 1396, 1397, 1398, 1399, 1400, 1401, 1402, 1403, 1404, 1405, 1406, 1407, 1408, 1409, 2637, 2661, 2668] = true := by decide +kernel
theorem ex_tk_ok {q : Nat × Nat × Nat} {ps : List Nat} (h : ex_tk q ps = true) : Bundle.fit (ex_nm q.1) = true ∧ Cond.classLink RX11 q.2.1 (ex_nm q.1) ∈ ex_W ∧ Cond.initialized (ex_nm q.1) ∈ ex_W ∧ (∀ w ∈ vx_at0 RX11 q.2.2 (ex_nm q.1) ex_sup, w ∈ ex_W) ∧ ∀ w ∈ Cond.classLink RX11 q.2.1 (ex_nm q.1) :: Cond.initialized (ex_nm q.1) :: vx_at0 RX11 q.2.2 (ex_nm q.1) ex_sup, vx_ot w = true := by
  unfold ex_tk at h
  simp only [Bool.and_eq_true] at h
  obtain ⟨⟨⟨⟨h1, h2⟩, h3⟩, h4⟩, h5⟩ := h
  exact ⟨h1, ex_any_w h2, ex_any_w h3, fun w hw => ex_any_w (List.all_eq_true.mp h4 w hw), fun w hw => List.all_eq_true.mp h5 w hw⟩
theorem ex_tt_ok : ∀ q ∈ ex_tt, Bundle.fit (ex_nm q.1) = true ∧ Cond.classLink RX11 q.2.1 (ex_nm q.1) ∈ ex_W ∧ Cond.initialized (ex_nm q.1) ∈ ex_W ∧ (∀ w ∈ vx_at0 RX11 q.2.2 (ex_nm q.1) ex_sup, w ∈ ex_W) ∧ ∀ w ∈ Cond.classLink RX11 q.2.1 (ex_nm q.1) :: Cond.initialized (ex_nm q.1) :: vx_at0 RX11 q.2.2 (ex_nm q.1) ex_sup, vx_ot w = true := by
  unfold ex_tt
  intro q hq
  simp only [List.mem_cons, List.not_mem_nil, or_false] at hq
  rcases hq with rfl | rfl | rfl | rfl | rfl
  · exact ex_tk_ok ex_tk_0
  · exact ex_tk_ok ex_tk_1
  · exact ex_tk_ok ex_tk_2
  · exact ex_tk_ok ex_tk_3
  · exact ex_tk_ok ex_tk_4
def ex_chk (Ms : List ex_Me) (me : ex_Me) (e : Nat × ex_O × List Nat) : Bool := match e with
  | (pc, (op, nx, a, b, v, tl), ps) => match op with
    | 0 => decide (decode me.2.1 pc = .ok (.iconst v.toInt, 1)) && decide (nx = pc + 1)
    | 1 => decide (decode me.2.1 pc = .ok (.bipush v.toInt, 2)) && decide (nx = pc + 2) && decide ((Int8.ofInt v.toInt).toInt32 = v)
    | 2 => decide (decode me.2.1 pc = .ok (.sipush v.toInt, 3)) && decide (nx = pc + 3) && decide ((Int16.ofInt v.toInt).toInt32 = v)
    | 3 => decide (decode me.2.1 pc = .ok (.ldc a, 2)) && decide (nx = pc + 2) && ex_wp (ps.getD 0 0) (.constant me.1.cls a v)
    | 4 => decide (decode me.2.1 pc = .ok (.ldc_w a, 3)) && decide (nx = pc + 3) && ex_wp (ps.getD 0 0) (.constant me.1.cls a v)
    | 5 => decide (decode me.2.1 pc = .ok (.iload_n (Fin.ofNat 4 a), 1)) && decide (nx = pc + 1) && decide (a < 4)
    | 6 => decide (decode me.2.1 pc = .ok (.iload a, 2)) && decide (nx = pc + 2)
    | 7 => decide (decode me.2.1 pc = .ok (.aload_n (Fin.ofNat 4 a), 1)) && decide (nx = pc + 1) && decide (a < 4)
    | 8 => decide (decode me.2.1 pc = .ok (.aload a, 2)) && decide (nx = pc + 2)
    | 9 => decide (decode me.2.1 pc = .ok (.istore_n (Fin.ofNat 4 a), 1)) && decide (nx = pc + 1) && decide (a < 4) && decide (a < me.2.2.1)
    | 10 => decide (decode me.2.1 pc = .ok (.istore a, 2)) && decide (nx = pc + 2) && decide (a < me.2.2.1)
    | 11 => decide (decode me.2.1 pc = .ok (.astore_n (Fin.ofNat 4 a), 1)) && decide (nx = pc + 1) && decide (a < 4) && decide (a < me.2.2.1)
    | 12 => decide (decode me.2.1 pc = .ok (.astore a, 2)) && decide (nx = pc + 2) && decide (a < me.2.2.1)
    | 13 => decide (decode me.2.1 pc = .ok (.iinc a v.toInt, 3)) && decide (nx = pc + 3) && decide (a < me.2.2.1)
    | 14 => decide (decode me.2.1 pc = .ok (ex_bi a, 1)) && decide (nx = pc + 1)
    | 15 => decide (decode me.2.1 pc = .ok (.ineg, 1)) && decide (nx = pc + 1)
    | 16 => decide (decode me.2.1 pc = .ok (.ifCond (ex_cd a) ((b : Int) - (pc : Int)), 3)) && decide (nx = pc + 3) && decide (a < 6)
    | 17 => decide (decode me.2.1 pc = .ok (.if_icmp (ex_cd a) ((b : Int) - (pc : Int)), 3)) && decide (nx = pc + 3) && decide (a < 6)
    | 18 => decide (decode me.2.1 pc = .ok (.goto ((b : Int) - (pc : Int)), 3))
    | 19 => (match decode me.2.1 pc with
      | .ok (.tableswitch df lo hi offs, _) => decide (lo = v.toInt) && decide (hi + 1 = v.toInt + (tl.length : Int)) && decide ((pc : Int) + df = (b : Int)) && decide (offs.toList.map (fun o => (pc : Int) + o) = tl.map (fun t : Nat => (t : Int)))
      | _ => false)
    | 20 => decide (decode me.2.1 pc = .ok (.getfield (tl.getD 0 0), 3)) && decide (nx = pc + 3) && (match ex_cl[a]? with
      | some (_, T, N) => decide (b < N) && ex_wp (ps.getD 0 0) (.fieldLink me.1.cls (tl.getD 0 0) (T b).1 (T b).2.1 (T b).2.2.1)
      | none => false)
    | 21 => decide (decode me.2.1 pc = .ok (.putfield (tl.getD 0 0), 3)) && decide (nx = pc + 3) && (match ex_cl[a]? with
      | some (_, T, N) => decide (b < N) && ex_wp (ps.getD 0 0) (.fieldLink me.1.cls (tl.getD 0 0) (T b).1 (T b).2.1 (T b).2.2.1) && decide ((T b).2.2.2 = false) && ex_tyb v (parseFieldDescriptor (T b).2.2.1)
      | none => false)
    | 22 => decide (decode me.2.1 pc = .ok (.putfield (tl.getD 0 0), 3)) && decide (nx = pc + 3) && (match ex_cl[a]? with
      | some (_, T, N) => decide (b < N) && ex_wp (ps.getD 0 0) (.fieldLink me.1.cls (tl.getD 0 0) (T b).1 (T b).2.1 (T b).2.2.1) && decide ((T b).2.2.2 = true) && ex_tyb v (parseFieldDescriptor (T b).2.2.1) && decide (me.1.name = "<init>") && decide ((T b).1 = me.1.cls)
      | none => false)
    | 23 => decide (decode me.2.1 pc = .ok (.iaload, 1)) && decide (nx = pc + 1)
    | 24 => decide (decode me.2.1 pc = .ok (.iastore, 1)) && decide (nx = pc + 1)
    | 25 => decide (decode me.2.1 pc = .ok (.baload, 1)) && decide (nx = pc + 1)
    | 26 => decide (decode me.2.1 pc = .ok (.bastore, 1)) && decide (nx = pc + 1)
    | 27 => decide (decode me.2.1 pc = .ok (.laload, 1)) && decide (nx = pc + 1)
    | 28 => decide (decode me.2.1 pc = .ok (.lastore, 1)) && decide (nx = pc + 1)
    | 29 => decide (decode me.2.1 pc = .ok (.aaload, 1)) && decide (nx = pc + 1)
    | 30 => decide (decode me.2.1 pc = .ok (.aastore, 1)) && decide (nx = pc + 1)
    | 31 => decide (decode me.2.1 pc = .ok (.arraylength, 1)) && decide (nx = pc + 1)
    | 32 => (decide (a = 0) && decide (decode me.2.1 pc = .ok (.newarray .int, 2)) && decide (nx = pc + 2) && ex_wp (ps.getD 0 0) (.arrayClass .int)) || (decide (a = 1) && decide (decode me.2.1 pc = .ok (.newarray .boolean, 2)) && decide (nx = pc + 2) && ex_wp (ps.getD 0 0) (.arrayClass .boolean)) || (decide (a = 2) && decide (decode me.2.1 pc = .ok (.newarray .long, 2)) && decide (nx = pc + 2) && ex_wp (ps.getD 0 0) (.arrayClass .long))
    | 33 => decide (decode me.2.1 pc = .ok (.anewarray (tl.getD 0 0), 3)) && decide (nx = pc + 3) && (match ex_cl[a]? with
      | some rc => (decide (rc.1 = RX7) || decide (rc.1 = RX9)) && ex_wp (ps.getD 0 0) (.classLink me.1.cls (tl.getD 0 0) rc.1)
      | none => false)
    | 34 => decide (decode me.2.1 pc = .ok (.new (tl.getD 0 0), 3)) && decide (nx = pc + 3) && (match ex_cl[a]? with
      | some (C, T, N) => decide (N = b) && (List.range b).all (fun j => match parseFieldDescriptor (T j).2.2.1 with
        | some ty => decide (defaultValue ty = vp_V ((tl.drop 4).map (fun t => if t = 0 then Value.int 0 else Value.null)) j)
        | none => true) && ex_wp (ps.getD 0 0) (.classLink me.1.cls (tl.getD 0 0) C) && ex_wp (ps.getD 1 0) (.instantiable C b) && ex_wp (ps.getD 2 0) (.initialized C)
      | none => false)
    | 35 => decide (decode me.2.1 pc = .ok (.dup, 1)) && decide (nx = pc + 1)
    | 36 => decide (decode me.2.1 pc = .ok (.pop, 1)) && decide (nx = pc + 1)
    | 37 => decide (decode me.2.1 pc = .ok (.dup2, 1)) && decide (nx = pc + 1)
    | 38 => decide (me.2.2.2.1 = none) && decide (decode me.2.1 pc = .ok (.return_, 1))
    | 39 => decide (me.2.2.2.1 = some .int) && decide (decode me.2.1 pc = .ok (.ireturn, 1))
    | 40 => decide (me.2.2.2.1 = some .boolean) && decide (decode me.2.1 pc = .ok (.ireturn, 1))
    | 41 => (match me.2.2.2.1 with
      | some (.object _) => decide (decode me.2.1 pc = .ok (.areturn, 1))
      | _ => false)
    | 42 => decide (decode me.2.1 pc = .ok (.i2l, 1)) && decide (nx = pc + 1)
    | 43 => decide (decode me.2.1 pc = .ok (.lcmp, 1)) && decide (nx = pc + 1)
    | 44 => decide (decode me.2.1 pc = .ok (.lconst (Fin.ofNat 2 a), 1)) && decide (nx = pc + 1) && decide (a < 2)
    | 45 => decide (decode me.2.1 pc = .ok (.invokespecial (tl.getD 0 0), 3)) && decide (nx = pc + 3) && ex_wp (ps.getD 0 0) (.methodLink me.1.cls (tl.getD 0 0) objectInit)
    | 46 => decide (decode me.2.1 pc = .ok (.invokestatic (tl.getD 0 0), 3)) && decide (nx = pc + 3) && ex_wp (ps.getD 0 0) (.methodLink me.1.cls (tl.getD 0 0) arraycopyName)
    | 47 => decide (nx = pc + 3) && (ex_hl (tl.drop 2)).all (fun q => ex_hk me pc q.1 q.2.1 q.2.2 ps) && (match Ms[a]? with
      | some me' => ex_mk me' ps && ex_kk me me' pc b v tl ps
      | none => false)
    | 48 => decide (me.2.2.2.2 = []) && decide (me.1.cls = RX11) && decide ((a, tl.getD 0 0, tl.getD 1 0) ∈ ex_tt) && decide (decode me.2.1 pc = .ok (.new (tl.getD 0 0), 3)) && decide (decode me.2.1 (pc + 3) = .ok (.dup, 1)) && decide (decode me.2.1 (pc + 4) = .ok (.invokespecial (tl.getD 1 0), 3)) && decide (decode me.2.1 (pc + 7) = .ok (.athrow, 1))
    | 49 => decide (decode me.2.1 pc = .ok (.ldc (tl.getD 0 0), 2)) && decide (nx = pc + 2) && (match ex_str[a]? with
      | some q => decide (q.1 = me.1.cls) && decide (q.2.1 = tl.getD 0 0)
      | none => false)
    | 50 => decide (decode me.2.1 pc = .ok (.invokevirtual (tl.getD 0 0), 3)) && decide (nx = pc + 3) && ex_wp (ps.getD 0 0) (.methodLink me.1.cls (tl.getD 0 0) js_length)
    | 51 => decide (decode me.2.1 pc = .ok (.invokevirtual (tl.getD 0 0), 3)) && decide (nx = pc + 3) && ex_wp (ps.getD 0 0) (.methodLink me.1.cls (tl.getD 0 0) js_charAt)
    | 52 => decide (decode me.2.1 pc = .ok (.ldc_w (tl.getD 0 0), 3)) && decide (nx = pc + 3) && (match ex_str[a]? with
      | some q => decide (q.1 = me.1.cls) && decide (q.2.1 = tl.getD 0 0)
      | none => false)
    | _ => false
set_option maxHeartbeats 4000000 in
set_option maxRecDepth 100000 in
theorem ex_chk_ok {Ms : List ex_Me} {me : ex_Me} {pc : Nat} {o : ex_O} {ps : List Nat} : ex_chk Ms me (pc, o, ps) = true → ex_Ok (fun k => Ms[k]?) me pc o := by
  obtain ⟨op, nx, a, b, v, tl⟩ := o
  match op with
  | 0 =>
    intro h
    change (decide (decode me.2.1 pc = .ok (.iconst v.toInt, 1)) && decide (nx = pc + 1)) = true at h
    change decode me.2.1 pc = .ok (.iconst v.toInt, 1) ∧ nx = pc + 1
    simp only [Bool.and_eq_true, decide_eq_true_eq] at h
    exact h
  | 1 =>
    intro h
    change (decide (decode me.2.1 pc = .ok (.bipush v.toInt, 2)) && decide (nx = pc + 2) && decide ((Int8.ofInt v.toInt).toInt32 = v)) = true at h
    change decode me.2.1 pc = .ok (.bipush v.toInt, 2) ∧ (Int8.ofInt v.toInt).toInt32 = v ∧ nx = pc + 2
    simp only [Bool.and_eq_true, decide_eq_true_eq] at h
    exact ⟨h.1.1, h.2, h.1.2⟩
  | 2 =>
    intro h
    change (decide (decode me.2.1 pc = .ok (.sipush v.toInt, 3)) && decide (nx = pc + 3) && decide ((Int16.ofInt v.toInt).toInt32 = v)) = true at h
    change decode me.2.1 pc = .ok (.sipush v.toInt, 3) ∧ (Int16.ofInt v.toInt).toInt32 = v ∧ nx = pc + 3
    simp only [Bool.and_eq_true, decide_eq_true_eq] at h
    exact ⟨h.1.1, h.2, h.1.2⟩
  | 3 =>
    intro h
    change (decide (decode me.2.1 pc = .ok (.ldc a, 2)) && decide (nx = pc + 2) && ex_wp (ps.getD 0 0) (.constant me.1.cls a v)) = true at h
    change decode me.2.1 pc = .ok (.ldc a, 2) ∧ Cond.constant me.1.cls a v ∈ ex_W ∧ nx = pc + 2
    simp only [Bool.and_eq_true, decide_eq_true_eq] at h
    exact ⟨h.1.1, ex_wp_ok h.2, h.1.2⟩
  | 4 =>
    intro h
    change (decide (decode me.2.1 pc = .ok (.ldc_w a, 3)) && decide (nx = pc + 3) && ex_wp (ps.getD 0 0) (.constant me.1.cls a v)) = true at h
    change decode me.2.1 pc = .ok (.ldc_w a, 3) ∧ Cond.constant me.1.cls a v ∈ ex_W ∧ nx = pc + 3
    simp only [Bool.and_eq_true, decide_eq_true_eq] at h
    exact ⟨h.1.1, ex_wp_ok h.2, h.1.2⟩
  | 5 =>
    intro h
    change (decide (decode me.2.1 pc = .ok (.iload_n (Fin.ofNat 4 a), 1)) && decide (nx = pc + 1) && decide (a < 4)) = true at h
    change ∃ k : Fin 4, decode me.2.1 pc = .ok (.iload_n k, 1) ∧ (k : Nat) = a ∧ nx = pc + 1
    simp only [Bool.and_eq_true, decide_eq_true_eq] at h
    exact ⟨_, h.1.1, Nat.mod_eq_of_lt h.2, h.1.2⟩
  | 6 =>
    intro h
    change (decide (decode me.2.1 pc = .ok (.iload a, 2)) && decide (nx = pc + 2)) = true at h
    change decode me.2.1 pc = .ok (.iload a, 2) ∧ nx = pc + 2
    simp only [Bool.and_eq_true, decide_eq_true_eq] at h
    exact h
  | 7 =>
    intro h
    change (decide (decode me.2.1 pc = .ok (.aload_n (Fin.ofNat 4 a), 1)) && decide (nx = pc + 1) && decide (a < 4)) = true at h
    change ∃ k : Fin 4, decode me.2.1 pc = .ok (.aload_n k, 1) ∧ (k : Nat) = a ∧ nx = pc + 1
    simp only [Bool.and_eq_true, decide_eq_true_eq] at h
    exact ⟨_, h.1.1, Nat.mod_eq_of_lt h.2, h.1.2⟩
  | 8 =>
    intro h
    change (decide (decode me.2.1 pc = .ok (.aload a, 2)) && decide (nx = pc + 2)) = true at h
    change decode me.2.1 pc = .ok (.aload a, 2) ∧ nx = pc + 2
    simp only [Bool.and_eq_true, decide_eq_true_eq] at h
    exact h
  | 9 =>
    intro h
    change (decide (decode me.2.1 pc = .ok (.istore_n (Fin.ofNat 4 a), 1)) && decide (nx = pc + 1) && decide (a < 4) && decide (a < me.2.2.1)) = true at h
    change ∃ k : Fin 4, decode me.2.1 pc = .ok (.istore_n k, 1) ∧ (k : Nat) = a ∧ a < me.2.2.1 ∧ nx = pc + 1
    simp only [Bool.and_eq_true, decide_eq_true_eq] at h
    exact ⟨_, h.1.1.1, Nat.mod_eq_of_lt h.1.2, h.2, h.1.1.2⟩
  | 10 =>
    intro h
    change (decide (decode me.2.1 pc = .ok (.istore a, 2)) && decide (nx = pc + 2) && decide (a < me.2.2.1)) = true at h
    change decode me.2.1 pc = .ok (.istore a, 2) ∧ a < me.2.2.1 ∧ nx = pc + 2
    simp only [Bool.and_eq_true, decide_eq_true_eq] at h
    exact ⟨h.1.1, h.2, h.1.2⟩
  | 11 =>
    intro h
    change (decide (decode me.2.1 pc = .ok (.astore_n (Fin.ofNat 4 a), 1)) && decide (nx = pc + 1) && decide (a < 4) && decide (a < me.2.2.1)) = true at h
    change ∃ k : Fin 4, decode me.2.1 pc = .ok (.astore_n k, 1) ∧ (k : Nat) = a ∧ a < me.2.2.1 ∧ nx = pc + 1
    simp only [Bool.and_eq_true, decide_eq_true_eq] at h
    exact ⟨_, h.1.1.1, Nat.mod_eq_of_lt h.1.2, h.2, h.1.1.2⟩
  | 12 =>
    intro h
    change (decide (decode me.2.1 pc = .ok (.astore a, 2)) && decide (nx = pc + 2) && decide (a < me.2.2.1)) = true at h
    change decode me.2.1 pc = .ok (.astore a, 2) ∧ a < me.2.2.1 ∧ nx = pc + 2
    simp only [Bool.and_eq_true, decide_eq_true_eq] at h
    exact ⟨h.1.1, h.2, h.1.2⟩
  | 13 =>
    intro h
    change (decide (decode me.2.1 pc = .ok (.iinc a v.toInt, 3)) && decide (nx = pc + 3) && decide (a < me.2.2.1)) = true at h
    change decode me.2.1 pc = .ok (.iinc a v.toInt, 3) ∧ a < me.2.2.1 ∧ nx = pc + 3
    simp only [Bool.and_eq_true, decide_eq_true_eq] at h
    exact ⟨h.1.1, h.2, h.1.2⟩
  | 14 =>
    intro h
    change (decide (decode me.2.1 pc = .ok (ex_bi a, 1)) && decide (nx = pc + 1)) = true at h
    change decode me.2.1 pc = .ok (ex_bi a, 1) ∧ nx = pc + 1
    simp only [Bool.and_eq_true, decide_eq_true_eq] at h
    exact h
  | 15 =>
    intro h
    change (decide (decode me.2.1 pc = .ok (.ineg, 1)) && decide (nx = pc + 1)) = true at h
    change decode me.2.1 pc = .ok (.ineg, 1) ∧ nx = pc + 1
    simp only [Bool.and_eq_true, decide_eq_true_eq] at h
    exact h
  | 16 =>
    intro h
    change (decide (decode me.2.1 pc = .ok (.ifCond (ex_cd a) ((b : Int) - (pc : Int)), 3)) && decide (nx = pc + 3) && decide (a < 6)) = true at h
    change ∃ off : Int, decode me.2.1 pc = .ok (.ifCond (ex_cd a) off, 3) ∧ (pc : Int) + off = (b : Int) ∧ nx = pc + 3 ∧ a < 6
    simp only [Bool.and_eq_true, decide_eq_true_eq] at h
    exact ⟨_, h.1.1, by omega, h.1.2, h.2⟩
  | 17 =>
    intro h
    change (decide (decode me.2.1 pc = .ok (.if_icmp (ex_cd a) ((b : Int) - (pc : Int)), 3)) && decide (nx = pc + 3) && decide (a < 6)) = true at h
    change ∃ off : Int, decode me.2.1 pc = .ok (.if_icmp (ex_cd a) off, 3) ∧ (pc : Int) + off = (b : Int) ∧ nx = pc + 3 ∧ a < 6
    simp only [Bool.and_eq_true, decide_eq_true_eq] at h
    exact ⟨_, h.1.1, by omega, h.1.2, h.2⟩
  | 18 =>
    intro h
    change (decide (decode me.2.1 pc = .ok (.goto ((b : Int) - (pc : Int)), 3))) = true at h
    change ∃ off : Int, decode me.2.1 pc = .ok (.goto off, 3) ∧ (pc : Int) + off = (b : Int)
    simp only [Bool.and_eq_true, decide_eq_true_eq] at h
    exact ⟨_, h, by omega⟩
  | 19 =>
    intro h
    change ((match (generalizing := false) decode me.2.1 pc with
      | .ok (.tableswitch df lo hi offs, _) => decide (lo = v.toInt) && decide (hi + 1 = v.toInt + (tl.length : Int)) && decide ((pc : Int) + df = (b : Int)) && decide (offs.toList.map (fun o => (pc : Int) + o) = tl.map (fun t : Nat => (t : Int)))
      | _ => false)) = true at h
    change ∃ (df hi : Int) (offs : Array Int) (len : Nat), decode me.2.1 pc = .ok (.tableswitch df v.toInt hi offs, len) ∧ hi + 1 = v.toInt + (tl.length : Int) ∧ (pc : Int) + df = (b : Int) ∧ offs.toList.map (fun o => (pc : Int) + o) = tl.map (fun t : Nat => (t : Int))
    split at h
    · rename_i df lo hi offs len hd
      simp only [Bool.and_eq_true, decide_eq_true_eq] at h
      obtain ⟨⟨⟨q1, q2⟩, q3⟩, q4⟩ := h
      subst q1
      exact ⟨df, hi, offs, len, hd, q2, q3, q4⟩
    · cases h
  | 20 =>
    intro h
    change (decide (decode me.2.1 pc = .ok (.getfield (tl.getD 0 0), 3)) && decide (nx = pc + 3) && (match (generalizing := false) ex_cl[a]? with
      | some (_, T, N) => decide (b < N) && ex_wp (ps.getD 0 0) (.fieldLink me.1.cls (tl.getD 0 0) (T b).1 (T b).2.1 (T b).2.2.1)
      | none => false)) = true at h
    change ∃ (C : String) (T : u_T) (N : Nat), ex_cl[a]? = some (C, T, N) ∧ b < N ∧ Cond.fieldLink me.1.cls (tl.getD 0 0) (T b).1 (T b).2.1 (T b).2.2.1 ∈ ex_W ∧ decode me.2.1 pc = .ok (.getfield (tl.getD 0 0), 3) ∧ nx = pc + 3
    simp only [Bool.and_eq_true, decide_eq_true_eq] at h
    obtain ⟨⟨q1, q2⟩, q3⟩ := h
    split at q3
    · rename_i C T N hc
      simp only [Bool.and_eq_true, decide_eq_true_eq] at q3
      exact ⟨C, T, N, hc, q3.1, ex_wp_ok q3.2, q1, q2⟩
    · cases q3
  | 21 =>
    intro h
    change (decide (decode me.2.1 pc = .ok (.putfield (tl.getD 0 0), 3)) && decide (nx = pc + 3) && (match (generalizing := false) ex_cl[a]? with
      | some (_, T, N) => decide (b < N) && ex_wp (ps.getD 0 0) (.fieldLink me.1.cls (tl.getD 0 0) (T b).1 (T b).2.1 (T b).2.2.1) && decide ((T b).2.2.2 = false) && ex_tyb v (parseFieldDescriptor (T b).2.2.1)
      | none => false)) = true at h
    change ∃ (C : String) (T : u_T) (N : Nat) (ty : FieldType), ex_cl[a]? = some (C, T, N) ∧ b < N ∧ Cond.fieldLink me.1.cls (tl.getD 0 0) (T b).1 (T b).2.1 (T b).2.2.1 ∈ ex_W ∧ decode me.2.1 pc = .ok (.putfield (tl.getD 0 0), 3) ∧ nx = pc + 3 ∧ parseFieldDescriptor (T b).2.2.1 = some ty ∧ ex_ty v ty ∧ (T b).2.2.2 = false
    simp only [Bool.and_eq_true, decide_eq_true_eq] at h
    obtain ⟨⟨q1, q2⟩, q3⟩ := h
    split at q3
    · rename_i C T N hc
      simp only [Bool.and_eq_true, decide_eq_true_eq] at q3
      obtain ⟨⟨⟨k1, k2⟩, k3⟩, k4⟩ := q3
      obtain ⟨ty, k5, k6⟩ := ex_tyb_ok k4
      exact ⟨C, T, N, ty, hc, k1, ex_wp_ok k2, q1, q2, k5, k6, k3⟩
    · cases q3
  | 22 =>
    intro h
    change (decide (decode me.2.1 pc = .ok (.putfield (tl.getD 0 0), 3)) && decide (nx = pc + 3) && (match (generalizing := false) ex_cl[a]? with
      | some (_, T, N) => decide (b < N) && ex_wp (ps.getD 0 0) (.fieldLink me.1.cls (tl.getD 0 0) (T b).1 (T b).2.1 (T b).2.2.1) && decide ((T b).2.2.2 = true) && ex_tyb v (parseFieldDescriptor (T b).2.2.1) && decide (me.1.name = "<init>") && decide ((T b).1 = me.1.cls)
      | none => false)) = true at h
    change ∃ (C : String) (T : u_T) (N : Nat) (ty : FieldType), ex_cl[a]? = some (C, T, N) ∧ b < N ∧ Cond.fieldLink me.1.cls (tl.getD 0 0) (T b).1 (T b).2.1 (T b).2.2.1 ∈ ex_W ∧ decode me.2.1 pc = .ok (.putfield (tl.getD 0 0), 3) ∧ nx = pc + 3 ∧ parseFieldDescriptor (T b).2.2.1 = some ty ∧ ex_ty v ty ∧ (T b).2.2.2 = true ∧ me.1.name = "<init>" ∧ (T b).1 = me.1.cls
    simp only [Bool.and_eq_true, decide_eq_true_eq] at h
    obtain ⟨⟨q1, q2⟩, q3⟩ := h
    split at q3
    · rename_i C T N hc
      simp only [Bool.and_eq_true, decide_eq_true_eq] at q3
      obtain ⟨⟨⟨⟨⟨k1, k2⟩, k3⟩, k4⟩, k7⟩, k8⟩ := q3
      obtain ⟨ty, k5, k6⟩ := ex_tyb_ok k4
      exact ⟨C, T, N, ty, hc, k1, ex_wp_ok k2, q1, q2, k5, k6, k3, k7, k8⟩
    · cases q3
  | 23 =>
    intro h
    change (decide (decode me.2.1 pc = .ok (.iaload, 1)) && decide (nx = pc + 1)) = true at h
    change decode me.2.1 pc = .ok (.iaload, 1) ∧ nx = pc + 1
    simp only [Bool.and_eq_true, decide_eq_true_eq] at h
    exact h
  | 24 =>
    intro h
    change (decide (decode me.2.1 pc = .ok (.iastore, 1)) && decide (nx = pc + 1)) = true at h
    change decode me.2.1 pc = .ok (.iastore, 1) ∧ nx = pc + 1
    simp only [Bool.and_eq_true, decide_eq_true_eq] at h
    exact h
  | 25 =>
    intro h
    change (decide (decode me.2.1 pc = .ok (.baload, 1)) && decide (nx = pc + 1)) = true at h
    change decode me.2.1 pc = .ok (.baload, 1) ∧ nx = pc + 1
    simp only [Bool.and_eq_true, decide_eq_true_eq] at h
    exact h
  | 26 =>
    intro h
    change (decide (decode me.2.1 pc = .ok (.bastore, 1)) && decide (nx = pc + 1)) = true at h
    change decode me.2.1 pc = .ok (.bastore, 1) ∧ nx = pc + 1
    simp only [Bool.and_eq_true, decide_eq_true_eq] at h
    exact h
  | 27 =>
    intro h
    change (decide (decode me.2.1 pc = .ok (.laload, 1)) && decide (nx = pc + 1)) = true at h
    change decode me.2.1 pc = .ok (.laload, 1) ∧ nx = pc + 1
    simp only [Bool.and_eq_true, decide_eq_true_eq] at h
    exact h
  | 28 =>
    intro h
    change (decide (decode me.2.1 pc = .ok (.lastore, 1)) && decide (nx = pc + 1)) = true at h
    change decode me.2.1 pc = .ok (.lastore, 1) ∧ nx = pc + 1
    simp only [Bool.and_eq_true, decide_eq_true_eq] at h
    exact h
  | 29 =>
    intro h
    change (decide (decode me.2.1 pc = .ok (.aaload, 1)) && decide (nx = pc + 1)) = true at h
    change decode me.2.1 pc = .ok (.aaload, 1) ∧ nx = pc + 1
    simp only [Bool.and_eq_true, decide_eq_true_eq] at h
    exact h
  | 30 =>
    intro h
    change (decide (decode me.2.1 pc = .ok (.aastore, 1)) && decide (nx = pc + 1)) = true at h
    change decode me.2.1 pc = .ok (.aastore, 1) ∧ nx = pc + 1
    simp only [Bool.and_eq_true, decide_eq_true_eq] at h
    exact h
  | 31 =>
    intro h
    change (decide (decode me.2.1 pc = .ok (.arraylength, 1)) && decide (nx = pc + 1)) = true at h
    change decode me.2.1 pc = .ok (.arraylength, 1) ∧ nx = pc + 1
    simp only [Bool.and_eq_true, decide_eq_true_eq] at h
    exact h
  | 32 =>
    intro h
    change ((decide (a = 0) && decide (decode me.2.1 pc = .ok (.newarray .int, 2)) && decide (nx = pc + 2) && ex_wp (ps.getD 0 0) (.arrayClass .int)) || (decide (a = 1) && decide (decode me.2.1 pc = .ok (.newarray .boolean, 2)) && decide (nx = pc + 2) && ex_wp (ps.getD 0 0) (.arrayClass .boolean)) || (decide (a = 2) && decide (decode me.2.1 pc = .ok (.newarray .long, 2)) && decide (nx = pc + 2) && ex_wp (ps.getD 0 0) (.arrayClass .long))) = true at h
    change (a = 0 ∧ decode me.2.1 pc = .ok (.newarray .int, 2) ∧ Cond.arrayClass .int ∈ ex_W ∧ nx = pc + 2) ∨ (a = 1 ∧ decode me.2.1 pc = .ok (.newarray .boolean, 2) ∧ Cond.arrayClass .boolean ∈ ex_W ∧ nx = pc + 2) ∨ (a = 2 ∧ decode me.2.1 pc = .ok (.newarray .long, 2) ∧ Cond.arrayClass .long ∈ ex_W ∧ nx = pc + 2)
    simp only [Bool.or_eq_true, Bool.and_eq_true, decide_eq_true_eq] at h
    rcases h with (h | h) | h
    · exact Or.inl ⟨h.1.1.1, h.1.1.2, ex_wp_ok h.2, h.1.2⟩
    · exact Or.inr (Or.inl ⟨h.1.1.1, h.1.1.2, ex_wp_ok h.2, h.1.2⟩)
    · exact Or.inr (Or.inr ⟨h.1.1.1, h.1.1.2, ex_wp_ok h.2, h.1.2⟩)
  | 33 =>
    intro h
    change (decide (decode me.2.1 pc = .ok (.anewarray (tl.getD 0 0), 3)) && decide (nx = pc + 3) && (match (generalizing := false) ex_cl[a]? with
      | some rc => (decide (rc.1 = RX7) || decide (rc.1 = RX9)) && ex_wp (ps.getD 0 0) (.classLink me.1.cls (tl.getD 0 0) rc.1)
      | none => false)) = true at h
    change ∃ rc : vw_C, ex_cl[a]? = some rc ∧ (rc.1 = RX7 ∨ rc.1 = RX9) ∧ Cond.classLink me.1.cls (tl.getD 0 0) rc.1 ∈ ex_W ∧ decode me.2.1 pc = .ok (.anewarray (tl.getD 0 0), 3) ∧ nx = pc + 3
    simp only [Bool.and_eq_true, decide_eq_true_eq] at h
    obtain ⟨⟨q1, q2⟩, q3⟩ := h
    split at q3
    · rename_i rc hc
      simp only [Bool.or_eq_true, Bool.and_eq_true, decide_eq_true_eq] at q3
      exact ⟨rc, hc, q3.1, ex_wp_ok q3.2, q1, q2⟩
    · cases q3
  | 34 =>
    intro h
    change (decide (decode me.2.1 pc = .ok (.new (tl.getD 0 0), 3)) && decide (nx = pc + 3) && (match (generalizing := false) ex_cl[a]? with
      | some (C, T, N) => decide (N = b) && (List.range b).all (fun j => match (generalizing := false) parseFieldDescriptor (T j).2.2.1 with
        | some ty => decide (defaultValue ty = vp_V ((tl.drop 4).map (fun t => if t = 0 then Value.int 0 else Value.null)) j)
        | none => true) && ex_wp (ps.getD 0 0) (.classLink me.1.cls (tl.getD 0 0) C) && ex_wp (ps.getD 1 0) (.instantiable C b) && ex_wp (ps.getD 2 0) (.initialized C)
      | none => false)) = true at h
    change ∃ (C : String) (T : u_T), ex_cl[a]? = some (C, T, b) ∧ (∀ j, j < b → ∀ ty, parseFieldDescriptor (T j).2.2.1 = some ty → defaultValue ty = vp_V ((tl.drop 4).map (fun t => if t = 0 then Value.int 0 else Value.null)) j) ∧ Cond.classLink me.1.cls (tl.getD 0 0) C ∈ ex_W ∧ Cond.instantiable C b ∈ ex_W ∧ Cond.initialized C ∈ ex_W ∧ decode me.2.1 pc = .ok (.new (tl.getD 0 0), 3) ∧ nx = pc + 3
    simp only [Bool.and_eq_true, decide_eq_true_eq] at h
    obtain ⟨⟨q1, q2⟩, q3⟩ := h
    split at q3
    · rename_i C T N hc
      simp only [Bool.and_eq_true, decide_eq_true_eq] at q3
      obtain ⟨⟨⟨⟨k1, k2⟩, k3⟩, k4⟩, k5⟩ := q3
      subst k1
      refine ⟨C, T, hc, fun j hj ty hty => ?_, ex_wp_ok k3, ex_wp_ok k4, ex_wp_ok k5, q1, q2⟩
      have k6 := List.all_eq_true.mp k2 j (List.mem_range.mpr hj)
      rw [hty] at k6
      exact of_decide_eq_true k6
    · cases q3
  | 35 =>
    intro h
    change (decide (decode me.2.1 pc = .ok (.dup, 1)) && decide (nx = pc + 1)) = true at h
    change decode me.2.1 pc = .ok (.dup, 1) ∧ nx = pc + 1
    simp only [Bool.and_eq_true, decide_eq_true_eq] at h
    exact h
  | 36 =>
    intro h
    change (decide (decode me.2.1 pc = .ok (.pop, 1)) && decide (nx = pc + 1)) = true at h
    change decode me.2.1 pc = .ok (.pop, 1) ∧ nx = pc + 1
    simp only [Bool.and_eq_true, decide_eq_true_eq] at h
    exact h
  | 37 =>
    intro h
    change (decide (decode me.2.1 pc = .ok (.dup2, 1)) && decide (nx = pc + 1)) = true at h
    change decode me.2.1 pc = .ok (.dup2, 1) ∧ nx = pc + 1
    simp only [Bool.and_eq_true, decide_eq_true_eq] at h
    exact h
  | 38 =>
    intro h
    change (decide (me.2.2.2.1 = none) && decide (decode me.2.1 pc = .ok (.return_, 1))) = true at h
    change me.2.2.2.1 = none ∧ decode me.2.1 pc = .ok (.return_, 1)
    simp only [Bool.and_eq_true, decide_eq_true_eq] at h
    exact h
  | 39 =>
    intro h
    change (decide (me.2.2.2.1 = some .int) && decide (decode me.2.1 pc = .ok (.ireturn, 1))) = true at h
    change me.2.2.2.1 = some .int ∧ decode me.2.1 pc = .ok (.ireturn, 1)
    simp only [Bool.and_eq_true, decide_eq_true_eq] at h
    exact h
  | 40 =>
    intro h
    change (decide (me.2.2.2.1 = some .boolean) && decide (decode me.2.1 pc = .ok (.ireturn, 1))) = true at h
    change me.2.2.2.1 = some .boolean ∧ decode me.2.1 pc = .ok (.ireturn, 1)
    simp only [Bool.and_eq_true, decide_eq_true_eq] at h
    exact h
  | 41 =>
    intro h
    change ((match (generalizing := false) me.2.2.2.1 with
      | some (.object _) => decide (decode me.2.1 pc = .ok (.areturn, 1))
      | _ => false)) = true at h
    change ∃ C : String, me.2.2.2.1 = some (.object C) ∧ decode me.2.1 pc = .ok (.areturn, 1)
    split at h
    · rename_i C hc
      exact ⟨C, hc, of_decide_eq_true h⟩
    · cases h
  | 42 =>
    intro h
    change (decide (decode me.2.1 pc = .ok (.i2l, 1)) && decide (nx = pc + 1)) = true at h
    change decode me.2.1 pc = .ok (.i2l, 1) ∧ nx = pc + 1
    simp only [Bool.and_eq_true, decide_eq_true_eq] at h
    exact h
  | 43 =>
    intro h
    change (decide (decode me.2.1 pc = .ok (.lcmp, 1)) && decide (nx = pc + 1)) = true at h
    change decode me.2.1 pc = .ok (.lcmp, 1) ∧ nx = pc + 1
    simp only [Bool.and_eq_true, decide_eq_true_eq] at h
    exact h
  | 44 =>
    intro h
    change (decide (decode me.2.1 pc = .ok (.lconst (Fin.ofNat 2 a), 1)) && decide (nx = pc + 1) && decide (a < 2)) = true at h
    change ∃ k : Fin 2, decode me.2.1 pc = .ok (.lconst k, 1) ∧ (k : Nat) = a ∧ nx = pc + 1
    simp only [Bool.and_eq_true, decide_eq_true_eq] at h
    exact ⟨_, h.1.1, Nat.mod_eq_of_lt h.2, h.1.2⟩
  | 45 =>
    intro h
    change (decide (decode me.2.1 pc = .ok (.invokespecial (tl.getD 0 0), 3)) && decide (nx = pc + 3) && ex_wp (ps.getD 0 0) (.methodLink me.1.cls (tl.getD 0 0) objectInit)) = true at h
    change Cond.methodLink me.1.cls (tl.getD 0 0) objectInit ∈ ex_W ∧ Cond.instanceMethod objectInit ∈ ex_W ∧ Cond.code objectInit ⟨#[0xb1]⟩ 1 none ∈ ex_W ∧ decode me.2.1 pc = .ok (.invokespecial (tl.getD 0 0), 3) ∧ nx = pc + 3
    simp only [Bool.and_eq_true, decide_eq_true_eq] at h
    exact ⟨ex_wp_ok h.2, ex_wO1, ex_wO2, h.1.1, h.1.2⟩
  | 46 =>
    intro h
    change (decide (decode me.2.1 pc = .ok (.invokestatic (tl.getD 0 0), 3)) && decide (nx = pc + 3) && ex_wp (ps.getD 0 0) (.methodLink me.1.cls (tl.getD 0 0) arraycopyName)) = true at h
    change Cond.methodLink me.1.cls (tl.getD 0 0) arraycopyName ∈ ex_W ∧ Cond.native arraycopyName ∈ ex_W ∧ Cond.static arraycopyName ∈ ex_W ∧ Cond.initialized "java/lang/System" ∈ ex_W ∧ decode me.2.1 pc = .ok (.invokestatic (tl.getD 0 0), 3) ∧ nx = pc + 3
    simp only [Bool.and_eq_true, decide_eq_true_eq] at h
    exact ⟨ex_wp_ok h.2, ex_wA1, ex_wA2, ex_wA3, h.1.1, h.1.2⟩
  | 47 =>
    intro h
    change (decide (nx = pc + 3) && (ex_hl (tl.drop 2)).all (fun q => ex_hk me pc q.1 q.2.1 q.2.2 ps) && (match (generalizing := false) Ms[a]? with
      | some me' => ex_mk me' ps && ex_kk me me' pc b v tl ps
      | none => false)) = true at h
    change nx = pc + 3 ∧ (∀ k t i, ex_hd k (tl.drop 2) = some (t, i) → ex_Hd me pc k t i) ∧ ∃ me', Ms[a]? = some me' ∧ ex_Mo me' ∧ ex_Kd me me' pc b v tl
    simp only [Bool.and_eq_true, decide_eq_true_eq] at h
    obtain ⟨⟨q1, q2⟩, q3⟩ := h
    refine ⟨q1, fun k t i hk => ex_hk_ok (List.all_eq_true.mp q2 (k, t, i) (ex_hl_in hk)), ?_⟩
    split at q3
    · rename_i me' hm
      simp only [Bool.and_eq_true] at q3
      exact ⟨me', hm, ex_mk_ok q3.1, ex_kk_ok q3.2⟩
    · cases q3
  | 48 =>
    intro h
    change (decide (me.2.2.2.2 = []) && decide (me.1.cls = RX11) && decide ((a, tl.getD 0 0, tl.getD 1 0) ∈ ex_tt) && decide (decode me.2.1 pc = .ok (.new (tl.getD 0 0), 3)) && decide (decode me.2.1 (pc + 3) = .ok (.dup, 1)) && decide (decode me.2.1 (pc + 4) = .ok (.invokespecial (tl.getD 1 0), 3)) && decide (decode me.2.1 (pc + 7) = .ok (.athrow, 1))) = true at h
    change me.2.2.2.2 = [] ∧ Bundle.fit (ex_nm a) = true ∧ (∀ n ∈ ex_sup, Bundle.fit n = true) ∧ Cond.classLink me.1.cls (tl.getD 0 0) (ex_nm a) ∈ ex_W ∧ Cond.initialized (ex_nm a) ∈ ex_W ∧ (∀ w ∈ vx_at0 me.1.cls (tl.getD 1 0) (ex_nm a) ex_sup, w ∈ ex_W) ∧ (∀ w ∈ Cond.classLink me.1.cls (tl.getD 0 0) (ex_nm a) :: Cond.initialized (ex_nm a) :: vx_at0 me.1.cls (tl.getD 1 0) (ex_nm a) ex_sup, vx_ot w = true) ∧ decode me.2.1 pc = .ok (.new (tl.getD 0 0), 3) ∧ decode me.2.1 (pc + 3) = .ok (.dup, 1) ∧ decode me.2.1 (pc + 4) = .ok (.invokespecial (tl.getD 1 0), 3) ∧ decode me.2.1 (pc + 7) = .ok (.athrow, 1)
    simp only [Bool.and_eq_true, decide_eq_true_eq] at h
    obtain ⟨⟨⟨⟨⟨⟨q1, q2⟩, q3⟩, q4⟩, q5⟩, q6⟩, q7⟩ := h
    obtain ⟨k1, k2, k3, k4, k5⟩ := ex_tt_ok _ q3
    rw [q2]
    exact ⟨q1, k1, ex_fits, k2, k3, k4, k5, q4, q5, q6, q7⟩
  | 49 =>
    intro h
    change (decide (decode me.2.1 pc = .ok (.ldc (tl.getD 0 0), 2)) && decide (nx = pc + 2) && (match (generalizing := false) ex_str[a]? with
      | some q => decide (q.1 = me.1.cls) && decide (q.2.1 = tl.getD 0 0)
      | none => false)) = true at h
    change ∃ tx : String, ex_str[a]? = some (me.1.cls, tl.getD 0 0, tx) ∧ decode me.2.1 pc = .ok (.ldc (tl.getD 0 0), 2) ∧ nx = pc + 2
    simp only [Bool.and_eq_true, decide_eq_true_eq] at h
    obtain ⟨⟨q1, q2⟩, q3⟩ := h
    split at q3
    · rename_i q hq
      simp only [Bool.and_eq_true, decide_eq_true_eq] at q3
      obtain ⟨k1, k2⟩ := q3
      obtain ⟨x1, x2, x3⟩ := q
      simp only at k1 k2
      subst k1
      subst k2
      exact ⟨x3, hq, q1, q2⟩
    · cases q3
  | 50 =>
    intro h
    change (decide (decode me.2.1 pc = .ok (.invokevirtual (tl.getD 0 0), 3)) && decide (nx = pc + 3) && ex_wp (ps.getD 0 0) (.methodLink me.1.cls (tl.getD 0 0) js_length)) = true at h
    change Cond.methodLink me.1.cls (tl.getD 0 0) js_length ∈ ex_W ∧ decode me.2.1 pc = .ok (.invokevirtual (tl.getD 0 0), 3) ∧ nx = pc + 3
    simp only [Bool.and_eq_true, decide_eq_true_eq] at h
    exact ⟨ex_wp_ok h.2, h.1.1, h.1.2⟩
  | 51 =>
    intro h
    change (decide (decode me.2.1 pc = .ok (.invokevirtual (tl.getD 0 0), 3)) && decide (nx = pc + 3) && ex_wp (ps.getD 0 0) (.methodLink me.1.cls (tl.getD 0 0) js_charAt)) = true at h
    change Cond.methodLink me.1.cls (tl.getD 0 0) js_charAt ∈ ex_W ∧ decode me.2.1 pc = .ok (.invokevirtual (tl.getD 0 0), 3) ∧ nx = pc + 3
    simp only [Bool.and_eq_true, decide_eq_true_eq] at h
    exact ⟨ex_wp_ok h.2, h.1.1, h.1.2⟩
  | 52 =>
    intro h
    change (decide (decode me.2.1 pc = .ok (.ldc_w (tl.getD 0 0), 3)) && decide (nx = pc + 3) && (match (generalizing := false) ex_str[a]? with
      | some q => decide (q.1 = me.1.cls) && decide (q.2.1 = tl.getD 0 0)
      | none => false)) = true at h
    change ∃ tx : String, ex_str[a]? = some (me.1.cls, tl.getD 0 0, tx) ∧ decode me.2.1 pc = .ok (.ldc_w (tl.getD 0 0), 3) ∧ nx = pc + 3
    simp only [Bool.and_eq_true, decide_eq_true_eq] at h
    obtain ⟨⟨q1, q2⟩, q3⟩ := h
    split at q3
    · rename_i q hq
      simp only [Bool.and_eq_true, decide_eq_true_eq] at q3
      obtain ⟨k1, k2⟩ := q3
      obtain ⟨x1, x2, x3⟩ := q
      simp only at k1 k2
      subst k1
      subst k2
      exact ⟨x3, hq, q1, q2⟩
    · cases q3
  | _ + 53 =>
    intro h
    cases h
