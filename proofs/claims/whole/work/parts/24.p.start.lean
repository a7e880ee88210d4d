/-! THE START: what the Statement gives, as the evaluator's relation wants it -/
abbrev st_F : List Cond := flatC (Jvm.Cond.and given_1 narrow_1)
def st_tm (i : Nat) : Term := match ex_str[i]? with
  | some q => .string q.1 q.2.1
  | none => .string "" 0
def st_v (i : Nat) : Term := .field (st_tm i) "java/lang/String" "value" "[B"
def st_pe : List Nat := [440, 543, 557, 573, 589, 604, 621, 640, 660, 681, 703, 726, 750, 775, 804, 834, 862, 890, 918, 948]
def st_pc : List Nat := [441, 544, 558, 574, 590, 605, 622, 641, 661, 682, 704, 727, 751, 776, 805, 835, 863, 891, 919, 949]
def st_pa : List Nat := [442, 545, 559, 575, 591, 606, 623, 642, 662, 683, 705, 728, 752, 777, 806, 836, 864, 892, 920, 950]
def st_pl : List Nat := [443, 546, 560, 576, 592, 607, 624, 643, 663, 684, 706, 729, 753, 778, 807, 837, 865, 893, 921, 951]
def st_ps : List (List Nat) := [[444, 445, 446, 447, 448, 449, 450, 451, 452, 453, 454, 455, 456, 457, 458, 459, 460, 461, 462, 463, 464, 465, 466, 467, 468, 469, 470, 471, 472, 473, 474, 475, 476, 477, 478, 479, 480, 481, 482, 483, 484, 485, 486, 487, 488, 489, 490, 491, 492, 493, 494, 495, 496, 497, 498, 499, 500, 501, 502, 503, 504, 505, 506, 507, 508, 509, 510, 511, 512, 513, 514, 515, 516, 517, 518, 519, 520, 521, 522, 523, 524, 525, 526, 527, 528, 529, 530, 531, 532, 533, 534, 535, 536, 537], [547, 548, 549, 550], [561, 562, 563, 564, 565], [577, 578, 579, 580], [593, 594], [608, 609, 610], [625, 626, 627, 628], [644, 645, 646, 647], [664, 665, 666, 667], [685, 686, 687, 688], [707, 708, 709, 710], [730, 731, 732, 733], [754, 755, 756, 757], [779, 780, 781, 782, 783, 784, 785], [808, 809, 810, 811, 812, 813, 814], [838, 839, 840, 841], [866, 867, 868], [894, 895], [922, 923, 924], [952, 953, 954, 955]]
def st_pn : List (List Nat) := [[0, 556, 571, 586, 600, 616, 634, 653, 673, 694, 716, 739, 763, 791, 820, 847, 874, 901, 930, 961], [556, 0, 572, 587, 601, 617, 635, 654, 674, 695, 717, 740, 764, 792, 821, 848, 875, 902, 931, 962], [571, 572, 0, 588, 602, 618, 636, 655, 675, 696, 718, 741, 765, 793, 822, 849, 876, 903, 932, 963], [586, 587, 588, 0, 603, 619, 637, 656, 676, 697, 719, 742, 766, 794, 823, 850, 877, 904, 933, 964], [600, 601, 602, 603, 0, 620, 638, 657, 677, 698, 720, 743, 767, 795, 824, 851, 878, 905, 934, 965], [616, 617, 618, 619, 620, 0, 639, 658, 678, 699, 721, 744, 768, 796, 825, 852, 879, 906, 935, 966], [634, 635, 636, 637, 638, 639, 0, 659, 679, 700, 722, 745, 769, 797, 826, 853, 880, 907, 936, 967], [653, 654, 655, 656, 657, 658, 659, 0, 680, 701, 723, 746, 770, 798, 827, 854, 881, 908, 937, 968], [673, 674, 675, 676, 677, 678, 679, 680, 0, 702, 724, 747, 771, 799, 828, 855, 882, 909, 938, 969], [694, 695, 696, 697, 698, 699, 700, 701, 702, 0, 725, 748, 772, 800, 829, 856, 883, 910, 939, 970], [716, 717, 718, 719, 720, 721, 722, 723, 724, 725, 0, 749, 773, 801, 830, 857, 884, 911, 940, 971], [739, 740, 741, 742, 743, 744, 745, 746, 747, 748, 749, 0, 774, 802, 831, 858, 885, 912, 941, 972], [763, 764, 765, 766, 767, 768, 769, 770, 771, 772, 773, 774, 0, 803, 832, 859, 886, 913, 942, 973], [791, 792, 793, 794, 795, 796, 797, 798, 799, 800, 801, 802, 803, 0, 833, 860, 887, 914, 943, 974], [820, 821, 822, 823, 824, 825, 826, 827, 828, 829, 830, 831, 832, 833, 0, 861, 888, 915, 944, 975], [847, 848, 849, 850, 851, 852, 853, 854, 855, 856, 857, 858, 859, 860, 861, 0, 889, 916, 945, 976], [874, 875, 876, 877, 878, 879, 880, 881, 882, 883, 884, 885, 886, 887, 888, 889, 0, 917, 946, 977], [901, 902, 903, 904, 905, 906, 907, 908, 909, 910, 911, 912, 913, 914, 915, 916, 917, 0, 947, 978], [930, 931, 932, 933, 934, 935, 936, 937, 938, 939, 940, 941, 942, 943, 944, 945, 946, 947, 0, 979], [961, 962, 963, 964, 965, 966, 967, 968, 969, 970, 971, 972, 973, 974, 975, 976, 977, 978, 979, 0]]
def st_px : List (List Nat) := [[0, 270, 290, 309, 250], [234, 0, 294, 314, 254], [235, 275, 0, 315, 255], [236, 276, 295, 0, 256], [230, 271, 291, 310, 0]]
theorem st_k1 : (List.range 20).all (fun i => decide (st_F[st_pe.getD i 0]? = some (.exactly (st_tm i) "java/lang/String"))) = true := by decide +kernel
theorem st_k2 : (List.range 20).all (fun i => decide (st_F[st_pc.getD i 0]? = some (.eq (.field (st_tm i) "java/lang/String" "coder" "B") (.int 0)))) = true := by decide +kernel
theorem st_k3 : (List.range 20).all (fun i => decide (st_F[st_pa.getD i 0]? = some (.arrayOf (st_v i) .byte))) = true := by decide +kernel
theorem st_k4 : (List.range 20).all (fun i => decide (st_F[st_pl.getD i 0]? = some (.eq (.length (st_v i)) (.int (Int32.ofNat (ex_len0.getD i 0)))))) = true := by decide +kernel
theorem st_k5 : (List.range 20).all (fun i => (List.range (ex_len0.getD i 0)).all (fun j => decide (st_F[(st_ps.getD i []).getD j 0]? = some (.eq (.elem (st_v i) (.int (Int32.ofNat j))) (.int ((ex_byt.getD i []).getD j 0)))))) = true := by decide +kernel
theorem st_k6 : (List.range 20).all (fun i => (List.range 20).all (fun j => decide (i = j) || decide (st_F[(st_pn.getD i []).getD j 0]? = some (.not (.eq (st_tm i) (st_tm j)))) || decide (st_F[(st_pn.getD i []).getD j 0]? = some (.not (.eq (st_tm j) (st_tm i)))))) = true := by decide +kernel
theorem st_k7 : (List.range 5).all (fun i => (List.range 5).all (fun j => decide (i = j) || decide (st_F[(st_px.getD i []).getD j 0]? = some (.not (.castable (ex_nm i) (ex_nm j)))))) = true := by decide +kernel
theorem st_k8 : (List.range 20).all (fun i => decide (ex_len0.getD i 0 < 2 ^ 31)) = true := by decide +kernel
theorem st_at {p i : Nat} {f : Nat → Cond} {args : Array Value} {s : State} {P : List Nat} (hs : ∀ c ∈ st_F, c.before args s = true) (h : (List.range p).all (fun i => decide (st_F[P.getD i 0]? = some (f i))) = true) (hi : i < p) : (f i).before args s = true :=
  hs _ (List.mem_of_getElem? (of_decide_eq_true (List.all_eq_true.mp h i (List.mem_range.mpr hi))))
def st_pr : List Nat := [1322, 2119, 2126, 2127, 2136, 2149, 2158, 2159, 2160, 2169, 2170, 2171, 2172, 2173, 2174, 2175, 2176, 2177, 2182, 2191]
theorem st_k9 : (List.range 20).all (fun i => match ex_str[i]? with
  | some q => decide (lw_tbl[st_pr.getD i 0]? = some (.stringRef q.1 q.2.1 q.2.2))
  | none => true) = true := by decide +kernel
theorem st_u0 : ∀ w ∈ u_ws RX0 TX0 7, w ∈ ex_W := by decide +kernel
theorem st_u1 : ∀ w ∈ u_ws RX1 TX1 13, w ∈ ex_W := by decide +kernel
theorem st_u2 : ∀ w ∈ u_ws RX2 TX2 4, w ∈ ex_W := by decide +kernel
theorem st_u3 : ∀ w ∈ u_ws RX3 TX3 3, w ∈ ex_W := by decide +kernel
theorem st_u4 : ∀ w ∈ u_ws RX4 TX4 7, w ∈ ex_W := by decide +kernel
theorem st_u5 : ∀ w ∈ u_ws RX5 TX5 2, w ∈ ex_W := by decide +kernel
theorem st_u6 : ∀ w ∈ u_ws RX6 TX6 15, w ∈ ex_W := by decide +kernel
theorem st_u7 : ∀ w ∈ u_ws RX7 TX7 14, w ∈ ex_W := by decide +kernel
theorem st_u8 : ∀ w ∈ u_ws RX8 TX8 7, w ∈ ex_W := by decide +kernel
theorem st_u9 : ∀ w ∈ u_ws RX9 TX9 5, w ∈ ex_W := by decide +kernel
theorem st_u10 : ∀ w ∈ u_ws RX10 TX10 6, w ∈ ex_W := by decide +kernel
theorem st_u11 : ∀ w ∈ u_ws RX11 TX11 20, w ∈ ex_W := by decide +kernel
theorem st_u12 : ∀ w ∈ u_ws RX12 TX12 46, w ∈ ex_W := by decide +kernel
theorem ex_classes : ∀ (a : Nat) (C : String) (T : u_T) (N : Nat), ex_cl[a]? = some (C, T, N) → ex_Cl C T N := by
  intro a C T N h
  match a, h with
  | 0, h => cases h; exact ⟨st_u0, ⟨tyX0, tyX0_ok⟩, nmX0⟩
  | 1, h => cases h; exact ⟨st_u1, ⟨tyX1, tyX1_ok⟩, nmX1⟩
  | 2, h => cases h; exact ⟨st_u2, ⟨tyX2, tyX2_ok⟩, nmX2⟩
  | 3, h => cases h; exact ⟨st_u3, ⟨tyX3, tyX3_ok⟩, nmX3⟩
  | 4, h => cases h; exact ⟨st_u4, ⟨tyX4, tyX4_ok⟩, nmX4⟩
  | 5, h => cases h; exact ⟨st_u5, ⟨tyX5, tyX5_ok⟩, nmX5⟩
  | 6, h => cases h; exact ⟨st_u6, ⟨tyX6, tyX6_ok⟩, nmX6⟩
  | 7, h => cases h; exact ⟨st_u7, ⟨tyX7, tyX7_ok⟩, nmX7⟩
  | 8, h => cases h; exact ⟨st_u8, ⟨tyX8, tyX8_ok⟩, nmX8⟩
  | 9, h => cases h; exact ⟨st_u9, ⟨tyX9, tyX9_ok⟩, nmX9⟩
  | 10, h => cases h; exact ⟨st_u10, ⟨tyX10, tyX10_ok⟩, nmX10⟩
  | 11, h => cases h; exact ⟨st_u11, ⟨tyX11, tyX11_ok⟩, nmX11⟩
  | 12, h => cases h; exact ⟨st_u12, ⟨tyX12, tyX12_ok⟩, nmX12⟩
  | _ + 13, h => simp at h
theorem st_arr {s : State} {args : Array Value} {ty : FieldType} (h : (Cond.arrayClass ty).before args s = true) (hp : refKind ty = false) : ∃ cA : ClassId, ArrOfT s cA ty ∧ va_RA s cA ty := by
  obtain ⟨c, k, comp, h1, h2, h3⟩ := Cond.arrayClass_spec h
  refine ⟨c, fun n z => ⟨fun k h => (by cases h), k, h2, comp, h3⟩, ?_⟩
  cases ty <;> first | exact h1 | (simp [refKind] at hp)
theorem st_arrO {s : State} {args : Array Value} {C : String} (h : (Cond.arrayOver (.object C)).before args s = true) : ∃ cA : ClassId, ArrOfT s cA (.object C) ∧ va_RA s cA (.object C) := by
  obtain ⟨comp, c, k, h1, -, h2, h3, h4⟩ := Cond.arrayOver_spec h
  exact ⟨c, fun n z => ⟨fun k h => (by cases h), k, h2, comp, h3⟩, k, comp, h2, h3, h1, h4⟩
theorem st_ws {s : State} {args : Array Value} (hts : ∀ w ∈ lw_tbl, w.before args s = true) : ex_ws s := by
  intro w hw
  have hm := (List.mem_filter.mp hw).2
  have h0 := hts w (List.mem_filter.mp hw).1
  unfold ex_mv at hm
  rw [Bool.or_eq_true] at hm
  rcases hm with g | g
  · exact word_at (State.WarmedH.refl s) (good_of_word g) h0
  · cases w <;> first | (simp at g; done) | exact va_tabs rfl rfl h0
set_option maxHeartbeats 4000000 in
set_option maxRecDepth 100000 in
/-- at the law's start the evaluator's relation holds, with nothing made yet -/
theorem st_G {s : State} {b L : Nat} {xs : Nat → Int32} (hts : ∀ w ∈ lw_tbl, w.before #[Value.ref b] s = true) (hX : va_X b L xs s s.heap) (hbl : b < s.heap.size) (hgv : (Jvm.Cond.and given_1 narrow_1).before #[Value.ref b] s = true) :
    ∃ G : ex_P, gb G = b ∧ gB G = s.heap.size ∧ gL G = L ∧ gX G = xs ∧ ex_G G s := by
  have hs := flat_of_before _ hgv
  have hAn : ∀ a : Nat, a < s.heap.size → ¬ (fun q : Nat => s.heap.size ≤ q) a := fun a h => Nat.not_le.mpr h
  obtain ⟨adK, adV, hE, hev⟩ := vk_Sof (tm := st_tm) (len := ex_len0) (byt := ex_byt) (N := 20) (A := fun q : Nat => s.heap.size ≤ q) (fun i hi => of_decide_eq_true (List.all_eq_true.mp st_k8 i (List.mem_range.mpr hi))) (fun i hi => st_at hs st_k1 hi) (fun i hi => st_at hs st_k2 hi) (fun i hi => st_at hs st_k3 hi) (fun i hi => st_at hs st_k4 hi)
    (fun i hi j hj => hs _ (List.mem_of_getElem? (of_decide_eq_true (List.all_eq_true.mp (List.all_eq_true.mp st_k5 i (List.mem_range.mpr hi)) j (List.mem_range.mpr hj)))))
    (fun i j hi hj hij => by
      have q := List.all_eq_true.mp (List.all_eq_true.mp st_k6 i (List.mem_range.mpr hi)) j (List.mem_range.mpr hj)
      simp only [Bool.or_eq_true, decide_eq_true_eq] at q
      rcases q with (q | q) | q
      · exact absurd q hij
      · exact Or.inl (hs _ (List.mem_of_getElem? q))
      · exact Or.inr (hs _ (List.mem_of_getElem? q))) hAn
  obtain ⟨c0, i0, hk0⟩ := u_known (C := RX0) (T := TX0) (N := 7) (n := 7) hts (fun w hw => (List.mem_filter.mp (st_u0 w hw)).1) (hts (.instantiable RX0 7) (List.mem_of_getElem? (i := 235) (by decide +kernel)))
  obtain ⟨c1, i1, hk1⟩ := u_known (C := RX1) (T := TX1) (N := 13) (n := 13) hts (fun w hw => (List.mem_filter.mp (st_u1 w hw)).1) (hts (.instantiable RX1 13) (List.mem_of_getElem? (i := 446) (by decide +kernel)))
  obtain ⟨c2, i2, hk2⟩ := u_known (C := RX2) (T := TX2) (N := 4) (n := 4) hts (fun w hw => (List.mem_filter.mp (st_u2 w hw)).1) (hts (.instantiable RX2 4) (List.mem_of_getElem? (i := 501) (by decide +kernel)))
  obtain ⟨c3, i3, hk3⟩ := u_known (C := RX3) (T := TX3) (N := 3) (n := 3) hts (fun w hw => (List.mem_filter.mp (st_u3 w hw)).1) (hts (.instantiable RX3 3) (List.mem_of_getElem? (i := 420) (by decide +kernel)))
  obtain ⟨c4, i4, hk4⟩ := u_known (C := RX4) (T := TX4) (N := 7) (n := 7) hts (fun w hw => (List.mem_filter.mp (st_u4 w hw)).1) (hts (.instantiable RX4 7) (List.mem_of_getElem? (i := 348) (by decide +kernel)))
  obtain ⟨c5, i5, hk5⟩ := u_known (C := RX5) (T := TX5) (N := 2) (n := 2) hts (fun w hw => (List.mem_filter.mp (st_u5 w hw)).1) (hts (.instantiable RX5 2) (List.mem_of_getElem? (i := 377) (by decide +kernel)))
  obtain ⟨c6, i6, hk6⟩ := u_known (C := RX6) (T := TX6) (N := 15) (n := 15) hts (fun w hw => (List.mem_filter.mp (st_u6 w hw)).1) (hts (.instantiable RX6 15) (List.mem_of_getElem? (i := 440) (by decide +kernel)))
  obtain ⟨c7, i7, hk7⟩ := u_known (C := RX7) (T := TX7) (N := 14) (n := 14) hts (fun w hw => (List.mem_filter.mp (st_u7 w hw)).1) (hts (.instantiable RX7 14) (List.mem_of_getElem? (i := 229) (by decide +kernel)))
  obtain ⟨c8, i8, hk8⟩ := u_known (C := RX8) (T := TX8) (N := 7) (n := 7) hts (fun w hw => (List.mem_filter.mp (st_u8 w hw)).1) (hts (.instantiable RX8 7) (List.mem_of_getElem? (i := 197) (by decide +kernel)))
  obtain ⟨c9, i9, hk9⟩ := u_known (C := RX9) (T := TX9) (N := 5) (n := 5) hts (fun w hw => (List.mem_filter.mp (st_u9 w hw)).1) (hts (.instantiable RX9 5) (List.mem_of_getElem? (i := 576) (by decide +kernel)))
  obtain ⟨c10, i10, hk10⟩ := u_known (C := RX10) (T := TX10) (N := 6) (n := 6) hts (fun w hw => (List.mem_filter.mp (st_u10 w hw)).1) (hts (.instantiable RX10 6) (List.mem_of_getElem? (i := 390) (by decide +kernel)))
  obtain ⟨c11, i11, hk11⟩ := u_known (C := RX11) (T := TX11) (N := 20) (n := 20) hts (fun w hw => (List.mem_filter.mp (st_u11 w hw)).1) (hts (.instantiable RX11 20) (List.mem_of_getElem? (i := 189) (by decide +kernel)))
  obtain ⟨c12, i12, hk12⟩ := u_known (C := RX12) (T := TX12) (N := 46) (n := 46) hts (fun w hw => (List.mem_filter.mp (st_u12 w hw)).1) (hts (.instantiable RX12 46) (List.mem_of_getElem? (i := 1923) (by decide +kernel)))
  obtain ⟨a0, ha0⟩ := st_arr (ty := .int) (hts _ (List.mem_of_getElem? (i := 227) (by decide +kernel))) rfl
  obtain ⟨a1, ha1⟩ := st_arr (ty := .boolean) (hts _ (List.mem_of_getElem? (i := 2071) (by decide +kernel))) rfl
  obtain ⟨a2, ha2⟩ := st_arr (ty := .long) (hts _ (List.mem_of_getElem? (i := 2636) (by decide +kernel))) rfl
  obtain ⟨a3, ha3⟩ := st_arrO (C := RX7) (hts _ (List.mem_of_getElem? (i := 426) (by decide +kernel)))
  obtain ⟨a4, ha4⟩ := st_arrO (C := RX9) (hts _ (List.mem_of_getElem? (i := 575) (by decide +kernel)))
  have hcp : (Term.static "java/lang/String" "COMPACT_STRINGS" "Z").eval #[Value.ref b] s none [] s = some (.int 1) := by
    have q := hs (.eq (.static "java/lang/String" "COMPACT_STRINGS" "Z") (.int 1)) (List.mem_of_getElem? (i := 6) (by decide +kernel))
    obtain ⟨w, h1, h2⟩ := Cond.eq_one (show (Cond.eq (.static "java/lang/String" "COMPACT_STRINGS" "Z") (.int 1)).holds _ s none s [] = true from q)
    rw [h1]
    exact h2.symm
  refine ⟨(fun k => [c0, c1, c2, c3, c4, c5, c6, c7, c8, c9, c10, c11, c12].getD k 0, fun k => [i0, i1, i2, i3, i4, i5, i6, i7, i8, i9, i10, i11, i12].getD k (fun _ => 0), fun ty => if ty = .int then a0 else if ty = .boolean then a1 else if ty = .long then a2 else if ty = .object RX7 then a3 else a4, b, s.heap.size, L, xs, fun j => if j < 100 then adK j else adV (j - 100)), rfl, rfl, rfl, rfl, ⟨?_, ?_⟩, hX, hbl, Nat.le_refl _, st_ws hts, va_AO.of (hts (.arrayOver (.object RX7)) (List.mem_of_getElem? (i := 426) (by decide +kernel))), va_AO.of (hts (.arrayOver (.object RX9)) (List.mem_of_getElem? (i := 575) (by decide +kernel))), vx_Zqof (hts _ (List.mem_of_getElem? (i := 755) (by decide +kernel))) (hts _ (List.mem_of_getElem? (i := 172) (by decide +kernel))) (hs _ (List.mem_of_getElem? (i := 4) (by decide +kernel))) hAn, vx_Zqof (hts _ (List.mem_of_getElem? (i := 757) (by decide +kernel))) (hts _ (List.mem_of_getElem? (i := 172) (by decide +kernel))) (hs _ (List.mem_of_getElem? (i := 5) (by decide +kernel))) hAn, ?_, ?_, ?_, va_Zof (hts _ (List.mem_of_getElem? (i := 782) (by decide +kernel))) (hts _ (List.mem_of_getElem? (i := 168) (by decide +kernel))) hcp hAn, va_Zqof (hts _ (List.mem_of_getElem? (i := 865) (by decide +kernel))) (hts _ (List.mem_of_getElem? (i := 170) (by decide +kernel))) (hs _ (List.mem_of_getElem? (i := 7) (by decide +kernel))) hAn⟩
  · intro k q hq
    match k, hq with
    | 0, hq => cases hq; exact hk0
    | 1, hq => cases hq; exact hk1
    | 2, hq => cases hq; exact hk2
    | 3, hq => cases hq; exact hk3
    | 4, hq => cases hq; exact hk4
    | 5, hq => cases hq; exact hk5
    | 6, hq => cases hq; exact hk6
    | 7, hq => cases hq; exact hk7
    | 8, hq => cases hq; exact hk8
    | 9, hq => cases hq; exact hk9
    | 10, hq => cases hq; exact hk10
    | 11, hq => cases hq; exact hk11
    | 12, hq => cases hq; exact hk12
    | _ + 13, hq => simp at hq
  · intro k q hq
    match k, hq with
    | 0, hq => cases hq; exact ha0
    | 1, hq => cases hq; exact ha1
    | 2, hq => cases hq; exact ha2
    | 3, hq => cases hq; exact ha3
    | 4, hq => cases hq; exact ha4
    | _ + 5, hq => simp at hq
  · intro i j hi hj hij
    have q := List.all_eq_true.mp (List.all_eq_true.mp st_k7 i (List.mem_range.mpr hi)) j (List.mem_range.mpr hj)
    simp only [Bool.or_eq_true, decide_eq_true_eq] at q
    rcases q with q | q
    · exact absurd q hij
    · exact va_Nc.of (hs _ (List.mem_of_getElem? q))
  · refine ⟨fun i hi => ?_, fun i j hi hj e => ?_⟩
    · have q := hE.1 i hi
      have e1 : (if i < 100 then adK i else adV (i - 100)) = adK i := if_pos (by omega)
      have e2 : (if 100 + i < 100 then adK (100 + i) else adV (100 + i - 100)) = adV i := by rw [if_neg (by omega), Nat.add_sub_cancel_left]
      show va_O _ (if i < 100 then adK i else adV (i - 100)) _ _ _ ∧ va_OF _ _ _ _ (if i < 100 then adK i else adV (i - 100)) _ _ _ ∧ va_OF _ _ _ (.ref (if 100 + i < 100 then adK (100 + i) else adV (100 + i - 100))) (if i < 100 then adK i else adV (i - 100)) _ _ _ ∧ va_T _ (if 100 + i < 100 then adK (100 + i) else adV (100 + i - 100)) _ _ _ _ _
      rw [e1, e2]
      exact q
    · have e1 : (if i < 100 then adK i else adV (i - 100)) = adK i := if_pos (by omega)
      have e2 : (if j < 100 then adK j else adV (j - 100)) = adK j := if_pos (by omega)
      have e3 : (if i < 100 then adK i else adV (i - 100)) = (if j < 100 then adK j else adV (j - 100)) := e
      rw [e1, e2] at e3
      exact hE.2 i j hi hj e3
  · intro j q hq
    have hj : j < 20 := (List.getElem?_eq_some_iff.mp hq).1
    have k9 := List.all_eq_true.mp st_k9 j (List.mem_range.mpr hj)
    rw [hq] at k9
    have k10 := of_decide_eq_true k9
    have e1 : (if j < 100 then adK j else adV (j - 100)) = adK j := if_pos (by omega)
    show vk_R _ _ _ (if j < 100 then adK j else adV (j - 100)) _
    rw [e1]
    have q9 := hev j hj
    have e2 : st_tm j = .string q.1 q.2.1 := by unfold st_tm; rw [hq]
    rw [e2] at q9
    exact vk_R.of (hts _ (List.mem_of_getElem? k10)) q9
