theorem ex_in (i : Nat) {w : Cond} (h : lw_tbl[i]? = some w) (hm : ex_mv w = true) : w ∈ ex_W := List.mem_filter.mpr ⟨List.mem_of_getElem? h, hm⟩
/-! STRING CONSTANTS: length() and charAt(k), the JDK's own code -/
def js_Pc (G : ex_P) (av : List Value) : Array Value → State → Prop := fun a U => a = av.toArray ∧ ex_G G U
def js_Qv : Array Value → State → Outcome → State → Prop := fun _ st o t => o = .returned none ∧ t.heap = st.heap
theorem js_blind {G : ex_P} {av : List Value} : FrameBlind (js_Pc G av) := by
  intro a U g mk hp
  exact ⟨hp.1, ex_G.moved (U := U.calling g mk a) (State.WarmedH.refl U) (fun q _ _ => rfl) hp.2.2.2.2.1 hp.2⟩
theorem js_pre {G : ex_P} {av : List Value} {s : State} (hG : ex_G G s) : ∀ U : State, U.heap = s.heap → s.WarmedH U.vm → js_Pc G av av.toArray U := by
  intro U hU hW
  exact ⟨rfl, ex_G.moved hW (fun q _ _ => by rw [hU]) (by rw [hU]; exact hG.2.2.2.1) hG⟩
section JSA
variable {l : Launch} {p : Program} {e : Env} {R : Room} {s : State} {m : MethodId} {args : Array Value} {below : List Frame} {meth : Method} {c : Code} {H : Heap} {locs : List Loc} {cells slots : Nat} {Q : State → Prop} {pc : Nat} {ls : Array Slot} {st0 rest : List Value} {a0 : Array Value}
theorem js_afterI {post : Int32 → Prop} (hr : va_Run p l e R s m args below meth c H locs cells slots 0 0 (F0 m pc ls st0) rest (vp_Si post a0) (fun _ => False)) (kk : ∀ r, post r → W p l e R s m args below meth c H locs cells slots Q (F0 m (pc + 3) ls (.int r :: rest))) : W p l e R s m args below meth c H locs cells slots Q (F0 m pc ls st0) := by
  intro T hT X
  obtain ⟨v, st₀, t, T', L, h0, X', hL, e1, e2, ⟨r, hv, hp, hh⟩, st⟩ := hr T hT X
  cases hv
  have hn : L = [] := List.eq_nil_iff_forall_not_mem.mpr fun q hq => hL q hq
  subst hn
  rw [List.append_nil] at X'
  obtain ⟨t2, a1, b1⟩ := kk r hp T' (by rw [e1, hh, h0]) X'
  exact ⟨t2, st t2 a1, b1⟩
theorem js_afterV (hr : va_Run p l e R s m args below meth c H locs cells slots 0 0 (F0 m pc ls st0) rest (js_Qv a0) (fun _ => False)) (kk : W p l e R s m args below meth c H locs cells slots Q (F0 m (pc + 3) ls rest)) : W p l e R s m args below meth c H locs cells slots Q (F0 m pc ls st0) := by
  intro T hT X
  obtain ⟨v, st₀, t, T', L, h0, X', hL, e1, e2, ⟨hv, hh⟩, st⟩ := hr T hT X
  cases hv
  have hn : L = [] := List.eq_nil_iff_forall_not_mem.mpr fun q hq => hL q hq
  subst hn
  rw [List.append_nil] at X'
  obtain ⟨t2, a1, b1⟩ := kk T' (by rw [e1, hh, h0]) X'
  exact ⟨t2, st t2 a1, b1⟩
theorem js_CB {own : String} {index maxL n : Nat} {y : MethodName} {bytes : ByteArray} {ret : Option FieldType} {rm : Room} (hws : ex_ws s) (h1 : rm.cells = 0) (h2 : rm.slots = 0) (h3 : rm.frames + 1 ≤ R.frames) (h4 : 8 + (maxL + 11) + rm.locals ≤ R.locals) (wc : Cond.code y bytes maxL ret ∈ ex_W) (wi : Cond.initialized y.cls ∈ ex_W) (wl : Cond.methodLink own index y ∈ ex_W) (hy : y.cls ≠ "java/lang/invoke/MethodHandle" ∧ y.cls ≠ "java/lang/invoke/VarHandle") (hpn : (parseMethodDescriptor y.desc).map (fun d => d.parameters.length) = some n) :
    CallB R s args own index y bytes maxL ret [.code y bytes maxL ret] rm 0 0 n :=
  ⟨h1, h2, h3, h4, fun w hw => by simp only [List.mem_singleton] at hw; subst hw; exact hws.later wc, List.mem_cons_self, hws.use wc args, hws.use wi args, hy, fun sig hsg => by rw [hsg] at hpn; exact (Option.some.inj hpn).symm, hws.use wl args⟩
end JSA
abbrev js_S : String := "java/lang/String"
def js_coder : MethodName := ⟨js_S, "coder", "()B"⟩
def js_length : MethodName := ⟨js_S, "length", "()I"⟩
def js_charAt : MethodName := ⟨js_S, "charAt", "(I)C"⟩
def js_latin : MethodName := ⟨js_S, "isLatin1", "()Z"⟩
def js_check : MethodName := ⟨js_S, "checkIndex", "(II)V"⟩
def js_char1 : MethodName := ⟨"java/lang/StringLatin1", "charAt", "([BI)C"⟩
def js_prec : MethodName := ⟨"jdk/internal/util/Preconditions", "checkIndex", "(IILjava/util/function/BiFunction;)I"⟩
-- WORDS
theorem js_w1 : Cond.fieldLink js_S 38 js_S "COMPACT_STRINGS" "Z" ∈ ex_W := ex_in 886 (by decide +kernel) rfl
theorem js_w2 : Cond.fieldLink js_S 15 js_S "coder" "B" ∈ ex_W := ex_in 1024 (by decide +kernel) rfl
theorem js_w3 : Cond.fieldLink js_S 9 js_S "value" "[B" ∈ ex_W := ex_in 1023 (by decide +kernel) rfl
theorem js_w4 : Cond.fieldLink js_S 1053 "jdk/internal/util/Preconditions" "SIOOBE_FORMATTER" "Ljava/util/function/BiFunction;" ∈ ex_W := ex_in 864 (by decide +kernel) rfl
theorem js_i0 : Cond.initialized js_S ∈ ex_W := ex_in 168 (by decide +kernel) rfl
theorem js_i1 : Cond.initialized js_char1.cls ∈ ex_W := ex_in 169 (by decide +kernel) rfl
theorem js_i2 : Cond.initialized js_prec.cls ∈ ex_W := ex_in 170 (by decide +kernel) rfl
theorem js_c_coder : Cond.code js_coder prog_30_method_152_code 1 (some .byte) ∈ ex_W := ex_in 885 (by decide +kernel) rfl
theorem js_c_length : Cond.code js_length prog_30_method_54_code 1 (some .int) ∈ ex_W := ex_in 881 (by decide +kernel) rfl
theorem js_c_charAt : Cond.code js_charAt prog_30_method_56_code 2 (some .char) ∈ ex_W := ex_in 1327 (by decide +kernel) rfl
theorem js_c_latin : Cond.code js_latin prog_30_method_154_code 1 (some .boolean) ∈ ex_W := ex_in 1331 (by decide +kernel) rfl
theorem js_c_check : Cond.code js_check prog_30_method_155_code 2 none ∈ ex_W := ex_in 1337 (by decide +kernel) rfl
theorem js_c_char1 : Cond.code js_char1 prog_32_method_2_code 2 (some .char) ∈ ex_W := ex_in 1334 (by decide +kernel) rfl
theorem js_c_prec : Cond.code js_prec prog_42_method_11_code 3 (some .int) ∈ ex_W := ex_in 1340 (by decide +kernel) rfl
theorem js_l1 : Cond.methodLink "java/lang/String" 335 js_coder ∈ ex_W := ex_in 882 (by decide +kernel) rfl
theorem js_l2 : Cond.methodLink "java/lang/String" 492 js_latin ∈ ex_W := ex_in 1328 (by decide +kernel) rfl
theorem js_l3 : Cond.methodLink "java/lang/String" 495 js_char1 ∈ ex_W := ex_in 1332 (by decide +kernel) rfl
theorem js_l4 : Cond.methodLink "java/lang/StringLatin1" 9 js_check ∈ ex_W := ex_in 1335 (by decide +kernel) rfl
theorem js_l5 : Cond.methodLink "java/lang/String" 1059 js_prec ∈ ex_W := ex_in 1338 (by decide +kernel) rfl
theorem js_m_coder : Cond.instanceMethod js_coder ∈ ex_W := ex_in 883 (by decide +kernel) rfl
theorem js_s_coder : Cond.selects js_S js_coder js_coder ∈ ex_W := ex_in 884 (by decide +kernel) rfl
theorem js_m_latin : Cond.instanceMethod js_latin ∈ ex_W := ex_in 1329 (by decide +kernel) rfl
theorem js_s_latin : Cond.selects js_S js_latin js_latin ∈ ex_W := ex_in 1330 (by decide +kernel) rfl
theorem js_m_length : Cond.instanceMethod js_length ∈ ex_W := ex_in 879 (by decide +kernel) rfl
theorem js_s_length : Cond.selects js_S js_length js_length ∈ ex_W := ex_in 880 (by decide +kernel) rfl
theorem js_m_charAt : Cond.instanceMethod js_charAt ∈ ex_W := ex_in 1325 (by decide +kernel) rfl
theorem js_s_charAt : Cond.selects js_S js_charAt js_charAt ∈ ex_W := ex_in 1326 (by decide +kernel) rfl
theorem js_t_char1 : Cond.static js_char1 ∈ ex_W := ex_in 1333 (by decide +kernel) rfl
theorem js_t_prec : Cond.static js_prec ∈ ex_W := ex_in 1339 (by decide +kernel) rfl
theorem js_t_check : Cond.static js_check ∈ ex_W := ex_in 1336 (by decide +kernel) rfl
set_option maxHeartbeats 4000000 in
set_option maxRecDepth 100000 in
theorem js_coder_met (l : Launch) (G : ex_P) {j : Nat} (hj : j < 20) : Met l js_coder [.code js_coder prog_30_method_152_code 1 (some .byte)] { frames := 0, cells := 0, slots := 0, locals := 0 } (js_Pc G [.ref (gS G j)]) (vp_Si (fun r => r = 0)) 0 0 (fun _ => False) := by
  refine Met.ofW (cc := prog_30_method_152_code) (maxL := 1) (ret := (some .byte)) (by decide) rfl ?_
  intro p e s m args below meth c s₁ B hml hv
  obtain ⟨rfl, hG⟩ := hv
  have hx := B.exec
  have hb := B.bytes
  have hr := B.returns
  have hown : s.vm.findClass js_coder.cls = some m.cls := findClass_of_methodNamed B.named
  have hlocks := B.notSynchronized
  have hws := hG.2.2.2.2.1
  have hE := hG.2.2.2.2.2.2.2.2.2.2.1
  have hZ1 := hG.2.2.2.2.2.2.2.2.2.2.2.2.1
  have hZ2 := hG.2.2.2.2.2.2.2.2.2.2.2.2.2
  have hl := lv_entry ([.ref (gS G j)]) (n := 1) (Nat.le_of_ble_eq_true rfl)
  rw [lg_entry_eq]
  generalize (lg_sl ([.ref (gS G j)]) ++ List.replicate (1 - (lg_sl ([.ref (gS G j)])).length) Slot.unset).toArray = ls at hl ⊢
  have hl : lv_has ls 1 [(0, .ref (gS G j))] := hl
  have hS : va_S (ex_A G) s.heap s.heap [] := va_S.rf
  obtain ⟨o1, o2, o3, o4⟩ := hE.1 j hj
  refine va_gets (A := ex_A G) hx hb hZ1 hS hown (hws.use js_w1 _) (fun _ h => h) (show decode prog_30_method_152_code 0 = .ok (.getstatic 38, 3) by decide +kernel) ?_
  refine lv_if_eq (tgt := 13) hx hb (show decode prog_30_method_152_code 3 = .ok (.ifCond .eq 10, 3) by decide +kernel) (by decide) (fun q => absurd q (by decide)) (fun _ => ?_)
  refine lv_aload_n hx hb (show decode prog_30_method_152_code 6 = .ok (.aload_n 0, 1) by decide +kernel) rfl (lv_at hl 0 rfl) ?_
  refine vk_getf (A := ex_A G) hx hb o2 hS hown (hws.use js_w2 _) (fun _ h => h) (show decode prog_30_method_152_code 7 = .ok (.getfield 15, 3) by decide +kernel) ?_
  refine lv_goto (tgt := 14) hx hb (show decode prog_30_method_152_code 10 = .ok (.goto 4, 3) by decide +kernel) (by decide) ?_
  exact W.zret (ty := .byte) hx hb hr rfl (fun t ht hW => ⟨_, rfl, rfl, ht⟩) (fun _ h => by cases h) (show decode prog_30_method_152_code 14 = .ok (.ireturn, 1) by decide +kernel) hlocks
set_option maxHeartbeats 4000000 in
set_option maxRecDepth 100000 in
theorem js_latin_met (l : Launch) (G : ex_P) {j : Nat} (hj : j < 20) : Met l js_latin [.code js_latin prog_30_method_154_code 1 (some .boolean)] { frames := 0, cells := 0, slots := 0, locals := 0 } (js_Pc G [.ref (gS G j)]) (vp_Si (fun r => r = 1)) 0 0 (fun _ => False) := by
  refine Met.ofW (cc := prog_30_method_154_code) (maxL := 1) (ret := (some .boolean)) (by decide) rfl ?_
  intro p e s m args below meth c s₁ B hml hv
  obtain ⟨rfl, hG⟩ := hv
  have hx := B.exec
  have hb := B.bytes
  have hr := B.returns
  have hown : s.vm.findClass js_latin.cls = some m.cls := findClass_of_methodNamed B.named
  have hlocks := B.notSynchronized
  have hws := hG.2.2.2.2.1
  have hE := hG.2.2.2.2.2.2.2.2.2.2.1
  have hZ1 := hG.2.2.2.2.2.2.2.2.2.2.2.2.1
  have hZ2 := hG.2.2.2.2.2.2.2.2.2.2.2.2.2
  have hl := lv_entry ([.ref (gS G j)]) (n := 1) (Nat.le_of_ble_eq_true rfl)
  rw [lg_entry_eq]
  generalize (lg_sl ([.ref (gS G j)]) ++ List.replicate (1 - (lg_sl ([.ref (gS G j)])).length) Slot.unset).toArray = ls at hl ⊢
  have hl : lv_has ls 1 [(0, .ref (gS G j))] := hl
  have hS : va_S (ex_A G) s.heap s.heap [] := va_S.rf
  obtain ⟨o1, o2, o3, o4⟩ := hE.1 j hj
  refine va_gets (A := ex_A G) hx hb hZ1 hS hown (hws.use js_w1 _) (fun _ h => h) (show decode prog_30_method_154_code 0 = .ok (.getstatic 38, 3) by decide +kernel) ?_
  refine lv_if_eq (tgt := 17) hx hb (show decode prog_30_method_154_code 3 = .ok (.ifCond .eq 14, 3) by decide +kernel) (by decide) (fun q => absurd q (by decide)) (fun _ => ?_)
  refine lv_aload_n hx hb (show decode prog_30_method_154_code 6 = .ok (.aload_n 0, 1) by decide +kernel) rfl (lv_at hl 0 rfl) ?_
  refine vk_getf (A := ex_A G) hx hb o2 hS hown (hws.use js_w2 _) (fun _ h => h) (show decode prog_30_method_154_code 7 = .ok (.getfield 15, 3) by decide +kernel) ?_
  refine lv_if_ne (tgt := 17) hx hb (show decode prog_30_method_154_code 10 = .ok (.ifCond .ne 7, 3) by decide +kernel) (by decide) (fun q => absurd q (by decide)) (fun _ => ?_)
  refine lv_iconst (v := 1) hx hb (show decode prog_30_method_154_code 13 = .ok (.iconst 1, 1) by decide +kernel) (by decide) ?_
  refine lv_goto (tgt := 18) hx hb (show decode prog_30_method_154_code 14 = .ok (.goto 4, 3) by decide +kernel) (by decide) ?_
  exact W.zret (ty := .boolean) hx hb hr rfl (fun t ht hW => ⟨_, rfl, rfl, ht⟩) (fun _ h => by cases h) (show decode prog_30_method_154_code 18 = .ok (.ireturn, 1) by decide +kernel) hlocks
set_option maxHeartbeats 4000000 in
set_option maxRecDepth 100000 in
theorem js_length_met (l : Launch) (G : ex_P) {j : Nat} (hj : j < 20) : Met l js_length [.code js_length prog_30_method_54_code 1 (some .int)] { frames := 1, cells := 0, slots := 0, locals := 20 } (js_Pc G [.ref (gS G j)]) (vp_Si (fun r => r = Int32.ofNat (ex_len0.getD j 0) >>> ((0 : Int32) &&& 31))) 0 0 (fun _ => False) := by
  refine Met.ofW (cc := prog_30_method_54_code) (maxL := 1) (ret := (some .int)) (by decide) rfl ?_
  intro p e s m args below meth c s₁ B hml hv
  obtain ⟨rfl, hG⟩ := hv
  have hx := B.exec
  have hb := B.bytes
  have hr := B.returns
  have hown : s.vm.findClass js_length.cls = some m.cls := findClass_of_methodNamed B.named
  have hlocks := B.notSynchronized
  have hws := hG.2.2.2.2.1
  have hE := hG.2.2.2.2.2.2.2.2.2.2.1
  have hZ1 := hG.2.2.2.2.2.2.2.2.2.2.2.2.1
  have hZ2 := hG.2.2.2.2.2.2.2.2.2.2.2.2.2
  have hl := lv_entry ([.ref (gS G j)]) (n := 1) (Nat.le_of_ble_eq_true rfl)
  rw [lg_entry_eq]
  generalize (lg_sl ([.ref (gS G j)]) ++ List.replicate (1 - (lg_sl ([.ref (gS G j)])).length) Slot.unset).toArray = ls at hl ⊢
  have hl : lv_has ls 1 [(0, .ref (gS G j))] := hl
  have hS : va_S (ex_A G) s.heap s.heap [] := va_S.rf
  obtain ⟨o1, o2, o3, o4⟩ := hE.1 j hj
  refine lv_aload_n hx hb (show decode prog_30_method_54_code 0 = .ok (.aload_n 0, 1) by decide +kernel) rfl (lv_at hl 0 rfl) ?_
  refine vk_getf (A := ex_A G) hx hb o3 hS hown (hws.use js_w3 _) (fun _ h => h) (show decode prog_30_method_54_code 1 = .ok (.getfield 9, 3) by decide +kernel) ?_
  refine va_tlen (A := ex_A G) hx hb o4 hS rfl (show decode prog_30_method_54_code 4 = .ok (.arraylength, 1) by decide +kernel) ?_
  refine lv_aload_n hx hb (show decode prog_30_method_54_code 5 = .ok (.aload_n 0, 1) by decide +kernel) rfl (lv_at hl 0 rfl) ?_
  refine js_afterI (rest := [.int (Int32.ofNat (ex_len0.getD j 0))]) (va_runV (C := js_S) (As := []) (n := 0) ⟨hx, hb, hml, hown, hws.all _⟩ (js_coder_met l G hj) ⟨js_CB hws rfl rfl (Nat.le_of_ble_eq_true rfl) (Nat.le_of_ble_eq_true rfl) js_c_coder js_i0 js_l1 (by decide) (by decide +kernel), hws.use js_m_coder _, hws.use js_s_coder _⟩ ⟨js_blind, vk_recv hE hj hS, js_pre (av := [.ref (gS G j)]) hG⟩ rfl rfl hl.1 rfl (lv_room (Nat.le_of_ble_eq_true rfl)) (show decode prog_30_method_54_code 6 = .ok (.invokevirtual 335, 3) by decide +kernel) ⟨Nat.zero_le _, Nat.zero_le _⟩) (fun r hr0 => ?_)
  subst hr0
  refine lv_ishr hx hb (show decode prog_30_method_54_code 9 = .ok (.ishr, 1) by decide +kernel) ?_
  exact W.iret hx hb hr (fun t ht hW => ⟨_, rfl, rfl, ht⟩) (fun _ h => by cases h) (show decode prog_30_method_54_code 10 = .ok (.ireturn, 1) by decide +kernel) hlocks
set_option maxHeartbeats 4000000 in
set_option maxRecDepth 100000 in
theorem js_prec_met (l : Launch) (G : ex_P) {i n : Int32} (h0 : ¬ i < 0) (h1 : i < n) {v : Value} (hv1 : v.category = 1) : Met l js_prec [.code js_prec prog_42_method_11_code 3 (some .int)] { frames := 0, cells := 0, slots := 0, locals := 0 } (js_Pc G [.int i, .int n, v]) (vp_Si (fun r => r = i)) 0 0 (fun _ => False) := by
  refine Met.ofW (cc := prog_42_method_11_code) (maxL := 3) (ret := (some .int)) (by decide) rfl ?_
  intro p e s m args below meth c s₁ B hml hv
  obtain ⟨rfl, hG⟩ := hv
  have hx := B.exec
  have hb := B.bytes
  have hr := B.returns
  have hown : s.vm.findClass js_prec.cls = some m.cls := findClass_of_methodNamed B.named
  have hlocks := B.notSynchronized
  have hws := hG.2.2.2.2.1
  have hE := hG.2.2.2.2.2.2.2.2.2.2.1
  have hZ1 := hG.2.2.2.2.2.2.2.2.2.2.2.2.1
  have hZ2 := hG.2.2.2.2.2.2.2.2.2.2.2.2.2
  have hl := lv_entry ([.int i, .int n, v]) (n := 3) (by have e : (Value.int i).category = 1 := rfl; have e2 : (Value.int n).category = 1 := rfl; simp [lg_sl, hv1, e, e2])
  rw [lg_entry_eq]
  generalize (lg_sl ([.int i, .int n, v]) ++ List.replicate (3 - (lg_sl ([.int i, .int n, v])).length) Slot.unset).toArray = ls at hl ⊢
  have hl : lv_has ls 3 [(0, .int i), (1, .int n)] := lv_sub hl [0, 1] rfl
  have hS : va_S (ex_A G) s.heap s.heap [] := va_S.rf
  refine lv_iload_n hx hb (show decode prog_42_method_11_code 0 = .ok (.iload_n 0, 1) by decide +kernel) rfl (lv_at hl 0 rfl) ?_
  refine lv_if_lt (tgt := 9) hx hb (show decode prog_42_method_11_code 1 = .ok (.ifCond .lt 8, 3) by decide +kernel) (by decide) (fun q => absurd q h0) (fun _ => ?_)
  refine lv_iload_n hx hb (show decode prog_42_method_11_code 4 = .ok (.iload_n 0, 1) by decide +kernel) rfl (lv_at hl 0 rfl) ?_
  refine lv_iload_n hx hb (show decode prog_42_method_11_code 5 = .ok (.iload_n 1, 1) by decide +kernel) rfl (lv_at hl 1 rfl) ?_
  refine lv_icmp_lt (tgt := 16) hx hb (show decode prog_42_method_11_code 6 = .ok (.if_icmp .lt 10, 3) by decide +kernel) (by decide) (fun _ => ?_) (fun q => absurd h1 q)
  refine lv_iload_n hx hb (show decode prog_42_method_11_code 16 = .ok (.iload_n 0, 1) by decide +kernel) rfl (lv_at hl 0 rfl) ?_
  exact W.iret hx hb hr (fun t ht hW => ⟨_, rfl, rfl, ht⟩) (fun _ h => by cases h) (show decode prog_42_method_11_code 17 = .ok (.ireturn, 1) by decide +kernel) hlocks
set_option maxHeartbeats 4000000 in
set_option maxRecDepth 100000 in
theorem js_check_met (l : Launch) (G : ex_P) {i n : Int32} (h0 : ¬ i < 0) (h1 : i < n) : Met l js_check [.code js_check prog_30_method_155_code 2 none] { frames := 1, cells := 0, slots := 0, locals := 22 } (js_Pc G [.int i, .int n]) (js_Qv) 0 0 (fun _ => False) := by
  refine Met.ofW (cc := prog_30_method_155_code) (maxL := 2) (ret := none) (by decide) rfl ?_
  intro p e s m args below meth c s₁ B hml hv
  obtain ⟨rfl, hG⟩ := hv
  have hx := B.exec
  have hb := B.bytes
  have hr := B.returns
  have hown : s.vm.findClass js_check.cls = some m.cls := findClass_of_methodNamed B.named
  have hlocks := B.notSynchronized
  have hws := hG.2.2.2.2.1
  have hE := hG.2.2.2.2.2.2.2.2.2.2.1
  have hZ1 := hG.2.2.2.2.2.2.2.2.2.2.2.2.1
  have hZ2 := hG.2.2.2.2.2.2.2.2.2.2.2.2.2
  have hl := lv_entry ([.int i, .int n]) (n := 2) (Nat.le_of_ble_eq_true rfl)
  rw [lg_entry_eq]
  generalize (lg_sl ([.int i, .int n]) ++ List.replicate (2 - (lg_sl ([.int i, .int n])).length) Slot.unset).toArray = ls at hl ⊢
  have hl : lv_has ls 2 [(0, .int i), (1, .int n)] := hl
  have hS : va_S (ex_A G) s.heap s.heap [] := va_S.rf
  refine lv_iload_n hx hb (show decode prog_30_method_155_code 0 = .ok (.iload_n 0, 1) by decide +kernel) rfl (lv_at hl 0 rfl) ?_
  refine lv_iload_n hx hb (show decode prog_30_method_155_code 1 = .ok (.iload_n 1, 1) by decide +kernel) rfl (lv_at hl 1 rfl) ?_
  obtain ⟨v, hv1, hv2⟩ : ∃ v : Value, v.category = 1 ∧ va_Z "jdk/internal/util/Preconditions" "SIOOBE_FORMATTER" "Ljava/util/function/BiFunction;" v (ex_A G) s s.heap := by
    rcases hZ2 with h | ⟨t, h⟩
    · exact ⟨_, rfl, h⟩
    · exact ⟨_, rfl, h⟩
  refine va_gets (A := ex_A G) hx hb hv2 hS hown (hws.use js_w4 _) (fun _ h => h) (show decode prog_30_method_155_code 2 = .ok (.getstatic 1053, 3) by decide +kernel) ?_
  refine js_afterI (rest := []) (va_runS (As := [.int i, .int n, v]) (n := 3) ⟨hx, hb, hml, hown, hws.all _⟩ (js_prec_met l G h0 h1 hv1) ⟨js_CB hws rfl rfl (Nat.le_of_ble_eq_true rfl) (Nat.le_of_ble_eq_true rfl) js_c_prec js_i2 js_l5 (by decide) (by decide +kernel), hws.use js_t_prec _⟩ ⟨js_blind, js_pre (av := [.int i, .int n, v]) hG⟩ rfl rfl hl.1 rfl (lv_room (Nat.le_of_ble_eq_true rfl)) (show decode prog_30_method_155_code 5 = .ok (.invokestatic 1059, 3) by decide +kernel) ⟨Nat.zero_le _, Nat.zero_le _⟩) (fun r hr0 => ?_)
  refine lv_pop hx hb (show decode prog_30_method_155_code 8 = .ok (.pop, 1) by decide +kernel) rfl ?_
  exact W.vret hx hb hr (fun t ht hW => ⟨rfl, ht⟩) (fun _ h => by cases h) (show decode prog_30_method_155_code 9 = .ok (.return_, 1) by decide +kernel) hlocks
/-- the char at i of the text j -/
def js_ch (j : Nat) (i : Int32) : Int32 := (((((ex_byt.getD j []).getD i.toNatClampNeg 0) &&& 255).toUInt32 % 65536).toInt32)
set_option maxHeartbeats 4000000 in
set_option maxRecDepth 100000 in
theorem js_char1_met (l : Launch) (G : ex_P) {j : Nat} (hj : j < 20) {i : Int32} (h0 : ¬ i < 0) (h1 : i.toNatClampNeg < ex_len0.getD j 0) (h2 : i < Int32.ofNat (ex_len0.getD j 0)) (h3 : narrow .char (.int (js_ch j i)) = .int (js_ch j i)) : Met l js_char1 [.code js_char1 prog_32_method_2_code 2 (some .char)] { frames := 2, cells := 0, slots := 0, locals := 43 } (js_Pc G [.ref (gS G (100 + j)), .int i]) (vp_Si (fun r => r = js_ch j i)) 0 0 (fun _ => False) := by
  refine Met.ofW (cc := prog_32_method_2_code) (maxL := 2) (ret := (some .char)) (by decide) rfl ?_
  intro p e s m args below meth c s₁ B hml hv
  obtain ⟨rfl, hG⟩ := hv
  have hx := B.exec
  have hb := B.bytes
  have hr := B.returns
  have hown : s.vm.findClass js_char1.cls = some m.cls := findClass_of_methodNamed B.named
  have hlocks := B.notSynchronized
  have hws := hG.2.2.2.2.1
  have hE := hG.2.2.2.2.2.2.2.2.2.2.1
  have hZ1 := hG.2.2.2.2.2.2.2.2.2.2.2.2.1
  have hZ2 := hG.2.2.2.2.2.2.2.2.2.2.2.2.2
  have hl := lv_entry ([.ref (gS G (100 + j)), .int i]) (n := 2) (Nat.le_of_ble_eq_true rfl)
  rw [lg_entry_eq]
  generalize (lg_sl ([.ref (gS G (100 + j)), .int i]) ++ List.replicate (2 - (lg_sl ([.ref (gS G (100 + j)), .int i])).length) Slot.unset).toArray = ls at hl ⊢
  have hl : lv_has ls 2 [(0, .ref (gS G (100 + j))), (1, .int i)] := hl
  have hS : va_S (ex_A G) s.heap s.heap [] := va_S.rf
  obtain ⟨o1, o2, o3, o4⟩ := hE.1 j hj
  refine lv_iload_n hx hb (show decode prog_32_method_2_code 0 = .ok (.iload_n 1, 1) by decide +kernel) rfl (lv_at hl 1 rfl) ?_
  refine lv_aload_n hx hb (show decode prog_32_method_2_code 1 = .ok (.aload_n 0, 1) by decide +kernel) rfl (lv_at hl 0 rfl) ?_
  refine va_tlen (A := ex_A G) hx hb o4 hS rfl (show decode prog_32_method_2_code 2 = .ok (.arraylength, 1) by decide +kernel) ?_
  refine js_afterV (rest := []) (va_runS (As := [.int i, .int (Int32.ofNat (ex_len0.getD j 0))]) (n := 2) ⟨hx, hb, hml, hown, hws.all _⟩ (js_check_met l G h0 h2) ⟨js_CB hws rfl rfl (Nat.le_of_ble_eq_true rfl) (Nat.le_of_ble_eq_true rfl) js_c_check js_i0 js_l4 (by decide) (by decide +kernel), hws.use js_t_check _⟩ ⟨js_blind, js_pre (av := [.int i, .int (Int32.ofNat (ex_len0.getD j 0))]) hG⟩ rfl rfl hl.1 rfl (lv_room (Nat.le_of_ble_eq_true rfl)) (show decode prog_32_method_2_code 3 = .ok (.invokestatic 9, 3) by decide +kernel) ⟨Nat.zero_le _, Nat.zero_le _⟩) ?_
  refine lv_aload_n hx hb (show decode prog_32_method_2_code 6 = .ok (.aload_n 0, 1) by decide +kernel) rfl (lv_at hl 0 rfl) ?_
  refine lv_iload_n hx hb (show decode prog_32_method_2_code 7 = .ok (.iload_n 1, 1) by decide +kernel) rfl (lv_at hl 1 rfl) ?_
  refine va_tb (A := ex_A G) hx hb o4 hS (i := i) (fun q => q.elim h0 (fun z => absurd h1 (Nat.not_lt.mpr z))) rfl (show decode prog_32_method_2_code 8 = .ok (.baload, 1) by decide +kernel) ?_
  refine lv_sipush (v := 255) hx hb (show decode prog_32_method_2_code 9 = .ok (.sipush 255, 3) by decide +kernel) (by decide) ?_
  refine lv_iand hx hb (show decode prog_32_method_2_code 12 = .ok (.iand, 1) by decide +kernel) ?_
  refine lv_i2c (v := js_ch j i) hx hb (show decode prog_32_method_2_code 13 = .ok (.i2c, 1) by decide +kernel) rfl ?_
  exact W.zret (ty := .char) hx hb hr h3 (fun t ht hW => ⟨_, rfl, rfl, ht⟩) (fun _ h => by cases h) (show decode prog_32_method_2_code 14 = .ok (.ireturn, 1) by decide +kernel) hlocks
set_option maxHeartbeats 4000000 in
set_option maxRecDepth 100000 in
theorem js_charAt_met (l : Launch) (G : ex_P) {j : Nat} (hj : j < 20) {i : Int32} (h0 : ¬ i < 0) (h1 : i.toNatClampNeg < ex_len0.getD j 0) (h2 : i < Int32.ofNat (ex_len0.getD j 0)) (h3 : narrow .char (.int (js_ch j i)) = .int (js_ch j i)) : Met l js_charAt [.code js_charAt prog_30_method_56_code 2 (some .char)] { frames := 3, cells := 0, slots := 0, locals := 64 } (js_Pc G [.ref (gS G j), .int i]) (vp_Si (fun r => r = js_ch j i)) 0 0 (fun _ => False) := by
  refine Met.ofW (cc := prog_30_method_56_code) (maxL := 2) (ret := (some .char)) (by decide) rfl ?_
  intro p e s m args below meth c s₁ B hml hv
  obtain ⟨rfl, hG⟩ := hv
  have hx := B.exec
  have hb := B.bytes
  have hr := B.returns
  have hown : s.vm.findClass js_charAt.cls = some m.cls := findClass_of_methodNamed B.named
  have hlocks := B.notSynchronized
  have hws := hG.2.2.2.2.1
  have hE := hG.2.2.2.2.2.2.2.2.2.2.1
  have hZ1 := hG.2.2.2.2.2.2.2.2.2.2.2.2.1
  have hZ2 := hG.2.2.2.2.2.2.2.2.2.2.2.2.2
  have hl := lv_entry ([.ref (gS G j), .int i]) (n := 2) (Nat.le_of_ble_eq_true rfl)
  rw [lg_entry_eq]
  generalize (lg_sl ([.ref (gS G j), .int i]) ++ List.replicate (2 - (lg_sl ([.ref (gS G j), .int i])).length) Slot.unset).toArray = ls at hl ⊢
  have hl : lv_has ls 2 [(0, .ref (gS G j)), (1, .int i)] := hl
  have hS : va_S (ex_A G) s.heap s.heap [] := va_S.rf
  obtain ⟨o1, o2, o3, o4⟩ := hE.1 j hj
  refine lv_aload_n hx hb (show decode prog_30_method_56_code 0 = .ok (.aload_n 0, 1) by decide +kernel) rfl (lv_at hl 0 rfl) ?_
  refine js_afterI (rest := []) (va_runV (C := js_S) (As := []) (n := 0) ⟨hx, hb, hml, hown, hws.all _⟩ (js_latin_met l G hj) ⟨js_CB hws rfl rfl (Nat.le_of_ble_eq_true rfl) (Nat.le_of_ble_eq_true rfl) js_c_latin js_i0 js_l2 (by decide) (by decide +kernel), hws.use js_m_latin _, hws.use js_s_latin _⟩ ⟨js_blind, vk_recv hE hj hS, js_pre (av := [.ref (gS G j)]) hG⟩ rfl rfl hl.1 rfl (lv_room (Nat.le_of_ble_eq_true rfl)) (show decode prog_30_method_56_code 1 = .ok (.invokevirtual 492, 3) by decide +kernel) ⟨Nat.zero_le _, Nat.zero_le _⟩) (fun r hr0 => ?_)
  subst hr0
  refine lv_if_eq (tgt := 16) hx hb (show decode prog_30_method_56_code 4 = .ok (.ifCond .eq 12, 3) by decide +kernel) (by decide) (fun q => absurd q (by decide)) (fun _ => ?_)
  refine lv_aload_n hx hb (show decode prog_30_method_56_code 7 = .ok (.aload_n 0, 1) by decide +kernel) rfl (lv_at hl 0 rfl) ?_
  refine vk_getf (A := ex_A G) hx hb o3 hS hown (hws.use js_w3 _) (fun _ h => h) (show decode prog_30_method_56_code 8 = .ok (.getfield 9, 3) by decide +kernel) ?_
  refine lv_iload_n hx hb (show decode prog_30_method_56_code 11 = .ok (.iload_n 1, 1) by decide +kernel) rfl (lv_at hl 1 rfl) ?_
  refine js_afterI (rest := []) (va_runS (As := [.ref (gS G (100 + j)), .int i]) (n := 2) ⟨hx, hb, hml, hown, hws.all _⟩ (js_char1_met l G hj h0 h1 h2 h3) ⟨js_CB hws rfl rfl (Nat.le_of_ble_eq_true rfl) (Nat.le_of_ble_eq_true rfl) js_c_char1 js_i1 js_l3 (by decide) (by decide +kernel), hws.use js_t_char1 _⟩ ⟨js_blind, js_pre (av := [.ref (gS G (100 + j)), .int i]) hG⟩ rfl rfl hl.1 rfl (lv_room (Nat.le_of_ble_eq_true rfl)) (show decode prog_30_method_56_code 12 = .ok (.invokestatic 495, 3) by decide +kernel) ⟨Nat.zero_le _, Nat.zero_le _⟩) (fun r hr0 => ?_)
  subst hr0
  exact W.zret (ty := .char) hx hb hr h3 (fun t ht hW => ⟨_, rfl, rfl, ht⟩) (fun _ h => by cases h) (show decode prog_30_method_56_code 15 = .ok (.ireturn, 1) by decide +kernel) hlocks
theorem js_bytes : ∀ j, j < 20 → (ex_len0.getD j 0 = (ex_byt.getD j []).length ∧ (ex_byt.getD j []).length < 1000) ∧ ∀ w ∈ ex_byt.getD j [], ((w &&& 255).toUInt32 % 65536).toInt32 = w ∧ narrow .char (.int w) = .int w := by decide +kernel
theorem js_n20 : ex_byt.length = 20 := by decide +kernel
theorem js_text {j : Nat} {t : List Int32} (h : ex_byt[j]? = some t) : j < 20 ∧ ex_byt.getD j [] = t := by
  have h1 := (List.getElem?_eq_some_iff.mp h).1
  rw [js_n20] at h1
  exact ⟨h1, by rw [List.getD_eq_getElem?_getD, h]; rfl⟩
theorem js_shr (n : Nat) (h : n < 1000) : Int32.ofNat n >>> ((0 : Int32) &&& 31) = Int32.ofNat n := by
  have h0 : (0 : Int32) &&& 31 = 0 := by decide
  rw [h0]
  exact Int32.shiftRight_zero
