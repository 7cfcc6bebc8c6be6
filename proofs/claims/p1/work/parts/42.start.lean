/-! what the Statement gives at the law's start, beside the words -/
theorem tw0 : Cond.declares ⟨"java/lang/RuntimeException", "<init>", "(Ljava/lang/String;)V"⟩ ∈ lw_tbl := List.mem_of_getElem? (i := 267) (by decide +kernel)
theorem tw1 : Cond.declares ⟨"java/lang/Exception", "<init>", "(Ljava/lang/String;)V"⟩ ∈ lw_tbl := List.mem_of_getElem? (i := 269) (by decide +kernel)
theorem tw2 : Cond.declares ⟨"java/lang/Throwable", "<init>", "(Ljava/lang/String;)V"⟩ ∈ lw_tbl := List.mem_of_getElem? (i := 271) (by decide +kernel)
theorem tw3 : Cond.castable "java/lang/IndexOutOfBoundsException" "java/lang/IndexOutOfBoundsException" ∈ lw_tbl := List.mem_of_getElem? (i := 505) (by decide +kernel)
theorem tw4 : Cond.castable "java/lang/IllegalArgumentException" "java/lang/IllegalArgumentException" ∈ lw_tbl := List.mem_of_getElem? (i := 265) (by decide +kernel)
theorem tw5 : Cond.castable "java/lang/ArithmeticException" "java/lang/ArithmeticException" ∈ lw_tbl := List.mem_of_getElem? (i := 1173) (by decide +kernel)
theorem tw6 : Cond.castable "java/util/ArrayList" "java/lang/Object" ∈ lw_tbl := List.mem_of_getElem? (i := 1916) (by decide +kernel)
theorem tw7 : Cond.castable "FoundrymarkModel$Machine" "java/lang/Object" ∈ lw_tbl := List.mem_of_getElem? (i := 1919) (by decide +kernel)
theorem tw8 : Cond.castable "FoundrymarkModel$Part" "java/lang/Object" ∈ lw_tbl := List.mem_of_getElem? (i := 1921) (by decide +kernel)
theorem tw9 : Cond.methodLinkNest "Foundrymark" 41 ⟨"Foundrymark$NumberSet", "<init>", "()V"⟩ "Foundrymark" ∈ lw_tbl := List.mem_of_getElem? (i := 121) (by decide +kernel)
theorem tw10 : Cond.methodLinkNest "Foundrymark" 46 ⟨"Foundrymark$Supplier", "<init>", "()V"⟩ "Foundrymark" ∈ lw_tbl := List.mem_of_getElem? (i := 133) (by decide +kernel)
theorem tw11 : Cond.methodLinkNest "Foundrymark$Part" 25 ⟨"Foundrymark$Chart", "<init>", "()V"⟩ "Foundrymark" ∈ lw_tbl := List.mem_of_getElem? (i := 416) (by decide +kernel)
theorem tw12 : Cond.arrayOver (.object "Foundrymark$Machine") ∈ lw_tbl := List.mem_of_getElem? (i := 110) (by decide +kernel)
theorem tw13 : Cond.arrayOver (.object "Foundrymark$Part") ∈ lw_tbl := List.mem_of_getElem? (i := 112) (by decide +kernel)
theorem tw14 : Cond.arrayOver (.object "Foundrymark$Supplier") ∈ lw_tbl := List.mem_of_getElem? (i := 114) (by decide +kernel)
theorem tw15 : Cond.arrayOver (.object "Foundrymark$Lot") ∈ lw_tbl := List.mem_of_getElem? (i := 116) (by decide +kernel)
theorem tw16 : Cond.arrayOver (.object "Foundrymark$Order") ∈ lw_tbl := List.mem_of_getElem? (i := 118) (by decide +kernel)
theorem tw17 : Cond.arrayOver (.object "Foundrymark$Component") ∈ lw_tbl := List.mem_of_getElem? (i := 411) (by decide +kernel)
theorem tw18 : Cond.arrayOver (.object "Foundrymark$Operation") ∈ lw_tbl := List.mem_of_getElem? (i := 413) (by decide +kernel)
theorem tw19 : Cond.arrayOver (.object "java/lang/Object") ∈ lw_tbl := List.mem_of_getElem? (i := 1291) (by decide +kernel)
theorem tw20 : Cond.stringRef "Foundrymark" 53 "a number of the machine is out of range" ∈ lw_tbl := List.mem_of_getElem? (i := 308) (by decide +kernel)
theorem tw21 : Cond.stringRef "Foundrymark" 70 "there is no such family" ∈ lw_tbl := List.mem_of_getElem? (i := 403) (by decide +kernel)
theorem tw22 : Cond.stringRef "Foundrymark" 389 "there is no such part" ∈ lw_tbl := List.mem_of_getElem? (i := 512) (by decide +kernel)
theorem tw23 : Cond.stringRef "Foundrymark" 387 "there is no such machine" ∈ lw_tbl := List.mem_of_getElem? (i := 572) (by decide +kernel)
theorem tw24 : Cond.stringRef "Foundrymark" 166 "there is no such supplier" ∈ lw_tbl := List.mem_of_getElem? (i := 705) (by decide +kernel)
theorem tw25 : Cond.stringRef "Foundrymark" 391 "there is no such lot" ∈ lw_tbl := List.mem_of_getElem? (i := 717) (by decide +kernel)
theorem tw26 : Cond.stringRef "Foundrymark" 393 "there is no such order" ∈ lw_tbl := List.mem_of_getElem? (i := 912) (by decide +kernel)
theorem tw27 : Cond.stringRef "Foundrymark" 116 "the time is out of range" ∈ lw_tbl := List.mem_of_getElem? (i := 574) (by decide +kernel)
theorem tw28 : Cond.stringRef "Foundrymark" 363 "no order was delivered" ∈ lw_tbl := List.mem_of_getElem? (i := 1180) (by decide +kernel)
theorem tw29 : Cond.stringRef "Foundrymark" 366 "there are no machines" ∈ lw_tbl := List.mem_of_getElem? (i := 1189) (by decide +kernel)
theorem tw30 : Cond.laysStatic "java/lang/Throwable" "UNASSIGNED_STACK" "[Ljava/lang/StackTraceElement;" ∈ lw_tbl := List.mem_of_getElem? (i := 290) (by decide +kernel)
theorem tw31 : Cond.laysStatic "java/lang/Throwable" "SUPPRESSED_SENTINEL" "Ljava/util/List;" ∈ lw_tbl := List.mem_of_getElem? (i := 292) (by decide +kernel)
theorem tw32 : Cond.initialized "java/lang/Throwable" ∈ lw_tbl := List.mem_of_getElem? (i := 70) (by decide +kernel)
theorem tw33 : Cond.laysStatic "java/util/ArrayList" "DEFAULTCAPACITY_EMPTY_ELEMENTDATA" "[Ljava/lang/Object;" ∈ lw_tbl := List.mem_of_getElem? (i := 1213) (by decide +kernel)
theorem tw34 : Cond.initialized "java/util/ArrayList" ∈ lw_tbl := List.mem_of_getElem? (i := 65) (by decide +kernel)
theorem tw35 : Cond.declares ⟨"java/util/Iterator", "hasNext", "()Z"⟩ ∈ lw_tbl := List.mem_of_getElem? (i := 1575) (by decide +kernel)
theorem tw36 : Cond.interfaceMethod "java/util/Iterator" "java/util/Iterator" "hasNext" "()Z" ∈ lw_tbl := List.mem_of_getElem? (i := 1574) (by decide +kernel)
theorem tw37 : Cond.publicMethod ⟨"java/util/ArrayList$Itr", "hasNext", "()Z"⟩ ∈ lw_tbl := List.mem_of_getElem? (i := 1580) (by decide +kernel)
theorem tw38 : Cond.unhidden "java/util/ArrayList$Itr" "hasNext" "()Z" ∈ lw_tbl := List.mem_of_getElem? (i := 1578) (by decide +kernel)
theorem tw39 : Cond.castable "java/util/ArrayList$Itr" "java/util/Iterator" ∈ lw_tbl := List.mem_of_getElem? (i := 1576) (by decide +kernel)
theorem tw40 : Cond.fieldLinkNest "java/util/ArrayList$Itr" 28 "java/util/ArrayList" "size" "I" "java/util/ArrayList" ∈ lw_tbl := List.mem_of_getElem? (i := 1216) (by decide +kernel)
theorem ex_s53 : Cond.exactly (.string "Foundrymark" 53) "java/lang/String" ∈ flatC (Jvm.Cond.and given_1 narrow_1) := by decide +kernel
theorem ex_s70 : Cond.exactly (.string "Foundrymark" 70) "java/lang/String" ∈ flatC (Jvm.Cond.and given_1 narrow_1) := by decide +kernel
theorem ex_s389 : Cond.exactly (.string "Foundrymark" 389) "java/lang/String" ∈ flatC (Jvm.Cond.and given_1 narrow_1) := by decide +kernel
theorem ex_s387 : Cond.exactly (.string "Foundrymark" 387) "java/lang/String" ∈ flatC (Jvm.Cond.and given_1 narrow_1) := by decide +kernel
theorem ex_s166 : Cond.exactly (.string "Foundrymark" 166) "java/lang/String" ∈ flatC (Jvm.Cond.and given_1 narrow_1) := by decide +kernel
theorem ex_s391 : Cond.exactly (.string "Foundrymark" 391) "java/lang/String" ∈ flatC (Jvm.Cond.and given_1 narrow_1) := by decide +kernel
theorem ex_s393 : Cond.exactly (.string "Foundrymark" 393) "java/lang/String" ∈ flatC (Jvm.Cond.and given_1 narrow_1) := by decide +kernel
theorem ex_s116 : Cond.exactly (.string "Foundrymark" 116) "java/lang/String" ∈ flatC (Jvm.Cond.and given_1 narrow_1) := by decide +kernel
theorem ex_s363 : Cond.exactly (.string "Foundrymark" 363) "java/lang/String" ∈ flatC (Jvm.Cond.and given_1 narrow_1) := by decide +kernel
theorem ex_s366 : Cond.exactly (.string "Foundrymark" 366) "java/lang/String" ∈ flatC (Jvm.Cond.and given_1 narrow_1) := by decide +kernel
theorem ex_U : Cond.isRef (.static "java/lang/Throwable" "UNASSIGNED_STACK" "[Ljava/lang/StackTraceElement;") ∈ flatC (Jvm.Cond.and given_1 narrow_1) := by decide +kernel
theorem ex_N : Cond.isRef (.static "java/lang/Throwable" "SUPPRESSED_SENTINEL" "Ljava/util/List;") ∈ flatC (Jvm.Cond.and given_1 narrow_1) := by decide +kernel
theorem ex_A : Cond.arrayOf (.static "java/util/ArrayList" "DEFAULTCAPACITY_EMPTY_ELEMENTDATA" "[Ljava/lang/Object;") (.object "java/lang/Object") ∈ flatC (Jvm.Cond.and given_1 narrow_1) := by decide +kernel
theorem ex_L : Cond.eq (.length (.static "java/util/ArrayList" "DEFAULTCAPACITY_EMPTY_ELEMENTDATA" "[Ljava/lang/Object;")) (.int 0) ∈ flatC (Jvm.Cond.and given_1 narrow_1) := by decide +kernel
theorem gP_start {p : Program} {s : State} {m : MethodId} {meth : Method} {c : Code} {b L : Nat} {xs : Nat → Int32} (C0 : lw_At p s m meth c b L xs) {A : Nat → Prop} (hA2 : ∀ q, A q → s.heap.size ≤ q) : ∃ tE, gP tE A s := by
  obtain ⟨-, -, -, -, -, hts, -, -, -, hgv⟩ := C0
  have hs := flat_of_before _ hgv
  have hA : ∀ a : Nat, a < s.heap.size → ¬ A a := fun a h1 h2 => absurd (hA2 a h2) (Nat.not_le.mpr h1)
  have hstr : ∀ {k : Nat} {tx : String}, Cond.stringRef "Foundrymark" k tx ∈ lw_tbl → Cond.exactly (.string "Foundrymark" k) "java/lang/String" ∈ flatC (Jvm.Cond.and given_1 narrow_1) → ∃ sa : Nat, vk_R "Foundrymark" k tx sa s := fun h1 h2 => by
    obtain ⟨a, _, _, _, q1, _⟩ := Cond.exactly_spec (first := s) (o := none) (s := s) (idx := []) (hs _ h2)
    exact ⟨a, vk_R.of (hts _ h1) q1⟩
  obtain ⟨tE, h1, h2⟩ := va_Tof (N := 0) (f := fun _ => .null) (A := A) (by decide) (hs _ ex_A) (va_eqt (hs _ ex_L)) (fun j hj => absurd hj (Nat.not_lt_zero j)) hA
  refine ⟨tE, (by
    intro x hx
    simp only [exD, List.mem_cons, List.not_mem_nil, or_false] at hx
    rcases hx with rfl | rfl | rfl
    · exact va_Nw.of rfl (hts _ tw0)
    · exact va_Nw.of rfl (hts _ tw1)
    · exact va_Nw.of rfl (hts _ tw2)), (by
    intro x hx
    simp only [exC, List.mem_cons, List.not_mem_nil, or_false] at hx
    rcases hx with rfl | rfl | rfl | rfl | rfl | rfl
    · exact va_Nw.of rfl (hts _ tw3)
    · exact va_Nw.of rfl (hts _ tw4)
    · exact va_Nw.of rfl (hts _ tw5)
    · exact va_Nw.of rfl (hts _ tw6)
    · exact va_Nw.of rfl (hts _ tw7)
    · exact va_Nw.of rfl (hts _ tw8)), (by
    intro x hx
    simp only [exN, List.mem_cons, List.not_mem_nil, or_false] at hx
    rcases hx with rfl | rfl | rfl
    · exact va_Nw.of rfl (hts _ tw9)
    · exact va_Nw.of rfl (hts _ tw10)
    · exact va_Nw.of rfl (hts _ tw11)), (by
    intro x hx
    simp only [exA, List.mem_cons, List.not_mem_nil, or_false] at hx
    rcases hx with rfl | rfl | rfl | rfl | rfl | rfl | rfl | rfl
    · exact va_AO.of (hts _ tw12)
    · exact va_AO.of (hts _ tw13)
    · exact va_AO.of (hts _ tw14)
    · exact va_AO.of (hts _ tw15)
    · exact va_AO.of (hts _ tw16)
    · exact va_AO.of (hts _ tw17)
    · exact va_AO.of (hts _ tw18)
    · exact va_AO.of (hts _ tw19)), (by
    intro x hx
    simp only [exS, List.mem_cons, List.not_mem_nil, or_false] at hx
    rcases hx with rfl | rfl | rfl | rfl | rfl | rfl | rfl | rfl | rfl | rfl
    · exact hstr tw20 ex_s53
    · exact hstr tw21 ex_s70
    · exact hstr tw22 ex_s389
    · exact hstr tw23 ex_s387
    · exact hstr tw24 ex_s166
    · exact hstr tw25 ex_s391
    · exact hstr tw26 ex_s393
    · exact hstr tw27 ex_s116
    · exact hstr tw28 ex_s363
    · exact hstr tw29 ex_s366), vx_Zqof (hts _ tw30) (hts _ tw32) (hs _ ex_U) hA, vx_Zqof (hts _ tw31) (hts _ tw32) (hs _ ex_N) hA, va_Zref (hts _ tw33) (hts _ tw34) h1 hA, h2, va_Fw.of (hts _ tw35) (hts _ tw36) (hts _ tw37) (hts _ tw38) (hts _ tw39), va_Nw.of rfl (hts _ tw40)⟩
abbrev wLw (tE h0 a1 a2 a3 a4 a5 h6 s0 s1 s2 s3 m0 m1 m2 m3 m4 m5 m6 o oD : Nat) (t1 t2 t3 t4 t5 tc tj td : ClassId) : va_W := [(h0, .inr (15, [.ref a1, .ref a2, .ref a3, .ref a4, .ref a5, .ref h6, .int 0, .int 0, .int 0, .int 0, .int 0, .int 0, .long 0, .long 0])), (a1, .inl (t1, 5, .inr (.inr (.inr (.inr (fun _ => none)))))), (a2, .inl (t2, 12, .inr (.inr (.inr (.inr (fun _ => none)))))), (a3, .inl (t3, 4, .inr (.inr (.inr (.inr (va_up (va_up (va_up (va_up (fun _ => none) 0 (some s0)) 1 (some s1)) 2 (some s2)) 3 (some s3))))))), (a4, .inl (t4, 90, .inr (.inr (.inr (.inr (fun _ => none)))))), (a5, .inl (t5, 30, .inr (.inr (.inr (.inr (fun _ => none)))))), (h6, .inr (10, [.long 0, .long 0])), (s0, .inr (14, [.int 110, .int 0, .int 0])), (s1, .inr (14, [.int 110, .int 0, .int 0])), (s2, .inr (14, [.int 110, .int 0, .int 0])), (s3, .inr (14, [.int 110, .int 0, .int 0])), (m0, .inr (20, [.int 0, .ref m1, .ref m2, .ref m3, .ref m4, .int 0, .ref m5, .ref m6, .int 0])), (m1, .inr (4, [.int 0, .ref tE, .int 0])), (m2, .inr (4, [.int 0, .ref tE, .int 0])), (m3, .inr (4, [.int 0, .ref tE, .int 0])), (m4, .inr (4, [.int 0, .ref tE, .int 0])), (m5, .inl (tc, 4, .inl (upd (upd (upd (upd (fun _ => 0) 0 110) 1 110) 2 110) 3 110))), (o, .inl (tj, 1, .inr (.inl (fun _ => 0)))), (oD, .inl (td, 1, .inr (.inr (.inr (.inl (fun _ => 0))))))]
abbrev tLw (t1 t2 t3 t4 t5 tc tj td : ClassId) : List (ClassId × FieldType) := [(t1, .object "Foundrymark$Machine"), (t2, .object "Foundrymark$Part"), (t3, .object "Foundrymark$Supplier"), (t4, .object "Foundrymark$Lot"), (t5, .object "Foundrymark$Order"), (tc, .char), (tj, .long), (td, .double)]
set_option maxHeartbeats 4000000 in
set_option maxRecDepth 100000 in
/-- THE LAW'S TAIL: behind a case, at i = 0, of a script of six ints: the loop ends, the answer is 1 -/
theorem law_tail {p : Program} {e : Env} {s : State} {m : MethodId} {below : List Frame} {meth : Method} {c : Code} (l : Launch) {b : Nat} {xs : Nat → Int32} (C0 : lw_At p s m meth c b 6 xs) {A : Nat → Prop} (hA2 : ∀ q, A q → s.heap.size ≤ q) {H : Heap} {locs : List Loc} {ls : Array Slot} {cells slots : Nat} (hS : va_S A s.heap H locs) (hl : lv_has ls 9 [(0, .ref b), (5, .int 0)]) (hc : cells ≤ 774141) (hs : slots ≤ 6779626) : W p l e room_1 s m #[Value.ref b] below meth c H locs cells slots (lw_Z below #[Value.ref b] s) (F0 m 2441 ls []) := by
  obtain ⟨hx, hb, hr, hml, hown0, hts, hX, hbl, hlocks, hgv⟩ := id C0
  have hta : ∀ w ∈ WA, w.before #[Value.ref b] s = true := fun w h => hts w (WA_in w h)
  have hown : s.vm.findClass "FoundrymarkLaw" = some m.cls := hown0
  have hbA : ¬ A b := fun h => absurd (hA2 b h) (Nat.not_le.mpr hbl)
  refine lv_iinc (v := 6) (lv' := [(5, .int 6), (0, .ref b)]) hx hb dL_law_2441 hl (k := 1) rfl (by decide) (by decide) rfl (fun ls hl => ?_)
  refine lv_goto (tgt := 28) hx hb dL_law_2444 (by decide) ?_
  refine lv_iload hx hb dL_law_28 (lv_at hl 0 rfl) ?_
  refine lv_aload_n hx hb dL_law_30 rfl (lv_at hl 1 rfl) ?_
  refine va_slen hx hb hX hbl hbA hS dL_law_31 ?_
  refine lv_bipush (v := 6) hx hb dL_law_32 (by decide) ?_
  refine lv_isub hx hb dL_law_34 ?_
  refine lv_icmp_gt (tgt := 2447) hx hb dL_law_35 (by decide) (fun c1 => ?_) (fun c1 => ?_)
  · refine lv_iconst (v := 1) hx hb dL_law_2447 (by decide) ?_
    refine va_forget (fun q hq => hA2 _ (hS.2.2 q hq)) ?_
    refine W.widen (k := 774141) (n := 6779626) hc hs ?_
    refine W.base ?_
    exact lw_ret (Drawn.sameBut.refl s.drawn lw_cs) hx hb hr hlocks dL_law_2448
  · exact absurd (by decide) c1
