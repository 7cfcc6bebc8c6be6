/-! what the Statement gives at the law's start, beside the words -/
theorem tw0 : Cond.declares ⟨"java/lang/RuntimeException", "<init>", "(Ljava/lang/String;)V"⟩ ∈ lw_tbl := List.mem_of_getElem? (i := 170) (by decide +kernel)
theorem tw1 : Cond.declares ⟨"java/lang/Exception", "<init>", "(Ljava/lang/String;)V"⟩ ∈ lw_tbl := List.mem_of_getElem? (i := 172) (by decide +kernel)
theorem tw2 : Cond.declares ⟨"java/lang/Throwable", "<init>", "(Ljava/lang/String;)V"⟩ ∈ lw_tbl := List.mem_of_getElem? (i := 174) (by decide +kernel)
theorem tw3 : Cond.castable "java/lang/UnsupportedOperationException" "java/lang/UnsupportedOperationException" ∈ lw_tbl := List.mem_of_getElem? (i := 515) (by decide +kernel)
theorem tw4 : Cond.castable "java/lang/IllegalArgumentException" "java/lang/IllegalArgumentException" ∈ lw_tbl := List.mem_of_getElem? (i := 318) (by decide +kernel)
theorem tw5 : Cond.castable "java/lang/IllegalStateException" "java/lang/IllegalStateException" ∈ lw_tbl := List.mem_of_getElem? (i := 334) (by decide +kernel)
theorem tw6 : Cond.castable "java/lang/IndexOutOfBoundsException" "java/lang/IndexOutOfBoundsException" ∈ lw_tbl := List.mem_of_getElem? (i := 502) (by decide +kernel)
theorem tw7 : Cond.castable "java/util/NoSuchElementException" "java/util/NoSuchElementException" ∈ lw_tbl := List.mem_of_getElem? (i := 957) (by decide +kernel)
theorem tw8 : Cond.stringRef "Foundrymark" 246 "the order cannot be promised" ∈ lw_tbl := List.mem_of_getElem? (i := 1022) (by decide +kernel)
theorem tw9 : Cond.stringRef "Foundrymark" 258 "the order cannot be released" ∈ lw_tbl := List.mem_of_getElem? (i := 1046) (by decide +kernel)
theorem tw10 : Cond.stringRef "Foundrymark" 278 "the order has no job in work" ∈ lw_tbl := List.mem_of_getElem? (i := 870) (by decide +kernel)
theorem tw11 : Cond.stringRef "Foundrymark" 289 "the job does not have so many pieces" ∈ lw_tbl := List.mem_of_getElem? (i := 871) (by decide +kernel)
theorem tw12 : Cond.stringRef "Foundrymark" 302 "the order cannot be delivered" ∈ lw_tbl := List.mem_of_getElem? (i := 1059) (by decide +kernel)
theorem tw13 : Cond.stringRef "Foundrymark" 233 "there are 30 orders" ∈ lw_tbl := List.mem_of_getElem? (i := 760) (by decide +kernel)
theorem tw14 : Cond.stringRef "Foundrymark" 326 "the job made no lot" ∈ lw_tbl := List.mem_of_getElem? (i := 964) (by decide +kernel)
theorem tw15 : Cond.stringRef "Foundrymark" 332 "the job is not finished" ∈ lw_tbl := List.mem_of_getElem? (i := 979) (by decide +kernel)
theorem tw16 : Cond.stringRef "Foundrymark" 353 "the order was not delivered" ∈ lw_tbl := List.mem_of_getElem? (i := 994) (by decide +kernel)
theorem tw17 : Cond.stringRef "Foundrymark" 393 "there is no such order" ∈ lw_tbl := List.mem_of_getElem? (i := 860) (by decide +kernel)
theorem tw18 : Cond.methodLinkNest "Foundrymark" 41 ⟨"Foundrymark$NumberSet", "<init>", "()V"⟩ "Foundrymark" ∈ lw_tbl := List.mem_of_getElem? (i := 89) (by decide +kernel)
theorem tw19 : Cond.methodLinkNest "Foundrymark" 46 ⟨"Foundrymark$Supplier", "<init>", "()V"⟩ "Foundrymark" ∈ lw_tbl := List.mem_of_getElem? (i := 101) (by decide +kernel)
theorem tw20 : Cond.methodLinkNest "Foundrymark$Lot" 9 ⟨"Foundrymark$NumberSet", "<init>", "()V"⟩ "Foundrymark" ∈ lw_tbl := List.mem_of_getElem? (i := 627) (by decide +kernel)
theorem tw21 : Cond.methodLinkNest "Foundrymark$Order" 11 ⟨"Foundrymark$Job", "<init>", "()V"⟩ "Foundrymark" ∈ lw_tbl := List.mem_of_getElem? (i := 768) (by decide +kernel)
theorem tw22 : Cond.methodLinkNest "Foundrymark$Order" 20 ⟨"Foundrymark$NumberSet", "<init>", "()V"⟩ "Foundrymark" ∈ lw_tbl := List.mem_of_getElem? (i := 800) (by decide +kernel)
theorem tw23 : Cond.methodLinkNest "Foundrymark$Part" 25 ⟨"Foundrymark$Chart", "<init>", "()V"⟩ "Foundrymark" ∈ lw_tbl := List.mem_of_getElem? (i := 414) (by decide +kernel)
theorem tw24 : Cond.arrayOver (.object "Foundrymark$Machine") ∈ lw_tbl := List.mem_of_getElem? (i := 78) (by decide +kernel)
theorem tw25 : Cond.arrayOver (.object "Foundrymark$Part") ∈ lw_tbl := List.mem_of_getElem? (i := 80) (by decide +kernel)
theorem tw26 : Cond.arrayOver (.object "Foundrymark$Supplier") ∈ lw_tbl := List.mem_of_getElem? (i := 82) (by decide +kernel)
theorem tw27 : Cond.arrayOver (.object "Foundrymark$Lot") ∈ lw_tbl := List.mem_of_getElem? (i := 84) (by decide +kernel)
theorem tw28 : Cond.arrayOver (.object "Foundrymark$Order") ∈ lw_tbl := List.mem_of_getElem? (i := 86) (by decide +kernel)
theorem tw29 : Cond.arrayOver (.object "Foundrymark$Component") ∈ lw_tbl := List.mem_of_getElem? (i := 409) (by decide +kernel)
theorem tw30 : Cond.arrayOver (.object "Foundrymark$Operation") ∈ lw_tbl := List.mem_of_getElem? (i := 411) (by decide +kernel)
theorem tw31 : Cond.laysStatic "java/lang/Throwable" "UNASSIGNED_STACK" "[Ljava/lang/StackTraceElement;" ∈ lw_tbl := List.mem_of_getElem? (i := 193) (by decide +kernel)
theorem tw32 : Cond.laysStatic "java/lang/Throwable" "SUPPRESSED_SENTINEL" "Ljava/util/List;" ∈ lw_tbl := List.mem_of_getElem? (i := 195) (by decide +kernel)
theorem tw33 : Cond.initialized "java/lang/Throwable" ∈ lw_tbl := List.mem_of_getElem? (i := 43) (by decide +kernel)
theorem tw34 : Cond.arrayClass .int ∈ lw_tbl := List.mem_of_getElem? (i := 848) (by decide +kernel)
theorem ex_s246 : Cond.exactly (.string "Foundrymark" 246) "java/lang/String" ∈ flatC (Jvm.Cond.and given_1 narrow_1) := by decide +kernel
theorem ex_s258 : Cond.exactly (.string "Foundrymark" 258) "java/lang/String" ∈ flatC (Jvm.Cond.and given_1 narrow_1) := by decide +kernel
theorem ex_s278 : Cond.exactly (.string "Foundrymark" 278) "java/lang/String" ∈ flatC (Jvm.Cond.and given_1 narrow_1) := by decide +kernel
theorem ex_s289 : Cond.exactly (.string "Foundrymark" 289) "java/lang/String" ∈ flatC (Jvm.Cond.and given_1 narrow_1) := by decide +kernel
theorem ex_s302 : Cond.exactly (.string "Foundrymark" 302) "java/lang/String" ∈ flatC (Jvm.Cond.and given_1 narrow_1) := by decide +kernel
theorem ex_s233 : Cond.exactly (.string "Foundrymark" 233) "java/lang/String" ∈ flatC (Jvm.Cond.and given_1 narrow_1) := by decide +kernel
theorem ex_s326 : Cond.exactly (.string "Foundrymark" 326) "java/lang/String" ∈ flatC (Jvm.Cond.and given_1 narrow_1) := by decide +kernel
theorem ex_s332 : Cond.exactly (.string "Foundrymark" 332) "java/lang/String" ∈ flatC (Jvm.Cond.and given_1 narrow_1) := by decide +kernel
theorem ex_s353 : Cond.exactly (.string "Foundrymark" 353) "java/lang/String" ∈ flatC (Jvm.Cond.and given_1 narrow_1) := by decide +kernel
theorem ex_s393 : Cond.exactly (.string "Foundrymark" 393) "java/lang/String" ∈ flatC (Jvm.Cond.and given_1 narrow_1) := by decide +kernel
theorem ex_U : Cond.isRef (.static "java/lang/Throwable" "UNASSIGNED_STACK" "[Ljava/lang/StackTraceElement;") ∈ flatC (Jvm.Cond.and given_1 narrow_1) := by decide +kernel
theorem ex_N : Cond.isRef (.static "java/lang/Throwable" "SUPPRESSED_SENTINEL" "Ljava/util/List;") ∈ flatC (Jvm.Cond.and given_1 narrow_1) := by decide +kernel
theorem ex_c0 : Cond.not (Cond.castable "java/lang/UnsupportedOperationException" "java/lang/IndexOutOfBoundsException") ∈ flatC (Jvm.Cond.and given_1 narrow_1) := by decide +kernel
theorem ex_c1 : Cond.not (Cond.castable "java/lang/UnsupportedOperationException" "java/lang/IllegalArgumentException") ∈ flatC (Jvm.Cond.and given_1 narrow_1) := by decide +kernel
theorem ex_c2 : Cond.not (Cond.castable "java/lang/IllegalArgumentException" "java/lang/IndexOutOfBoundsException") ∈ flatC (Jvm.Cond.and given_1 narrow_1) := by decide +kernel
theorem ex_c3 : Cond.not (Cond.castable "java/lang/IllegalArgumentException" "java/lang/UnsupportedOperationException") ∈ flatC (Jvm.Cond.and given_1 narrow_1) := by decide +kernel
theorem ex_c4 : Cond.not (Cond.castable "java/lang/IllegalStateException" "java/lang/IndexOutOfBoundsException") ∈ flatC (Jvm.Cond.and given_1 narrow_1) := by decide +kernel
theorem ex_c5 : Cond.not (Cond.castable "java/lang/IllegalStateException" "java/lang/IllegalArgumentException") ∈ flatC (Jvm.Cond.and given_1 narrow_1) := by decide +kernel
theorem ex_c6 : Cond.not (Cond.castable "java/util/NoSuchElementException" "java/lang/IndexOutOfBoundsException") ∈ flatC (Jvm.Cond.and given_1 narrow_1) := by decide +kernel
theorem nseW_in : ∀ w ∈ nseW, w ∈ lw_tbl := fun w hw => ((show GoodIn lw_tbl nseW from goodIn_of _ (by decide +kernel)) w hw).1
theorem AO_K {C : String} {s : State} (h : va_AO C s) : ∃ cA : ClassId, ArrOfT s cA (.object C) ∧ va_RA s cA (.object C) := by
  obtain ⟨comp, c, k, h1, h2, h3, h4, h5⟩ := Cond.arrayOver_spec h
  exact ⟨c, fun N z => ⟨fun k h => (by cases h), k, h3, comp, h4⟩, k, comp, h3, h4, h1, h5⟩
theorem AC_K {args : Array Value} {s : State} (h : (Cond.arrayClass .int).before args s = true) : ∃ cA : ClassId, ArrOfT s cA .int ∧ va_RA s cA .int := by
  obtain ⟨c, k, comp, h1, h2, h3⟩ := Cond.arrayClass_spec h
  exact ⟨c, fun N z => ⟨fun k h => (by cases h), k, h2, comp, h3⟩, h1⟩
def LwC (p : Program) (l : Launch) (s : State) (m : MethodId) (meth : Method) (c : Code) (b Ln : Nat) (xs : Nat → Int32) (A : Nat → Prop) (D : va_G) (tA : Nat → ClassId) : Prop :=
  lw_At p s m meth c b Ln xs ∧ Ln ≤ 1000 ∧ (∀ q, s.heap.size ≤ q → A q) ∧ (∀ q, A q → s.heap.size ≤ q) ∧ gX s ∧ gQ A s ∧ va_K D vwCl (gT tA) s ∧ l.stackTraces = false
theorem gX_start {p : Program} {s : State} {m : MethodId} {meth : Method} {c : Code} {b L : Nat} {xs : Nat → Int32} (C0 : lw_At p s m meth c b L xs) : gX s := by
  obtain ⟨-, -, -, -, -, hts, -, -, -, hgv⟩ := C0
  exact ⟨⟨va_Nw.of rfl (hts _ tw18), va_Nw.of rfl (hts _ tw19), va_Nw.of rfl (hts _ tw20), va_Nw.of rfl (hts _ tw21), va_Nw.of rfl (hts _ tw22), va_Nw.of rfl (hts _ tw23)⟩, ⟨va_AO.of (hts _ tw24), va_AO.of (hts _ tw25), va_AO.of (hts _ tw26), va_AO.of (hts _ tw27), va_AO.of (hts _ tw28), va_AO.of (hts _ tw29), va_AO.of (hts _ tw30)⟩⟩
theorem gQ_start {p : Program} {s : State} {m : MethodId} {meth : Method} {c : Code} {b L : Nat} {xs : Nat → Int32} (C0 : lw_At p s m meth c b L xs) {A : Nat → Prop} (hA2 : ∀ q, A q → s.heap.size ≤ q) : gQ A s := by
  obtain ⟨-, -, -, -, -, hts, -, -, -, hgv⟩ := C0
  have hs := flat_of_before _ hgv
  have hA : ∀ a : Nat, a < s.heap.size → ¬ A a := fun a h1 h2 => absurd (hA2 a h2) (Nat.not_le.mpr h1)
  have hstr : ∀ {k : Nat} {tx : String}, Cond.stringRef "Foundrymark" k tx ∈ lw_tbl → Cond.exactly (.string "Foundrymark" k) "java/lang/String" ∈ flatC (Jvm.Cond.and given_1 narrow_1) → ∃ sa : Nat, vk_R "Foundrymark" k tx sa s := fun h1 h2 => by
    obtain ⟨a, _, _, _, q1, _⟩ := Cond.exactly_spec (first := s) (o := none) (s := s) (idx := []) (hs _ h2)
    exact ⟨a, vk_R.of (hts _ h1) q1⟩
  refine ⟨(by
    intro x hx
    simp only [exD, List.mem_cons, List.not_mem_nil, or_false] at hx
    rcases hx with rfl | rfl | rfl
    · exact va_Nw.of rfl (hts _ tw0)
    · exact va_Nw.of rfl (hts _ tw1)
    · exact va_Nw.of rfl (hts _ tw2)), (by
    intro x hx
    simp only [exX, List.mem_cons, List.not_mem_nil, or_false] at hx
    rcases hx with rfl | rfl | rfl | rfl | rfl
    · exact va_Nw.of rfl (hts _ tw3)
    · exact va_Nw.of rfl (hts _ tw4)
    · exact va_Nw.of rfl (hts _ tw5)
    · exact va_Nw.of rfl (hts _ tw6)
    · exact va_Nw.of rfl (hts _ tw7)), fun w hw => va_Nw.of (nseW_t w hw).1 (hts w (nseW_in w hw)), (by
    intro x hx
    simp only [exN, List.mem_cons, List.not_mem_nil, or_false] at hx
    rcases hx with rfl | rfl | rfl | rfl | rfl | rfl | rfl
    · exact va_Nc.of (hs _ ex_c0)
    · exact va_Nc.of (hs _ ex_c1)
    · exact va_Nc.of (hs _ ex_c2)
    · exact va_Nc.of (hs _ ex_c3)
    · exact va_Nc.of (hs _ ex_c4)
    · exact va_Nc.of (hs _ ex_c5)
    · exact va_Nc.of (hs _ ex_c6)), (by
    intro x hx
    simp only [exS, List.mem_cons, List.not_mem_nil, or_false] at hx
    rcases hx with rfl | rfl | rfl | rfl | rfl | rfl | rfl | rfl | rfl | rfl
    · exact hstr tw8 ex_s246
    · exact hstr tw9 ex_s258
    · exact hstr tw10 ex_s278
    · exact hstr tw11 ex_s289
    · exact hstr tw12 ex_s302
    · exact hstr tw13 ex_s233
    · exact hstr tw14 ex_s326
    · exact hstr tw15 ex_s332
    · exact hstr tw16 ex_s353
    · exact hstr tw17 ex_s393), vx_Zqof (hts _ tw31) (hts _ tw33) (hs _ ex_U) hA, vx_Zqof (hts _ tw32) (hts _ tw33) (hs _ ex_N) hA⟩
theorem lin_J0 : ∀ w ∈ u_ws RJ0 TJ0 2, w ∈ lw_tbl := fun w h => (goodIn_r (u_ws RJ0 TJ0 2) [487, 489] (by decide +kernel) (by decide +kernel) w h).1
theorem lins_J0 : Cond.instantiable RJ0 4 ∈ lw_tbl := List.mem_of_getElem? (i := 486) (by decide +kernel)
theorem lin_Jx00060 : ∀ w ∈ u_ws RJx00060 TJx00060 6, w ∈ lw_tbl := fun w h => (goodIn_r (u_ws RJx00060 TJx00060 6) [475, 476, 477, 478, 479, 480] (by decide +kernel) (by decide +kernel) w h).1
theorem lins_Jx00060 : Cond.instantiable RJx00060 6 ∈ lw_tbl := List.mem_of_getElem? (i := 468) (by decide +kernel)
theorem lin_X0 : ∀ w ∈ u_ws RX0 TX0 5, w ∈ lw_tbl := fun w h => (goodIn_r (u_ws RX0 TX0 5) [423, 425, 427, 429, 431] (by decide +kernel) (by decide +kernel) w h).1
theorem lins_X0 : Cond.instantiable RX0 5 ∈ lw_tbl := List.mem_of_getElem? (i := 413) (by decide +kernel)
theorem lin_X1 : ∀ w ∈ u_ws RX1 TX1 3, w ∈ lw_tbl := fun w h => (goodIn_r (u_ws RX1 TX1 3) [546, 548, 550] (by decide +kernel) (by decide +kernel) w h).1
theorem lins_X1 : Cond.instantiable RX1 3 ∈ lw_tbl := List.mem_of_getElem? (i := 536) (by decide +kernel)
theorem lin_X2 : ∀ w ∈ u_ws RX2 TX2 7, w ∈ lw_tbl := fun w h => (goodIn_r (u_ws RX2 TX2 7) [784, 786, 788, 790, 792, 794, 796] (by decide +kernel) (by decide +kernel) w h).1
theorem lins_X2 : Cond.instantiable RX2 7 ∈ lw_tbl := List.mem_of_getElem? (i := 767) (by decide +kernel)
theorem lin_X3 : ∀ w ∈ u_ws RX3 TX3 10, w ∈ lw_tbl := fun w h => (goodIn_r (u_ws RX3 TX3 10) [650, 652, 654, 656, 658, 660, 662, 664, 666, 668] (by decide +kernel) (by decide +kernel) w h).1
theorem lins_X3 : Cond.instantiable RX3 10 ∈ lw_tbl := List.mem_of_getElem? (i := 621) (by decide +kernel)
theorem lin_X4 : ∀ w ∈ u_ws RX4 TX4 11, w ∈ lw_tbl := fun w h => (goodIn_r (u_ws RX4 TX4 11) [369, 371, 373, 375, 377, 379, 381, 383, 385, 387, 389] (by decide +kernel) (by decide +kernel) w h).1
theorem lins_X4 : Cond.instantiable RX4 11 ∈ lw_tbl := List.mem_of_getElem? (i := 348) (by decide +kernel)
theorem lin_X5 : ∀ w ∈ u_ws RX5 TX5 2, w ∈ lw_tbl := fun w h => (goodIn_r (u_ws RX5 TX5 2) [95, 97] (by decide +kernel) (by decide +kernel) w h).1
theorem lins_X5 : Cond.instantiable RX5 2 ∈ lw_tbl := List.mem_of_getElem? (i := 88) (by decide +kernel)
theorem lin_X6 : ∀ w ∈ u_ws RX6 TX6 3, w ∈ lw_tbl := fun w h => (goodIn_r (u_ws RX6 TX6 3) [591, 593, 595] (by decide +kernel) (by decide +kernel) w h).1
theorem lins_X6 : Cond.instantiable RX6 3 ∈ lw_tbl := List.mem_of_getElem? (i := 580) (by decide +kernel)
theorem lin_X7 : ∀ w ∈ u_ws RX7 TX7 12, w ∈ lw_tbl := fun w h => (goodIn_r (u_ws RX7 TX7 12) [823, 825, 827, 829, 831, 833, 835, 837, 839, 841, 843, 845] (by decide +kernel) (by decide +kernel) w h).1
theorem lins_X7 : Cond.instantiable RX7 12 ∈ lw_tbl := List.mem_of_getElem? (i := 761) (by decide +kernel)
theorem lin_X8 : ∀ w ∈ u_ws RX8 TX8 8, w ∈ lw_tbl := fun w h => (goodIn_r (u_ws RX8 TX8 8) [447, 449, 451, 453, 455, 457, 459, 461] (by decide +kernel) (by decide +kernel) w h).1
theorem lins_X8 : Cond.instantiable RX8 8 ∈ lw_tbl := List.mem_of_getElem? (i := 403) (by decide +kernel)
theorem lin_X9 : ∀ w ∈ u_ws RX9 TX9 3, w ∈ lw_tbl := fun w h => (goodIn_r (u_ws RX9 TX9 3) [108, 110, 112] (by decide +kernel) (by decide +kernel) w h).1
theorem lins_X9 : Cond.instantiable RX9 3 ∈ lw_tbl := List.mem_of_getElem? (i := 100) (by decide +kernel)
theorem lin_X10 : ∀ w ∈ u_ws RX10 TX10 14, w ∈ lw_tbl := fun w h => (goodIn_r (u_ws RX10 TX10 14) [129, 131, 133, 135, 137, 139, 141, 143, 145, 147, 149, 151, 153, 155] (by decide +kernel) (by decide +kernel) w h).1
theorem lins_X10 : Cond.instantiable RX10 14 ∈ lw_tbl := List.mem_of_getElem? (i := 70) (by decide +kernel)
set_option maxHeartbeats 4000000 in
theorem gK_start {p : Program} {s : State} {m : MethodId} {meth : Method} {c : Code} {b L : Nat} {xs : Nat → Int32} (C0 : lw_At p s m meth c b L xs) : ∃ (D : va_G) (tA : Nat → ClassId), va_K D vwCl (gT tA) s := by
  obtain ⟨-, -, -, -, -, hts, -, -, -, hgv⟩ := C0
  obtain ⟨c0, i0, hKn0⟩ := u_known (C := RJ0) (T := TJ0) (N := 2) (n := 4) hts lin_J0 (hts (.instantiable RJ0 4) lins_J0)
  obtain ⟨c1, i1, hKn1⟩ := u_known (C := RJx00060) (T := TJx00060) (N := 6) (n := 6) hts lin_Jx00060 (hts (.instantiable RJx00060 6) lins_Jx00060)
  obtain ⟨c2, i2, hKn2⟩ := u_known (C := RX0) (T := TX0) (N := 5) (n := 5) hts lin_X0 (hts (.instantiable RX0 5) lins_X0)
  obtain ⟨c3, i3, hKn3⟩ := u_known (C := RX1) (T := TX1) (N := 3) (n := 3) hts lin_X1 (hts (.instantiable RX1 3) lins_X1)
  obtain ⟨c4, i4, hKn4⟩ := u_known (C := RX2) (T := TX2) (N := 7) (n := 7) hts lin_X2 (hts (.instantiable RX2 7) lins_X2)
  obtain ⟨c5, i5, hKn5⟩ := u_known (C := RX3) (T := TX3) (N := 10) (n := 10) hts lin_X3 (hts (.instantiable RX3 10) lins_X3)
  obtain ⟨c6, i6, hKn6⟩ := u_known (C := RX4) (T := TX4) (N := 11) (n := 11) hts lin_X4 (hts (.instantiable RX4 11) lins_X4)
  obtain ⟨c7, i7, hKn7⟩ := u_known (C := RX5) (T := TX5) (N := 2) (n := 2) hts lin_X5 (hts (.instantiable RX5 2) lins_X5)
  obtain ⟨c8, i8, hKn8⟩ := u_known (C := RX6) (T := TX6) (N := 3) (n := 3) hts lin_X6 (hts (.instantiable RX6 3) lins_X6)
  obtain ⟨c9, i9, hKn9⟩ := u_known (C := RX7) (T := TX7) (N := 12) (n := 12) hts lin_X7 (hts (.instantiable RX7 12) lins_X7)
  obtain ⟨c10, i10, hKn10⟩ := u_known (C := RX8) (T := TX8) (N := 8) (n := 8) hts lin_X8 (hts (.instantiable RX8 8) lins_X8)
  obtain ⟨c11, i11, hKn11⟩ := u_known (C := RX9) (T := TX9) (N := 3) (n := 3) hts lin_X9 (hts (.instantiable RX9 3) lins_X9)
  obtain ⟨c12, i12, hKn12⟩ := u_known (C := RX10) (T := TX10) (N := 14) (n := 14) hts lin_X10 (hts (.instantiable RX10 14) lins_X10)
  obtain ⟨dC, dI, hKc⟩ : ∃ (dC : Nat → ClassId) (dI : Nat → Nat → Nat), ∀ (k : Nat) (q : vw_C), vwCl[k]? = some q → u_Kn s q.1 q.2.1 q.2.2 (dC k) (dI k) := by
    refine ⟨fun k => match k with | 0 => c0 | 1 => c1 | 2 => c2 | 3 => c3 | 4 => c4 | 5 => c5 | 6 => c6 | 7 => c7 | 8 => c8 | 9 => c9 | 10 => c10 | 11 => c11 | _ => c12, fun k => match k with | 0 => i0 | 1 => i1 | 2 => i2 | 3 => i3 | 4 => i4 | 5 => i5 | 6 => i6 | 7 => i7 | 8 => i8 | 9 => i9 | 10 => i10 | 11 => i11 | _ => i12, ?_⟩
    intro k q hq
    match k, hq with
    | 0, hq => cases hq; exact hKn0
    | 1, hq => cases hq; exact hKn1
    | 2, hq => cases hq; exact hKn2
    | 3, hq => cases hq; exact hKn3
    | 4, hq => cases hq; exact hKn4
    | 5, hq => cases hq; exact hKn5
    | 6, hq => cases hq; exact hKn6
    | 7, hq => cases hq; exact hKn7
    | 8, hq => cases hq; exact hKn8
    | 9, hq => cases hq; exact hKn9
    | 10, hq => cases hq; exact hKn10
    | 11, hq => cases hq; exact hKn11
    | 12, hq => cases hq; exact hKn12
    | k + 13, hq => simp [vwCl] at hq
  obtain ⟨t0, g0⟩ := AC_K (hts _ tw34)
  obtain ⟨t1, g1⟩ := AO_K (va_AO.of (hts _ tw24))
  obtain ⟨t2, g2⟩ := AO_K (va_AO.of (hts _ tw25))
  obtain ⟨t3, g3⟩ := AO_K (va_AO.of (hts _ tw26))
  obtain ⟨t4, g4⟩ := AO_K (va_AO.of (hts _ tw27))
  obtain ⟨t5, g5⟩ := AO_K (va_AO.of (hts _ tw28))
  obtain ⟨t6, g6⟩ := AO_K (va_AO.of (hts _ tw29))
  obtain ⟨t7, g7⟩ := AO_K (va_AO.of (hts _ tw30))
  refine ⟨(dC, dI), fun k => match k with | 0 => t0 | 1 => t1 | 2 => t2 | 3 => t3 | 4 => t4 | 5 => t5 | 6 => t6 | _ => t7, hKc, ?_⟩
  intro k q hq
  match k, hq with
  | 0, hq => cases hq; exact g0
  | 1, hq => cases hq; exact g1
  | 2, hq => cases hq; exact g2
  | 3, hq => cases hq; exact g3
  | 4, hq => cases hq; exact g4
  | 5, hq => cases hq; exact g5
  | 6, hq => cases hq; exact g6
  | 7, hq => cases hq; exact g7
  | k + 8, hq => simp [gT] at hq
theorem lw_ctx {p : Program} {l : Launch} {s : State} {m : MethodId} {meth : Method} {c : Code} (hflags : l.flags = flags0) {b L : Nat} {xs : Nat → Int32} (hL : L ≤ 260) (C0 : lw_At p s m meth c b L xs) : ∃ (A : Nat → Prop) (D : va_G) (tA : Nat → ClassId), LwC p l s m meth c b L xs A D tA := by
  obtain ⟨D, tA, hK⟩ := gK_start C0
  exact ⟨fun q => s.heap.size ≤ q, D, tA, C0, by omega, fun _ h => h, fun _ h => h, gX_start C0, gQ_start C0 (fun _ h => h), hK, by unfold Launch.stackTraces; rw [hflags]; decide⟩
