/-! a turn of the law, case by case (made by wip/gen/spec_z.py) -/
set_option maxHeartbeats 8000000 in
set_option maxRecDepth 100000 in
/-- WHAT COMES IN -/
theorem lb_receive {p : Program} {e : Env} {s : State} {m : MethodId} {below : List Frame} {meth : Method} {c : Code} (l : Launch) {b Ln : Nat} {xs : Nat → Int32} {A : Nat → Prop} {D : va_G} {tA : Nat → ClassId} (C : LwC p l s m meth c b Ln xs A D tA) {S : St} {ad : Nat → Nat → Nat} {L : List Nat} {f : Nat → va_E} {H : Heap} {locs : List Loc} {ls : Array Slot} {cells slots : Nat} (hR : Rep tA S ad L f) (hP : va_P D vwCl (va_pl L f) H) (hD : va_D A (va_pl L f)) (hS : va_S A s.heap H locs) {tu qq lo : Nat} (hT : TI S tu) (htu : tu < 60) (hc : cells + 800 ≤ 621943) (hsl : slots + 4000 ≤ 7227368) (hl : lv_has ls 19 [(0, .ref b), (1, .ref (ad 0 0)), (2, .int (nI (sN S 3 0))), (3, .int (nI (sN S 0 0))), (4, .int (sI S 2 0)), (5, .long (sJ S 1 0)), (7, .int (nI tu)), (8, .int (nI (40 + 5 * tu))), (10, .int (nI qq)), (11, .int (nI lo))]) (kk : ∀ (T : St) (ad : Nat → Nat → Nat) (L : List Nat) (f : Nat → va_E) (H : Heap) (locs : List Loc) (ls : Array Slot) (ce sl : Nat), TI T (tu + 1) → Rep tA T ad L f → va_P D vwCl (va_pl L f) H → va_D A (va_pl L f) → va_S A s.heap H locs → lv_has ls 19 [(0, .ref b), (1, .ref (ad 0 0)), (2, .int (nI (sN T 3 0))), (3, .int (nI (sN T 0 0))), (4, .int (sI T 2 0)), (5, .long (sJ T 1 0)), (7, .int (nI tu))] → ce ≤ cells + 800 → sl ≤ slots + 4000 → W p l e room_1 s m #[Value.ref b] below meth c H locs ce sl (lw_Z below #[Value.ref b] s) (F0 m 1344 ls []))  : W p l e room_1 s m #[Value.ref b] below meth c H locs cells slots (lw_Z below #[Value.ref b] s) (F0 m 384 ls []) := by
  obtain ⟨C0, hL, hA, hA2, hX, hQ, hK, hl0⟩ := id C
  obtain ⟨hx, hb, hr, hml, hown0, hts, hXs, hbl, hlocks, hgv⟩ := id C0
  have hta : ∀ w ∈ WA, w.before #[Value.ref b] s = true := fun w h => hts w (WA_in w h)
  have hown : s.vm.findClass RL = some m.cls := hown0
  have hbA : ¬ A b := fun h => absurd (hA2 b h) (Nat.not_le.mpr hbl)
  have hW := hT.1.1.1
  refine lv_iconst (v := 1) hx hb dL_law_384 (by decide) ?_
  refine lv_aload_n hx hb dL_law_385 rfl (lv_at hl 0 rfl) ?_
  refine lv_iload hx hb dL_law_386 (lv_at hl 7 rfl) ?_
  refine lv_iconst (v := 2) hx hb dL_law_388 (by decide) ?_
  refine lv_iadd hx hb dL_law_389 ?_
  refine lv_topi (fun x1 ex1 => ?_)
  obtain rfl : x1 = nI (40 + 5 * tu + 2) := ex1.trans (nI_add (40 + 5 * tu) 2)
  refine lv_bipush (v := 20) hx hb dL_law_390 (by decide) ?_
  refine vp_callSi (run_of (va_runS (g := F0 m 392 ls [.int 20, .int (nI (40 + 5 * tu + 2)), .ref b, .int 1]) (As := [.ref b, .int (nI (40 + 5 * tu + 2)), .int 20]) (rest := [.int 1]) ⟨hx, hb, hml, hown, hta⟩ (c_L_some l (xs := xs) hL (k := 40 + 5 * tu + 2) (n := 20) (by omega) (by decide) (by decide)) (va_cwS 3 hta (gWS mw208 mw209 mw39 mw210) rfl rfl rfl (by decide +kernel) ⟨Nat.le_of_ble_eq_true rfl, Nat.le_of_ble_eq_true rfl⟩) (gPreS hXs hbl hbA hS) rfl rfl hl.1 rfl (lv_room (Nat.le_of_ble_eq_true rfl)) dL_law_392 ⟨(by show cells + 0 ≤ 621943; omega), (by show slots + 0 ≤ 7227368; omega)⟩)) (fun r2 c3 => ?_)
  obtain rfl := c3
  obtain ⟨v4, ev5, hv6⟩ : ∃ v, smV Ln xs (40 + 5 * tu + 2) 20 = v ∧ v < 20 := ⟨_, rfl, smV_lt (by decide)⟩
  rw [ev5]
  refine lv_iadd hx hb dL_law_395 ?_
  refine lv_topi (fun x7 ex7 => ?_)
  obtain rfl : x7 = nI (1 + v4) := ex7.trans (nI_add 1 v4)
  refine lv_istore (lv' := [(12, .int (nI (1 + v4))), (0, .ref b), (1, .ref (ad 0 0)), (2, .int (nI (sN S 3 0))), (3, .int (nI (sN S 0 0))), (4, .int (sI S 2 0)), (5, .long (sJ S 1 0)), (7, .int (nI tu)), (8, .int (nI (40 + 5 * tu))), (10, .int (nI qq)), (11, .int (nI lo))]) hx hb dL_law_396 hl (by decide) rfl (fun ls hl => ?_)
  refine lv_aload_n hx hb dL_law_398 rfl (lv_at hl 1 rfl) ?_
  refine lv_iload hx hb dL_law_399 (lv_at hl 8 rfl) ?_
  refine lv_iconst (v := 3) hx hb dL_law_401 (by decide) ?_
  refine lv_iadd hx hb dL_law_402 ?_
  refine lv_topi (fun x8 ex8 => ?_)
  obtain rfl : x8 = nI (40 + 5 * tu + 3) := ex8.trans (nI_add (40 + 5 * tu) 3)
  refine lv_bipush (v := 9) hx hb dL_law_403 (by decide) ?_
  refine vp_callSi (run_of (va_runS (g := F0 m 405 ls [.int 9, .int (nI (40 + 5 * tu + 3)), .ref b]) (As := [.ref b, .int (nI (40 + 5 * tu + 3)), .int 9]) (rest := []) ⟨hx, hb, hml, hown, hta⟩ (c_L_some l (xs := xs) hL (k := 40 + 5 * tu + 3) (n := 9) (by omega) (by decide) (by decide)) (va_cwS 3 hta (gWS mw208 mw209 mw39 mw210) rfl rfl rfl (by decide +kernel) ⟨Nat.le_of_ble_eq_true rfl, Nat.le_of_ble_eq_true rfl⟩) (gPreS hXs hbl hbA hS) rfl rfl hl.1 rfl (lv_room (Nat.le_of_ble_eq_true rfl)) dL_law_405 ⟨(by show cells + 0 ≤ 621943; omega), (by show slots + 0 ≤ 7227368; omega)⟩)) (fun r9 c10 => ?_)
  obtain rfl := c10
  obtain ⟨v11, ev12, hv13⟩ : ∃ v, smV Ln xs (40 + 5 * tu + 3) 9 = v ∧ v < 9 := ⟨_, rfl, smV_lt (by decide)⟩
  rw [ev12]
  refine lv_istore (lv' := [(13, .int (nI v11)), (12, .int (nI (1 + v4))), (0, .ref b), (1, .ref (ad 0 0)), (2, .int (nI (sN S 3 0))), (3, .int (nI (sN S 0 0))), (4, .int (sI S 2 0)), (5, .long (sJ S 1 0)), (7, .int (nI tu)), (8, .int (nI (40 + 5 * tu))), (10, .int (nI qq)), (11, .int (nI lo))]) hx hb dL_law_408 hl (by decide) rfl (fun ls hl => ?_)
  refine lv_aload_n hx hb dL_law_410 rfl (lv_at hl 3 rfl) ?_
  obtain ⟨q14, e15⟩ := cell_0 hR (rfl : (0 : Nat) = 0)
  refine gro_i (ci := 12) (As := []) (rest := []) ⟨hx, hb, hml, hown, hta⟩ (c_X10_lots l hR ) (cwV 0 hta (gWV mw110 mw111 mw112 mw40 mw113) rfl rfl rfl (by decide +kernel) ⟨Nat.le_of_ble_eq_true rfl, Nat.le_of_ble_eq_true rfl⟩) hK hP hD rfl e15 rfl hl.1 rfl (Nat.le_of_ble_eq_true rfl) dL_law_411 ⟨(by show cells + 0 ≤ 621943; omega), (by show slots + 0 ≤ 7227368; omega)⟩ (fun r16 c17 => ?_)
  obtain rfl := c17
  refine lv_istore (lv' := [(14, .int (nI (sN S 2 0))), (13, .int (nI v11)), (12, .int (nI (1 + v4))), (0, .ref b), (1, .ref (ad 0 0)), (2, .int (nI (sN S 3 0))), (3, .int (nI (sN S 0 0))), (4, .int (sI S 2 0)), (5, .long (sJ S 1 0)), (7, .int (nI tu)), (8, .int (nI (40 + 5 * tu))), (10, .int (nI qq)), (11, .int (nI lo))]) hx hb dL_law_414 hl (by decide) rfl (fun ls hl => ?_)
  refine lv_aload_n hx hb dL_law_416 rfl (lv_at hl 4 rfl) ?_
  refine lv_aload_n hx hb dL_law_417 rfl (lv_at hl 3 rfl) ?_
  refine lv_iload hx hb dL_law_418 (lv_at hl 10 rfl) ?_
  refine lv_iconst (v := 1) hx hb dL_law_420 (by decide) ?_
  refine lv_iadd hx hb dL_law_421 ?_
  refine lv_topi (fun x18 ex18 => ?_)
  obtain rfl : x18 = nI (40 + 5 * tu + 1) := ex18.trans (nI_add (40 + 5 * tu) 1)
  refine lv_iconst (v := 2) hx hb dL_law_422 (by decide) ?_
  refine vp_callSi (run_of (va_runS (g := F0 m 423 ls [.int 2, .int (nI (40 + 5 * tu + 1)), .ref b, .ref (ad 0 0)]) (As := [.ref b, .int (nI (40 + 5 * tu + 1)), .int 2]) (rest := [.ref (ad 0 0)]) ⟨hx, hb, hml, hown, hta⟩ (c_L_some l (xs := xs) hL (k := 40 + 5 * tu + 1) (n := 2) (by omega) (by decide) (by decide)) (va_cwS 3 hta (gWS mw208 mw209 mw39 mw210) rfl rfl rfl (by decide +kernel) ⟨Nat.le_of_ble_eq_true rfl, Nat.le_of_ble_eq_true rfl⟩) (gPreS hXs hbl hbA hS) rfl rfl hl.1 rfl (lv_room (Nat.le_of_ble_eq_true rfl)) dL_law_423 ⟨(by show cells + 0 ≤ 621943; omega), (by show slots + 0 ≤ 7227368; omega)⟩)) (fun r19 c20 => ?_)
  obtain rfl := c20
  obtain ⟨v21, ev22, hv23⟩ : ∃ v, smV Ln xs (40 + 5 * tu + 1) 2 = v ∧ v < 2 := ⟨_, rfl, smV_lt (by decide)⟩
  rw [ev22]
  refine lv_iload hx hb dL_law_426 (lv_at hl 2 rfl) ?_
  refine lv_iload hx hb dL_law_428 (lv_at hl 1 rfl) ?_
  refine lv_aload_n hx hb dL_law_430 rfl (lv_at hl 3 rfl) ?_
  refine lv_iload hx hb dL_law_431 (lv_at hl 10 rfl) ?_
  refine lv_iconst (v := 4) hx hb dL_law_433 (by decide) ?_
  refine lv_iadd hx hb dL_law_434 ?_
  refine lv_topi (fun x24 ex24 => ?_)
  obtain rfl : x24 = nI (40 + 5 * tu + 4) := ex24.trans (nI_add (40 + 5 * tu) 4)
  refine lv_iconst (v := 4) hx hb dL_law_435 (by decide) ?_
  refine vp_callSi (run_of (va_runS (g := F0 m 436 ls [.int 4, .int (nI (40 + 5 * tu + 4)), .ref b, .int (nI v11), .int (nI (1 + v4)), .int (nI v21), .ref (ad 0 0)]) (As := [.ref b, .int (nI (40 + 5 * tu + 4)), .int 4]) (rest := [.int (nI v11), .int (nI (1 + v4)), .int (nI v21), .ref (ad 0 0)]) ⟨hx, hb, hml, hown, hta⟩ (c_L_some l (xs := xs) hL (k := 40 + 5 * tu + 4) (n := 4) (by omega) (by decide) (by decide)) (va_cwS 3 hta (gWS mw208 mw209 mw39 mw210) rfl rfl rfl (by decide +kernel) ⟨Nat.le_of_ble_eq_true rfl, Nat.le_of_ble_eq_true rfl⟩) (gPreS hXs hbl hbA hS) rfl rfl hl.1 rfl (lv_room (Nat.le_of_ble_eq_true rfl)) dL_law_436 ⟨(by show cells + 0 ≤ 621943; omega), (by show slots + 0 ≤ 7227368; omega)⟩)) (fun r25 c26 => ?_)
  obtain rfl := c26
  obtain ⟨v27, ev28, hv29⟩ : ∃ v, smV Ln xs (40 + 5 * tu + 4) 4 = v ∧ v < 4 := ⟨_, rfl, smV_lt (by decide)⟩
  rw [ev28]
  refine lv_aload_n hx hb dL_law_439 rfl (lv_at hl 3 rfl) ?_
  refine lv_iload hx hb dL_law_440 (lv_at hl 10 rfl) ?_
  refine lv_iconst (v := 3) hx hb dL_law_442 (by decide) ?_
  refine lv_iadd hx hb dL_law_443 ?_
  refine lv_topi (fun x30 ex30 => ?_)
  obtain rfl : x30 = nI (40 + 5 * tu + 3) := ex30.trans (nI_add (40 + 5 * tu) 3)
  refine lv_iconst (v := 4) hx hb dL_law_444 (by decide) ?_
  refine vp_callSi (run_of (va_runS (g := F0 m 445 ls [.int 4, .int (nI (40 + 5 * tu + 3)), .ref b, .int (nI v27), .int (nI v11), .int (nI (1 + v4)), .int (nI v21), .ref (ad 0 0)]) (As := [.ref b, .int (nI (40 + 5 * tu + 3)), .int 4]) (rest := [.int (nI v27), .int (nI v11), .int (nI (1 + v4)), .int (nI v21), .ref (ad 0 0)]) ⟨hx, hb, hml, hown, hta⟩ (c_L_some l (xs := xs) hL (k := 40 + 5 * tu + 3) (n := 4) (by omega) (by decide) (by decide)) (va_cwS 3 hta (gWS mw208 mw209 mw39 mw210) rfl rfl rfl (by decide +kernel) ⟨Nat.le_of_ble_eq_true rfl, Nat.le_of_ble_eq_true rfl⟩) (gPreS hXs hbl hbA hS) rfl rfl hl.1 rfl (lv_room (Nat.le_of_ble_eq_true rfl)) dL_law_445 ⟨(by show cells + 0 ≤ 621943; omega), (by show slots + 0 ≤ 7227368; omega)⟩)) (fun r31 c32 => ?_)
  obtain rfl := c32
  obtain ⟨v33, ev34, hv35⟩ : ∃ v, smV Ln xs (40 + 5 * tu + 3) 4 = v ∧ v < 4 := ⟨_, rfl, smV_lt (by decide)⟩
  rw [ev34]
  refine gsw_i (vx_runSW (g := F0 m 448 ls [.int (nI v33), .int (nI v27), .int (nI v11), .int (nI (1 + v4)), .int (nI v21), .ref (ad 0 0)]) (As := [.ref (ad 0 0), .int (nI v21), .int (nI (1 + v4)), .int (nI v11), .int (nI v27), .int (nI v33)]) (rest := []) ⟨hx, hb, hml, hown, hta⟩ (c_L_receive l hl0 hR hW (p9 := v21) (su := v27) (hT.p01 hv23).1 hv29 (nI (1 + v4)) (nI v11) (nI v33) (hT.p01 hv23).2 (inR_n (a := 1) (b := 500) (by omega) (by omega) (by decide)) (inR_n (a := 0) (b := 999) (by omega) (by omega) (by decide)) (inR_n (a := 0) (b := 20) (by omega) (by omega) (by decide)) (hT.bought htu).1 (hT.lots htu)) (vx_cwSW 6 hta (gWSW mw385 mw386 mw39 mw387) rfl rfl rfl (by decide +kernel) ⟨Nat.le_of_ble_eq_true rfl, Nat.le_of_ble_eq_true rfl⟩) (gPreW hX hQ hK hP hD hS hA) rfl rfl hl.1 rfl (lv_room (Nat.le_of_ble_eq_true rfl)) dL_law_448 ⟨(by show cells + 4 ≤ 621943; omega), (by show slots + 16 ≤ 7227368; omega)⟩) hD hS hA (fun r36 u H locs c37 hR hP hD hS => ?_)
  obtain ⟨T, ad9, L9, f⟩ := u
  dsimp only at c37 hR hP hD
  obtain ⟨rfl, ⟨T0, hsup, hU⟩, had⟩ := c37
  have had := had 0 0 (rfl : (0 : Nat) = 0)
  rw [← had] at hl
  obtain ⟨hI9, hk⟩ := hT.1.receive (p := v21) (qy := nI (1 + v4)) (co := nI v11) (hT.p01 hv23).1 (by rw [nI_toInt (by omega)]; omega) (by rw [nI_toInt (by omega)]; omega) (by rw [nI_toInt (by omega)]; omega) (by rw [nI_toInt (by omega)]; omega) (hT.bought htu).2 (hT.lots htu) hsup hU
  have hl9 : sN S 2 0 < sN T 2 0 := by have := hk.1; show nLc S < nLc T; omega
  refine lv_istore (lv' := [(15, .int (nI (sN S 2 0))), (14, .int (nI (sN S 2 0))), (13, .int (nI v11)), (12, .int (nI (1 + v4))), (0, .ref b), (1, .ref (ad9 0 0)), (2, .int (nI (sN S 3 0))), (3, .int (nI (sN S 0 0))), (4, .int (sI S 2 0)), (5, .long (sJ S 1 0)), (7, .int (nI tu)), (8, .int (nI (40 + 5 * tu))), (10, .int (nI qq)), (11, .int (nI lo))]) hx hb dL_law_451 hl (by decide) rfl (fun ls hl => ?_)
  refine lv_iload hx hb dL_law_453 (lv_at hl 0 rfl) ?_
  refine lv_ldc (own := RL) (index := 24) (v := -1000000) hx hb hown (hta _ mw262) dL_law_455 ?_
  refine lv_icmp_ne (tgt := 463) hx hb dL_law_457 (by decide) (fun c38 => ?_) (fun c38 => ?_)
  · skip
    refine lv_lload hx hb dL_law_463 (lv_at hl 9 rfl) ?_
    refine lv_iload hx hb dL_law_465 (lv_at hl 3 rfl) ?_
    refine lv_i2l (v := (nI (1 + v4)).toInt64) hx hb dL_law_467 rfl ?_
    refine lv_iload hx hb dL_law_468 (lv_at hl 2 rfl) ?_
    refine lv_i2l (v := (nI v11).toInt64) hx hb dL_law_470 rfl ?_
    refine lv_lmul hx hb dL_law_471 ?_
    refine lv_ladd hx hb dL_law_472 ?_
    refine lv_lstore (lv' := [(5, .long ((sJ S 1 0) + (((nI (1 + v4)).toInt64) * ((nI v11).toInt64)))), (15, .int (nI (sN S 2 0))), (14, .int (nI (sN S 2 0))), (13, .int (nI v11)), (12, .int (nI (1 + v4))), (0, .ref b), (1, .ref (ad9 0 0)), (2, .int (nI (sN S 3 0))), (3, .int (nI (sN S 0 0))), (4, .int (sI S 2 0)), (7, .int (nI tu)), (8, .int (nI (40 + 5 * tu))), (10, .int (nI qq)), (11, .int (nI lo))]) hx hb dL_law_473 hl (by decide) rfl (fun ls hl => ?_)
    refine lv_iload hx hb dL_law_475 (lv_at hl 1 rfl) ?_
    refine lv_iload hx hb dL_law_477 (lv_at hl 2 rfl) ?_
    refine lv_icmp_ne (tgt := 510) hx hb dL_law_479 (by decide) (fun c39 => ?_) (fun c39 => ?_)
    · exact absurd c39 (fun q => q rfl)
    · skip
      refine lv_aload_n hx hb dL_law_482 rfl (lv_at hl 6 rfl) ?_
      refine lv_iload hx hb dL_law_483 (lv_at hl 2 rfl) ?_
      refine vp_callSi (run_of (vx_runSW (g := F0 m 485 ls [.int (nI (sN S 2 0)), .ref (ad9 0 0)]) (As := [.ref (ad9 0 0), .int (nI (sN S 2 0))]) (rest := []) ⟨hx, hb, hml, hown, hta⟩ (c_L_rest l hR hI9.1.1 hl9) (vx_cwSW 2 hta (gWSW mw477 mw478 mw39 mw479) rfl rfl rfl (by decide +kernel) ⟨Nat.le_of_ble_eq_true rfl, Nat.le_of_ble_eq_true rfl⟩) (gPreB hK hP hD) rfl rfl hl.1 rfl (lv_room (Nat.le_of_ble_eq_true rfl)) dL_law_485 ⟨(by show cells + 4 + 0 ≤ 621943; omega), (by show slots + 16 + 0 ≤ 7227368; omega)⟩)) (fun r40 c41 => ?_)
      obtain rfl := c41
      refine lv_iload hx hb dL_law_488 (lv_at hl 4 rfl) ?_
      refine lv_icmp_ne (tgt := 510) hx hb dL_law_490 (by decide) (fun c42 => ?_) (fun c42 => ?_)
      · exact absurd c42 (fun q => q hk.2.2.2.2.2.2.1)
      · skip
        refine lv_aload_n hx hb dL_law_493 rfl (lv_at hl 6 rfl) ?_
        refine lv_iload hx hb dL_law_494 (lv_at hl 2 rfl) ?_
        refine vp_callSl (run_of (vx_runSW (g := F0 m 496 ls [.int (nI (sN S 2 0)), .ref (ad9 0 0)]) (As := [.ref (ad9 0 0), .int (nI (sN S 2 0))]) (rest := []) ⟨hx, hb, hml, hown, hta⟩ (c_L_costOf l hR hI9.1.1 hl9) (vx_cwSW 2 hta (gWSW mw491 mw492 mw39 mw493) rfl rfl rfl (by decide +kernel) ⟨Nat.le_of_ble_eq_true rfl, Nat.le_of_ble_eq_true rfl⟩) (gPreB hK hP hD) rfl rfl hl.1 rfl (lv_room (Nat.le_of_ble_eq_true rfl)) dL_law_496 ⟨(by show cells + 4 + 0 ≤ 621943; omega), (by show slots + 16 + 0 ≤ 7227368; omega)⟩)) (fun r43 c44 => ?_)
        obtain rfl := c44
        refine lv_iload hx hb dL_law_499 (lv_at hl 4 rfl) ?_
        refine lv_i2l (v := (nI (1 + v4)).toInt64) hx hb dL_law_501 rfl ?_
        refine lv_iload hx hb dL_law_502 (lv_at hl 3 rfl) ?_
        refine lv_i2l (v := (nI v11).toInt64) hx hb dL_law_504 rfl ?_
        refine lv_lmul hx hb dL_law_505 ?_
        refine W.lcmp hx hb dL_law_506 ?_
        refine lv_if_eq (tgt := 512) hx hb dL_law_507 (by decide) (fun c45 => ?_) (fun c45 => ?_)
        · skip
          refine lv_goto (tgt := 1085) hx hb dL_law_512 (by decide) ?_
          have hTn : TI T (tu + 1) := hT.rc hI9 hk
          have hl : lv_has ls 19 [(0, .ref b), (1, .ref (ad9 0 0)), (2, .int (nI (sN T 3 0))), (3, .int (nI (sN T 0 0))), (4, .int (sI T 2 0)), (5, .long (sJ T 1 0)), (7, .int (nI tu))] := by
            rw [show nI (sN T 3 0) = nI (sN S 3 0) from congrArg nI hk.2.1, show nI (sN T 0 0) = nI (sN S 0 0) from congrArg nI hk.2.2.1, show sI T 2 0 = sI S 2 0 from hk.2.2.2.2.1, show sJ T 1 0 = (sJ S 1 0) + (((nI (1 + v4)).toInt64) * ((nI v11).toInt64)) from rc_came hT.1 (by omega) (by omega) (by omega) hk]
            exact lv_sub hl [5, 6, 7, 8, 9, 0, 10] rfl
          refine lw_check l C (tu := tu) hTn.1 hR hP hD hS hTn.2.1 hTn.2.2.1 (by have := hTn.2.2.2.1; omega) hl (by (try dsimp only); omega) (by (try dsimp only); omega) (fun H locs f ls ce9 sl9 hP hD hS hR hl hc9 hs9 => ?_)
          exact kk _ _ _ _ _ _ _ _ _ hTn hR hP hD hS hl (by omega) (by omega)
        · exact absurd (rc_cost (by omega) (by omega) (by omega) hk) c45
  · exact absurd c38 (nI_nm1 (by have := hT.1.1.1.nL; omega))

set_option maxHeartbeats 8000000 in
set_option maxRecDepth 100000 in
/-- AN ORDER -/
theorem lb_order {p : Program} {e : Env} {s : State} {m : MethodId} {below : List Frame} {meth : Method} {c : Code} (l : Launch) {b Ln : Nat} {xs : Nat → Int32} {A : Nat → Prop} {D : va_G} {tA : Nat → ClassId} (C : LwC p l s m meth c b Ln xs A D tA) {S : St} {ad : Nat → Nat → Nat} {L : List Nat} {f : Nat → va_E} {H : Heap} {locs : List Loc} {ls : Array Slot} {cells slots : Nat} (hR : Rep tA S ad L f) (hP : va_P D vwCl (va_pl L f) H) (hD : va_D A (va_pl L f)) (hS : va_S A s.heap H locs) {tu qq lo : Nat} (hT : TI S tu) (htu : tu < 60) (hc : cells + 800 ≤ 621943) (hsl : slots + 4000 ≤ 7227368) (hl : lv_has ls 19 [(0, .ref b), (1, .ref (ad 0 0)), (2, .int (nI (sN S 3 0))), (3, .int (nI (sN S 0 0))), (4, .int (sI S 2 0)), (5, .long (sJ S 1 0)), (7, .int (nI tu)), (8, .int (nI (40 + 5 * tu))), (10, .int (nI qq)), (11, .int (nI lo))]) (kk : ∀ (T : St) (ad : Nat → Nat → Nat) (L : List Nat) (f : Nat → va_E) (H : Heap) (locs : List Loc) (ls : Array Slot) (ce sl : Nat), TI T (tu + 1) → Rep tA T ad L f → va_P D vwCl (va_pl L f) H → va_D A (va_pl L f) → va_S A s.heap H locs → lv_has ls 19 [(0, .ref b), (1, .ref (ad 0 0)), (2, .int (nI (sN T 3 0))), (3, .int (nI (sN T 0 0))), (4, .int (sI T 2 0)), (5, .long (sJ T 1 0)), (7, .int (nI tu))] → ce ≤ cells + 800 → sl ≤ slots + 4000 → W p l e room_1 s m #[Value.ref b] below meth c H locs ce sl (lw_Z below #[Value.ref b] s) (F0 m 1344 ls []))  : W p l e room_1 s m #[Value.ref b] below meth c H locs cells slots (lw_Z below #[Value.ref b] s) (F0 m 521 ls []) := by
  obtain ⟨C0, hL, hA, hA2, hX, hQ, hK, hl0⟩ := id C
  obtain ⟨hx, hb, hr, hml, hown0, hts, hXs, hbl, hlocks, hgv⟩ := id C0
  have hta : ∀ w ∈ WA, w.before #[Value.ref b] s = true := fun w h => hts w (WA_in w h)
  have hown : s.vm.findClass RL = some m.cls := hown0
  have hbA : ¬ A b := fun h => absurd (hA2 b h) (Nat.not_le.mpr hbl)
  have hW := hT.1.1.1
  refine lv_aload_n hx hb dL_law_521 rfl (lv_at hl 1 rfl) ?_
  refine lv_aload_n hx hb dL_law_522 rfl (lv_at hl 0 rfl) ?_
  refine lv_iload hx hb dL_law_523 (lv_at hl 7 rfl) ?_
  refine lv_iconst (v := 1) hx hb dL_law_525 (by decide) ?_
  refine lv_iadd hx hb dL_law_526 ?_
  refine lv_topi (fun x1 ex1 => ?_)
  obtain rfl : x1 = nI (40 + 5 * tu + 1) := ex1.trans (nI_add (40 + 5 * tu) 1)
  refine lv_bipush (v := 6) hx hb dL_law_527 (by decide) ?_
  refine vp_callSi (run_of (va_runS (g := F0 m 529 ls [.int 6, .int (nI (40 + 5 * tu + 1)), .ref b, .ref (ad 0 0)]) (As := [.ref b, .int (nI (40 + 5 * tu + 1)), .int 6]) (rest := [.ref (ad 0 0)]) ⟨hx, hb, hml, hown, hta⟩ (c_L_some l (xs := xs) hL (k := 40 + 5 * tu + 1) (n := 6) (by omega) (by decide) (by decide)) (va_cwS 3 hta (gWS mw208 mw209 mw39 mw210) rfl rfl rfl (by decide +kernel) ⟨Nat.le_of_ble_eq_true rfl, Nat.le_of_ble_eq_true rfl⟩) (gPreS hXs hbl hbA hS) rfl rfl hl.1 rfl (lv_room (Nat.le_of_ble_eq_true rfl)) dL_law_529 ⟨(by show cells + 0 ≤ 621943; omega), (by show slots + 0 ≤ 7227368; omega)⟩)) (fun r2 c3 => ?_)
  obtain rfl := c3
  obtain ⟨v4, ev5, hv6⟩ : ∃ v, smV Ln xs (40 + 5 * tu + 1) 6 = v ∧ v < 6 := ⟨_, rfl, smV_lt (by decide)⟩
  rw [ev5]
  refine lv_iconst (v := 1) hx hb dL_law_532 (by decide) ?_
  refine lv_aload_n hx hb dL_law_533 rfl (lv_at hl 0 rfl) ?_
  refine lv_iload hx hb dL_law_534 (lv_at hl 7 rfl) ?_
  refine lv_iconst (v := 2) hx hb dL_law_536 (by decide) ?_
  refine lv_iadd hx hb dL_law_537 ?_
  refine lv_topi (fun x7 ex7 => ?_)
  obtain rfl : x7 = nI (40 + 5 * tu + 2) := ex7.trans (nI_add (40 + 5 * tu) 2)
  refine lv_iconst (v := 5) hx hb dL_law_538 (by decide) ?_
  refine vp_callSi (run_of (va_runS (g := F0 m 539 ls [.int 5, .int (nI (40 + 5 * tu + 2)), .ref b, .int 1, .int (nI v4), .ref (ad 0 0)]) (As := [.ref b, .int (nI (40 + 5 * tu + 2)), .int 5]) (rest := [.int 1, .int (nI v4), .ref (ad 0 0)]) ⟨hx, hb, hml, hown, hta⟩ (c_L_some l (xs := xs) hL (k := 40 + 5 * tu + 2) (n := 5) (by omega) (by decide) (by decide)) (va_cwS 3 hta (gWS mw208 mw209 mw39 mw210) rfl rfl rfl (by decide +kernel) ⟨Nat.le_of_ble_eq_true rfl, Nat.le_of_ble_eq_true rfl⟩) (gPreS hXs hbl hbA hS) rfl rfl hl.1 rfl (lv_room (Nat.le_of_ble_eq_true rfl)) dL_law_539 ⟨(by show cells + 0 ≤ 621943; omega), (by show slots + 0 ≤ 7227368; omega)⟩)) (fun r8 c9 => ?_)
  obtain rfl := c9
  obtain ⟨v10, ev11, hv12⟩ : ∃ v, smV Ln xs (40 + 5 * tu + 2) 5 = v ∧ v < 5 := ⟨_, rfl, smV_lt (by decide)⟩
  rw [ev11]
  refine lv_iadd hx hb dL_law_542 ?_
  refine lv_topi (fun x13 ex13 => ?_)
  obtain rfl : x13 = nI (1 + v10) := ex13.trans (nI_add 1 v10)
  refine lv_aload_n hx hb dL_law_543 rfl (lv_at hl 0 rfl) ?_
  refine lv_iload hx hb dL_law_544 (lv_at hl 7 rfl) ?_
  refine lv_iconst (v := 3) hx hb dL_law_546 (by decide) ?_
  refine lv_iadd hx hb dL_law_547 ?_
  refine lv_topi (fun x14 ex14 => ?_)
  obtain rfl : x14 = nI (40 + 5 * tu + 3) := ex14.trans (nI_add (40 + 5 * tu) 3)
  refine lv_iconst (v := 3) hx hb dL_law_548 (by decide) ?_
  refine vp_callSi (run_of (va_runS (g := F0 m 549 ls [.int 3, .int (nI (40 + 5 * tu + 3)), .ref b, .int (nI (1 + v10)), .int (nI v4), .ref (ad 0 0)]) (As := [.ref b, .int (nI (40 + 5 * tu + 3)), .int 3]) (rest := [.int (nI (1 + v10)), .int (nI v4), .ref (ad 0 0)]) ⟨hx, hb, hml, hown, hta⟩ (c_L_some l (xs := xs) hL (k := 40 + 5 * tu + 3) (n := 3) (by omega) (by decide) (by decide)) (va_cwS 3 hta (gWS mw208 mw209 mw39 mw210) rfl rfl rfl (by decide +kernel) ⟨Nat.le_of_ble_eq_true rfl, Nat.le_of_ble_eq_true rfl⟩) (gPreS hXs hbl hbA hS) rfl rfl hl.1 rfl (lv_room (Nat.le_of_ble_eq_true rfl)) dL_law_549 ⟨(by show cells + 0 ≤ 621943; omega), (by show slots + 0 ≤ 7227368; omega)⟩)) (fun r15 c16 => ?_)
  obtain rfl := c16
  obtain ⟨v17, ev18, hv19⟩ : ∃ v, smV Ln xs (40 + 5 * tu + 3) 3 = v ∧ v < 3 := ⟨_, rfl, smV_lt (by decide)⟩
  rw [ev18]
  refine lv_aload_n hx hb dL_law_552 rfl (lv_at hl 0 rfl) ?_
  refine lv_iload hx hb dL_law_553 (lv_at hl 7 rfl) ?_
  refine lv_iconst (v := 4) hx hb dL_law_555 (by decide) ?_
  refine lv_iadd hx hb dL_law_556 ?_
  refine lv_topi (fun x20 ex20 => ?_)
  obtain rfl : x20 = nI (40 + 5 * tu + 4) := ex20.trans (nI_add (40 + 5 * tu) 4)
  refine lv_bipush (v := 90) hx hb dL_law_557 (by decide) ?_
  refine vp_callSi (run_of (va_runS (g := F0 m 559 ls [.int 90, .int (nI (40 + 5 * tu + 4)), .ref b, .int (nI v17), .int (nI (1 + v10)), .int (nI v4), .ref (ad 0 0)]) (As := [.ref b, .int (nI (40 + 5 * tu + 4)), .int 90]) (rest := [.int (nI v17), .int (nI (1 + v10)), .int (nI v4), .ref (ad 0 0)]) ⟨hx, hb, hml, hown, hta⟩ (c_L_some l (xs := xs) hL (k := 40 + 5 * tu + 4) (n := 90) (by omega) (by decide) (by decide)) (va_cwS 3 hta (gWS mw208 mw209 mw39 mw210) rfl rfl rfl (by decide +kernel) ⟨Nat.le_of_ble_eq_true rfl, Nat.le_of_ble_eq_true rfl⟩) (gPreS hXs hbl hbA hS) rfl rfl hl.1 rfl (lv_room (Nat.le_of_ble_eq_true rfl)) dL_law_559 ⟨(by show cells + 0 ≤ 621943; omega), (by show slots + 0 ≤ 7227368; omega)⟩)) (fun r21 c22 => ?_)
  obtain rfl := c22
  obtain ⟨v23, ev24, hv25⟩ : ∃ v, smV Ln xs (40 + 5 * tu + 4) 90 = v ∧ v < 90 := ⟨_, rfl, smV_lt (by decide)⟩
  rw [ev24]
  rcases Nat.lt_or_ge (sN S 3 0) 30 with h30 | h30
  · skip
    refine gsw_i (vx_runSW (g := F0 m 562 ls [.int (nI v23), .int (nI v17), .int (nI (1 + v10)), .int (nI v4), .ref (ad 0 0)]) (As := [.ref (ad 0 0), .int (nI v4), .int (nI (1 + v10)), .int (nI v17), .int (nI v23)]) (rest := []) ⟨hx, hb, hml, hown, hta⟩ (c_L_order l hl0 hR hW (p9 := v4) (by have := hT.parts.1; omega) (nI (1 + v10)) (nI v17) (nI v23) (inR_n (a := 1) (b := 100) (by omega) (by omega) (by decide)) (inR_n (a := 0) (b := 2) (by omega) (by omega) (by decide)) (inR_n (a := 0) (b := 9999) (by omega) (by omega) (by decide)) h30) (vx_cwSW 5 hta (gWSW mw499 mw500 mw39 mw501) rfl rfl rfl (by decide +kernel) ⟨Nat.le_of_ble_eq_true rfl, Nat.le_of_ble_eq_true rfl⟩) (gPreW hX hQ hK hP hD hS hA) rfl rfl hl.1 rfl (lv_room (Nat.le_of_ble_eq_true rfl)) dL_law_562 ⟨(by show cells + 4 ≤ 621943; omega), (by show slots + 111 ≤ 7227368; omega)⟩) hD hS hA (fun r26 u H locs c27 hR hP hD hS => ?_)
    obtain ⟨T, ad9, L9, f⟩ := u
    dsimp only at c27 hR hP hD
    obtain ⟨rfl, rfl, had⟩ := c27
    have had := had 0 0 (rfl : (0 : Nat) = 0)
    rw [← had] at hl
    have hn9 := Inv.neworder (p := v4) (qy := nI (1 + v10)) (op := nI v17) (du := nI v23) hT.1 (show v4 < nPc S by have : nPc S = 6 := hT.parts.1; omega) (by rw [nI_toInt (by omega)]; omega) (by rw [nI_toInt (by omega)]; omega) h30
    refine lv_istore (lv' := [(12, .int (nI (sN S 3 0))), (0, .ref b), (1, .ref (ad9 0 0)), (2, .int (nI (sN S 3 0))), (3, .int (nI (sN S 0 0))), (4, .int (sI S 2 0)), (5, .long (sJ S 1 0)), (7, .int (nI tu)), (8, .int (nI (40 + 5 * tu))), (10, .int (nI qq)), (11, .int (nI lo))]) hx hb dL_law_565 hl (by decide) rfl (fun ls hl => ?_)
    refine lv_iload hx hb dL_law_567 (lv_at hl 0 rfl) ?_
    refine lv_iload_n hx hb dL_law_569 rfl (lv_at hl 3 rfl) ?_
    refine lv_bipush (v := 30) hx hb dL_law_570 (by decide) ?_
    refine lv_icmp_ne (tgt := 580) hx hb dL_law_572 (by decide) (fun c28 => ?_) (fun c28 => ?_)
    · skip
      refine lv_iload_n hx hb dL_law_580 rfl (lv_at hl 3 rfl) ?_
      refine lv_icmp_eq (tgt := 586) hx hb dL_law_581 (by decide) (fun c29 => ?_) (fun c29 => ?_)
      · skip
        refine lv_iload hx hb dL_law_586 (lv_at hl 0 rfl) ?_
        refine lv_if_lt (tgt := 594) hx hb dL_law_588 (by decide) (fun c30 => ?_) (fun c30 => ?_)
        · exact absurd c30 (nI_pos (by have := hT.1.1.1.nO; omega))
        · skip
          refine lv_iinc (v := nI ((sN S 3 0) + 1)) (lv' := [(2, .int (nI ((sN S 3 0) + 1))), (12, .int (nI (sN S 3 0))), (0, .ref b), (1, .ref (ad9 0 0)), (3, .int (nI (sN S 0 0))), (4, .int (sI S 2 0)), (5, .long (sJ S 1 0)), (7, .int (nI tu)), (8, .int (nI (40 + 5 * tu))), (10, .int (nI qq)), (11, .int (nI lo))]) hx hb dL_law_591 hl (k := 3) rfl (nI_1 _) (by decide) rfl (fun ls hl => ?_)
          refine lv_goto (tgt := 1085) hx hb dL_law_594 (by decide) ?_
          have hTn : TI (nwOS S v4 (nI (1 + v10)) (nI v17) (nI v23)) (tu + 1) := hT.no hn9
          have hl : lv_has ls 19 [(0, .ref b), (1, .ref (ad9 0 0)), (2, .int (nI (sN (nwOS S v4 (nI (1 + v10)) (nI v17) (nI v23)) 3 0))), (3, .int (nI (sN (nwOS S v4 (nI (1 + v10)) (nI v17) (nI v23)) 0 0))), (4, .int (sI (nwOS S v4 (nI (1 + v10)) (nI v17) (nI v23)) 2 0)), (5, .long (sJ (nwOS S v4 (nI (1 + v10)) (nI v17) (nI v23)) 1 0)), (7, .int (nI tu))] := by
            rw [show nI (sN (nwOS S v4 (nI (1 + v10)) (nI v17) (nI v23)) 3 0) = nI ((sN S 3 0) + 1) from congrArg nI hn9.2.1, show nI (sN (nwOS S v4 (nI (1 + v10)) (nI v17) (nI v23)) 0 0) = nI (sN S 0 0) from congrArg nI hn9.2.2.1, show sI (nwOS S v4 (nI (1 + v10)) (nI v17) (nI v23)) 2 0 = sI S 2 0 from hn9.2.2.2.2.1, show sJ (nwOS S v4 (nI (1 + v10)) (nI v17) (nI v23)) 1 0 = sJ S 1 0 from hn9.2.2.2.2.2]
            exact lv_sub hl [2, 3, 0, 4, 5, 6, 7] rfl
          refine lw_check l C (tu := tu) hTn.1 hR hP hD hS hTn.2.1 hTn.2.2.1 (by have := hTn.2.2.2.1; omega) hl (by (try dsimp only); omega) (by (try dsimp only); omega) (fun H locs f ls ce9 sl9 hP hD hS hR hl hc9 hs9 => ?_)
          exact kk _ _ _ _ _ _ _ _ _ hTn hR hP hD hS hl (by omega) (by omega)
      · exact absurd rfl c29
    · exact absurd c28 (nI_ne30 h30)
  · skip
    have e30 : sN S 3 0 = 30 := by have := hT.1.1.1.nO; omega
    refine gsw_i (vx_runSW (g := F0 m 562 ls [.int (nI v23), .int (nI v17), .int (nI (1 + v10)), .int (nI v4), .ref (ad 0 0)]) (As := [.ref (ad 0 0), .int (nI v4), .int (nI (1 + v10)), .int (nI v17), .int (nI v23)]) (rest := []) ⟨hx, hb, hml, hown, hta⟩ (c_L_orderX l hl0 hR hW (p9 := v4) (by have := hT.parts.1; omega) (nI (1 + v10)) (nI v17) (nI v23) (inR_n (a := 1) (b := 100) (by omega) (by omega) (by decide)) (inR_n (a := 0) (b := 2) (by omega) (by omega) (by decide)) (inR_n (a := 0) (b := 9999) (by omega) (by omega) (by decide)) e30) (vx_cwSW 5 hta (gWSW mw499 mw500 mw39 mw501) rfl rfl rfl (by decide +kernel) ⟨Nat.le_of_ble_eq_true rfl, Nat.le_of_ble_eq_true rfl⟩) (gPreW hX hQ hK hP hD hS hA) rfl rfl hl.1 rfl (lv_room (Nat.le_of_ble_eq_true rfl)) dL_law_562 ⟨(by show cells + 1 ≤ 621943; omega), (by show slots + 6 ≤ 7227368; omega)⟩) hD hS hA (fun r31 u H locs c32 hR hP hD hS => ?_)
    obtain ⟨T, ad9, L9, f⟩ := u
    dsimp only at c32 hR hP hD
    obtain ⟨rfl, rfl, rfl, rfl⟩ := c32
    refine lv_istore (lv' := [(12, .int (-1000000)), (0, .ref b), (1, .ref (ad 0 0)), (2, .int (nI (sN S 3 0))), (3, .int (nI (sN S 0 0))), (4, .int (sI S 2 0)), (5, .long (sJ S 1 0)), (7, .int (nI tu)), (8, .int (nI (40 + 5 * tu))), (10, .int (nI qq)), (11, .int (nI lo))]) hx hb dL_law_565 hl (by decide) rfl (fun ls hl => ?_)
    refine lv_iload hx hb dL_law_567 (lv_at hl 0 rfl) ?_
    refine lv_iload_n hx hb dL_law_569 rfl (lv_at hl 3 rfl) ?_
    refine lv_bipush (v := 30) hx hb dL_law_570 (by decide) ?_
    refine lv_icmp_ne (tgt := 580) hx hb dL_law_572 (by decide) (fun c33 => ?_) (fun c33 => ?_)
    · exact absurd c33 (fun q => q (by rw [e30]; rfl))
    · skip
      refine lv_ldc (own := RL) (index := 24) (v := -1000000) hx hb hown (hta _ mw262) dL_law_575 ?_
      refine lv_goto (tgt := 581) hx hb dL_law_577 (by decide) ?_
      refine lv_icmp_eq (tgt := 586) hx hb dL_law_581 (by decide) (fun c34 => ?_) (fun c34 => ?_)
      · skip
        refine lv_iload hx hb dL_law_586 (lv_at hl 0 rfl) ?_
        refine lv_if_lt (tgt := 594) hx hb dL_law_588 (by decide) (fun c35 => ?_) (fun c35 => ?_)
        · skip
          refine lv_goto (tgt := 1085) hx hb dL_law_594 (by decide) ?_
          have hTn : TI S (tu + 1) := hT.same
          have hl : lv_has ls 19 [(0, .ref b), (1, .ref (ad 0 0)), (2, .int (nI (sN S 3 0))), (3, .int (nI (sN S 0 0))), (4, .int (sI S 2 0)), (5, .long (sJ S 1 0)), (7, .int (nI tu))] := by
            exact lv_sub hl [1, 2, 3, 4, 5, 6, 7] rfl
          refine lw_check l C (tu := tu) hTn.1 hR hP hD hS hTn.2.1 hTn.2.2.1 (by have := hTn.2.2.2.1; omega) hl (by (try dsimp only); omega) (by (try dsimp only); omega) (fun H locs f ls ce9 sl9 hP hD hS hR hl hc9 hs9 => ?_)
          exact kk _ _ _ _ _ _ _ _ _ hTn hR hP hD hS hl (by omega) (by omega)
        · exact absurd (by decide) c35
      · exact absurd rfl c34

set_option maxHeartbeats 8000000 in
set_option maxRecDepth 100000 in
/-- PIECES OF A JOB ARE SCRAPPED -/
theorem lb_scrap {p : Program} {e : Env} {s : State} {m : MethodId} {below : List Frame} {meth : Method} {c : Code} (l : Launch) {b Ln : Nat} {xs : Nat → Int32} {A : Nat → Prop} {D : va_G} {tA : Nat → ClassId} (C : LwC p l s m meth c b Ln xs A D tA) {S : St} {ad : Nat → Nat → Nat} {L : List Nat} {f : Nat → va_E} {H : Heap} {locs : List Loc} {ls : Array Slot} {cells slots : Nat} (hR : Rep tA S ad L f) (hP : va_P D vwCl (va_pl L f) H) (hD : va_D A (va_pl L f)) (hS : va_S A s.heap H locs) {tu qq lo : Nat} (hT : TI S tu) (htu : tu < 60) (hc : cells + 800 ≤ 621943) (hsl : slots + 4000 ≤ 7227368) (hl : lv_has ls 19 [(0, .ref b), (1, .ref (ad 0 0)), (2, .int (nI (sN S 3 0))), (3, .int (nI (sN S 0 0))), (4, .int (sI S 2 0)), (5, .long (sJ S 1 0)), (7, .int (nI tu)), (8, .int (nI (40 + 5 * tu))), (10, .int (nI qq)), (11, .int (nI lo))]) (kk : ∀ (T : St) (ad : Nat → Nat → Nat) (L : List Nat) (f : Nat → va_E) (H : Heap) (locs : List Loc) (ls : Array Slot) (ce sl : Nat), TI T (tu + 1) → Rep tA T ad L f → va_P D vwCl (va_pl L f) H → va_D A (va_pl L f) → va_S A s.heap H locs → lv_has ls 19 [(0, .ref b), (1, .ref (ad 0 0)), (2, .int (nI (sN T 3 0))), (3, .int (nI (sN T 0 0))), (4, .int (sI T 2 0)), (5, .long (sJ T 1 0)), (7, .int (nI tu))] → ce ≤ cells + 800 → sl ≤ slots + 4000 → W p l e room_1 s m #[Value.ref b] below meth c H locs ce sl (lw_Z below #[Value.ref b] s) (F0 m 1344 ls [])) (hqq : qq < sN S 3 0) : W p l e room_1 s m #[Value.ref b] below meth c H locs cells slots (lw_Z below #[Value.ref b] s) (F0 m 1015 ls []) := by
  obtain ⟨C0, hL, hA, hA2, hX, hQ, hK, hl0⟩ := id C
  obtain ⟨hx, hb, hr, hml, hown0, hts, hXs, hbl, hlocks, hgv⟩ := id C0
  have hta : ∀ w ∈ WA, w.before #[Value.ref b] s = true := fun w h => hts w (WA_in w h)
  have hown : s.vm.findClass RL = some m.cls := hown0
  have hbA : ¬ A b := fun h => absurd (hA2 b h) (Nat.not_le.mpr hbl)
  have hW := hT.1.1.1
  refine lv_aload_n hx hb dL_law_1015 rfl (lv_at hl 1 rfl) ?_
  refine lv_iload hx hb dL_law_1016 (lv_at hl 8 rfl) ?_
  refine lv_iconst (v := 1) hx hb dL_law_1018 (by decide) ?_
  rcases hw : oInWork S qq with _ | _
  · skip
    refine gsw_i (vx_runSW (g := F0 m 1019 ls [.int 1, .int (nI qq), .ref (ad 0 0)]) (As := [.ref (ad 0 0), .int (nI qq), .int 1]) (rest := []) ⟨hx, hb, hml, hown, hta⟩ (c_L_scrapU l hl0 hR hW hqq 1 hw) (vx_cwSW 3 hta (gWSW mw562 mw563 mw39 mw564) rfl rfl rfl (by decide +kernel) ⟨Nat.le_of_ble_eq_true rfl, Nat.le_of_ble_eq_true rfl⟩) (gPreW hX hQ hK hP hD hS hA) rfl rfl hl.1 rfl (lv_room (Nat.le_of_ble_eq_true rfl)) dL_law_1019 ⟨(by show cells + 1 ≤ 621943; omega), (by show slots + 6 ≤ 7227368; omega)⟩) hD hS hA (fun r1 u H locs c2 hR hP hD hS => ?_)
    obtain ⟨T, ad9, L9, f⟩ := u
    dsimp only at c2 hR hP hD
    obtain ⟨rfl, rfl, rfl, rfl⟩ := c2
    refine lv_istore (lv' := [(12, .int (-1500000)), (0, .ref b), (1, .ref (ad 0 0)), (2, .int (nI (sN S 3 0))), (3, .int (nI (sN S 0 0))), (4, .int (sI S 2 0)), (5, .long (sJ S 1 0)), (7, .int (nI tu)), (8, .int (nI (40 + 5 * tu))), (10, .int (nI qq)), (11, .int (nI lo))]) hx hb dL_law_1022 hl (by decide) rfl (fun ls hl => ?_)
    refine lv_iload hx hb dL_law_1024 (lv_at hl 0 rfl) ?_
    refine lv_if_ge (tgt := 1045) hx hb dL_law_1026 (by decide) (fun c3 => ?_) (fun c3 => ?_)
    · exact absurd c3 (by decide)
    · skip
      refine lv_iload hx hb dL_law_1029 (lv_at hl 0 rfl) ?_
      refine lv_ldc (own := RL) (index := 37) (v := -1500000) hx hb hown (hta _ mw353) dL_law_1031 ?_
      refine lv_icmp_eq (tgt := 1045) hx hb dL_law_1033 (by decide) (fun c4 => ?_) (fun c4 => ?_)
      · skip
        refine lv_goto (tgt := 1085) hx hb dL_law_1045 (by decide) ?_
        have hTn : TI S (tu + 1) := hT.same
        have hl : lv_has ls 19 [(0, .ref b), (1, .ref (ad 0 0)), (2, .int (nI (sN S 3 0))), (3, .int (nI (sN S 0 0))), (4, .int (sI S 2 0)), (5, .long (sJ S 1 0)), (7, .int (nI tu))] := by
          exact lv_sub hl [1, 2, 3, 4, 5, 6, 7] rfl
        refine lw_check l C (tu := tu) hTn.1 hR hP hD hS hTn.2.1 hTn.2.2.1 (by have := hTn.2.2.2.1; omega) hl (by (try dsimp only); omega) (by (try dsimp only); omega) (fun H locs f ls ce9 sl9 hP hD hS hR hl hc9 hs9 => ?_)
        exact kk _ _ _ _ _ _ _ _ _ hTn hR hP hD hS hl (by omega) (by omega)
      · exact absurd rfl c4
  · skip
    rcases hk : inR 1 1 (sI S 60 qq) with _ | _
    · skip
      refine gsw_i (vx_runSW (g := F0 m 1019 ls [.int 1, .int (nI qq), .ref (ad 0 0)]) (As := [.ref (ad 0 0), .int (nI qq), .int 1]) (rest := []) ⟨hx, hb, hml, hown, hta⟩ (c_L_scrapA l hl0 hR hW hqq 1 hw hk) (vx_cwSW 3 hta (gWSW mw562 mw563 mw39 mw564) rfl rfl rfl (by decide +kernel) ⟨Nat.le_of_ble_eq_true rfl, Nat.le_of_ble_eq_true rfl⟩) (gPreW hX hQ hK hP hD hS hA) rfl rfl hl.1 rfl (lv_room (Nat.le_of_ble_eq_true rfl)) dL_law_1019 ⟨(by show cells + 1 ≤ 621943; omega), (by show slots + 6 ≤ 7227368; omega)⟩) hD hS hA (fun r5 u H locs c6 hR hP hD hS => ?_)
      obtain ⟨T, ad9, L9, f⟩ := u
      dsimp only at c6 hR hP hD
      obtain ⟨rfl, rfl, rfl, rfl⟩ := c6
      refine lv_istore (lv' := [(12, .int (-2000000)), (0, .ref b), (1, .ref (ad 0 0)), (2, .int (nI (sN S 3 0))), (3, .int (nI (sN S 0 0))), (4, .int (sI S 2 0)), (5, .long (sJ S 1 0)), (7, .int (nI tu)), (8, .int (nI (40 + 5 * tu))), (10, .int (nI qq)), (11, .int (nI lo))]) hx hb dL_law_1022 hl (by decide) rfl (fun ls hl => ?_)
      refine lv_iload hx hb dL_law_1024 (lv_at hl 0 rfl) ?_
      refine lv_if_ge (tgt := 1045) hx hb dL_law_1026 (by decide) (fun c7 => ?_) (fun c7 => ?_)
      · exact absurd c7 (by decide)
      · skip
        refine lv_iload hx hb dL_law_1029 (lv_at hl 0 rfl) ?_
        refine lv_ldc (own := RL) (index := 37) (v := -1500000) hx hb hown (hta _ mw353) dL_law_1031 ?_
        refine lv_icmp_eq (tgt := 1045) hx hb dL_law_1033 (by decide) (fun c8 => ?_) (fun c8 => ?_)
        · exact absurd c8 (by decide)
        · skip
          refine lv_iload hx hb dL_law_1036 (lv_at hl 0 rfl) ?_
          refine lv_ldc (own := RL) (index := 21) (v := -2000000) hx hb hown (hta _ mw261) dL_law_1038 ?_
          refine lv_icmp_eq (tgt := 1045) hx hb dL_law_1040 (by decide) (fun c9 => ?_) (fun c9 => ?_)
          · skip
            refine lv_goto (tgt := 1085) hx hb dL_law_1045 (by decide) ?_
            have hTn : TI S (tu + 1) := hT.same
            have hl : lv_has ls 19 [(0, .ref b), (1, .ref (ad 0 0)), (2, .int (nI (sN S 3 0))), (3, .int (nI (sN S 0 0))), (4, .int (sI S 2 0)), (5, .long (sJ S 1 0)), (7, .int (nI tu))] := by
              exact lv_sub hl [1, 2, 3, 4, 5, 6, 7] rfl
            refine lw_check l C (tu := tu) hTn.1 hR hP hD hS hTn.2.1 hTn.2.2.1 (by have := hTn.2.2.2.1; omega) hl (by (try dsimp only); omega) (by (try dsimp only); omega) (fun H locs f ls ce9 sl9 hP hD hS hR hl hc9 hs9 => ?_)
            exact kk _ _ _ _ _ _ _ _ _ hTn hR hP hD hS hl (by omega) (by omega)
          · exact absurd rfl c9
    · skip
      refine gsw_i (vx_runSW (g := F0 m 1019 ls [.int 1, .int (nI qq), .ref (ad 0 0)]) (As := [.ref (ad 0 0), .int (nI qq), .int 1]) (rest := []) ⟨hx, hb, hml, hown, hta⟩ (c_L_scrap l hl0 hR hW hqq 1 hw hk) (vx_cwSW 3 hta (gWSW mw562 mw563 mw39 mw564) rfl rfl rfl (by decide +kernel) ⟨Nat.le_of_ble_eq_true rfl, Nat.le_of_ble_eq_true rfl⟩) (gPreW hX hQ hK hP hD hS hA) rfl rfl hl.1 rfl (lv_room (Nat.le_of_ble_eq_true rfl)) dL_law_1019 ⟨(by show cells + 0 ≤ 621943; omega), (by show slots + 0 ≤ 7227368; omega)⟩) hD hS hA (fun r10 u H locs c11 hR hP hD hS => ?_)
      obtain ⟨T, ad9, L9, f⟩ := u
      dsimp only at c11 hR hP hD
      obtain ⟨rfl, rfl, rfl, rfl⟩ := c11
      have hs9 := sc_res hT.1 hqq hk
      obtain ⟨hI9, hk9, -⟩ := hT.1.scrap hqq (wk_iff hw) hs9.2.1 hs9.2.2
      refine lv_istore (lv' := [(12, .int (sI S 60 qq - 1)), (0, .ref b), (1, .ref (ad 0 0)), (2, .int (nI (sN S 3 0))), (3, .int (nI (sN S 0 0))), (4, .int (sI S 2 0)), (5, .long (sJ S 1 0)), (7, .int (nI tu)), (8, .int (nI (40 + 5 * tu))), (10, .int (nI qq)), (11, .int (nI lo))]) hx hb dL_law_1022 hl (by decide) rfl (fun ls hl => ?_)
      refine lv_iload hx hb dL_law_1024 (lv_at hl 0 rfl) ?_
      refine lv_if_ge (tgt := 1045) hx hb dL_law_1026 (by decide) (fun c12 => ?_) (fun c12 => ?_)
      · skip
        refine lv_goto (tgt := 1085) hx hb dL_law_1045 (by decide) ?_
        have hTn : TI (scS S qq 1) (tu + 1) := hT.keep hI9 hk9
        have hl : lv_has ls 19 [(0, .ref b), (1, .ref (ad 0 0)), (2, .int (nI (sN (scS S qq 1) 3 0))), (3, .int (nI (sN (scS S qq 1) 0 0))), (4, .int (sI (scS S qq 1) 2 0)), (5, .long (sJ (scS S qq 1) 1 0)), (7, .int (nI tu))] := by
          rw [show nI (sN (scS S qq 1) 3 0) = nI (sN S 3 0) from congrArg nI hk9.1, show nI (sN (scS S qq 1) 0 0) = nI (sN S 0 0) from congrArg nI hk9.2.1, show sI (scS S qq 1) 2 0 = sI S 2 0 from hk9.2.2.2.1, show sJ (scS S qq 1) 1 0 = sJ S 1 0 from hk9.2.2.2.2]
          exact lv_sub hl [1, 2, 3, 4, 5, 6, 7] rfl
        refine lw_check l C (tu := tu) hTn.1 hR hP hD hS hTn.2.1 hTn.2.2.1 (by have := hTn.2.2.2.1; omega) hl (by (try dsimp only); omega) (by (try dsimp only); omega) (fun H locs f ls ce9 sl9 hP hD hS hR hl hc9 hs9 => ?_)
        exact kk _ _ _ _ _ _ _ _ _ hTn hR hP hD hS hl (by omega) (by omega)
      · exact absurd hs9.1 c12

set_option maxHeartbeats 8000000 in
set_option maxRecDepth 100000 in
/-- TIME GOES ON -/
theorem lb_advance {p : Program} {e : Env} {s : State} {m : MethodId} {below : List Frame} {meth : Method} {c : Code} (l : Launch) {b Ln : Nat} {xs : Nat → Int32} {A : Nat → Prop} {D : va_G} {tA : Nat → ClassId} (C : LwC p l s m meth c b Ln xs A D tA) {S : St} {ad : Nat → Nat → Nat} {L : List Nat} {f : Nat → va_E} {H : Heap} {locs : List Loc} {ls : Array Slot} {cells slots : Nat} (hR : Rep tA S ad L f) (hP : va_P D vwCl (va_pl L f) H) (hD : va_D A (va_pl L f)) (hS : va_S A s.heap H locs) {tu qq lo : Nat} (hT : TI S tu) (htu : tu < 60) (hc : cells + 800 ≤ 621943) (hsl : slots + 4000 ≤ 7227368) (hl : lv_has ls 19 [(0, .ref b), (1, .ref (ad 0 0)), (2, .int (nI (sN S 3 0))), (3, .int (nI (sN S 0 0))), (4, .int (sI S 2 0)), (5, .long (sJ S 1 0)), (7, .int (nI tu)), (8, .int (nI (40 + 5 * tu))), (10, .int (nI qq)), (11, .int (nI lo))]) (kk : ∀ (T : St) (ad : Nat → Nat → Nat) (L : List Nat) (f : Nat → va_E) (H : Heap) (locs : List Loc) (ls : Array Slot) (ce sl : Nat), TI T (tu + 1) → Rep tA T ad L f → va_P D vwCl (va_pl L f) H → va_D A (va_pl L f) → va_S A s.heap H locs → lv_has ls 19 [(0, .ref b), (1, .ref (ad 0 0)), (2, .int (nI (sN T 3 0))), (3, .int (nI (sN T 0 0))), (4, .int (sI T 2 0)), (5, .long (sJ T 1 0)), (7, .int (nI tu))] → ce ≤ cells + 800 → sl ≤ slots + 4000 → W p l e room_1 s m #[Value.ref b] below meth c H locs ce sl (lw_Z below #[Value.ref b] s) (F0 m 1344 ls []))  : W p l e room_1 s m #[Value.ref b] below meth c H locs cells slots (lw_Z below #[Value.ref b] s) (F0 m 1048 ls []) := by
  obtain ⟨C0, hL, hA, hA2, hX, hQ, hK, hl0⟩ := id C
  obtain ⟨hx, hb, hr, hml, hown0, hts, hXs, hbl, hlocks, hgv⟩ := id C0
  have hta : ∀ w ∈ WA, w.before #[Value.ref b] s = true := fun w h => hts w (WA_in w h)
  have hown : s.vm.findClass RL = some m.cls := hown0
  have hbA : ¬ A b := fun h => absurd (hA2 b h) (Nat.not_le.mpr hbl)
  have hW := hT.1.1.1
  refine lv_iconst (v := 1) hx hb dL_law_1048 (by decide) ?_
  refine lv_aload_n hx hb dL_law_1049 rfl (lv_at hl 0 rfl) ?_
  refine lv_iload hx hb dL_law_1050 (lv_at hl 7 rfl) ?_
  refine lv_iconst (v := 3) hx hb dL_law_1052 (by decide) ?_
  refine lv_iadd hx hb dL_law_1053 ?_
  refine lv_topi (fun x1 ex1 => ?_)
  obtain rfl : x1 = nI (40 + 5 * tu + 3) := ex1.trans (nI_add (40 + 5 * tu) 3)
  refine lv_bipush (v := 12) hx hb dL_law_1054 (by decide) ?_
  refine vp_callSi (run_of (va_runS (g := F0 m 1056 ls [.int 12, .int (nI (40 + 5 * tu + 3)), .ref b, .int 1]) (As := [.ref b, .int (nI (40 + 5 * tu + 3)), .int 12]) (rest := [.int 1]) ⟨hx, hb, hml, hown, hta⟩ (c_L_some l (xs := xs) hL (k := 40 + 5 * tu + 3) (n := 12) (by omega) (by decide) (by decide)) (va_cwS 3 hta (gWS mw208 mw209 mw39 mw210) rfl rfl rfl (by decide +kernel) ⟨Nat.le_of_ble_eq_true rfl, Nat.le_of_ble_eq_true rfl⟩) (gPreS hXs hbl hbA hS) rfl rfl hl.1 rfl (lv_room (Nat.le_of_ble_eq_true rfl)) dL_law_1056 ⟨(by show cells + 0 ≤ 621943; omega), (by show slots + 0 ≤ 7227368; omega)⟩)) (fun r2 c3 => ?_)
  obtain rfl := c3
  obtain ⟨v4, ev5, hv6⟩ : ∃ v, smV Ln xs (40 + 5 * tu + 3) 12 = v ∧ v < 12 := ⟨_, rfl, smV_lt (by decide)⟩
  rw [ev5]
  refine lv_iadd hx hb dL_law_1059 ?_
  refine lv_topi (fun x7 ex7 => ?_)
  obtain rfl : x7 = nI (1 + v4) := ex7.trans (nI_add 1 v4)
  refine lv_istore (lv' := [(12, .int (nI (1 + v4))), (0, .ref b), (1, .ref (ad 0 0)), (2, .int (nI (sN S 3 0))), (3, .int (nI (sN S 0 0))), (4, .int (sI S 2 0)), (5, .long (sJ S 1 0)), (7, .int (nI tu)), (8, .int (nI (40 + 5 * tu))), (10, .int (nI qq)), (11, .int (nI lo))]) hx hb dL_law_1060 hl (by decide) rfl (fun ls hl => ?_)
  refine lv_aload_n hx hb dL_law_1062 rfl (lv_at hl 2 rfl) ?_
  refine lv_iload hx hb dL_law_1063 (lv_at hl 0 rfl) ?_
  have hb12 : 1 + v4 ≤ 12 := by omega
  have hn9 := hT.nw htu hb12
  have ha9 := hT.1.adv hn9.2.1 hn9.2.2.2
  refine gsw_i (vx_runSW (g := F0 m 1065 ls [.int (nI (1 + v4)), .ref (ad 0 0)]) (As := [.ref (ad 0 0), .int (nI (1 + v4))]) (rest := []) ⟨hx, hb, hml, hown, hta⟩ (c_L_advance l hl0 hR hW (b := 1 + v4) hb12 (inR_n (a := 1) (b := 500) (by omega) (by omega) (by decide)) hn9.1 (fun k hk j hj => (ha9 k (Nat.le_of_lt hk)).2.2 hk j hj)) (vx_cwSW 2 hta (gWSW mw570 mw571 mw39 mw572) rfl rfl rfl (by decide +kernel) ⟨Nat.le_of_ble_eq_true rfl, Nat.le_of_ble_eq_true rfl⟩) (gPreW hX hQ hK hP hD hS hA) rfl rfl hl.1 rfl (lv_room (Nat.le_of_ble_eq_true rfl)) dL_law_1065 ⟨(by show cells + 240 ≤ 621943; omega), (by show slots + 960 ≤ 7227368; omega)⟩) hD hS hA (fun r8 u H locs c9 hR hP hD hS => ?_)
  obtain ⟨T, ad9, L9, f⟩ := u
  dsimp only at c9 hR hP hD
  obtain ⟨rfl, rfl, had⟩ := c9
  have had := had 0 0 (rfl : (0 : Nat) = 0)
  rw [← had] at hl
  obtain ⟨hI9, hk9, -⟩ := ha9 _ (Nat.le_refl _)
  have he9 := adv_now hT.now hn9.2.2.1 hb12 hk9
  refine lv_iload hx hb dL_law_1068 (lv_at hl 5 rfl) ?_
  refine lv_iload hx hb dL_law_1070 (lv_at hl 0 rfl) ?_
  refine lv_iadd hx hb dL_law_1072 ?_
  refine lv_icmp_eq (tgt := 1078) hx hb dL_law_1073 (by decide) (fun c10 => ?_) (fun c10 => ?_)
  · skip
    refine lv_iload hx hb dL_law_1078 (lv_at hl 5 rfl) ?_
    refine lv_iload hx hb dL_law_1080 (lv_at hl 0 rfl) ?_
    refine lv_iadd hx hb dL_law_1082 ?_
    refine lv_istore (lv' := [(4, .int ((sI S 2 0) + (nI (1 + v4)))), (12, .int (nI (1 + v4))), (0, .ref b), (1, .ref (ad9 0 0)), (2, .int (nI (sN S 3 0))), (3, .int (nI (sN S 0 0))), (5, .long (sJ S 1 0)), (7, .int (nI tu)), (8, .int (nI (40 + 5 * tu))), (10, .int (nI qq)), (11, .int (nI lo))]) hx hb dL_law_1083 hl (by decide) rfl (fun ls hl => ?_)
    have hTn : TI (avS S (1 + v4)) (tu + 1) := hT.adv hb12 hI9 hk9
    have hl : lv_has ls 19 [(0, .ref b), (1, .ref (ad9 0 0)), (2, .int (nI (sN (avS S (1 + v4)) 3 0))), (3, .int (nI (sN (avS S (1 + v4)) 0 0))), (4, .int (sI (avS S (1 + v4)) 2 0)), (5, .long (sJ (avS S (1 + v4)) 1 0)), (7, .int (nI tu))] := by
      rw [show nI (sN (avS S (1 + v4)) 3 0) = nI (sN S 3 0) from congrArg nI hk9.1, show nI (sN (avS S (1 + v4)) 0 0) = nI (sN S 0 0) from congrArg nI hk9.2.1, show sI (avS S (1 + v4)) 2 0 = (sI S 2 0) + (nI (1 + v4)) from he9, show sJ (avS S (1 + v4)) 1 0 = sJ S 1 0 from hk9.2.2.2.2]
      exact lv_sub hl [2, 3, 4, 5, 0, 6, 7] rfl
    refine lw_check l C (tu := tu) hTn.1 hR hP hD hS hTn.2.1 hTn.2.2.1 (by have := hTn.2.2.2.1; omega) hl (by (try dsimp only); omega) (by (try dsimp only); omega) (fun H locs f ls ce9 sl9 hP hD hS hR hl hc9 hs9 => ?_)
    exact kk _ _ _ _ _ _ _ _ _ hTn hR hP hD hS hl (by omega) (by omega)
  · exact absurd he9 c10

set_option maxHeartbeats 8000000 in
set_option maxRecDepth 100000 in
/-- A LOT IS HELD OR LET GO -/
theorem lb_hold {p : Program} {e : Env} {s : State} {m : MethodId} {below : List Frame} {meth : Method} {c : Code} (l : Launch) {b Ln : Nat} {xs : Nat → Int32} {A : Nat → Prop} {D : va_G} {tA : Nat → ClassId} (C : LwC p l s m meth c b Ln xs A D tA) {S : St} {ad : Nat → Nat → Nat} {L : List Nat} {f : Nat → va_E} {H : Heap} {locs : List Loc} {ls : Array Slot} {cells slots : Nat} (hR : Rep tA S ad L f) (hP : va_P D vwCl (va_pl L f) H) (hD : va_D A (va_pl L f)) (hS : va_S A s.heap H locs) {tu qq lo : Nat} (hT : TI S tu) (htu : tu < 60) (hc : cells + 800 ≤ 621943) (hsl : slots + 4000 ≤ 7227368) (hl : lv_has ls 19 [(0, .ref b), (1, .ref (ad 0 0)), (2, .int (nI (sN S 3 0))), (3, .int (nI (sN S 0 0))), (4, .int (sI S 2 0)), (5, .long (sJ S 1 0)), (7, .int (nI tu)), (8, .int (nI (40 + 5 * tu))), (10, .int (nI qq)), (11, .int (nI lo))]) (kk : ∀ (T : St) (ad : Nat → Nat → Nat) (L : List Nat) (f : Nat → va_E) (H : Heap) (locs : List Loc) (ls : Array Slot) (ce sl : Nat), TI T (tu + 1) → Rep tA T ad L f → va_P D vwCl (va_pl L f) H → va_D A (va_pl L f) → va_S A s.heap H locs → lv_has ls 19 [(0, .ref b), (1, .ref (ad 0 0)), (2, .int (nI (sN T 3 0))), (3, .int (nI (sN T 0 0))), (4, .int (sI T 2 0)), (5, .long (sJ T 1 0)), (7, .int (nI tu))] → ce ≤ cells + 800 → sl ≤ slots + 4000 → W p l e room_1 s m #[Value.ref b] below meth c H locs ce sl (lw_Z below #[Value.ref b] s) (F0 m 1344 ls [])) (hlo : lo < sN S 2 0) : W p l e room_1 s m #[Value.ref b] below meth c H locs cells slots (lw_Z below #[Value.ref b] s) (F0 m 938 ls []) := by
  obtain ⟨C0, hL, hA, hA2, hX, hQ, hK, hl0⟩ := id C
  obtain ⟨hx, hb, hr, hml, hown0, hts, hXs, hbl, hlocks, hgv⟩ := id C0
  have hta : ∀ w ∈ WA, w.before #[Value.ref b] s = true := fun w h => hts w (WA_in w h)
  have hown : s.vm.findClass RL = some m.cls := hown0
  have hbA : ¬ A b := fun h => absurd (hA2 b h) (Nat.not_le.mpr hbl)
  have hW := hT.1.1.1
  refine lv_aload_n hx hb dL_law_938 rfl (lv_at hl 1 rfl) ?_
  refine lv_iload hx hb dL_law_939 (lv_at hl 9 rfl) ?_
  refine lv_aload_n hx hb dL_law_941 rfl (lv_at hl 0 rfl) ?_
  refine lv_iload hx hb dL_law_942 (lv_at hl 7 rfl) ?_
  refine lv_iconst (v := 3) hx hb dL_law_944 (by decide) ?_
  refine lv_iadd hx hb dL_law_945 ?_
  refine lv_topi (fun x1 ex1 => ?_)
  obtain rfl : x1 = nI (40 + 5 * tu + 3) := ex1.trans (nI_add (40 + 5 * tu) 3)
  refine lv_iconst (v := 2) hx hb dL_law_946 (by decide) ?_
  refine vp_callSi (run_of (va_runS (g := F0 m 947 ls [.int 2, .int (nI (40 + 5 * tu + 3)), .ref b, .int (nI lo), .ref (ad 0 0)]) (As := [.ref b, .int (nI (40 + 5 * tu + 3)), .int 2]) (rest := [.int (nI lo), .ref (ad 0 0)]) ⟨hx, hb, hml, hown, hta⟩ (c_L_some l (xs := xs) hL (k := 40 + 5 * tu + 3) (n := 2) (by omega) (by decide) (by decide)) (va_cwS 3 hta (gWS mw208 mw209 mw39 mw210) rfl rfl rfl (by decide +kernel) ⟨Nat.le_of_ble_eq_true rfl, Nat.le_of_ble_eq_true rfl⟩) (gPreS hXs hbl hbA hS) rfl rfl hl.1 rfl (lv_room (Nat.le_of_ble_eq_true rfl)) dL_law_947 ⟨(by show cells + 0 ≤ 621943; omega), (by show slots + 0 ≤ 7227368; omega)⟩)) (fun r2 c3 => ?_)
  obtain rfl := c3
  obtain ⟨v4, ev5, hv6⟩ : ∃ v, smV Ln xs (40 + 5 * tu + 3) 2 = v ∧ v < 2 := ⟨_, rfl, smV_lt (by decide)⟩
  rw [ev5]
  rcases (show v4 = 0 ∨ v4 = 1 by omega) with rfl | rfl
  · skip
    refine lv_if_ne (tgt := 957) hx hb dL_law_950 (by decide) (fun c7 => ?_) (fun c7 => ?_)
    · exact absurd c7 (by decide)
    · skip
      refine lv_iconst (v := 1) hx hb dL_law_953 (by decide) ?_
      refine lv_goto (tgt := 958) hx hb dL_law_954 (by decide) ?_
      refine gsw_i (vx_runSW (g := F0 m 958 ls [.int 1, .int (nI lo), .ref (ad 0 0)]) (As := [.ref (ad 0 0), .int (nI lo), .int 1]) (rest := []) ⟨hx, hb, hml, hown, hta⟩ (c_L_hold1 l hl0 hR hW hlo) (vx_cwSW 3 hta (gWSW mw449 mw450 mw39 mw451) rfl rfl rfl (by decide +kernel) ⟨Nat.le_of_ble_eq_true rfl, Nat.le_of_ble_eq_true rfl⟩) (gPreW hX hQ hK hP hD hS hA) rfl rfl hl.1 rfl (lv_room (Nat.le_of_ble_eq_true rfl)) dL_law_958 ⟨(by show cells + 0 ≤ 621943; omega), (by show slots + 0 ≤ 7227368; omega)⟩) hD hS hA (fun r8 u H locs c9 hR hP hD hS => ?_)
      obtain ⟨T, ad9, L9, f⟩ := u
      dsimp only at c9 hR hP hD
      obtain ⟨rfl, rfl, rfl, rfl⟩ := c9
      obtain ⟨hI9, hb9, hp9, c9, hc9, hn9⟩ := hT.1.hold1 hlo
      rw [hc9]
      have hlo9 : lo < sN (pohS S lo) 2 0 := by rw [hp9.1]; exact hlo
      have hk9 := keep_poh hp9
      refine lv_istore (lv' := [(12, .int (nI c9)), (0, .ref b), (1, .ref (ad 0 0)), (2, .int (nI (sN S 3 0))), (3, .int (nI (sN S 0 0))), (4, .int (sI S 2 0)), (5, .long (sJ S 1 0)), (7, .int (nI tu)), (8, .int (nI (40 + 5 * tu))), (10, .int (nI qq)), (11, .int (nI lo))]) hx hb dL_law_961 hl (by decide) rfl (fun ls hl => ?_)
      refine lv_iload hx hb dL_law_963 (lv_at hl 0 rfl) ?_
      refine lv_if_lt (tgt := 999) hx hb dL_law_965 (by decide) (fun c10 => ?_) (fun c10 => ?_)
      · exact absurd c10 (nI_pos (by have := hT.1.1.1.nO; have : c9 ≤ sN S 3 0 := hn9; omega))
      · skip
        refine lv_iload hx hb dL_law_968 (lv_at hl 0 rfl) ?_
        refine lv_iload_n hx hb dL_law_970 rfl (lv_at hl 3 rfl) ?_
        refine lv_icmp_gt (tgt := 999) hx hb dL_law_971 (by decide) (fun c11 => ?_) (fun c11 => ?_)
        · exact absurd c11 (nI_nlt hn9 (by have := hT.1.1.1.nO; omega))
        · skip
          refine lv_aload_n hx hb dL_law_974 rfl (lv_at hl 2 rfl) ?_
          refine lv_bipush (v := 104) hx hb dL_law_975 (by decide) ?_
          refine lv_iload hx hb dL_law_977 (lv_at hl 10 rfl) ?_
          refine lv_iconst (v := 0) hx hb dL_law_979 (by decide) ?_
          refine vp_callSi (run_of (vx_runSW (g := F0 m 980 ls [.int 0, .int (nI lo), .int 104, .ref (ad 0 0)]) (As := [.ref (ad 0 0), .int 104, .int (nI lo), .int 0]) (rest := []) ⟨hx, hb, hml, hown, hta⟩ (c_L_isH l hR hI9.1.1 hlo9 0) (vx_cwSW 4 hta (gWSW mw672 mw673 mw39 mw674) rfl rfl rfl (by decide +kernel) ⟨Nat.le_of_ble_eq_true rfl, Nat.le_of_ble_eq_true rfl⟩) (gPreB hK hP hD) rfl rfl hl.1 rfl (lv_room (Nat.le_of_ble_eq_true rfl)) dL_law_980 ⟨(by show cells + 0 + 0 ≤ 621943; omega), (by show slots + 0 + 0 ≤ 7227368; omega)⟩)) (fun r12 c13 => ?_)
          obtain rfl := c13
          refine lv_iconst (v := 1) hx hb dL_law_983 (by decide) ?_
          refine lv_icmp_eq (tgt := 1001) hx hb dL_law_984 (by decide) (fun c14 => ?_) (fun c14 => ?_)
          · skip
            refine lv_goto (tgt := 1085) hx hb dL_law_1001 (by decide) ?_
            have hTn : TI (pohS S lo) (tu + 1) := hT.keep hI9 hk9
            have hl : lv_has ls 19 [(0, .ref b), (1, .ref (ad 0 0)), (2, .int (nI (sN (pohS S lo) 3 0))), (3, .int (nI (sN (pohS S lo) 0 0))), (4, .int (sI (pohS S lo) 2 0)), (5, .long (sJ (pohS S lo) 1 0)), (7, .int (nI tu))] := by
              rw [show nI (sN (pohS S lo) 3 0) = nI (sN S 3 0) from congrArg nI hk9.1, show nI (sN (pohS S lo) 0 0) = nI (sN S 0 0) from congrArg nI hk9.2.1, show sI (pohS S lo) 2 0 = sI S 2 0 from hk9.2.2.2.1, show sJ (pohS S lo) 1 0 = sJ S 1 0 from hk9.2.2.2.2]
              exact lv_sub hl [1, 2, 3, 4, 5, 6, 7] rfl
            refine lw_check l C (tu := tu) hTn.1 hR hP hD hS hTn.2.1 hTn.2.2.1 (by have := hTn.2.2.2.1; omega) hl (by (try dsimp only); omega) (by (try dsimp only); omega) (fun H locs f ls ce9 sl9 hP hD hS hR hl hc9 hs9 => ?_)
            exact kk _ _ _ _ _ _ _ _ _ hTn hR hP hD hS hl (by omega) (by omega)
          · exact absurd (by rw [hb9]; rfl) c14
  · skip
    refine lv_if_ne (tgt := 957) hx hb dL_law_950 (by decide) (fun c15 => ?_) (fun c15 => ?_)
    · skip
      refine lv_iconst (v := 0) hx hb dL_law_957 (by decide) ?_
      refine gsw_i (vx_runSW (g := F0 m 958 ls [.int 0, .int (nI lo), .ref (ad 0 0)]) (As := [.ref (ad 0 0), .int (nI lo), .int 0]) (rest := []) ⟨hx, hb, hml, hown, hta⟩ (c_L_hold0 l hl0 hR hW hlo) (vx_cwSW 3 hta (gWSW mw449 mw450 mw39 mw451) rfl rfl rfl (by decide +kernel) ⟨Nat.le_of_ble_eq_true rfl, Nat.le_of_ble_eq_true rfl⟩) (gPreW hX hQ hK hP hD hS hA) rfl rfl hl.1 rfl (lv_room (Nat.le_of_ble_eq_true rfl)) dL_law_958 ⟨(by show cells + 0 ≤ 621943; omega), (by show slots + 0 ≤ 7227368; omega)⟩) hD hS hA (fun r16 u H locs c17 hR hP hD hS => ?_)
      obtain ⟨T, ad9, L9, f⟩ := u
      dsimp only at c17 hR hP hD
      obtain ⟨rfl, rfl, rfl, rfl⟩ := c17
      have hI9 := hT.1.hold0 hlo
      have hk9 := keep_del (S := S) lo
      have hlo9 : lo < sN (sDel S 14 0 lo) 2 0 := hlo
      refine lv_istore (lv' := [(12, .int 0), (0, .ref b), (1, .ref (ad 0 0)), (2, .int (nI (sN S 3 0))), (3, .int (nI (sN S 0 0))), (4, .int (sI S 2 0)), (5, .long (sJ S 1 0)), (7, .int (nI tu)), (8, .int (nI (40 + 5 * tu))), (10, .int (nI qq)), (11, .int (nI lo))]) hx hb dL_law_961 hl (by decide) rfl (fun ls hl => ?_)
      refine lv_iload hx hb dL_law_963 (lv_at hl 0 rfl) ?_
      refine lv_if_lt (tgt := 999) hx hb dL_law_965 (by decide) (fun c18 => ?_) (fun c18 => ?_)
      · exact absurd c18 (by decide)
      · skip
        refine lv_iload hx hb dL_law_968 (lv_at hl 0 rfl) ?_
        refine lv_iload_n hx hb dL_law_970 rfl (lv_at hl 3 rfl) ?_
        refine lv_icmp_gt (tgt := 999) hx hb dL_law_971 (by decide) (fun c19 => ?_) (fun c19 => ?_)
        · exact absurd c19 (nI_pos (by have := hT.1.1.1.nO; omega))
        · skip
          refine lv_aload_n hx hb dL_law_974 rfl (lv_at hl 2 rfl) ?_
          refine lv_bipush (v := 104) hx hb dL_law_975 (by decide) ?_
          refine lv_iload hx hb dL_law_977 (lv_at hl 10 rfl) ?_
          refine lv_iconst (v := 0) hx hb dL_law_979 (by decide) ?_
          refine vp_callSi (run_of (vx_runSW (g := F0 m 980 ls [.int 0, .int (nI lo), .int 104, .ref (ad 0 0)]) (As := [.ref (ad 0 0), .int 104, .int (nI lo), .int 0]) (rest := []) ⟨hx, hb, hml, hown, hta⟩ (c_L_isH l hR hI9.1.1 hlo9 0) (vx_cwSW 4 hta (gWSW mw672 mw673 mw39 mw674) rfl rfl rfl (by decide +kernel) ⟨Nat.le_of_ble_eq_true rfl, Nat.le_of_ble_eq_true rfl⟩) (gPreB hK hP hD) rfl rfl hl.1 rfl (lv_room (Nat.le_of_ble_eq_true rfl)) dL_law_980 ⟨(by show cells + 0 + 0 ≤ 621943; omega), (by show slots + 0 + 0 ≤ 7227368; omega)⟩)) (fun r20 c21 => ?_)
          obtain rfl := c21
          refine lv_iconst (v := 1) hx hb dL_law_983 (by decide) ?_
          refine lv_icmp_eq (tgt := 1001) hx hb dL_law_984 (by decide) (fun c22 => ?_) (fun c22 => ?_)
          · skip
            refine lv_goto (tgt := 1085) hx hb dL_law_1001 (by decide) ?_
            have hTn : TI (sDel S 14 0 lo) (tu + 1) := hT.keep hI9 hk9
            have hl : lv_has ls 19 [(0, .ref b), (1, .ref (ad 0 0)), (2, .int (nI (sN (sDel S 14 0 lo) 3 0))), (3, .int (nI (sN (sDel S 14 0 lo) 0 0))), (4, .int (sI (sDel S 14 0 lo) 2 0)), (5, .long (sJ (sDel S 14 0 lo) 1 0)), (7, .int (nI tu))] := by
              rw [show nI (sN (sDel S 14 0 lo) 3 0) = nI (sN S 3 0) from congrArg nI hk9.1, show nI (sN (sDel S 14 0 lo) 0 0) = nI (sN S 0 0) from congrArg nI hk9.2.1, show sI (sDel S 14 0 lo) 2 0 = sI S 2 0 from hk9.2.2.2.1, show sJ (sDel S 14 0 lo) 1 0 = sJ S 1 0 from hk9.2.2.2.2]
              exact lv_sub hl [1, 2, 3, 4, 5, 6, 7] rfl
            refine lw_check l C (tu := tu) hTn.1 hR hP hD hS hTn.2.1 hTn.2.2.1 (by have := hTn.2.2.2.1; omega) hl (by (try dsimp only); omega) (by (try dsimp only); omega) (fun H locs f ls ce9 sl9 hP hD hS hR hl hc9 hs9 => ?_)
            exact kk _ _ _ _ _ _ _ _ _ hTn hR hP hD hS hl (by omega) (by omega)
          · skip
            refine lv_aload_n hx hb dL_law_987 rfl (lv_at hl 1 rfl) ?_
            refine lv_iload hx hb dL_law_988 (lv_at hl 8 rfl) ?_
            refine lv_iconst (v := 3) hx hb dL_law_990 (by decide) ?_
            refine lv_iadd hx hb dL_law_991 ?_
            refine lv_topi (fun x23 ex23 => ?_)
            obtain rfl : x23 = nI (40 + 5 * tu + 3) := ex23.trans (nI_add (40 + 5 * tu) 3)
            refine lv_iconst (v := 2) hx hb dL_law_992 (by decide) ?_
            refine vp_callSi (run_of (va_runS (g := F0 m 993 ls [.int 2, .int (nI (40 + 5 * tu + 3)), .ref b]) (As := [.ref b, .int (nI (40 + 5 * tu + 3)), .int 2]) (rest := []) ⟨hx, hb, hml, hown, hta⟩ (c_L_some l (xs := xs) hL (k := 40 + 5 * tu + 3) (n := 2) (by omega) (by decide) (by decide)) (va_cwS 3 hta (gWS mw208 mw209 mw39 mw210) rfl rfl rfl (by decide +kernel) ⟨Nat.le_of_ble_eq_true rfl, Nat.le_of_ble_eq_true rfl⟩) (gPreS hXs hbl hbA hS) rfl rfl hl.1 rfl (lv_room (Nat.le_of_ble_eq_true rfl)) dL_law_993 ⟨(by show cells + 0 + 0 ≤ 621943; omega), (by show slots + 0 + 0 ≤ 7227368; omega)⟩)) (fun r24 c25 => ?_)
            obtain rfl := c25
            rw [ev5]
            refine lv_if_ne (tgt := 1001) hx hb dL_law_996 (by decide) (fun c26 => ?_) (fun c26 => ?_)
            · skip
              refine lv_goto (tgt := 1085) hx hb dL_law_1001 (by decide) ?_
              have hTn : TI (sDel S 14 0 lo) (tu + 1) := hT.keep hI9 hk9
              have hl : lv_has ls 19 [(0, .ref b), (1, .ref (ad 0 0)), (2, .int (nI (sN (sDel S 14 0 lo) 3 0))), (3, .int (nI (sN (sDel S 14 0 lo) 0 0))), (4, .int (sI (sDel S 14 0 lo) 2 0)), (5, .long (sJ (sDel S 14 0 lo) 1 0)), (7, .int (nI tu))] := by
                rw [show nI (sN (sDel S 14 0 lo) 3 0) = nI (sN S 3 0) from congrArg nI hk9.1, show nI (sN (sDel S 14 0 lo) 0 0) = nI (sN S 0 0) from congrArg nI hk9.2.1, show sI (sDel S 14 0 lo) 2 0 = sI S 2 0 from hk9.2.2.2.1, show sJ (sDel S 14 0 lo) 1 0 = sJ S 1 0 from hk9.2.2.2.2]
                exact lv_sub hl [1, 2, 3, 4, 5, 6, 7] rfl
              refine lw_check l C (tu := tu) hTn.1 hR hP hD hS hTn.2.1 hTn.2.2.1 (by have := hTn.2.2.2.1; omega) hl (by (try dsimp only); omega) (by (try dsimp only); omega) (fun H locs f ls ce9 sl9 hP hD hS hR hl hc9 hs9 => ?_)
              exact kk _ _ _ _ _ _ _ _ _ hTn hR hP hD hS hl (by omega) (by omega)
            · exact absurd c26 c15
    · exact absurd c15 (by decide)

set_option maxHeartbeats 8000000 in
set_option maxRecDepth 100000 in
/-- AN ORDER IS DELIVERED -/
theorem lb_deliver {p : Program} {e : Env} {s : State} {m : MethodId} {below : List Frame} {meth : Method} {c : Code} (l : Launch) {b Ln : Nat} {xs : Nat → Int32} {A : Nat → Prop} {D : va_G} {tA : Nat → ClassId} (C : LwC p l s m meth c b Ln xs A D tA) {S : St} {ad : Nat → Nat → Nat} {L : List Nat} {f : Nat → va_E} {H : Heap} {locs : List Loc} {ls : Array Slot} {cells slots : Nat} (hR : Rep tA S ad L f) (hP : va_P D vwCl (va_pl L f) H) (hD : va_D A (va_pl L f)) (hS : va_S A s.heap H locs) {tu qq lo : Nat} (hT : TI S tu) (htu : tu < 60) (hc : cells + 800 ≤ 621943) (hsl : slots + 4000 ≤ 7227368) (hl : lv_has ls 19 [(0, .ref b), (1, .ref (ad 0 0)), (2, .int (nI (sN S 3 0))), (3, .int (nI (sN S 0 0))), (4, .int (sI S 2 0)), (5, .long (sJ S 1 0)), (7, .int (nI tu)), (8, .int (nI (40 + 5 * tu))), (10, .int (nI qq)), (11, .int (nI lo))]) (kk : ∀ (T : St) (ad : Nat → Nat → Nat) (L : List Nat) (f : Nat → va_E) (H : Heap) (locs : List Loc) (ls : Array Slot) (ce sl : Nat), TI T (tu + 1) → Rep tA T ad L f → va_P D vwCl (va_pl L f) H → va_D A (va_pl L f) → va_S A s.heap H locs → lv_has ls 19 [(0, .ref b), (1, .ref (ad 0 0)), (2, .int (nI (sN T 3 0))), (3, .int (nI (sN T 0 0))), (4, .int (sI T 2 0)), (5, .long (sJ T 1 0)), (7, .int (nI tu))] → ce ≤ cells + 800 → sl ≤ slots + 4000 → W p l e room_1 s m #[Value.ref b] below meth c H locs ce sl (lw_Z below #[Value.ref b] s) (F0 m 1344 ls [])) (hqq : qq < sN S 3 0) : W p l e room_1 s m #[Value.ref b] below meth c H locs cells slots (lw_Z below #[Value.ref b] s) (F0 m 869 ls []) := by
  obtain ⟨C0, hL, hA, hA2, hX, hQ, hK, hl0⟩ := id C
  obtain ⟨hx, hb, hr, hml, hown0, hts, hXs, hbl, hlocks, hgv⟩ := id C0
  have hta : ∀ w ∈ WA, w.before #[Value.ref b] s = true := fun w h => hts w (WA_in w h)
  have hown : s.vm.findClass RL = some m.cls := hown0
  have hbA : ¬ A b := fun h => absurd (hA2 b h) (Nat.not_le.mpr hbl)
  have hW := hT.1.1.1
  refine lv_aload_n hx hb dL_law_869 rfl (lv_at hl 1 rfl) ?_
  refine lv_iload hx hb dL_law_870 (lv_at hl 8 rfl) ?_
  refine vp_callSi (run_of (vx_runSW (g := F0 m 872 ls [.int (nI qq), .ref (ad 0 0)]) (As := [.ref (ad 0 0), .int (nI qq)]) (rest := []) ⟨hx, hb, hml, hown, hta⟩ (c_L_stateOf l hR hW hqq (to_nar hT.1 hqq)) (vx_cwSW 2 hta (gWSW mw627 mw628 mw39 mw629) rfl rfl rfl (by decide +kernel) ⟨Nat.le_of_ble_eq_true rfl, Nat.le_of_ble_eq_true rfl⟩) (gPreB hK hP hD) rfl rfl hl.1 rfl (lv_room (Nat.le_of_ble_eq_true rfl)) dL_law_872 ⟨(by show cells + 0 ≤ 621943; omega), (by show slots + 0 ≤ 7227368; omega)⟩)) (fun r1 c2 => ?_)
  obtain rfl := c2
  refine lv_istore (lv' := [(12, .int (sI S 53 qq)), (0, .ref b), (1, .ref (ad 0 0)), (2, .int (nI (sN S 3 0))), (3, .int (nI (sN S 0 0))), (4, .int (sI S 2 0)), (5, .long (sJ S 1 0)), (7, .int (nI tu)), (8, .int (nI (40 + 5 * tu))), (10, .int (nI qq)), (11, .int (nI lo))]) hx hb dL_law_875 hl (by decide) rfl (fun ls hl => ?_)
  refine lv_aload_n hx hb dL_law_877 rfl (lv_at hl 2 rfl) ?_
  refine lv_bipush (v := 100) hx hb dL_law_878 (by decide) ?_
  refine lv_iload hx hb dL_law_880 (lv_at hl 9 rfl) ?_
  refine lv_iconst (v := 0) hx hb dL_law_882 (by decide) ?_
  rcases Decidable.em (sI S 53 qq = 100) with hd | hd
  · skip
    refine gsw_i (vx_runSW (g := F0 m 883 ls [.int 0, .int (nI qq), .int 100, .ref (ad 0 0)]) (As := [.ref (ad 0 0), .int 100, .int (nI qq), .int 0]) (rest := []) ⟨hx, hb, hml, hown, hta⟩ (c_L_isDX l hl0 hR hW hqq 0 (fun z => z.1 hd)) (vx_cwSW 4 hta (gWSW mw672 mw673 mw39 mw674) rfl rfl rfl (by decide +kernel) ⟨Nat.le_of_ble_eq_true rfl, Nat.le_of_ble_eq_true rfl⟩) (gPreW hX hQ hK hP hD hS hA) rfl rfl hl.1 rfl (lv_room (Nat.le_of_ble_eq_true rfl)) dL_law_883 ⟨(by show cells + 1 ≤ 621943; omega), (by show slots + 6 ≤ 7227368; omega)⟩) hD hS hA (fun r3 u H locs c4 hR hP hD hS => ?_)
    obtain ⟨T, ad9, L9, f⟩ := u
    dsimp only at c4 hR hP hD
    obtain ⟨rfl, rfl, rfl, rfl⟩ := c4
    refine lv_istore (lv' := [(13, .int (-1500000)), (12, .int (sI S 53 qq)), (0, .ref b), (1, .ref (ad 0 0)), (2, .int (nI (sN S 3 0))), (3, .int (nI (sN S 0 0))), (4, .int (sI S 2 0)), (5, .long (sJ S 1 0)), (7, .int (nI tu)), (8, .int (nI (40 + 5 * tu))), (10, .int (nI qq)), (11, .int (nI lo))]) hx hb dL_law_886 hl (by decide) rfl (fun ls hl => ?_)
    refine lv_iload hx hb dL_law_888 (lv_at hl 0 rfl) ?_
    refine lv_iconst (v := 1) hx hb dL_law_890 (by decide) ?_
    refine lv_icmp_ne (tgt := 908) hx hb dL_law_891 (by decide) (fun c5 => ?_) (fun c5 => ?_)
    · skip
      refine lv_aload_n hx hb dL_law_908 rfl (lv_at hl 3 rfl) ?_
      refine lv_iload hx hb dL_law_909 (lv_at hl 10 rfl) ?_
      refine vp_callSi (run_of (vx_runSW (g := F0 m 911 ls [.int (nI qq), .ref (ad 0 0)]) (As := [.ref (ad 0 0), .int (nI qq)]) (rest := []) ⟨hx, hb, hml, hown, hta⟩ (c_L_stateOf l hR hW hqq (to_nar hT.1 hqq)) (vx_cwSW 2 hta (gWSW mw627 mw628 mw39 mw629) rfl rfl rfl (by decide +kernel) ⟨Nat.le_of_ble_eq_true rfl, Nat.le_of_ble_eq_true rfl⟩) (gPreB hK hP hD) rfl rfl hl.1 rfl (lv_room (Nat.le_of_ble_eq_true rfl)) dL_law_911 ⟨(by show cells + 1 + 0 ≤ 621943; omega), (by show slots + 6 + 0 ≤ 7227368; omega)⟩)) (fun r6 c7 => ?_)
      obtain rfl := c7
      refine lv_iload hx hb dL_law_914 (lv_at hl 1 rfl) ?_
      refine lv_icmp_eq (tgt := 921) hx hb dL_law_916 (by decide) (fun c8 => ?_) (fun c8 => ?_)
      · skip
        refine lv_goto (tgt := 1085) hx hb dL_law_921 (by decide) ?_
        have hTn : TI S (tu + 1) := hT.same
        have hl : lv_has ls 19 [(0, .ref b), (1, .ref (ad 0 0)), (2, .int (nI (sN S 3 0))), (3, .int (nI (sN S 0 0))), (4, .int (sI S 2 0)), (5, .long (sJ S 1 0)), (7, .int (nI tu))] := by
          exact lv_sub hl [2, 3, 4, 5, 6, 7, 8] rfl
        refine lw_check l C (tu := tu) hTn.1 hR hP hD hS hTn.2.1 hTn.2.2.1 (by have := hTn.2.2.2.1; omega) hl (by (try dsimp only); omega) (by (try dsimp only); omega) (fun H locs f ls ce9 sl9 hP hD hS hR hl hc9 hs9 => ?_)
        exact kk _ _ _ _ _ _ _ _ _ hTn hR hP hD hS hl (by omega) (by omega)
      · exact absurd rfl c8
    · exact absurd c5 (by decide)
  · rcases Decidable.em (sI S 20 (sN S 7 qq) = 0) with hm | hm
    · skip
      refine gsw_i (vx_runSW (g := F0 m 883 ls [.int 0, .int (nI qq), .int 100, .ref (ad 0 0)]) (As := [.ref (ad 0 0), .int 100, .int (nI qq), .int 0]) (rest := []) ⟨hx, hb, hml, hown, hta⟩ (c_L_isD l hl0 hR hW hqq 0 hd (fun z => absurd hm z)) (vx_cwSW 4 hta (gWSW mw672 mw673 mw39 mw674) rfl rfl rfl (by decide +kernel) ⟨Nat.le_of_ble_eq_true rfl, Nat.le_of_ble_eq_true rfl⟩) (gPreW hX hQ hK hP hD hS hA) rfl rfl hl.1 rfl (lv_room (Nat.le_of_ble_eq_true rfl)) dL_law_883 ⟨(by show cells + 0 ≤ 621943; omega), (by show slots + 0 ≤ 7227368; omega)⟩) hD hS hA (fun r9 u H locs c10 hR hP hD hS => ?_)
      obtain ⟨T, ad9, L9, f⟩ := u
      dsimp only at c10 hR hP hD
      obtain ⟨rfl, rfl, rfl, rfl⟩ := c10
      rcases hT.1.deliver hqq hd (fun z => absurd hm z) with ⟨e1, e2⟩ | ⟨e1, hI9, hk9, h100⟩
      · rw [e1]
        rw [e2] at hR
        refine W.eq (g2 := F0 m 886 ls [.int 0]) rfl ?_
        refine lv_istore (lv' := [(13, .int 0), (12, .int (sI S 53 qq)), (0, .ref b), (1, .ref (ad 0 0)), (2, .int (nI (sN S 3 0))), (3, .int (nI (sN S 0 0))), (4, .int (sI S 2 0)), (5, .long (sJ S 1 0)), (7, .int (nI tu)), (8, .int (nI (40 + 5 * tu))), (10, .int (nI qq)), (11, .int (nI lo))]) hx hb dL_law_886 hl (by decide) rfl (fun ls hl => ?_)
        refine lv_iload hx hb dL_law_888 (lv_at hl 0 rfl) ?_
        refine lv_iconst (v := 1) hx hb dL_law_890 (by decide) ?_
        refine lv_icmp_ne (tgt := 908) hx hb dL_law_891 (by decide) (fun c11 => ?_) (fun c11 => ?_)
        · skip
          refine lv_aload_n hx hb dL_law_908 rfl (lv_at hl 3 rfl) ?_
          refine lv_iload hx hb dL_law_909 (lv_at hl 10 rfl) ?_
          refine vp_callSi (run_of (vx_runSW (g := F0 m 911 ls [.int (nI qq), .ref (ad 0 0)]) (As := [.ref (ad 0 0), .int (nI qq)]) (rest := []) ⟨hx, hb, hml, hown, hta⟩ (c_L_stateOf l hR hW hqq (to_nar hT.1 hqq)) (vx_cwSW 2 hta (gWSW mw627 mw628 mw39 mw629) rfl rfl rfl (by decide +kernel) ⟨Nat.le_of_ble_eq_true rfl, Nat.le_of_ble_eq_true rfl⟩) (gPreB hK hP hD) rfl rfl hl.1 rfl (lv_room (Nat.le_of_ble_eq_true rfl)) dL_law_911 ⟨(by show cells + 0 + 0 ≤ 621943; omega), (by show slots + 0 + 0 ≤ 7227368; omega)⟩)) (fun r12 c13 => ?_)
          obtain rfl := c13
          refine lv_iload hx hb dL_law_914 (lv_at hl 1 rfl) ?_
          refine lv_icmp_eq (tgt := 921) hx hb dL_law_916 (by decide) (fun c14 => ?_) (fun c14 => ?_)
          · skip
            refine lv_goto (tgt := 1085) hx hb dL_law_921 (by decide) ?_
            have hTn : TI S (tu + 1) := hT.same
            have hl : lv_has ls 19 [(0, .ref b), (1, .ref (ad 0 0)), (2, .int (nI (sN S 3 0))), (3, .int (nI (sN S 0 0))), (4, .int (sI S 2 0)), (5, .long (sJ S 1 0)), (7, .int (nI tu))] := by
              exact lv_sub hl [2, 3, 4, 5, 6, 7, 8] rfl
            refine lw_check l C (tu := tu) hTn.1 hR hP hD hS hTn.2.1 hTn.2.2.1 (by have := hTn.2.2.2.1; omega) hl (by (try dsimp only); omega) (by (try dsimp only); omega) (fun H locs f ls ce9 sl9 hP hD hS hR hl hc9 hs9 => ?_)
            exact kk _ _ _ _ _ _ _ _ _ hTn hR hP hD hS hl (by omega) (by omega)
          · exact absurd rfl c14
        · exact absurd c11 (by decide)
      · rw [e1]
        refine W.eq (g2 := F0 m 886 ls [.int 1]) rfl ?_
        have ho9 : qq < sN (dlS S qq) 3 0 := by have : sN (dlS S qq) 3 0 = sN S 3 0 := hk9.1; omega
        refine lv_istore (lv' := [(13, .int 1), (12, .int (sI S 53 qq)), (0, .ref b), (1, .ref (ad 0 0)), (2, .int (nI (sN S 3 0))), (3, .int (nI (sN S 0 0))), (4, .int (sI S 2 0)), (5, .long (sJ S 1 0)), (7, .int (nI tu)), (8, .int (nI (40 + 5 * tu))), (10, .int (nI qq)), (11, .int (nI lo))]) hx hb dL_law_886 hl (by decide) rfl (fun ls hl => ?_)
        refine lv_iload hx hb dL_law_888 (lv_at hl 0 rfl) ?_
        refine lv_iconst (v := 1) hx hb dL_law_890 (by decide) ?_
        refine lv_icmp_ne (tgt := 908) hx hb dL_law_891 (by decide) (fun c15 => ?_) (fun c15 => ?_)
        · exact absurd c15 (fun q => q rfl)
        · skip
          refine lv_aload_n hx hb dL_law_894 rfl (lv_at hl 3 rfl) ?_
          refine lv_iload hx hb dL_law_895 (lv_at hl 10 rfl) ?_
          refine vp_callSi (run_of (vx_runSW (g := F0 m 897 ls [.int (nI qq), .ref (ad 0 0)]) (As := [.ref (ad 0 0), .int (nI qq)]) (rest := []) ⟨hx, hb, hml, hown, hta⟩ (c_L_stateOf l hR hI9.1.1 ho9 (to_nar hI9 ho9)) (vx_cwSW 2 hta (gWSW mw627 mw628 mw39 mw629) rfl rfl rfl (by decide +kernel) ⟨Nat.le_of_ble_eq_true rfl, Nat.le_of_ble_eq_true rfl⟩) (gPreB hK hP hD) rfl rfl hl.1 rfl (lv_room (Nat.le_of_ble_eq_true rfl)) dL_law_897 ⟨(by show cells + 0 + 0 ≤ 621943; omega), (by show slots + 0 + 0 ≤ 7227368; omega)⟩)) (fun r16 c17 => ?_)
          obtain rfl := c17
          refine lv_bipush (v := 100) hx hb dL_law_900 (by decide) ?_
          refine lv_icmp_eq (tgt := 921) hx hb dL_law_902 (by decide) (fun c18 => ?_) (fun c18 => ?_)
          · skip
            refine lv_goto (tgt := 1085) hx hb dL_law_921 (by decide) ?_
            have hTn : TI (dlS S qq) (tu + 1) := hT.keep hI9 hk9
            have hl : lv_has ls 19 [(0, .ref b), (1, .ref (ad 0 0)), (2, .int (nI (sN (dlS S qq) 3 0))), (3, .int (nI (sN (dlS S qq) 0 0))), (4, .int (sI (dlS S qq) 2 0)), (5, .long (sJ (dlS S qq) 1 0)), (7, .int (nI tu))] := by
              rw [show nI (sN (dlS S qq) 3 0) = nI (sN S 3 0) from congrArg nI hk9.1, show nI (sN (dlS S qq) 0 0) = nI (sN S 0 0) from congrArg nI hk9.2.1, show sI (dlS S qq) 2 0 = sI S 2 0 from hk9.2.2.2.1, show sJ (dlS S qq) 1 0 = sJ S 1 0 from hk9.2.2.2.2]
              exact lv_sub hl [2, 3, 4, 5, 6, 7, 8] rfl
            refine lw_check l C (tu := tu) hTn.1 hR hP hD hS hTn.2.1 hTn.2.2.1 (by have := hTn.2.2.2.1; omega) hl (by (try dsimp only); omega) (by (try dsimp only); omega) (fun H locs f ls ce9 sl9 hP hD hS hR hl hc9 hs9 => ?_)
            exact kk _ _ _ _ _ _ _ _ _ hTn hR hP hD hS hl (by omega) (by omega)
          · exact absurd h100 c18
    · rcases Decidable.em (sI S 53 qq = 102) with h2 | h2
      · skip
        refine gsw_i (vx_runSW (g := F0 m 883 ls [.int 0, .int (nI qq), .int 100, .ref (ad 0 0)]) (As := [.ref (ad 0 0), .int 100, .int (nI qq), .int 0]) (rest := []) ⟨hx, hb, hml, hown, hta⟩ (c_L_isD l hl0 hR hW hqq 0 hd (fun _ => h2)) (vx_cwSW 4 hta (gWSW mw672 mw673 mw39 mw674) rfl rfl rfl (by decide +kernel) ⟨Nat.le_of_ble_eq_true rfl, Nat.le_of_ble_eq_true rfl⟩) (gPreW hX hQ hK hP hD hS hA) rfl rfl hl.1 rfl (lv_room (Nat.le_of_ble_eq_true rfl)) dL_law_883 ⟨(by show cells + 0 ≤ 621943; omega), (by show slots + 0 ≤ 7227368; omega)⟩) hD hS hA (fun r19 u H locs c20 hR hP hD hS => ?_)
        obtain ⟨T, ad9, L9, f⟩ := u
        dsimp only at c20 hR hP hD
        obtain ⟨rfl, rfl, rfl, rfl⟩ := c20
        rcases hT.1.deliver hqq hd (fun _ => h2) with ⟨e1, e2⟩ | ⟨e1, hI9, hk9, h100⟩
        · rw [e1]
          rw [e2] at hR
          refine W.eq (g2 := F0 m 886 ls [.int 0]) rfl ?_
          refine lv_istore (lv' := [(13, .int 0), (12, .int (sI S 53 qq)), (0, .ref b), (1, .ref (ad 0 0)), (2, .int (nI (sN S 3 0))), (3, .int (nI (sN S 0 0))), (4, .int (sI S 2 0)), (5, .long (sJ S 1 0)), (7, .int (nI tu)), (8, .int (nI (40 + 5 * tu))), (10, .int (nI qq)), (11, .int (nI lo))]) hx hb dL_law_886 hl (by decide) rfl (fun ls hl => ?_)
          refine lv_iload hx hb dL_law_888 (lv_at hl 0 rfl) ?_
          refine lv_iconst (v := 1) hx hb dL_law_890 (by decide) ?_
          refine lv_icmp_ne (tgt := 908) hx hb dL_law_891 (by decide) (fun c21 => ?_) (fun c21 => ?_)
          · skip
            refine lv_aload_n hx hb dL_law_908 rfl (lv_at hl 3 rfl) ?_
            refine lv_iload hx hb dL_law_909 (lv_at hl 10 rfl) ?_
            refine vp_callSi (run_of (vx_runSW (g := F0 m 911 ls [.int (nI qq), .ref (ad 0 0)]) (As := [.ref (ad 0 0), .int (nI qq)]) (rest := []) ⟨hx, hb, hml, hown, hta⟩ (c_L_stateOf l hR hW hqq (to_nar hT.1 hqq)) (vx_cwSW 2 hta (gWSW mw627 mw628 mw39 mw629) rfl rfl rfl (by decide +kernel) ⟨Nat.le_of_ble_eq_true rfl, Nat.le_of_ble_eq_true rfl⟩) (gPreB hK hP hD) rfl rfl hl.1 rfl (lv_room (Nat.le_of_ble_eq_true rfl)) dL_law_911 ⟨(by show cells + 0 + 0 ≤ 621943; omega), (by show slots + 0 + 0 ≤ 7227368; omega)⟩)) (fun r22 c23 => ?_)
            obtain rfl := c23
            refine lv_iload hx hb dL_law_914 (lv_at hl 1 rfl) ?_
            refine lv_icmp_eq (tgt := 921) hx hb dL_law_916 (by decide) (fun c24 => ?_) (fun c24 => ?_)
            · skip
              refine lv_goto (tgt := 1085) hx hb dL_law_921 (by decide) ?_
              have hTn : TI S (tu + 1) := hT.same
              have hl : lv_has ls 19 [(0, .ref b), (1, .ref (ad 0 0)), (2, .int (nI (sN S 3 0))), (3, .int (nI (sN S 0 0))), (4, .int (sI S 2 0)), (5, .long (sJ S 1 0)), (7, .int (nI tu))] := by
                exact lv_sub hl [2, 3, 4, 5, 6, 7, 8] rfl
              refine lw_check l C (tu := tu) hTn.1 hR hP hD hS hTn.2.1 hTn.2.2.1 (by have := hTn.2.2.2.1; omega) hl (by (try dsimp only); omega) (by (try dsimp only); omega) (fun H locs f ls ce9 sl9 hP hD hS hR hl hc9 hs9 => ?_)
              exact kk _ _ _ _ _ _ _ _ _ hTn hR hP hD hS hl (by omega) (by omega)
            · exact absurd rfl c24
          · exact absurd c21 (by decide)
        · rw [e1]
          refine W.eq (g2 := F0 m 886 ls [.int 1]) rfl ?_
          have ho9 : qq < sN (dlS S qq) 3 0 := by have : sN (dlS S qq) 3 0 = sN S 3 0 := hk9.1; omega
          refine lv_istore (lv' := [(13, .int 1), (12, .int (sI S 53 qq)), (0, .ref b), (1, .ref (ad 0 0)), (2, .int (nI (sN S 3 0))), (3, .int (nI (sN S 0 0))), (4, .int (sI S 2 0)), (5, .long (sJ S 1 0)), (7, .int (nI tu)), (8, .int (nI (40 + 5 * tu))), (10, .int (nI qq)), (11, .int (nI lo))]) hx hb dL_law_886 hl (by decide) rfl (fun ls hl => ?_)
          refine lv_iload hx hb dL_law_888 (lv_at hl 0 rfl) ?_
          refine lv_iconst (v := 1) hx hb dL_law_890 (by decide) ?_
          refine lv_icmp_ne (tgt := 908) hx hb dL_law_891 (by decide) (fun c25 => ?_) (fun c25 => ?_)
          · exact absurd c25 (fun q => q rfl)
          · skip
            refine lv_aload_n hx hb dL_law_894 rfl (lv_at hl 3 rfl) ?_
            refine lv_iload hx hb dL_law_895 (lv_at hl 10 rfl) ?_
            refine vp_callSi (run_of (vx_runSW (g := F0 m 897 ls [.int (nI qq), .ref (ad 0 0)]) (As := [.ref (ad 0 0), .int (nI qq)]) (rest := []) ⟨hx, hb, hml, hown, hta⟩ (c_L_stateOf l hR hI9.1.1 ho9 (to_nar hI9 ho9)) (vx_cwSW 2 hta (gWSW mw627 mw628 mw39 mw629) rfl rfl rfl (by decide +kernel) ⟨Nat.le_of_ble_eq_true rfl, Nat.le_of_ble_eq_true rfl⟩) (gPreB hK hP hD) rfl rfl hl.1 rfl (lv_room (Nat.le_of_ble_eq_true rfl)) dL_law_897 ⟨(by show cells + 0 + 0 ≤ 621943; omega), (by show slots + 0 + 0 ≤ 7227368; omega)⟩)) (fun r26 c27 => ?_)
            obtain rfl := c27
            refine lv_bipush (v := 100) hx hb dL_law_900 (by decide) ?_
            refine lv_icmp_eq (tgt := 921) hx hb dL_law_902 (by decide) (fun c28 => ?_) (fun c28 => ?_)
            · skip
              refine lv_goto (tgt := 1085) hx hb dL_law_921 (by decide) ?_
              have hTn : TI (dlS S qq) (tu + 1) := hT.keep hI9 hk9
              have hl : lv_has ls 19 [(0, .ref b), (1, .ref (ad 0 0)), (2, .int (nI (sN (dlS S qq) 3 0))), (3, .int (nI (sN (dlS S qq) 0 0))), (4, .int (sI (dlS S qq) 2 0)), (5, .long (sJ (dlS S qq) 1 0)), (7, .int (nI tu))] := by
                rw [show nI (sN (dlS S qq) 3 0) = nI (sN S 3 0) from congrArg nI hk9.1, show nI (sN (dlS S qq) 0 0) = nI (sN S 0 0) from congrArg nI hk9.2.1, show sI (dlS S qq) 2 0 = sI S 2 0 from hk9.2.2.2.1, show sJ (dlS S qq) 1 0 = sJ S 1 0 from hk9.2.2.2.2]
                exact lv_sub hl [2, 3, 4, 5, 6, 7, 8] rfl
              refine lw_check l C (tu := tu) hTn.1 hR hP hD hS hTn.2.1 hTn.2.2.1 (by have := hTn.2.2.2.1; omega) hl (by (try dsimp only); omega) (by (try dsimp only); omega) (fun H locs f ls ce9 sl9 hP hD hS hR hl hc9 hs9 => ?_)
              exact kk _ _ _ _ _ _ _ _ _ hTn hR hP hD hS hl (by omega) (by omega)
            · exact absurd h100 c28
      · skip
        refine gsw_i (vx_runSW (g := F0 m 883 ls [.int 0, .int (nI qq), .int 100, .ref (ad 0 0)]) (As := [.ref (ad 0 0), .int 100, .int (nI qq), .int 0]) (rest := []) ⟨hx, hb, hml, hown, hta⟩ (c_L_isDX l hl0 hR hW hqq 0 (fun z => h2 (z.2 hm))) (vx_cwSW 4 hta (gWSW mw672 mw673 mw39 mw674) rfl rfl rfl (by decide +kernel) ⟨Nat.le_of_ble_eq_true rfl, Nat.le_of_ble_eq_true rfl⟩) (gPreW hX hQ hK hP hD hS hA) rfl rfl hl.1 rfl (lv_room (Nat.le_of_ble_eq_true rfl)) dL_law_883 ⟨(by show cells + 1 ≤ 621943; omega), (by show slots + 6 ≤ 7227368; omega)⟩) hD hS hA (fun r29 u H locs c30 hR hP hD hS => ?_)
        obtain ⟨T, ad9, L9, f⟩ := u
        dsimp only at c30 hR hP hD
        obtain ⟨rfl, rfl, rfl, rfl⟩ := c30
        refine lv_istore (lv' := [(13, .int (-1500000)), (12, .int (sI S 53 qq)), (0, .ref b), (1, .ref (ad 0 0)), (2, .int (nI (sN S 3 0))), (3, .int (nI (sN S 0 0))), (4, .int (sI S 2 0)), (5, .long (sJ S 1 0)), (7, .int (nI tu)), (8, .int (nI (40 + 5 * tu))), (10, .int (nI qq)), (11, .int (nI lo))]) hx hb dL_law_886 hl (by decide) rfl (fun ls hl => ?_)
        refine lv_iload hx hb dL_law_888 (lv_at hl 0 rfl) ?_
        refine lv_iconst (v := 1) hx hb dL_law_890 (by decide) ?_
        refine lv_icmp_ne (tgt := 908) hx hb dL_law_891 (by decide) (fun c31 => ?_) (fun c31 => ?_)
        · skip
          refine lv_aload_n hx hb dL_law_908 rfl (lv_at hl 3 rfl) ?_
          refine lv_iload hx hb dL_law_909 (lv_at hl 10 rfl) ?_
          refine vp_callSi (run_of (vx_runSW (g := F0 m 911 ls [.int (nI qq), .ref (ad 0 0)]) (As := [.ref (ad 0 0), .int (nI qq)]) (rest := []) ⟨hx, hb, hml, hown, hta⟩ (c_L_stateOf l hR hW hqq (to_nar hT.1 hqq)) (vx_cwSW 2 hta (gWSW mw627 mw628 mw39 mw629) rfl rfl rfl (by decide +kernel) ⟨Nat.le_of_ble_eq_true rfl, Nat.le_of_ble_eq_true rfl⟩) (gPreB hK hP hD) rfl rfl hl.1 rfl (lv_room (Nat.le_of_ble_eq_true rfl)) dL_law_911 ⟨(by show cells + 1 + 0 ≤ 621943; omega), (by show slots + 6 + 0 ≤ 7227368; omega)⟩)) (fun r32 c33 => ?_)
          obtain rfl := c33
          refine lv_iload hx hb dL_law_914 (lv_at hl 1 rfl) ?_
          refine lv_icmp_eq (tgt := 921) hx hb dL_law_916 (by decide) (fun c34 => ?_) (fun c34 => ?_)
          · skip
            refine lv_goto (tgt := 1085) hx hb dL_law_921 (by decide) ?_
            have hTn : TI S (tu + 1) := hT.same
            have hl : lv_has ls 19 [(0, .ref b), (1, .ref (ad 0 0)), (2, .int (nI (sN S 3 0))), (3, .int (nI (sN S 0 0))), (4, .int (sI S 2 0)), (5, .long (sJ S 1 0)), (7, .int (nI tu))] := by
              exact lv_sub hl [2, 3, 4, 5, 6, 7, 8] rfl
            refine lw_check l C (tu := tu) hTn.1 hR hP hD hS hTn.2.1 hTn.2.2.1 (by have := hTn.2.2.2.1; omega) hl (by (try dsimp only); omega) (by (try dsimp only); omega) (fun H locs f ls ce9 sl9 hP hD hS hR hl hc9 hs9 => ?_)
            exact kk _ _ _ _ _ _ _ _ _ hTn hR hP hD hS hl (by omega) (by omega)
          · exact absurd rfl c34
        · exact absurd c31 (by decide)

