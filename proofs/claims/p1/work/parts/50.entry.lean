theorem lin_J0 : ∀ w ∈ u_ws RJ0 TJ0 2, w ∈ lw_tbl := fun w h => (goodIn_r (u_ws RJ0 TJ0 2) [490, 492] (by decide +kernel) (by decide +kernel) w h).1
theorem lins_J0 : Cond.instantiable RJ0 4 ∈ lw_tbl := List.mem_of_getElem? (i := 489) (by decide +kernel)
theorem lin_J6 : ∀ w ∈ u_ws RJ6 TJ6 1, w ∈ lw_tbl := fun w h => (goodIn_r (u_ws RJ6 TJ6 1) [1764] (by decide +kernel) (by decide +kernel) w h).1
theorem lins_J6 : Cond.instantiable RJ6 1 ∈ lw_tbl := List.mem_of_getElem? (i := 1755) (by decide +kernel)
theorem lin_Jx00060 : ∀ w ∈ u_ws RJx00060 TJx00060 6, w ∈ lw_tbl := fun w h => (goodIn_r (u_ws RJx00060 TJx00060 6) [478, 479, 480, 481, 482, 483] (by decide +kernel) (by decide +kernel) w h).1
theorem lins_Jx00060 : Cond.instantiable RJx00060 6 ∈ lw_tbl := List.mem_of_getElem? (i := 471) (by decide +kernel)
theorem lin_Jx35411 : ∀ w ∈ u_ws RJx35411 TJx35411 4, w ∈ lw_tbl := fun w h => (goodIn_r (u_ws RJx35411 TJx35411 4) [1563, 1565, 1567, 1569] (by decide +kernel) (by decide +kernel) w h).1
theorem lins_Jx35411 : Cond.instantiable RJx35411 4 ∈ lw_tbl := List.mem_of_getElem? (i := 1554) (by decide +kernel)
theorem lin_Jx4a65c : ∀ w ∈ u_ws RJx4a65c TJx4a65c 3, w ∈ lw_tbl := fun w h => (goodIn_r (u_ws RJx4a65c TJx4a65c 3) [1226, 1222, 1224] (by decide +kernel) (by decide +kernel) w h).1
theorem lins_Jx4a65c : Cond.instantiable RJx4a65c 3 ∈ lw_tbl := List.mem_of_getElem? (i := 1201) (by decide +kernel)
theorem lin_X0 : ∀ w ∈ u_ws RX0 TX0 5, w ∈ lw_tbl := fun w h => (goodIn_r (u_ws RX0 TX0 5) [426, 428, 430, 432, 434] (by decide +kernel) (by decide +kernel) w h).1
theorem lins_X0 : Cond.instantiable RX0 5 ∈ lw_tbl := List.mem_of_getElem? (i := 415) (by decide +kernel)
theorem lin_X1 : ∀ w ∈ u_ws RX1 TX1 3, w ∈ lw_tbl := fun w h => (goodIn_r (u_ws RX1 TX1 3) [549, 551, 553] (by decide +kernel) (by decide +kernel) w h).1
theorem lins_X1 : Cond.instantiable RX1 3 ∈ lw_tbl := List.mem_of_getElem? (i := 539) (by decide +kernel)
theorem lin_X2 : ∀ w ∈ u_ws RX2 TX2 7, w ∈ lw_tbl := fun w h => (goodIn_r (u_ws RX2 TX2 7) [836, 838, 840, 842, 844, 846, 848] (by decide +kernel) (by decide +kernel) w h).1
theorem lins_X2 : Cond.instantiable RX2 7 ∈ lw_tbl := List.mem_of_getElem? (i := 819) (by decide +kernel)
theorem lin_X3 : ∀ w ∈ u_ws RX3 TX3 10, w ∈ lw_tbl := fun w h => (goodIn_r (u_ws RX3 TX3 10) [651, 653, 655, 657, 659, 661, 663, 665, 667, 669] (by decide +kernel) (by decide +kernel) w h).1
theorem lins_X3 : Cond.instantiable RX3 10 ∈ lw_tbl := List.mem_of_getElem? (i := 622) (by decide +kernel)
theorem lin_X4 : ∀ w ∈ u_ws RX4 TX4 11, w ∈ lw_tbl := fun w h => (goodIn_r (u_ws RX4 TX4 11) [373, 375, 377, 379, 381, 383, 385, 387, 389, 391, 393] (by decide +kernel) (by decide +kernel) w h).1
theorem lins_X4 : Cond.instantiable RX4 11 ∈ lw_tbl := List.mem_of_getElem? (i := 351) (by decide +kernel)
theorem lin_X5 : ∀ w ∈ u_ws RX5 TX5 2, w ∈ lw_tbl := fun w h => (goodIn_r (u_ws RX5 TX5 2) [127, 129] (by decide +kernel) (by decide +kernel) w h).1
theorem lins_X5 : Cond.instantiable RX5 2 ∈ lw_tbl := List.mem_of_getElem? (i := 120) (by decide +kernel)
theorem lin_X6 : ∀ w ∈ u_ws RX6 TX6 3, w ∈ lw_tbl := fun w h => (goodIn_r (u_ws RX6 TX6 3) [592, 594, 596] (by decide +kernel) (by decide +kernel) w h).1
theorem lins_X6 : Cond.instantiable RX6 3 ∈ lw_tbl := List.mem_of_getElem? (i := 581) (by decide +kernel)
theorem lin_X7 : ∀ w ∈ u_ws RX7 TX7 12, w ∈ lw_tbl := fun w h => (goodIn_r (u_ws RX7 TX7 12) [875, 877, 879, 881, 883, 885, 887, 889, 891, 893, 895, 897] (by decide +kernel) (by decide +kernel) w h).1
theorem lins_X7 : Cond.instantiable RX7 12 ∈ lw_tbl := List.mem_of_getElem? (i := 813) (by decide +kernel)
theorem lin_X8 : ∀ w ∈ u_ws RX8 TX8 8, w ∈ lw_tbl := fun w h => (goodIn_r (u_ws RX8 TX8 8) [450, 452, 454, 456, 458, 460, 462, 464] (by decide +kernel) (by decide +kernel) w h).1
theorem lins_X8 : Cond.instantiable RX8 8 ∈ lw_tbl := List.mem_of_getElem? (i := 405) (by decide +kernel)
theorem lin_X9 : ∀ w ∈ u_ws RX9 TX9 3, w ∈ lw_tbl := fun w h => (goodIn_r (u_ws RX9 TX9 3) [141, 143, 145] (by decide +kernel) (by decide +kernel) w h).1
theorem lins_X9 : Cond.instantiable RX9 3 ∈ lw_tbl := List.mem_of_getElem? (i := 132) (by decide +kernel)
theorem lin_X10 : ∀ w ∈ u_ws RX10 TX10 14, w ∈ lw_tbl := fun w h => (goodIn_r (u_ws RX10 TX10 14) [162, 164, 166, 168, 170, 172, 174, 176, 178, 180, 182, 184, 186, 188] (by decide +kernel) (by decide +kernel) w h).1
theorem lins_X10 : Cond.instantiable RX10 14 ∈ lw_tbl := List.mem_of_getElem? (i := 102) (by decide +kernel)
theorem lin_X11 : ∀ w ∈ u_ws RX11 TX11 7, w ∈ lw_tbl := fun w h => (goodIn_r (u_ws RX11 TX11 7) [1498, 1500, 1502, 1504, 1506, 1508, 1510] (by decide +kernel) (by decide +kernel) w h).1
theorem lins_X11 : Cond.instantiable RX11 7 ∈ lw_tbl := List.mem_of_getElem? (i := 1478) (by decide +kernel)
theorem lin_X12 : ∀ w ∈ u_ws RX12 TX12 11, w ∈ lw_tbl := fun w h => (goodIn_r (u_ws RX12 TX12 11) [1370, 1372, 1374, 1376, 1378, 1380, 1382, 1384, 1386, 1388, 1390] (by decide +kernel) (by decide +kernel) w h).1
theorem lins_X12 : Cond.instantiable RX12 11 ∈ lw_tbl := List.mem_of_getElem? (i := 1348) (by decide +kernel)
theorem lin_X13 : ∀ w ∈ u_ws RX13 TX13 17, w ∈ lw_tbl := fun w h => (goodIn_r (u_ws RX13 TX13 17) [1698, 1700, 1702, 1704, 1706, 1708, 1710, 1712, 1714, 1716, 1718, 1720, 1722, 1724, 1726, 1728, 1730] (by decide +kernel) (by decide +kernel) w h).1
theorem lins_X13 : Cond.instantiable RX13 17 ∈ lw_tbl := List.mem_of_getElem? (i := 1664) (by decide +kernel)
theorem lin_X14 : ∀ w ∈ u_ws RX14 TX14 9, w ∈ lw_tbl := fun w h => (goodIn_r (u_ws RX14 TX14 9) [1420, 1422, 1424, 1426, 1428, 1430, 1432, 1434, 1436] (by decide +kernel) (by decide +kernel) w h).1
theorem lins_X14 : Cond.instantiable RX14 9 ∈ lw_tbl := List.mem_of_getElem? (i := 1398) (by decide +kernel)
theorem lin_X15 : ∀ w ∈ u_ws RX15 TX15 9, w ∈ lw_tbl := fun w h => (goodIn_r (u_ws RX15 TX15 9) [1308, 1310, 1312, 1314, 1316, 1318, 1320, 1322, 1324] (by decide +kernel) (by decide +kernel) w h).1
theorem lins_X15 : Cond.instantiable RX15 9 ∈ lw_tbl := List.mem_of_getElem? (i := 1195) (by decide +kernel)
set_option maxHeartbeats 4000000 in
set_option maxRecDepth 100000 in
theorem whole_start {p : Program} {e : Env} {s : State} {m : MethodId} {below : List Frame} {meth : Method} {c : Code} (l : Launch) (hflags : l.flags = flags0) {b L : Nat} {xs : Nat → Int32} (hL : L ≤ 6) (C0 : lw_At p s m meth c b L xs) : W p l e room_1 s m #[Value.ref b] below meth c s.heap [] 0 0 (lw_Z below #[Value.ref b] s) (entryFrame m ([Value.ref b] : List Value).toArray 9) := by
  obtain ⟨A, hA, hA2⟩ : ∃ A : Nat → Prop, (∀ q, s.heap.size ≤ q → A q) ∧ (∀ q, A q → s.heap.size ≤ q) := ⟨fun q => s.heap.size ≤ q, fun _ h => h, fun _ h => h⟩
  obtain ⟨hx, hb, hr, hml, hown0, hts, hX, hbl, hlocks, hgv⟩ := id C0
  have hta : ∀ w ∈ WA, w.before #[Value.ref b] s = true := fun w h => hts w (WA_in w h)
  have hown : s.vm.findClass "FoundrymarkLaw" = some m.cls := hown0
  have hbA : ¬ A b := fun h => absurd (hA2 b h) (Nat.not_le.mpr hbl)
  have hl0 : l.stackTraces = false := by unfold Launch.stackTraces; rw [hflags]; decide
  obtain ⟨tE, hG⟩ := gP_start C0 hA2
  obtain ⟨c0, i0, hKn0⟩ := u_known (C := RJ0) (T := TJ0) (N := 2) (n := 4) hts lin_J0 (hts (.instantiable RJ0 4) (lins_J0))
  obtain ⟨c1, i1, hKn1⟩ := u_known (C := RJ6) (T := TJ6) (N := 1) (n := 1) hts lin_J6 (hts (.instantiable RJ6 1) (lins_J6))
  obtain ⟨c2, i2, hKn2⟩ := u_known (C := RJx00060) (T := TJx00060) (N := 6) (n := 6) hts lin_Jx00060 (hts (.instantiable RJx00060 6) (lins_Jx00060))
  obtain ⟨c3, i3, hKn3⟩ := u_known (C := RJx35411) (T := TJx35411) (N := 4) (n := 4) hts lin_Jx35411 (hts (.instantiable RJx35411 4) (lins_Jx35411))
  obtain ⟨c4, i4, hKn4⟩ := u_known (C := RJx4a65c) (T := TJx4a65c) (N := 3) (n := 3) hts lin_Jx4a65c (hts (.instantiable RJx4a65c 3) (lins_Jx4a65c))
  obtain ⟨c5, i5, hKn5⟩ := u_known (C := RX0) (T := TX0) (N := 5) (n := 5) hts lin_X0 (hts (.instantiable RX0 5) (lins_X0))
  obtain ⟨c6, i6, hKn6⟩ := u_known (C := RX1) (T := TX1) (N := 3) (n := 3) hts lin_X1 (hts (.instantiable RX1 3) (lins_X1))
  obtain ⟨c7, i7, hKn7⟩ := u_known (C := RX2) (T := TX2) (N := 7) (n := 7) hts lin_X2 (hts (.instantiable RX2 7) (lins_X2))
  obtain ⟨c8, i8, hKn8⟩ := u_known (C := RX3) (T := TX3) (N := 10) (n := 10) hts lin_X3 (hts (.instantiable RX3 10) (lins_X3))
  obtain ⟨c9, i9, hKn9⟩ := u_known (C := RX4) (T := TX4) (N := 11) (n := 11) hts lin_X4 (hts (.instantiable RX4 11) (lins_X4))
  obtain ⟨c10, i10, hKn10⟩ := u_known (C := RX5) (T := TX5) (N := 2) (n := 2) hts lin_X5 (hts (.instantiable RX5 2) (lins_X5))
  obtain ⟨c11, i11, hKn11⟩ := u_known (C := RX6) (T := TX6) (N := 3) (n := 3) hts lin_X6 (hts (.instantiable RX6 3) (lins_X6))
  obtain ⟨c12, i12, hKn12⟩ := u_known (C := RX7) (T := TX7) (N := 12) (n := 12) hts lin_X7 (hts (.instantiable RX7 12) (lins_X7))
  obtain ⟨c13, i13, hKn13⟩ := u_known (C := RX8) (T := TX8) (N := 8) (n := 8) hts lin_X8 (hts (.instantiable RX8 8) (lins_X8))
  obtain ⟨c14, i14, hKn14⟩ := u_known (C := RX9) (T := TX9) (N := 3) (n := 3) hts lin_X9 (hts (.instantiable RX9 3) (lins_X9))
  obtain ⟨c15, i15, hKn15⟩ := u_known (C := RX10) (T := TX10) (N := 14) (n := 14) hts lin_X10 (hts (.instantiable RX10 14) (lins_X10))
  obtain ⟨c16, i16, hKn16⟩ := u_known (C := RX11) (T := TX11) (N := 7) (n := 7) hts lin_X11 (hts (.instantiable RX11 7) (lins_X11))
  obtain ⟨c17, i17, hKn17⟩ := u_known (C := RX12) (T := TX12) (N := 11) (n := 11) hts lin_X12 (hts (.instantiable RX12 11) (lins_X12))
  obtain ⟨c18, i18, hKn18⟩ := u_known (C := RX13) (T := TX13) (N := 17) (n := 17) hts lin_X13 (hts (.instantiable RX13 17) (lins_X13))
  obtain ⟨c19, i19, hKn19⟩ := u_known (C := RX14) (T := TX14) (N := 9) (n := 9) hts lin_X14 (hts (.instantiable RX14 9) (lins_X14))
  obtain ⟨c20, i20, hKn20⟩ := u_known (C := RX15) (T := TX15) (N := 9) (n := 9) hts lin_X15 (hts (.instantiable RX15 9) (lins_X15))
  obtain ⟨dC, dI, hKc⟩ : ∃ (dC : Nat → ClassId) (dI : Nat → Nat → Nat), ∀ (k : Nat) (q : vw_C), vwCl[k]? = some q → u_Kn s q.1 q.2.1 q.2.2 (dC k) (dI k) := by
    refine ⟨fun k => match k with | 0 => c0 | 1 => c1 | 2 => c2 | 3 => c3 | 4 => c4 | 5 => c5 | 6 => c6 | 7 => c7 | 8 => c8 | 9 => c9 | 10 => c10 | 11 => c11 | 12 => c12 | 13 => c13 | 14 => c14 | 15 => c15 | 16 => c16 | 17 => c17 | 18 => c18 | 19 => c19 | _ => c20, fun k => match k with | 0 => i0 | 1 => i1 | 2 => i2 | 3 => i3 | 4 => i4 | 5 => i5 | 6 => i6 | 7 => i7 | 8 => i8 | 9 => i9 | 10 => i10 | 11 => i11 | 12 => i12 | 13 => i13 | 14 => i14 | 15 => i15 | 16 => i16 | 17 => i17 | 18 => i18 | 19 => i19 | _ => i20, ?_⟩
    intro k q hq
    match k, hq with
    | 0, hq => cases hq; exact hKn0
    | 1, hq => cases hq; exact hKn1
    | 2, hq => cases hq; exact hKn2
    | 3, hq => cases hq; exact hKn3
    | 4, hq => cases hq; exact hKn4
    | 5, hq => cases hq; exact hKn5
    | 6, hq => cases hq; exact hKn6
    | 7, hq => cases hq; exact hKn7
    | 8, hq => cases hq; exact hKn8
    | 9, hq => cases hq; exact hKn9
    | 10, hq => cases hq; exact hKn10
    | 11, hq => cases hq; exact hKn11
    | 12, hq => cases hq; exact hKn12
    | 13, hq => cases hq; exact hKn13
    | 14, hq => cases hq; exact hKn14
    | 15, hq => cases hq; exact hKn15
    | 16, hq => cases hq; exact hKn16
    | 17, hq => cases hq; exact hKn17
    | 18, hq => cases hq; exact hKn18
    | 19, hq => cases hq; exact hKn19
    | 20, hq => cases hq; exact hKn20
    | k + 21, hq => simp [vwCl] at hq
  have hS : va_S A s.heap s.heap [] := va_S.rf
  have hK : va_K (dC, dI) vwCl [] s := ⟨hKc, fun k q h => by simp at h⟩
  generalize (dC, dI) = D at hK
  have hP : va_P D vwCl [] s.heap := fun k q h => by simp at h
  have hD : va_D A [] := ⟨fun i j p q h => by simp at h, fun k q h => by simp at h⟩
  have hl := lv_entry ([.ref b]) (n := 9) (Nat.le_of_ble_eq_true rfl)
  rw [lg_entry_eq]
  generalize (lg_sl ([.ref b]) ++ List.replicate (9 - (lg_sl ([.ref b])).length) Slot.unset).toArray = ls at hl ⊢
  have hl : lv_has ls 9 [(0, .ref b)] := hl
  refine va_new (ci := 15) (fs := [.null, .null, .null, .null, .null, .null, .int 0, .int 0, .int 0, .int 0, .int 0, .int 0, .long 0, .long 0]) (C := RX10) (T := TX10) (N := 14) hx hb hta iwX10 tyX10 tyX10_ok hown (hta _ mw401) (hta _ mw402) (hta _ mw10) hK hP hD hS hA rfl (fun j hj => by rcases (show j = 0 ∨ j = 1 ∨ j = 2 ∨ j = 3 ∨ j = 4 ∨ j = 5 ∨ j = 6 ∨ j = 7 ∨ j = 8 ∨ j = 9 ∨ j = 10 ∨ j = 11 ∨ j = 12 ∨ j = 13 by omega) with rfl | rfl | rfl | rfl | rfl | rfl | rfl | rfl | rfl | rfl | rfl | rfl | rfl | rfl <;> rfl) (Nat.le_of_ble_eq_true rfl) (Nat.le_of_ble_eq_true rfl) dL_law_0 (fun h0 H hP hD hS => ?_)
  have hP : va_P D vwCl [(h0, .inr (15, [.null, .null, .null, .null, .null, .null, .int 0, .int 0, .int 0, .int 0, .int 0, .int 0, .long 0, .long 0]))] H := hP
  have hD : va_D A [(h0, .inr (15, [.null, .null, .null, .null, .null, .null, .int 0, .int 0, .int 0, .int 0, .int 0, .int 0, .long 0, .long 0]))] := hD
  refine lv_dup hx hb dL_law_3 rfl ?_
  have hPc := hP.sub (ws' := [(h0, .inr (15, [.null, .null, .null, .null, .null, .null, .int 0, .int 0, .int 0, .int 0, .int 0, .int 0, .long 0, .long 0]))]) [0] rfl
  have hKc := hK.sub (tys' := []) [] rfl
  have hDc := hD.sub (ws' := [(h0, .inr (15, [.null, .null, .null, .null, .null, .null, .int 0, .int 0, .int 0, .int 0, .int 0, .int 0, .long 0, .long 0]))]) [0] (by decide) rfl
  have hFc := va_free (wc := [(h0, .inr (15, [.null, .null, .null, .null, .null, .null, .int 0, .int 0, .int 0, .int 0, .int 0, .int 0, .long 0, .long 0]))]) hD hS hA [0] rfl
  refine gJ_v (isC := [0]) (isR := []) (wr := []) (va_runI (As := []) (rest := [.ref h0]) ⟨hx, hb, hml, hown, hta⟩ (c_X10_init l ) (cwI 0 hta (gWI mw403) rfl rfl rfl (hta _ mw10) (hta _ mw404) (hta _ mw405) rfl (by decide +kernel) ⟨Nat.le_of_ble_eq_true rfl, Nat.le_of_ble_eq_true rfl⟩) ⟨gS_blind, fun U hU hW => ⟨rfl, by rw [hU], by rw [hU]; exact hPc, va_K.moved hW.alike hKc, hDc.weaken (fun _ _ _ _ => trivial), hG.call hS hU hW hFc⟩⟩ rfl rfl hl.1 rfl (lv_room (Nat.le_of_ble_eq_true rfl)) dL_law_4 ⟨Nat.le_of_ble_eq_true rfl, Nat.le_of_ble_eq_true rfl⟩) hP hD hS hK hFc rfl rfl (by decide) (by decide) (fun u102 H locs h103 hP hD hS hK => ?_)
  obtain ⟨fh, ft⟩ := u102
  dsimp only at hP hD hK
  generalize fh 1 = a1 at hP hD hK
  generalize fh 2 = a2 at hP hD hK
  generalize fh 3 = a3 at hP hD hK
  generalize fh 4 = a4 at hP hD hK
  generalize fh 5 = a5 at hP hD hK
  generalize fh 6 = h6 at hP hD hK
  generalize fh 7 = s0 at hP hD hK
  generalize fh 8 = s1 at hP hD hK
  generalize fh 9 = s2 at hP hD hK
  generalize fh 10 = s3 at hP hD hK
  generalize ft 0 = t1 at hP hD hK
  generalize ft 1 = t2 at hP hD hK
  generalize ft 2 = t3 at hP hD hK
  generalize ft 3 = t4 at hP hD hK
  generalize ft 4 = t5 at hP hD hK
  have hK : va_K D vwCl (tX t1 t2 t3 t4 t5) s := hK
  have hP : va_P D vwCl (wX h0 a1 a2 a3 a4 a5 h6 s0 s1 s2 s3 t1 t2 t3 t4 t5) H := hP
  have hD : va_D A (wX h0 a1 a2 a3 a4 a5 h6 s0 s1 s2 s3 t1 t2 t3 t4 t5) := hD
  refine lv_astore_n (lv' := [(1, .ref h0), (0, .ref b)]) hx hb dL_law_7 rfl hl (by decide) rfl (fun ls hl => ?_)
  refine va_new (ci := 20) (fs := [.int 0, .null, .null, .null, .null, .int 0, .null, .null, .int 0]) (C := RX15) (T := TX15) (N := 9) hx hb hta iwX15 tyX15 tyX15_ok hown (hta _ mw406) (hta _ mw407) (hta _ mw176) hK hP hD hS hA rfl (fun j hj => by rcases (show j = 0 ∨ j = 1 ∨ j = 2 ∨ j = 3 ∨ j = 4 ∨ j = 5 ∨ j = 6 ∨ j = 7 ∨ j = 8 by omega) with rfl | rfl | rfl | rfl | rfl | rfl | rfl | rfl | rfl <;> rfl) (Nat.le_of_ble_eq_true rfl) (Nat.le_of_ble_eq_true rfl) dL_law_8 (fun m0 H hP hD hS => ?_)
  have hP : va_P D vwCl [(h0, .inr (15, [.ref a1, .ref a2, .ref a3, .ref a4, .ref a5, .ref h6, .int 0, .int 0, .int 0, .int 0, .int 0, .int 0, .long 0, .long 0])), (a1, .inl (t1, 5, .inr (.inr (.inr (.inr (fun _ => none)))))), (a2, .inl (t2, 12, .inr (.inr (.inr (.inr (fun _ => none)))))), (a3, .inl (t3, 4, .inr (.inr (.inr (.inr (va_up (va_up (va_up (va_up (fun _ => none) 0 (some s0)) 1 (some s1)) 2 (some s2)) 3 (some s3))))))), (a4, .inl (t4, 90, .inr (.inr (.inr (.inr (fun _ => none)))))), (a5, .inl (t5, 30, .inr (.inr (.inr (.inr (fun _ => none)))))), (h6, .inr (10, [.long 0, .long 0])), (s0, .inr (14, [.int 110, .int 0, .int 0])), (s1, .inr (14, [.int 110, .int 0, .int 0])), (s2, .inr (14, [.int 110, .int 0, .int 0])), (s3, .inr (14, [.int 110, .int 0, .int 0])), (m0, .inr (20, [.int 0, .null, .null, .null, .null, .int 0, .null, .null, .int 0]))] H := hP
  have hD : va_D A [(h0, .inr (15, [.ref a1, .ref a2, .ref a3, .ref a4, .ref a5, .ref h6, .int 0, .int 0, .int 0, .int 0, .int 0, .int 0, .long 0, .long 0])), (a1, .inl (t1, 5, .inr (.inr (.inr (.inr (fun _ => none)))))), (a2, .inl (t2, 12, .inr (.inr (.inr (.inr (fun _ => none)))))), (a3, .inl (t3, 4, .inr (.inr (.inr (.inr (va_up (va_up (va_up (va_up (fun _ => none) 0 (some s0)) 1 (some s1)) 2 (some s2)) 3 (some s3))))))), (a4, .inl (t4, 90, .inr (.inr (.inr (.inr (fun _ => none)))))), (a5, .inl (t5, 30, .inr (.inr (.inr (.inr (fun _ => none)))))), (h6, .inr (10, [.long 0, .long 0])), (s0, .inr (14, [.int 110, .int 0, .int 0])), (s1, .inr (14, [.int 110, .int 0, .int 0])), (s2, .inr (14, [.int 110, .int 0, .int 0])), (s3, .inr (14, [.int 110, .int 0, .int 0])), (m0, .inr (20, [.int 0, .null, .null, .null, .null, .int 0, .null, .null, .int 0]))] := hD
  refine lv_dup hx hb dL_law_11 rfl ?_
  have hPc := hP.sub (ws' := [(m0, .inr (20, [.int 0, .null, .null, .null, .null, .int 0, .null, .null, .int 0]))]) [11] rfl
  have hKc := hK.sub (tys' := []) [] rfl
  have hDc := hD.sub (ws' := [(m0, .inr (20, [.int 0, .null, .null, .null, .null, .int 0, .null, .null, .int 0]))]) [11] (by decide) rfl
  have hFc := va_free (wc := [(m0, .inr (20, [.int 0, .null, .null, .null, .null, .int 0, .null, .null, .int 0]))]) hD hS hA [11] rfl
  refine gJ_v (isC := [11]) (isR := [0, 1, 2, 3, 4, 5, 6, 7, 8, 9, 10]) (wr := (wX h0 a1 a2 a3 a4 a5 h6 s0 s1 s2 s3 t1 t2 t3 t4 t5)) (va_runI (As := []) (rest := [.ref m0]) ⟨hx, hb, hml, hown, hta⟩ (c_X15_init l ) (cwI 0 hta (gWI mw408) rfl rfl rfl (hta _ mw176) (hta _ mw409) (hta _ mw410) rfl (by decide +kernel) ⟨Nat.le_of_ble_eq_true rfl, Nat.le_of_ble_eq_true rfl⟩) ⟨gS_blind, fun U hU hW => ⟨rfl, by rw [hU], by rw [hU]; exact hPc, va_K.moved hW.alike hKc, hDc.weaken (fun _ _ _ _ => trivial), hG.call hS hU hW hFc⟩⟩ rfl rfl hl.1 rfl (lv_room (Nat.le_of_ble_eq_true rfl)) dL_law_12 ⟨Nat.le_of_ble_eq_true rfl, Nat.le_of_ble_eq_true rfl⟩) hP hD hS hK hFc rfl rfl (by decide) (by decide) (fun u105 H locs h106 hP hD hS hK => ?_)
  obtain ⟨fm, tc⟩ := u105
  dsimp only at hP hD hK
  generalize fm 1 = m1 at hP hD hK
  generalize fm 2 = m2 at hP hD hK
  generalize fm 3 = m3 at hP hD hK
  generalize fm 4 = m4 at hP hD hK
  generalize fm 5 = m5 at hP hD hK
  generalize fm 6 = m6 at hP hD hK
  have hK : va_K D vwCl [(t1, .object "Foundrymark$Machine"), (t2, .object "Foundrymark$Part"), (t3, .object "Foundrymark$Supplier"), (t4, .object "Foundrymark$Lot"), (t5, .object "Foundrymark$Order"), (tc, .char)] s := hK
  have hP : va_P D vwCl [(h0, .inr (15, [.ref a1, .ref a2, .ref a3, .ref a4, .ref a5, .ref h6, .int 0, .int 0, .int 0, .int 0, .int 0, .int 0, .long 0, .long 0])), (a1, .inl (t1, 5, .inr (.inr (.inr (.inr (fun _ => none)))))), (a2, .inl (t2, 12, .inr (.inr (.inr (.inr (fun _ => none)))))), (a3, .inl (t3, 4, .inr (.inr (.inr (.inr (va_up (va_up (va_up (va_up (fun _ => none) 0 (some s0)) 1 (some s1)) 2 (some s2)) 3 (some s3))))))), (a4, .inl (t4, 90, .inr (.inr (.inr (.inr (fun _ => none)))))), (a5, .inl (t5, 30, .inr (.inr (.inr (.inr (fun _ => none)))))), (h6, .inr (10, [.long 0, .long 0])), (s0, .inr (14, [.int 110, .int 0, .int 0])), (s1, .inr (14, [.int 110, .int 0, .int 0])), (s2, .inr (14, [.int 110, .int 0, .int 0])), (s3, .inr (14, [.int 110, .int 0, .int 0])), (m0, .inr (20, [.int 0, .ref m1, .ref m2, .ref m3, .ref m4, .int 0, .ref m5, .ref m6, .int 0])), (m1, .inr (4, [.int 0, .ref tE, .int 0])), (m2, .inr (4, [.int 0, .ref tE, .int 0])), (m3, .inr (4, [.int 0, .ref tE, .int 0])), (m4, .inr (4, [.int 0, .ref tE, .int 0])), (m5, .inl (tc, 4, .inl (upd (upd (upd (upd (fun _ => 0) 0 110) 1 110) 2 110) 3 110)))] H := hP
  have hD : va_D A [(h0, .inr (15, [.ref a1, .ref a2, .ref a3, .ref a4, .ref a5, .ref h6, .int 0, .int 0, .int 0, .int 0, .int 0, .int 0, .long 0, .long 0])), (a1, .inl (t1, 5, .inr (.inr (.inr (.inr (fun _ => none)))))), (a2, .inl (t2, 12, .inr (.inr (.inr (.inr (fun _ => none)))))), (a3, .inl (t3, 4, .inr (.inr (.inr (.inr (va_up (va_up (va_up (va_up (fun _ => none) 0 (some s0)) 1 (some s1)) 2 (some s2)) 3 (some s3))))))), (a4, .inl (t4, 90, .inr (.inr (.inr (.inr (fun _ => none)))))), (a5, .inl (t5, 30, .inr (.inr (.inr (.inr (fun _ => none)))))), (h6, .inr (10, [.long 0, .long 0])), (s0, .inr (14, [.int 110, .int 0, .int 0])), (s1, .inr (14, [.int 110, .int 0, .int 0])), (s2, .inr (14, [.int 110, .int 0, .int 0])), (s3, .inr (14, [.int 110, .int 0, .int 0])), (m0, .inr (20, [.int 0, .ref m1, .ref m2, .ref m3, .ref m4, .int 0, .ref m5, .ref m6, .int 0])), (m1, .inr (4, [.int 0, .ref tE, .int 0])), (m2, .inr (4, [.int 0, .ref tE, .int 0])), (m3, .inr (4, [.int 0, .ref tE, .int 0])), (m4, .inr (4, [.int 0, .ref tE, .int 0])), (m5, .inl (tc, 4, .inl (upd (upd (upd (upd (fun _ => 0) 0 110) 1 110) 2 110) 3 110)))] := hD
  refine lv_astore_n (lv' := [(2, .ref m0), (1, .ref h0), (0, .ref b)]) hx hb dL_law_15 rfl hl (by decide) rfl (fun ls hl => ?_)
  refine lv_iconst (v := 1) hx hb dL_law_16 (by decide) ?_
  refine va_newa (atype := .long) (ty := .long) (N' := 1) (a0 := (1, .inr (.inl (fun _ => 0)))) hx hb (hta _ mw411) rfl hK hP hD hS hA (fun cA => rfl) (by decide) (by decide) (by decide) (Nat.le_of_ble_eq_true rfl) (Nat.le_of_ble_eq_true rfl) dL_law_17 (fun o tj H hK hP hD hS => ?_)
  have hK : va_K D vwCl [(t1, .object "Foundrymark$Machine"), (t2, .object "Foundrymark$Part"), (t3, .object "Foundrymark$Supplier"), (t4, .object "Foundrymark$Lot"), (t5, .object "Foundrymark$Order"), (tc, .char), (tj, .long)] s := hK
  have hP : va_P D vwCl [(h0, .inr (15, [.ref a1, .ref a2, .ref a3, .ref a4, .ref a5, .ref h6, .int 0, .int 0, .int 0, .int 0, .int 0, .int 0, .long 0, .long 0])), (a1, .inl (t1, 5, .inr (.inr (.inr (.inr (fun _ => none)))))), (a2, .inl (t2, 12, .inr (.inr (.inr (.inr (fun _ => none)))))), (a3, .inl (t3, 4, .inr (.inr (.inr (.inr (va_up (va_up (va_up (va_up (fun _ => none) 0 (some s0)) 1 (some s1)) 2 (some s2)) 3 (some s3))))))), (a4, .inl (t4, 90, .inr (.inr (.inr (.inr (fun _ => none)))))), (a5, .inl (t5, 30, .inr (.inr (.inr (.inr (fun _ => none)))))), (h6, .inr (10, [.long 0, .long 0])), (s0, .inr (14, [.int 110, .int 0, .int 0])), (s1, .inr (14, [.int 110, .int 0, .int 0])), (s2, .inr (14, [.int 110, .int 0, .int 0])), (s3, .inr (14, [.int 110, .int 0, .int 0])), (m0, .inr (20, [.int 0, .ref m1, .ref m2, .ref m3, .ref m4, .int 0, .ref m5, .ref m6, .int 0])), (m1, .inr (4, [.int 0, .ref tE, .int 0])), (m2, .inr (4, [.int 0, .ref tE, .int 0])), (m3, .inr (4, [.int 0, .ref tE, .int 0])), (m4, .inr (4, [.int 0, .ref tE, .int 0])), (m5, .inl (tc, 4, .inl (upd (upd (upd (upd (fun _ => 0) 0 110) 1 110) 2 110) 3 110))), (o, .inl (tj, 1, .inr (.inl (fun _ => 0))))] H := hP
  have hD : va_D A [(h0, .inr (15, [.ref a1, .ref a2, .ref a3, .ref a4, .ref a5, .ref h6, .int 0, .int 0, .int 0, .int 0, .int 0, .int 0, .long 0, .long 0])), (a1, .inl (t1, 5, .inr (.inr (.inr (.inr (fun _ => none)))))), (a2, .inl (t2, 12, .inr (.inr (.inr (.inr (fun _ => none)))))), (a3, .inl (t3, 4, .inr (.inr (.inr (.inr (va_up (va_up (va_up (va_up (fun _ => none) 0 (some s0)) 1 (some s1)) 2 (some s2)) 3 (some s3))))))), (a4, .inl (t4, 90, .inr (.inr (.inr (.inr (fun _ => none)))))), (a5, .inl (t5, 30, .inr (.inr (.inr (.inr (fun _ => none)))))), (h6, .inr (10, [.long 0, .long 0])), (s0, .inr (14, [.int 110, .int 0, .int 0])), (s1, .inr (14, [.int 110, .int 0, .int 0])), (s2, .inr (14, [.int 110, .int 0, .int 0])), (s3, .inr (14, [.int 110, .int 0, .int 0])), (m0, .inr (20, [.int 0, .ref m1, .ref m2, .ref m3, .ref m4, .int 0, .ref m5, .ref m6, .int 0])), (m1, .inr (4, [.int 0, .ref tE, .int 0])), (m2, .inr (4, [.int 0, .ref tE, .int 0])), (m3, .inr (4, [.int 0, .ref tE, .int 0])), (m4, .inr (4, [.int 0, .ref tE, .int 0])), (m5, .inl (tc, 4, .inl (upd (upd (upd (upd (fun _ => 0) 0 110) 1 110) 2 110) 3 110))), (o, .inl (tj, 1, .inr (.inl (fun _ => 0))))] := hD
  refine lv_astore_n (lv' := [(3, .ref o), (2, .ref m0), (1, .ref h0), (0, .ref b)]) hx hb dL_law_19 rfl hl (by decide) rfl (fun ls hl => ?_)
  refine lv_iconst (v := 1) hx hb dL_law_20 (by decide) ?_
  refine va_newa (atype := .double) (ty := .double) (N' := 1) (a0 := (1, .inr (.inr (.inr (.inl (fun _ => 0)))))) hx hb (hta _ mw412) rfl hK hP hD hS hA (fun cA => rfl) (by decide) (by decide) (by decide) (Nat.le_of_ble_eq_true rfl) (Nat.le_of_ble_eq_true rfl) dL_law_21 (fun oD td H hK hP hD hS => ?_)
  have hK : va_K D vwCl (tLw t1 t2 t3 t4 t5 tc tj td) s := hK
  have hP : va_P D vwCl (wLw tE h0 a1 a2 a3 a4 a5 h6 s0 s1 s2 s3 m0 m1 m2 m3 m4 m5 m6 o oD t1 t2 t3 t4 t5 tc tj td) H := hP
  have hD : va_D A (wLw tE h0 a1 a2 a3 a4 a5 h6 s0 s1 s2 s3 m0 m1 m2 m3 m4 m5 m6 o oD t1 t2 t3 t4 t5 tc tj td) := hD
  refine lv_astore (lv' := [(4, .ref oD), (3, .ref o), (2, .ref m0), (1, .ref h0), (0, .ref b)]) hx hb dL_law_23 hl (by decide) rfl (fun ls hl => ?_)
  refine lv_iconst (v := 0) hx hb dL_law_25 (by decide) ?_
  refine lv_istore (lv' := [(5, .int 0), (4, .ref oD), (3, .ref o), (2, .ref m0), (1, .ref h0), (0, .ref b)]) hx hb dL_law_26 hl (by decide) rfl (fun ls hl => ?_)
  refine lv_iload hx hb dL_law_28 (lv_at hl 0 rfl) ?_
  refine lv_aload_n hx hb dL_law_30 rfl (lv_at hl 5 rfl) ?_
  refine va_slen hx hb hX hbl hbA hS dL_law_31 ?_
  refine lv_bipush (v := 6) hx hb dL_law_32 (by decide) ?_
  refine lv_isub hx hb dL_law_34 ?_
  refine lv_icmp_gt (tgt := 2447) hx hb dL_law_35 (by decide) (fun c1 => ?_) (fun c1 => ?_)
  · refine lv_iconst (v := 1) hx hb dL_law_2447 (by decide) ?_
    refine va_forget (fun q hq => hA2 _ (hS.2.2 q hq)) ?_
    refine W.widen (k := 774141) (n := 6779626) (Nat.le_of_ble_eq_true rfl) (Nat.le_of_ble_eq_true rfl) ?_
    refine W.base ?_
    exact lw_ret (Drawn.sameBut.refl s.drawn lw_cs) hx hb hr hlocks dL_law_2448
  · have hL6 : L = 6 := by
      rcases (show L = 0 ∨ L = 1 ∨ L = 2 ∨ L = 3 ∨ L = 4 ∨ L = 5 ∨ L = 6 by omega) with rfl | rfl | rfl | rfl | rfl | rfl | rfl
      · exact absurd (by decide) c1
      · exact absurd (by decide) c1
      · exact absurd (by decide) c1
      · exact absurd (by decide) c1
      · exact absurd (by decide) c1
      · exact absurd (by decide) c1
      · rfl
    subst hL6
    refine lv_aload_n hx hb dL_law_38 rfl (lv_at hl 5 rfl) ?_
    refine lv_iload hx hb dL_law_39 (lv_at hl 0 rfl) ?_
    refine va_sld hx hb hX hbl hbA hS (i := 0) (by unfold vp_in; decide) dL_law_41 ?_
    refine lv_bipush (v := 63) hx hb dL_law_42 (by decide) ?_
    refine lv_iand hx hb dL_law_44 ?_
    obtain ⟨j, hj, ej⟩ := pk_andE (xs (0 : Int32).toNatClampNeg) (m := 63) 6 (by decide)
    rw [ej]
    rcases Nat.lt_or_ge j 35 with h35 | h35
    · rcases (show j = 0 ∨ j = 1 ∨ j = 2 ∨ j = 3 ∨ j = 4 ∨ j = 5 ∨ j = 6 ∨ j = 7 ∨ j = 8 ∨ j = 9 ∨ j = 10 ∨ j = 11 ∨ j = 12 ∨ j = 13 ∨ j = 14 ∨ j = 15 ∨ j = 16 ∨ j = 17 ∨ j = 18 ∨ j = 19 ∨ j = 20 ∨ j = 21 ∨ j = 22 ∨ j = 23 ∨ j = 24 ∨ j = 25 ∨ j = 26 ∨ j = 27 ∨ j = 28 ∨ j = 29 ∨ j = 30 ∨ j = 31 ∨ j = 32 ∨ j = 33 ∨ j = 34 by omega) with rfl | rfl | rfl | rfl | rfl | rfl | rfl | rfl | rfl | rfl | rfl | rfl | rfl | rfl | rfl | rfl | rfl | rfl | rfl | rfl | rfl | rfl | rfl | rfl | rfl | rfl | rfl | rfl | rfl | rfl | rfl | rfl | rfl | rfl | rfl
      · exact lv_tableIn hx hb dL_law_45 (by decide) (by decide) (off := 155) (tgt := 200) rfl (by decide) (lc_0 l hl0 C0 hA hA2 hK hG hP hD hS hl)
      · exact lv_tableIn hx hb dL_law_45 (by decide) (by decide) (off := 247) (tgt := 292) rfl (by decide) (lc_1 l hl0 C0 hA hA2 hK hG hP hD hS hl)
      · exact lv_tableIn hx hb dL_law_45 (by decide) (by decide) (off := 331) (tgt := 376) rfl (by decide) (lc_2 l hl0 C0 hA hA2 hK hG hP hD hS hl)
      · exact lv_tableIn hx hb dL_law_45 (by decide) (by decide) (off := 423) (tgt := 468) rfl (by decide) (lc_3 l hl0 C0 hA hA2 hK hG hP hD hS hl)
      · exact lv_tableIn hx hb dL_law_45 (by decide) (by decide) (off := 515) (tgt := 560) rfl (by decide) (lc_4 l hl0 C0 hA hA2 hK hG hP hD hS hl)
      · exact lv_tableIn hx hb dL_law_45 (by decide) (by decide) (off := 619) (tgt := 664) rfl (by decide) (lc_5 l hl0 C0 hA hA2 hK hG hP hD hS hl)
      · exact lv_tableIn hx hb dL_law_45 (by decide) (by decide) (off := 675) (tgt := 720) rfl (by decide) (lc_6 l hl0 C0 hA hA2 hK hG hP hD hS hl)
      · exact lv_tableIn hx hb dL_law_45 (by decide) (by decide) (off := 759) (tgt := 804) rfl (by decide) (lc_7 l hl0 C0 hA hA2 hK hG hP hD hS hl)
      · exact lv_tableIn hx hb dL_law_45 (by decide) (by decide) (off := 822) (tgt := 867) rfl (by decide) (lc_8 l hl0 C0 hA hA2 hK hG hP hD hS hl)
      · exact lv_tableIn hx hb dL_law_45 (by decide) (by decide) (off := 902) (tgt := 947) rfl (by decide) (lc_9 l hl0 C0 hA hA2 hK hG hP hD hS hl)
      · exact lv_tableIn hx hb dL_law_45 (by decide) (by decide) (off := 977) (tgt := 1022) rfl (by decide) (lc_10 l hl0 C0 hA hA2 hK hG hP hD hS hl)
      · exact lv_tableIn hx hb dL_law_45 (by decide) (by decide) (off := 990) (tgt := 1035) rfl (by decide) (lc_11 l hl0 C0 hA hA2 hK hG hP hD hS hl)
      · exact lv_tableIn hx hb dL_law_45 (by decide) (by decide) (off := 1046) (tgt := 1091) rfl (by decide) (lc_12 l hl0 C0 hA hA2 hK hG hP hD hS hl)
      · exact lv_tableIn hx hb dL_law_45 (by decide) (by decide) (off := 1102) (tgt := 1147) rfl (by decide) (lc_13 l hl0 C0 hA hA2 hK hG hP hD hS hl)
      · exact lv_tableIn hx hb dL_law_45 (by decide) (by decide) (off := 1158) (tgt := 1203) rfl (by decide) (lc_14 l hl0 C0 hA hA2 hK hG hP hD hS hl)
      · exact lv_tableIn hx hb dL_law_45 (by decide) (by decide) (off := 1213) (tgt := 1258) rfl (by decide) (lc_15 l hl0 C0 hA hA2 hK hG hP hD hS hl)
      · exact lv_tableIn hx hb dL_law_45 (by decide) (by decide) (off := 1305) (tgt := 1350) rfl (by decide) (lc_16 l hl0 C0 hA hA2 hK hG hP hD hS hl)
      · exact lv_tableIn hx hb dL_law_45 (by decide) (by decide) (off := 1368) (tgt := 1413) rfl (by decide) (lc_17 l hl0 C0 hA hA2 hK hG hP hD hS hl)
      · exact lv_tableIn hx hb dL_law_45 (by decide) (by decide) (off := 1424) (tgt := 1469) rfl (by decide) (lc_18 l hl0 C0 hA hA2 hK hG hP hD hS hl)
      · exact lv_tableIn hx hb dL_law_45 (by decide) (by decide) (off := 1487) (tgt := 1532) rfl (by decide) (lc_19 l hl0 C0 hA hA2 hK hG hP hD hS hl)
      · exact lv_tableIn hx hb dL_law_45 (by decide) (by decide) (off := 1555) (tgt := 1600) rfl (by decide) (lc_20 l hl0 C0 hA hA2 hK hG hP hD hS hl)
      · exact lv_tableIn hx hb dL_law_45 (by decide) (by decide) (off := 1611) (tgt := 1656) rfl (by decide) (lc_21 l hl0 C0 hA hA2 hK hG hP hD hS hl)
      · exact lv_tableIn hx hb dL_law_45 (by decide) (by decide) (off := 1674) (tgt := 1719) rfl (by decide) (lc_22 l hl0 C0 hA hA2 hK hG hP hD hS hl)
      · exact lv_tableIn hx hb dL_law_45 (by decide) (by decide) (off := 1730) (tgt := 1775) rfl (by decide) (lc_23 l hl0 C0 hA hA2 hK hG hP hD hS hl)
      · exact lv_tableIn hx hb dL_law_45 (by decide) (by decide) (off := 1786) (tgt := 1831) rfl (by decide) (lc_24 l hl0 C0 hA hA2 hK hG hP hD hS hl)
      · exact lv_tableIn hx hb dL_law_45 (by decide) (by decide) (off := 1842) (tgt := 1887) rfl (by decide) (lc_25 l hl0 C0 hA hA2 hK hG hP hD hS hl)
      · exact lv_tableIn hx hb dL_law_45 (by decide) (by decide) (off := 1898) (tgt := 1943) rfl (by decide) (lc_26 l hl0 C0 hA hA2 hK hG hP hD hS hl)
      · exact lv_tableIn hx hb dL_law_45 (by decide) (by decide) (off := 1954) (tgt := 1999) rfl (by decide) (lc_27 l hl0 C0 hA hA2 hK hG hP hD hS hl)
      · exact lv_tableIn hx hb dL_law_45 (by decide) (by decide) (off := 2010) (tgt := 2055) rfl (by decide) (lc_28 l hl0 C0 hA hA2 hK hG hP hD hS hl)
      · exact lv_tableIn hx hb dL_law_45 (by decide) (by decide) (off := 2085) (tgt := 2130) rfl (by decide) (lc_29 l hl0 C0 hA hA2 hK hG hP hD hS hl)
      · exact lv_tableIn hx hb dL_law_45 (by decide) (by decide) (off := 2141) (tgt := 2186) rfl (by decide) (lc_30 l hl0 C0 hA hA2 hK hG hP hD hS hl)
      · exact lv_tableIn hx hb dL_law_45 (by decide) (by decide) (off := 2197) (tgt := 2242) rfl (by decide) (lc_31 l hl0 C0 hA hA2 hK hG hP hD hS hl)
      · exact lv_tableIn hx hb dL_law_45 (by decide) (by decide) (off := 2252) (tgt := 2297) rfl (by decide) (lc_32 l hl0 C0 hA hA2 hK hG hP hD hS hl)
      · exact lv_tableIn hx hb dL_law_45 (by decide) (by decide) (off := 2318) (tgt := 2363) rfl (by decide) (lc_33 l hl0 C0 hA hA2 hK hG hP hD hS hl)
      · exact lv_tableIn hx hb dL_law_45 (by decide) (by decide) (off := 2383) (tgt := 2428) rfl (by decide) (lc_34 l hl0 C0 hA hA2 hK hG hP hD hS hl)
    · refine lv_tableOut (tgt := 2441) hx hb dL_law_45 (Or.inr (by rw [nI_toInt (by omega)]; omega)) (by decide) ?_
      exact law_tail l C0 hA2 hS (lv_sub hl [5, 0] rfl) (Nat.le_of_ble_eq_true rfl) (Nat.le_of_ble_eq_true rfl)
