set_option maxHeartbeats 4000000 in
set_option maxRecDepth 100000 in
theorem lc_21 {p : Program} {e : Env} {s : State} {m : MethodId} {below : List Frame} {meth : Method} {c : Code} (l : Launch) (hl0 : l.stackTraces = false) {b : Nat} {xs : Nat → Int32} (C0 : lw_At p s m meth c b 6 xs) {A : Nat → Prop} (hA : ∀ q, s.heap.size ≤ q → A q) (hA2 : ∀ q, A q → s.heap.size ≤ q) {D : va_G} {tE : Nat} {h0 a1 a2 a3 a4 a5 h6 s0 s1 s2 s3 : Nat} {t1 t2 t3 t4 t5 : ClassId} {m0 m1 m2 m3 m4 m5 m6 : Nat} {tc : ClassId} {o oD : Nat} {tj td : ClassId} {H : Heap} {locs : List Loc} {ls : Array Slot} (hK : va_K D vwCl (tLw t1 t2 t3 t4 t5 tc tj td) s) (hG : gP tE A s) (hP : va_P D vwCl (wLw tE h0 a1 a2 a3 a4 a5 h6 s0 s1 s2 s3 m0 m1 m2 m3 m4 m5 m6 o oD t1 t2 t3 t4 t5 tc tj td) H) (hD : va_D A (wLw tE h0 a1 a2 a3 a4 a5 h6 s0 s1 s2 s3 m0 m1 m2 m3 m4 m5 m6 o oD t1 t2 t3 t4 t5 tc tj td)) (hS : va_S A s.heap H locs) (hl : lv_has ls 9 [(5, .int 0), (4, .ref oD), (3, .ref o), (2, .ref m0), (1, .ref h0), (0, .ref b)]) : W p l e room_1 s m #[Value.ref b] below meth c H locs 25 221 (lw_Z below #[Value.ref b] s) (F0 m 1656 ls []) := by
  obtain ⟨hx, hb, hr, hml, hown0, hts, hX, hbl, hlocks, hgv⟩ := id C0
  have hta : ∀ w ∈ WA, w.before #[Value.ref b] s = true := fun w h => hts w (WA_in w h)
  have hown : s.vm.findClass "FoundrymarkLaw" = some m.cls := hown0
  have hbA : ¬ A b := fun h => absurd (hA2 b h) (Nat.not_le.mpr hbl)
  refine lv_aload_n hx hb dL_law_1656 rfl (lv_at hl 4 rfl) ?_
  refine lv_aload_n hx hb dL_law_1657 rfl (lv_at hl 5 rfl) ?_
  refine lv_iload hx hb dL_law_1658 (lv_at hl 0 rfl) ?_
  refine lv_iconst (v := 1) hx hb dL_law_1660 (by decide) ?_
  refine lv_iadd hx hb dL_law_1661 ?_
  refine lv_topi (fun x1 ex1 => ?_)
  obtain rfl : x1 = 1 := ex1.trans (by decide)
  refine va_sld hx hb hX hbl hbA hS (i := 1) (by unfold vp_in; decide) dL_law_1662 ?_
  refine W.eq (g2 := F0 m 1663 ls [.int (xs 1), .ref h0]) rfl ?_
  refine lv_aload_n hx hb dL_law_1663 rfl (lv_at hl 2 rfl) ?_
  have hPc := hP.sub (ws' := (wX h0 a1 a2 a3 a4 a5 h6 s0 s1 s2 s3 t1 t2 t3 t4 t5)) [0, 1, 2, 3, 4, 5, 6, 7, 8, 9, 10] rfl
  have hKc := hK.sub (tys' := (tX t1 t2 t3 t4 t5)) [0, 1, 2, 3, 4] rfl
  have hDc := hD.sub (ws' := (wX h0 a1 a2 a3 a4 a5 h6 s0 s1 s2 s3 t1 t2 t3 t4 t5)) [0, 1, 2, 3, 4, 5, 6, 7, 8, 9, 10] (by decide) rfl
  have hFc := va_free (wc := (wX h0 a1 a2 a3 a4 a5 h6 s0 s1 s2 s3 t1 t2 t3 t4 t5)) hD hS hA [0, 1, 2, 3, 4, 5, 6, 7, 8, 9, 10] rfl
  refine gJ_i (isC := [0, 1, 2, 3, 4, 5, 6, 7, 8, 9, 10]) (isR := [11, 12, 13, 14, 15, 16, 17, 18]) (wr := [(m0, .inr (20, [.int 0, .ref m1, .ref m2, .ref m3, .ref m4, .int 0, .ref m5, .ref m6, .int 0])), (m1, .inr (4, [.int 0, .ref tE, .int 0])), (m2, .inr (4, [.int 0, .ref tE, .int 0])), (m3, .inr (4, [.int 0, .ref tE, .int 0])), (m4, .inr (4, [.int 0, .ref tE, .int 0])), (m5, .inl (tc, 4, .inl (upd (upd (upd (upd (fun _ => 0) 0 110) 1 110) 2 110) 3 110))), (o, .inl (tj, 1, .inr (.inl (fun _ => 0)))), (oD, .inl (td, 1, .inr (.inr (.inr (.inl (fun _ => 0))))))]) (vx_runSW (As := [.ref h0, .int (xs 1), .ref o]) (rest := []) ⟨hx, hb, hml, hown, hta⟩ (c_L_deliver l hl0 ) (vx_cwSW 3 hta (gWSW mw567 mw568 mw416 mw566) rfl rfl rfl (by decide +kernel) ⟨Nat.le_of_ble_eq_true rfl, Nat.le_of_ble_eq_true rfl⟩) ⟨gS_blind, fun U hU hW => ⟨rfl, by rw [hU], by rw [hU]; exact hPc, va_K.moved hW.alike hKc, hDc.weaken (fun _ _ _ _ => trivial), hG.call hS hU hW hFc⟩⟩ rfl rfl hl.1 rfl (lv_room (Nat.le_of_ble_eq_true rfl)) dL_law_1664 ⟨Nat.le_of_ble_eq_true rfl, Nat.le_of_ble_eq_true rfl⟩) hP hD hS hK hFc rfl rfl (by decide) (by decide) (fun r2 u3 H locs h4 hP hD hS hK => ?_)
  obtain rfl : r2 = 1 := h4
  have hK : va_K D vwCl (tLw t1 t2 t3 t4 t5 tc tj td) s := hK
  have hP : va_P D vwCl [(m0, .inr (20, [.int 0, .ref m1, .ref m2, .ref m3, .ref m4, .int 0, .ref m5, .ref m6, .int 0])), (m1, .inr (4, [.int 0, .ref tE, .int 0])), (m2, .inr (4, [.int 0, .ref tE, .int 0])), (m3, .inr (4, [.int 0, .ref tE, .int 0])), (m4, .inr (4, [.int 0, .ref tE, .int 0])), (m5, .inl (tc, 4, .inl (upd (upd (upd (upd (fun _ => 0) 0 110) 1 110) 2 110) 3 110))), (o, .inl (tj, 1, .inr (.inl (fun _ => 0)))), (oD, .inl (td, 1, .inr (.inr (.inr (.inl (fun _ => 0))))))] H := hP
  have hD : va_D A [(m0, .inr (20, [.int 0, .ref m1, .ref m2, .ref m3, .ref m4, .int 0, .ref m5, .ref m6, .int 0])), (m1, .inr (4, [.int 0, .ref tE, .int 0])), (m2, .inr (4, [.int 0, .ref tE, .int 0])), (m3, .inr (4, [.int 0, .ref tE, .int 0])), (m4, .inr (4, [.int 0, .ref tE, .int 0])), (m5, .inl (tc, 4, .inl (upd (upd (upd (upd (fun _ => 0) 0 110) 1 110) 2 110) 3 110))), (o, .inl (tj, 1, .inr (.inl (fun _ => 0)))), (oD, .inl (td, 1, .inr (.inr (.inr (.inl (fun _ => 0))))))] := hD
  refine lv_istore (lv' := [(6, .int 1), (5, .int 0), (4, .ref oD), (3, .ref o), (2, .ref m0), (1, .ref h0), (0, .ref b)]) hx hb dL_law_1667 hl (by decide) rfl (fun ls hl => ?_)
  refine lv_aload_n hx hb dL_law_1669 rfl (lv_at hl 4 rfl) ?_
  refine lv_aload_n hx hb dL_law_1670 rfl (lv_at hl 6 rfl) ?_
  refine lv_iload hx hb dL_law_1671 (lv_at hl 1 rfl) ?_
  refine lv_iconst (v := 1) hx hb dL_law_1673 (by decide) ?_
  refine lv_iadd hx hb dL_law_1674 ?_
  refine lv_topi (fun x5 ex5 => ?_)
  obtain rfl : x5 = 1 := ex5.trans (by decide)
  refine va_sld hx hb hX hbl hbA hS (i := 1) (by unfold vp_in; decide) dL_law_1675 ?_
  refine W.eq (g2 := F0 m 1676 ls [.int (xs 1), .ref m0]) rfl ?_
  have hPc := hP.sub (ws' := (wM tE m0 m1 m2 m3 m4 m5 m6 tc 0 0)) [0, 1, 2, 3, 4, 5] rfl
  have hKc := hK.sub (tys' := [(tc, .char)]) [5] rfl
  have hDc := hD.sub (ws' := (wM tE m0 m1 m2 m3 m4 m5 m6 tc 0 0)) [0, 1, 2, 3, 4, 5] (by decide) rfl
  have hFc := va_free (wc := (wM tE m0 m1 m2 m3 m4 m5 m6 tc 0 0)) hD hS hA [0, 1, 2, 3, 4, 5] rfl
  refine gJ_i (isC := [0, 1, 2, 3, 4, 5]) (isR := [6, 7]) (wr := [(o, .inl (tj, 1, .inr (.inl (fun _ => 0)))), (oD, .inl (td, 1, .inr (.inr (.inr (.inl (fun _ => 0))))))]) (va_runV (As := [.int (xs 1)]) (rest := []) ⟨hx, hb, hml, hown, hta⟩ (c_X15_deliver l ) (cwV 1 hta (gWV mw570 mw571 mw572 mw176 mw569) rfl rfl rfl (by decide +kernel) ⟨Nat.le_of_ble_eq_true rfl, Nat.le_of_ble_eq_true rfl⟩) ⟨gS_blind, va_recv hKc hPc (ci := 20) (q0 := 0) rfl rfl, fun U hU hW => ⟨rfl, by rw [hU], by rw [hU]; exact hPc, va_K.moved hW.alike hKc, hDc.weaken (fun _ _ _ _ => trivial), hG.call hS hU hW hFc⟩⟩ rfl rfl hl.1 rfl (lv_room (Nat.le_of_ble_eq_true rfl)) dL_law_1676 ⟨Nat.le_of_ble_eq_true rfl, Nat.le_of_ble_eq_true rfl⟩) hP hD hS hK hFc rfl rfl (by decide) (by decide) (fun r6 u7 H locs h8 hP hD hS hK => ?_)
  obtain rfl : r6 = 0 := h8
  have hK : va_K D vwCl (tLw t1 t2 t3 t4 t5 tc tj td) s := hK
  have hP : va_P D vwCl [(o, .inl (tj, 1, .inr (.inl (fun _ => 0)))), (oD, .inl (td, 1, .inr (.inr (.inr (.inl (fun _ => 0)))))), (m0, .inr (20, [.int 1, .ref m1, .ref m2, .ref m3, .ref m4, .int 0, .ref m5, .ref m6, .int 0])), (m1, .inr (4, [.int 0, .ref tE, .int 0])), (m2, .inr (4, [.int 0, .ref tE, .int 0])), (m3, .inr (4, [.int 0, .ref tE, .int 0])), (m4, .inr (4, [.int 0, .ref tE, .int 0])), (m5, .inl (tc, 4, .inl (upd (upd (upd (upd (fun _ => 0) 0 110) 1 110) 2 110) 3 110)))] H := hP
  have hD : va_D A [(o, .inl (tj, 1, .inr (.inl (fun _ => 0)))), (oD, .inl (td, 1, .inr (.inr (.inr (.inl (fun _ => 0)))))), (m0, .inr (20, [.int 1, .ref m1, .ref m2, .ref m3, .ref m4, .int 0, .ref m5, .ref m6, .int 0])), (m1, .inr (4, [.int 0, .ref tE, .int 0])), (m2, .inr (4, [.int 0, .ref tE, .int 0])), (m3, .inr (4, [.int 0, .ref tE, .int 0])), (m4, .inr (4, [.int 0, .ref tE, .int 0])), (m5, .inl (tc, 4, .inl (upd (upd (upd (upd (fun _ => 0) 0 110) 1 110) 2 110) 3 110)))] := hD
  refine lv_istore (lv' := [(7, .int 0), (6, .int 1), (5, .int 0), (4, .ref oD), (3, .ref o), (2, .ref m0), (1, .ref h0), (0, .ref b)]) hx hb dL_law_1679 hl (by decide) rfl (fun ls hl => ?_)
  refine lv_aload_n hx hb dL_law_1681 rfl (lv_at hl 5 rfl) ?_
  have hPc := hP.sub (ws' := [(m0, .inr (20, [.int 1, .ref m1, .ref m2, .ref m3, .ref m4, .int 0, .ref m5, .ref m6, .int 0]))]) [2] rfl
  have hKc := hK.sub (tys' := []) [] rfl
  refine vp_callSi (W.runV (As := []) (rest := []) ⟨hx, hb, hml, hown, hta⟩ (c_X15_thrown l ) (cwV 0 hta (gWV mw422 mw423 mw424 mw176 mw421) rfl rfl rfl (by decide +kernel) ⟨Nat.le_of_ble_eq_true rfl, Nat.le_of_ble_eq_true rfl⟩) ⟨gR_blind, va_recv hKc hPc (ci := 20) (q0 := 0) rfl rfl, fun U hU hW => ⟨rfl, by rw [hU]; exact hPc, va_K.moved hW.alike hKc⟩⟩ rfl rfl hl.1 rfl (lv_room (Nat.le_of_ble_eq_true rfl)) dL_law_1682 ⟨Nat.le_of_ble_eq_true rfl, Nat.le_of_ble_eq_true rfl⟩) (fun r9 h10 => ?_)
  obtain rfl : r9 = 1 := h10
  refine lv_iload hx hb dL_law_1685 (lv_at hl 1 rfl) ?_
  refine lv_icmp_eq (tgt := 1692) hx hb dL_law_1687 (by decide) (fun c11 => ?_) (fun c11 => ?_)
  · skip
    refine lv_iload hx hb dL_law_1692 (lv_at hl 1 rfl) ?_
    refine lv_if_ne (tgt := 1716) hx hb dL_law_1694 (by decide) (fun c12 => ?_) (fun c12 => ?_)
    · skip
      refine lv_goto (tgt := 2441) hx hb dL_law_1716 (by decide) ?_
      exact law_tail l C0 hA2 hS (lv_sub hl [7, 2] rfl) (Nat.le_of_ble_eq_true rfl) (Nat.le_of_ble_eq_true rfl)
    · exact absurd c12 (by decide)
  · exact absurd (by decide) c11

set_option maxHeartbeats 4000000 in
set_option maxRecDepth 100000 in
theorem lc_22 {p : Program} {e : Env} {s : State} {m : MethodId} {below : List Frame} {meth : Method} {c : Code} (l : Launch) (hl0 : l.stackTraces = false) {b : Nat} {xs : Nat → Int32} (C0 : lw_At p s m meth c b 6 xs) {A : Nat → Prop} (hA : ∀ q, s.heap.size ≤ q → A q) (hA2 : ∀ q, A q → s.heap.size ≤ q) {D : va_G} {tE : Nat} {h0 a1 a2 a3 a4 a5 h6 s0 s1 s2 s3 : Nat} {t1 t2 t3 t4 t5 : ClassId} {m0 m1 m2 m3 m4 m5 m6 : Nat} {tc : ClassId} {o oD : Nat} {tj td : ClassId} {H : Heap} {locs : List Loc} {ls : Array Slot} (hK : va_K D vwCl (tLw t1 t2 t3 t4 t5 tc tj td) s) (hG : gP tE A s) (hP : va_P D vwCl (wLw tE h0 a1 a2 a3 a4 a5 h6 s0 s1 s2 s3 m0 m1 m2 m3 m4 m5 m6 o oD t1 t2 t3 t4 t5 tc tj td) H) (hD : va_D A (wLw tE h0 a1 a2 a3 a4 a5 h6 s0 s1 s2 s3 m0 m1 m2 m3 m4 m5 m6 o oD t1 t2 t3 t4 t5 tc tj td)) (hS : va_S A s.heap H locs) (hl : lv_has ls 9 [(5, .int 0), (4, .ref oD), (3, .ref o), (2, .ref m0), (1, .ref h0), (0, .ref b)]) : W p l e room_1 s m #[Value.ref b] below meth c H locs 25 221 (lw_Z below #[Value.ref b] s) (F0 m 1719 ls []) := by
  obtain ⟨hx, hb, hr, hml, hown0, hts, hX, hbl, hlocks, hgv⟩ := id C0
  have hta : ∀ w ∈ WA, w.before #[Value.ref b] s = true := fun w h => hts w (WA_in w h)
  have hown : s.vm.findClass "FoundrymarkLaw" = some m.cls := hown0
  have hbA : ¬ A b := fun h => absurd (hA2 b h) (Nat.not_le.mpr hbl)
  refine lv_aload_n hx hb dL_law_1719 rfl (lv_at hl 4 rfl) ?_
  refine lv_aload_n hx hb dL_law_1720 rfl (lv_at hl 5 rfl) ?_
  refine lv_iload hx hb dL_law_1721 (lv_at hl 0 rfl) ?_
  refine lv_iconst (v := 1) hx hb dL_law_1723 (by decide) ?_
  refine lv_iadd hx hb dL_law_1724 ?_
  refine lv_topi (fun x1 ex1 => ?_)
  obtain rfl : x1 = 1 := ex1.trans (by decide)
  refine va_sld hx hb hX hbl hbA hS (i := 1) (by unfold vp_in; decide) dL_law_1725 ?_
  refine W.eq (g2 := F0 m 1726 ls [.int (xs 1), .ref h0]) rfl ?_
  refine lv_aload_n hx hb dL_law_1726 rfl (lv_at hl 2 rfl) ?_
  have hPc := hP.sub (ws' := (wX h0 a1 a2 a3 a4 a5 h6 s0 s1 s2 s3 t1 t2 t3 t4 t5)) [0, 1, 2, 3, 4, 5, 6, 7, 8, 9, 10] rfl
  have hKc := hK.sub (tys' := (tX t1 t2 t3 t4 t5)) [0, 1, 2, 3, 4] rfl
  have hDc := hD.sub (ws' := (wX h0 a1 a2 a3 a4 a5 h6 s0 s1 s2 s3 t1 t2 t3 t4 t5)) [0, 1, 2, 3, 4, 5, 6, 7, 8, 9, 10] (by decide) rfl
  have hFc := va_free (wc := (wX h0 a1 a2 a3 a4 a5 h6 s0 s1 s2 s3 t1 t2 t3 t4 t5)) hD hS hA [0, 1, 2, 3, 4, 5, 6, 7, 8, 9, 10] rfl
  refine gJ_i (isC := [0, 1, 2, 3, 4, 5, 6, 7, 8, 9, 10]) (isR := [11, 12, 13, 14, 15, 16, 17, 18]) (wr := [(m0, .inr (20, [.int 0, .ref m1, .ref m2, .ref m3, .ref m4, .int 0, .ref m5, .ref m6, .int 0])), (m1, .inr (4, [.int 0, .ref tE, .int 0])), (m2, .inr (4, [.int 0, .ref tE, .int 0])), (m3, .inr (4, [.int 0, .ref tE, .int 0])), (m4, .inr (4, [.int 0, .ref tE, .int 0])), (m5, .inl (tc, 4, .inl (upd (upd (upd (upd (fun _ => 0) 0 110) 1 110) 2 110) 3 110))), (o, .inl (tj, 1, .inr (.inl (fun _ => 0)))), (oD, .inl (td, 1, .inr (.inr (.inr (.inl (fun _ => 0))))))]) (vx_runSW (As := [.ref h0, .int (xs 1), .ref o]) (rest := []) ⟨hx, hb, hml, hown, hta⟩ (c_L_stateOf l hl0 ) (vx_cwSW 3 hta (gWSW mw574 mw575 mw416 mw573) rfl rfl rfl (by decide +kernel) ⟨Nat.le_of_ble_eq_true rfl, Nat.le_of_ble_eq_true rfl⟩) ⟨gS_blind, fun U hU hW => ⟨rfl, by rw [hU], by rw [hU]; exact hPc, va_K.moved hW.alike hKc, hDc.weaken (fun _ _ _ _ => trivial), hG.call hS hU hW hFc⟩⟩ rfl rfl hl.1 rfl (lv_room (Nat.le_of_ble_eq_true rfl)) dL_law_1727 ⟨Nat.le_of_ble_eq_true rfl, Nat.le_of_ble_eq_true rfl⟩) hP hD hS hK hFc rfl rfl (by decide) (by decide) (fun r2 u3 H locs h4 hP hD hS hK => ?_)
  obtain rfl : r2 = 1 := h4
  have hK : va_K D vwCl (tLw t1 t2 t3 t4 t5 tc tj td) s := hK
  have hP : va_P D vwCl [(m0, .inr (20, [.int 0, .ref m1, .ref m2, .ref m3, .ref m4, .int 0, .ref m5, .ref m6, .int 0])), (m1, .inr (4, [.int 0, .ref tE, .int 0])), (m2, .inr (4, [.int 0, .ref tE, .int 0])), (m3, .inr (4, [.int 0, .ref tE, .int 0])), (m4, .inr (4, [.int 0, .ref tE, .int 0])), (m5, .inl (tc, 4, .inl (upd (upd (upd (upd (fun _ => 0) 0 110) 1 110) 2 110) 3 110))), (o, .inl (tj, 1, .inr (.inl (fun _ => 0)))), (oD, .inl (td, 1, .inr (.inr (.inr (.inl (fun _ => 0))))))] H := hP
  have hD : va_D A [(m0, .inr (20, [.int 0, .ref m1, .ref m2, .ref m3, .ref m4, .int 0, .ref m5, .ref m6, .int 0])), (m1, .inr (4, [.int 0, .ref tE, .int 0])), (m2, .inr (4, [.int 0, .ref tE, .int 0])), (m3, .inr (4, [.int 0, .ref tE, .int 0])), (m4, .inr (4, [.int 0, .ref tE, .int 0])), (m5, .inl (tc, 4, .inl (upd (upd (upd (upd (fun _ => 0) 0 110) 1 110) 2 110) 3 110))), (o, .inl (tj, 1, .inr (.inl (fun _ => 0)))), (oD, .inl (td, 1, .inr (.inr (.inr (.inl (fun _ => 0))))))] := hD
  refine lv_istore (lv' := [(6, .int 1), (5, .int 0), (4, .ref oD), (3, .ref o), (2, .ref m0), (1, .ref h0), (0, .ref b)]) hx hb dL_law_1730 hl (by decide) rfl (fun ls hl => ?_)
  refine lv_aload_n hx hb dL_law_1732 rfl (lv_at hl 4 rfl) ?_
  refine lv_aload_n hx hb dL_law_1733 rfl (lv_at hl 6 rfl) ?_
  refine lv_iload hx hb dL_law_1734 (lv_at hl 1 rfl) ?_
  refine lv_iconst (v := 1) hx hb dL_law_1736 (by decide) ?_
  refine lv_iadd hx hb dL_law_1737 ?_
  refine lv_topi (fun x5 ex5 => ?_)
  obtain rfl : x5 = 1 := ex5.trans (by decide)
  refine va_sld hx hb hX hbl hbA hS (i := 1) (by unfold vp_in; decide) dL_law_1738 ?_
  refine W.eq (g2 := F0 m 1739 ls [.int (xs 1), .ref m0]) rfl ?_
  have hPc := hP.sub (ws' := (wM tE m0 m1 m2 m3 m4 m5 m6 tc 0 0)) [0, 1, 2, 3, 4, 5] rfl
  have hKc := hK.sub (tys' := [(tc, .char)]) [5] rfl
  have hDc := hD.sub (ws' := (wM tE m0 m1 m2 m3 m4 m5 m6 tc 0 0)) [0, 1, 2, 3, 4, 5] (by decide) rfl
  have hFc := va_free (wc := (wM tE m0 m1 m2 m3 m4 m5 m6 tc 0 0)) hD hS hA [0, 1, 2, 3, 4, 5] rfl
  refine gJ_i (isC := [0, 1, 2, 3, 4, 5]) (isR := [6, 7]) (wr := [(o, .inl (tj, 1, .inr (.inl (fun _ => 0)))), (oD, .inl (td, 1, .inr (.inr (.inr (.inl (fun _ => 0))))))]) (va_runV (As := [.int (xs 1)]) (rest := []) ⟨hx, hb, hml, hown, hta⟩ (c_X15_stateOf l ) (cwV 1 hta (gWV mw577 mw578 mw579 mw176 mw576) rfl rfl rfl (by decide +kernel) ⟨Nat.le_of_ble_eq_true rfl, Nat.le_of_ble_eq_true rfl⟩) ⟨gS_blind, va_recv hKc hPc (ci := 20) (q0 := 0) rfl rfl, fun U hU hW => ⟨rfl, by rw [hU], by rw [hU]; exact hPc, va_K.moved hW.alike hKc, hDc.weaken (fun _ _ _ _ => trivial), hG.call hS hU hW hFc⟩⟩ rfl rfl hl.1 rfl (lv_room (Nat.le_of_ble_eq_true rfl)) dL_law_1739 ⟨Nat.le_of_ble_eq_true rfl, Nat.le_of_ble_eq_true rfl⟩) hP hD hS hK hFc rfl rfl (by decide) (by decide) (fun r6 u7 H locs h8 hP hD hS hK => ?_)
  obtain rfl : r6 = 0 := h8
  have hK : va_K D vwCl (tLw t1 t2 t3 t4 t5 tc tj td) s := hK
  have hP : va_P D vwCl [(o, .inl (tj, 1, .inr (.inl (fun _ => 0)))), (oD, .inl (td, 1, .inr (.inr (.inr (.inl (fun _ => 0)))))), (m0, .inr (20, [.int 1, .ref m1, .ref m2, .ref m3, .ref m4, .int 0, .ref m5, .ref m6, .int 0])), (m1, .inr (4, [.int 0, .ref tE, .int 0])), (m2, .inr (4, [.int 0, .ref tE, .int 0])), (m3, .inr (4, [.int 0, .ref tE, .int 0])), (m4, .inr (4, [.int 0, .ref tE, .int 0])), (m5, .inl (tc, 4, .inl (upd (upd (upd (upd (fun _ => 0) 0 110) 1 110) 2 110) 3 110)))] H := hP
  have hD : va_D A [(o, .inl (tj, 1, .inr (.inl (fun _ => 0)))), (oD, .inl (td, 1, .inr (.inr (.inr (.inl (fun _ => 0)))))), (m0, .inr (20, [.int 1, .ref m1, .ref m2, .ref m3, .ref m4, .int 0, .ref m5, .ref m6, .int 0])), (m1, .inr (4, [.int 0, .ref tE, .int 0])), (m2, .inr (4, [.int 0, .ref tE, .int 0])), (m3, .inr (4, [.int 0, .ref tE, .int 0])), (m4, .inr (4, [.int 0, .ref tE, .int 0])), (m5, .inl (tc, 4, .inl (upd (upd (upd (upd (fun _ => 0) 0 110) 1 110) 2 110) 3 110)))] := hD
  refine lv_istore (lv' := [(7, .int 0), (6, .int 1), (5, .int 0), (4, .ref oD), (3, .ref o), (2, .ref m0), (1, .ref h0), (0, .ref b)]) hx hb dL_law_1742 hl (by decide) rfl (fun ls hl => ?_)
  refine lv_aload_n hx hb dL_law_1744 rfl (lv_at hl 5 rfl) ?_
  have hPc := hP.sub (ws' := [(m0, .inr (20, [.int 1, .ref m1, .ref m2, .ref m3, .ref m4, .int 0, .ref m5, .ref m6, .int 0]))]) [2] rfl
  have hKc := hK.sub (tys' := []) [] rfl
  refine vp_callSi (W.runV (As := []) (rest := []) ⟨hx, hb, hml, hown, hta⟩ (c_X15_thrown l ) (cwV 0 hta (gWV mw422 mw423 mw424 mw176 mw421) rfl rfl rfl (by decide +kernel) ⟨Nat.le_of_ble_eq_true rfl, Nat.le_of_ble_eq_true rfl⟩) ⟨gR_blind, va_recv hKc hPc (ci := 20) (q0 := 0) rfl rfl, fun U hU hW => ⟨rfl, by rw [hU]; exact hPc, va_K.moved hW.alike hKc⟩⟩ rfl rfl hl.1 rfl (lv_room (Nat.le_of_ble_eq_true rfl)) dL_law_1745 ⟨Nat.le_of_ble_eq_true rfl, Nat.le_of_ble_eq_true rfl⟩) (fun r9 h10 => ?_)
  obtain rfl : r9 = 1 := h10
  refine lv_iload hx hb dL_law_1748 (lv_at hl 1 rfl) ?_
  refine lv_icmp_eq (tgt := 1755) hx hb dL_law_1750 (by decide) (fun c11 => ?_) (fun c11 => ?_)
  · skip
    refine lv_iload hx hb dL_law_1755 (lv_at hl 1 rfl) ?_
    refine lv_if_ne (tgt := 1772) hx hb dL_law_1757 (by decide) (fun c12 => ?_) (fun c12 => ?_)
    · skip
      refine lv_goto (tgt := 2441) hx hb dL_law_1772 (by decide) ?_
      exact law_tail l C0 hA2 hS (lv_sub hl [7, 2] rfl) (Nat.le_of_ble_eq_true rfl) (Nat.le_of_ble_eq_true rfl)
    · exact absurd c12 (by decide)
  · exact absurd (by decide) c11

set_option maxHeartbeats 4000000 in
set_option maxRecDepth 100000 in
theorem lc_23 {p : Program} {e : Env} {s : State} {m : MethodId} {below : List Frame} {meth : Method} {c : Code} (l : Launch) (hl0 : l.stackTraces = false) {b : Nat} {xs : Nat → Int32} (C0 : lw_At p s m meth c b 6 xs) {A : Nat → Prop} (hA : ∀ q, s.heap.size ≤ q → A q) (hA2 : ∀ q, A q → s.heap.size ≤ q) {D : va_G} {tE : Nat} {h0 a1 a2 a3 a4 a5 h6 s0 s1 s2 s3 : Nat} {t1 t2 t3 t4 t5 : ClassId} {m0 m1 m2 m3 m4 m5 m6 : Nat} {tc : ClassId} {o oD : Nat} {tj td : ClassId} {H : Heap} {locs : List Loc} {ls : Array Slot} (hK : va_K D vwCl (tLw t1 t2 t3 t4 t5 tc tj td) s) (hG : gP tE A s) (hP : va_P D vwCl (wLw tE h0 a1 a2 a3 a4 a5 h6 s0 s1 s2 s3 m0 m1 m2 m3 m4 m5 m6 o oD t1 t2 t3 t4 t5 tc tj td) H) (hD : va_D A (wLw tE h0 a1 a2 a3 a4 a5 h6 s0 s1 s2 s3 m0 m1 m2 m3 m4 m5 m6 o oD t1 t2 t3 t4 t5 tc tj td)) (hS : va_S A s.heap H locs) (hl : lv_has ls 9 [(5, .int 0), (4, .ref oD), (3, .ref o), (2, .ref m0), (1, .ref h0), (0, .ref b)]) : W p l e room_1 s m #[Value.ref b] below meth c H locs 25 221 (lw_Z below #[Value.ref b] s) (F0 m 1775 ls []) := by
  obtain ⟨hx, hb, hr, hml, hown0, hts, hX, hbl, hlocks, hgv⟩ := id C0
  have hta : ∀ w ∈ WA, w.before #[Value.ref b] s = true := fun w h => hts w (WA_in w h)
  have hown : s.vm.findClass "FoundrymarkLaw" = some m.cls := hown0
  have hbA : ¬ A b := fun h => absurd (hA2 b h) (Nat.not_le.mpr hbl)
  refine lv_aload_n hx hb dL_law_1775 rfl (lv_at hl 4 rfl) ?_
  refine lv_aload_n hx hb dL_law_1776 rfl (lv_at hl 5 rfl) ?_
  refine lv_iload hx hb dL_law_1777 (lv_at hl 0 rfl) ?_
  refine lv_iconst (v := 1) hx hb dL_law_1779 (by decide) ?_
  refine lv_iadd hx hb dL_law_1780 ?_
  refine lv_topi (fun x1 ex1 => ?_)
  obtain rfl : x1 = 1 := ex1.trans (by decide)
  refine va_sld hx hb hX hbl hbA hS (i := 1) (by unfold vp_in; decide) dL_law_1781 ?_
  refine W.eq (g2 := F0 m 1782 ls [.int (xs 1), .ref h0]) rfl ?_
  refine lv_aload_n hx hb dL_law_1782 rfl (lv_at hl 2 rfl) ?_
  have hPc := hP.sub (ws' := (wX h0 a1 a2 a3 a4 a5 h6 s0 s1 s2 s3 t1 t2 t3 t4 t5)) [0, 1, 2, 3, 4, 5, 6, 7, 8, 9, 10] rfl
  have hKc := hK.sub (tys' := (tX t1 t2 t3 t4 t5)) [0, 1, 2, 3, 4] rfl
  have hDc := hD.sub (ws' := (wX h0 a1 a2 a3 a4 a5 h6 s0 s1 s2 s3 t1 t2 t3 t4 t5)) [0, 1, 2, 3, 4, 5, 6, 7, 8, 9, 10] (by decide) rfl
  have hFc := va_free (wc := (wX h0 a1 a2 a3 a4 a5 h6 s0 s1 s2 s3 t1 t2 t3 t4 t5)) hD hS hA [0, 1, 2, 3, 4, 5, 6, 7, 8, 9, 10] rfl
  refine gJ_i (isC := [0, 1, 2, 3, 4, 5, 6, 7, 8, 9, 10]) (isR := [11, 12, 13, 14, 15, 16, 17, 18]) (wr := [(m0, .inr (20, [.int 0, .ref m1, .ref m2, .ref m3, .ref m4, .int 0, .ref m5, .ref m6, .int 0])), (m1, .inr (4, [.int 0, .ref tE, .int 0])), (m2, .inr (4, [.int 0, .ref tE, .int 0])), (m3, .inr (4, [.int 0, .ref tE, .int 0])), (m4, .inr (4, [.int 0, .ref tE, .int 0])), (m5, .inl (tc, 4, .inl (upd (upd (upd (upd (fun _ => 0) 0 110) 1 110) 2 110) 3 110))), (o, .inl (tj, 1, .inr (.inl (fun _ => 0)))), (oD, .inl (td, 1, .inr (.inr (.inr (.inl (fun _ => 0))))))]) (vx_runSW (As := [.ref h0, .int (xs 1), .ref o]) (rest := []) ⟨hx, hb, hml, hown, hta⟩ (c_L_lotOf l hl0 ) (vx_cwSW 3 hta (gWSW mw581 mw582 mw416 mw580) rfl rfl rfl (by decide +kernel) ⟨Nat.le_of_ble_eq_true rfl, Nat.le_of_ble_eq_true rfl⟩) ⟨gS_blind, fun U hU hW => ⟨rfl, by rw [hU], by rw [hU]; exact hPc, va_K.moved hW.alike hKc, hDc.weaken (fun _ _ _ _ => trivial), hG.call hS hU hW hFc⟩⟩ rfl rfl hl.1 rfl (lv_room (Nat.le_of_ble_eq_true rfl)) dL_law_1783 ⟨Nat.le_of_ble_eq_true rfl, Nat.le_of_ble_eq_true rfl⟩) hP hD hS hK hFc rfl rfl (by decide) (by decide) (fun r2 u3 H locs h4 hP hD hS hK => ?_)
  obtain rfl : r2 = 1 := h4
  have hK : va_K D vwCl (tLw t1 t2 t3 t4 t5 tc tj td) s := hK
  have hP : va_P D vwCl [(m0, .inr (20, [.int 0, .ref m1, .ref m2, .ref m3, .ref m4, .int 0, .ref m5, .ref m6, .int 0])), (m1, .inr (4, [.int 0, .ref tE, .int 0])), (m2, .inr (4, [.int 0, .ref tE, .int 0])), (m3, .inr (4, [.int 0, .ref tE, .int 0])), (m4, .inr (4, [.int 0, .ref tE, .int 0])), (m5, .inl (tc, 4, .inl (upd (upd (upd (upd (fun _ => 0) 0 110) 1 110) 2 110) 3 110))), (o, .inl (tj, 1, .inr (.inl (fun _ => 0)))), (oD, .inl (td, 1, .inr (.inr (.inr (.inl (fun _ => 0))))))] H := hP
  have hD : va_D A [(m0, .inr (20, [.int 0, .ref m1, .ref m2, .ref m3, .ref m4, .int 0, .ref m5, .ref m6, .int 0])), (m1, .inr (4, [.int 0, .ref tE, .int 0])), (m2, .inr (4, [.int 0, .ref tE, .int 0])), (m3, .inr (4, [.int 0, .ref tE, .int 0])), (m4, .inr (4, [.int 0, .ref tE, .int 0])), (m5, .inl (tc, 4, .inl (upd (upd (upd (upd (fun _ => 0) 0 110) 1 110) 2 110) 3 110))), (o, .inl (tj, 1, .inr (.inl (fun _ => 0)))), (oD, .inl (td, 1, .inr (.inr (.inr (.inl (fun _ => 0))))))] := hD
  refine lv_istore (lv' := [(6, .int 1), (5, .int 0), (4, .ref oD), (3, .ref o), (2, .ref m0), (1, .ref h0), (0, .ref b)]) hx hb dL_law_1786 hl (by decide) rfl (fun ls hl => ?_)
  refine lv_aload_n hx hb dL_law_1788 rfl (lv_at hl 4 rfl) ?_
  refine lv_aload_n hx hb dL_law_1789 rfl (lv_at hl 6 rfl) ?_
  refine lv_iload hx hb dL_law_1790 (lv_at hl 1 rfl) ?_
  refine lv_iconst (v := 1) hx hb dL_law_1792 (by decide) ?_
  refine lv_iadd hx hb dL_law_1793 ?_
  refine lv_topi (fun x5 ex5 => ?_)
  obtain rfl : x5 = 1 := ex5.trans (by decide)
  refine va_sld hx hb hX hbl hbA hS (i := 1) (by unfold vp_in; decide) dL_law_1794 ?_
  refine W.eq (g2 := F0 m 1795 ls [.int (xs 1), .ref m0]) rfl ?_
  have hPc := hP.sub (ws' := (wM tE m0 m1 m2 m3 m4 m5 m6 tc 0 0)) [0, 1, 2, 3, 4, 5] rfl
  have hKc := hK.sub (tys' := [(tc, .char)]) [5] rfl
  have hDc := hD.sub (ws' := (wM tE m0 m1 m2 m3 m4 m5 m6 tc 0 0)) [0, 1, 2, 3, 4, 5] (by decide) rfl
  have hFc := va_free (wc := (wM tE m0 m1 m2 m3 m4 m5 m6 tc 0 0)) hD hS hA [0, 1, 2, 3, 4, 5] rfl
  refine gJ_i (isC := [0, 1, 2, 3, 4, 5]) (isR := [6, 7]) (wr := [(o, .inl (tj, 1, .inr (.inl (fun _ => 0)))), (oD, .inl (td, 1, .inr (.inr (.inr (.inl (fun _ => 0))))))]) (va_runV (As := [.int (xs 1)]) (rest := []) ⟨hx, hb, hml, hown, hta⟩ (c_X15_lotOf l ) (cwV 1 hta (gWV mw584 mw585 mw586 mw176 mw583) rfl rfl rfl (by decide +kernel) ⟨Nat.le_of_ble_eq_true rfl, Nat.le_of_ble_eq_true rfl⟩) ⟨gS_blind, va_recv hKc hPc (ci := 20) (q0 := 0) rfl rfl, fun U hU hW => ⟨rfl, by rw [hU], by rw [hU]; exact hPc, va_K.moved hW.alike hKc, hDc.weaken (fun _ _ _ _ => trivial), hG.call hS hU hW hFc⟩⟩ rfl rfl hl.1 rfl (lv_room (Nat.le_of_ble_eq_true rfl)) dL_law_1795 ⟨Nat.le_of_ble_eq_true rfl, Nat.le_of_ble_eq_true rfl⟩) hP hD hS hK hFc rfl rfl (by decide) (by decide) (fun r6 u7 H locs h8 hP hD hS hK => ?_)
  obtain rfl : r6 = 0 := h8
  have hK : va_K D vwCl (tLw t1 t2 t3 t4 t5 tc tj td) s := hK
  have hP : va_P D vwCl [(o, .inl (tj, 1, .inr (.inl (fun _ => 0)))), (oD, .inl (td, 1, .inr (.inr (.inr (.inl (fun _ => 0)))))), (m0, .inr (20, [.int 1, .ref m1, .ref m2, .ref m3, .ref m4, .int 0, .ref m5, .ref m6, .int 0])), (m1, .inr (4, [.int 0, .ref tE, .int 0])), (m2, .inr (4, [.int 0, .ref tE, .int 0])), (m3, .inr (4, [.int 0, .ref tE, .int 0])), (m4, .inr (4, [.int 0, .ref tE, .int 0])), (m5, .inl (tc, 4, .inl (upd (upd (upd (upd (fun _ => 0) 0 110) 1 110) 2 110) 3 110)))] H := hP
  have hD : va_D A [(o, .inl (tj, 1, .inr (.inl (fun _ => 0)))), (oD, .inl (td, 1, .inr (.inr (.inr (.inl (fun _ => 0)))))), (m0, .inr (20, [.int 1, .ref m1, .ref m2, .ref m3, .ref m4, .int 0, .ref m5, .ref m6, .int 0])), (m1, .inr (4, [.int 0, .ref tE, .int 0])), (m2, .inr (4, [.int 0, .ref tE, .int 0])), (m3, .inr (4, [.int 0, .ref tE, .int 0])), (m4, .inr (4, [.int 0, .ref tE, .int 0])), (m5, .inl (tc, 4, .inl (upd (upd (upd (upd (fun _ => 0) 0 110) 1 110) 2 110) 3 110)))] := hD
  refine lv_istore (lv' := [(7, .int 0), (6, .int 1), (5, .int 0), (4, .ref oD), (3, .ref o), (2, .ref m0), (1, .ref h0), (0, .ref b)]) hx hb dL_law_1798 hl (by decide) rfl (fun ls hl => ?_)
  refine lv_aload_n hx hb dL_law_1800 rfl (lv_at hl 5 rfl) ?_
  have hPc := hP.sub (ws' := [(m0, .inr (20, [.int 1, .ref m1, .ref m2, .ref m3, .ref m4, .int 0, .ref m5, .ref m6, .int 0]))]) [2] rfl
  have hKc := hK.sub (tys' := []) [] rfl
  refine vp_callSi (W.runV (As := []) (rest := []) ⟨hx, hb, hml, hown, hta⟩ (c_X15_thrown l ) (cwV 0 hta (gWV mw422 mw423 mw424 mw176 mw421) rfl rfl rfl (by decide +kernel) ⟨Nat.le_of_ble_eq_true rfl, Nat.le_of_ble_eq_true rfl⟩) ⟨gR_blind, va_recv hKc hPc (ci := 20) (q0 := 0) rfl rfl, fun U hU hW => ⟨rfl, by rw [hU]; exact hPc, va_K.moved hW.alike hKc⟩⟩ rfl rfl hl.1 rfl (lv_room (Nat.le_of_ble_eq_true rfl)) dL_law_1801 ⟨Nat.le_of_ble_eq_true rfl, Nat.le_of_ble_eq_true rfl⟩) (fun r9 h10 => ?_)
  obtain rfl : r9 = 1 := h10
  refine lv_iload hx hb dL_law_1804 (lv_at hl 1 rfl) ?_
  refine lv_icmp_eq (tgt := 1811) hx hb dL_law_1806 (by decide) (fun c11 => ?_) (fun c11 => ?_)
  · skip
    refine lv_iload hx hb dL_law_1811 (lv_at hl 1 rfl) ?_
    refine lv_if_ne (tgt := 1828) hx hb dL_law_1813 (by decide) (fun c12 => ?_) (fun c12 => ?_)
    · skip
      refine lv_goto (tgt := 2441) hx hb dL_law_1828 (by decide) ?_
      exact law_tail l C0 hA2 hS (lv_sub hl [7, 2] rfl) (Nat.le_of_ble_eq_true rfl) (Nat.le_of_ble_eq_true rfl)
    · exact absurd c12 (by decide)
  · exact absurd (by decide) c11

set_option maxHeartbeats 4000000 in
set_option maxRecDepth 100000 in
theorem lc_24 {p : Program} {e : Env} {s : State} {m : MethodId} {below : List Frame} {meth : Method} {c : Code} (l : Launch) (hl0 : l.stackTraces = false) {b : Nat} {xs : Nat → Int32} (C0 : lw_At p s m meth c b 6 xs) {A : Nat → Prop} (hA : ∀ q, s.heap.size ≤ q → A q) (hA2 : ∀ q, A q → s.heap.size ≤ q) {D : va_G} {tE : Nat} {h0 a1 a2 a3 a4 a5 h6 s0 s1 s2 s3 : Nat} {t1 t2 t3 t4 t5 : ClassId} {m0 m1 m2 m3 m4 m5 m6 : Nat} {tc : ClassId} {o oD : Nat} {tj td : ClassId} {H : Heap} {locs : List Loc} {ls : Array Slot} (hK : va_K D vwCl (tLw t1 t2 t3 t4 t5 tc tj td) s) (hG : gP tE A s) (hP : va_P D vwCl (wLw tE h0 a1 a2 a3 a4 a5 h6 s0 s1 s2 s3 m0 m1 m2 m3 m4 m5 m6 o oD t1 t2 t3 t4 t5 tc tj td) H) (hD : va_D A (wLw tE h0 a1 a2 a3 a4 a5 h6 s0 s1 s2 s3 m0 m1 m2 m3 m4 m5 m6 o oD t1 t2 t3 t4 t5 tc tj td)) (hS : va_S A s.heap H locs) (hl : lv_has ls 9 [(5, .int 0), (4, .ref oD), (3, .ref o), (2, .ref m0), (1, .ref h0), (0, .ref b)]) : W p l e room_1 s m #[Value.ref b] below meth c H locs 25 221 (lw_Z below #[Value.ref b] s) (F0 m 1831 ls []) := by
  obtain ⟨hx, hb, hr, hml, hown0, hts, hX, hbl, hlocks, hgv⟩ := id C0
  have hta : ∀ w ∈ WA, w.before #[Value.ref b] s = true := fun w h => hts w (WA_in w h)
  have hown : s.vm.findClass "FoundrymarkLaw" = some m.cls := hown0
  have hbA : ¬ A b := fun h => absurd (hA2 b h) (Nat.not_le.mpr hbl)
  refine lv_aload_n hx hb dL_law_1831 rfl (lv_at hl 4 rfl) ?_
  refine lv_aload_n hx hb dL_law_1832 rfl (lv_at hl 5 rfl) ?_
  refine lv_iload hx hb dL_law_1833 (lv_at hl 0 rfl) ?_
  refine lv_iconst (v := 1) hx hb dL_law_1835 (by decide) ?_
  refine lv_iadd hx hb dL_law_1836 ?_
  refine lv_topi (fun x1 ex1 => ?_)
  obtain rfl : x1 = 1 := ex1.trans (by decide)
  refine va_sld hx hb hX hbl hbA hS (i := 1) (by unfold vp_in; decide) dL_law_1837 ?_
  refine W.eq (g2 := F0 m 1838 ls [.int (xs 1), .ref h0]) rfl ?_
  refine lv_aload_n hx hb dL_law_1838 rfl (lv_at hl 2 rfl) ?_
  have hPc := hP.sub (ws' := (wX h0 a1 a2 a3 a4 a5 h6 s0 s1 s2 s3 t1 t2 t3 t4 t5)) [0, 1, 2, 3, 4, 5, 6, 7, 8, 9, 10] rfl
  have hKc := hK.sub (tys' := (tX t1 t2 t3 t4 t5)) [0, 1, 2, 3, 4] rfl
  have hDc := hD.sub (ws' := (wX h0 a1 a2 a3 a4 a5 h6 s0 s1 s2 s3 t1 t2 t3 t4 t5)) [0, 1, 2, 3, 4, 5, 6, 7, 8, 9, 10] (by decide) rfl
  have hFc := va_free (wc := (wX h0 a1 a2 a3 a4 a5 h6 s0 s1 s2 s3 t1 t2 t3 t4 t5)) hD hS hA [0, 1, 2, 3, 4, 5, 6, 7, 8, 9, 10] rfl
  refine gJ_i (isC := [0, 1, 2, 3, 4, 5, 6, 7, 8, 9, 10]) (isR := [11, 12, 13, 14, 15, 16, 17, 18]) (wr := [(m0, .inr (20, [.int 0, .ref m1, .ref m2, .ref m3, .ref m4, .int 0, .ref m5, .ref m6, .int 0])), (m1, .inr (4, [.int 0, .ref tE, .int 0])), (m2, .inr (4, [.int 0, .ref tE, .int 0])), (m3, .inr (4, [.int 0, .ref tE, .int 0])), (m4, .inr (4, [.int 0, .ref tE, .int 0])), (m5, .inl (tc, 4, .inl (upd (upd (upd (upd (fun _ => 0) 0 110) 1 110) 2 110) 3 110))), (o, .inl (tj, 1, .inr (.inl (fun _ => 0)))), (oD, .inl (td, 1, .inr (.inr (.inr (.inl (fun _ => 0))))))]) (vx_runSW (As := [.ref h0, .int (xs 1), .ref o]) (rest := []) ⟨hx, hb, hml, hown, hta⟩ (c_L_finishedAt l hl0 ) (vx_cwSW 3 hta (gWSW mw588 mw589 mw416 mw587) rfl rfl rfl (by decide +kernel) ⟨Nat.le_of_ble_eq_true rfl, Nat.le_of_ble_eq_true rfl⟩) ⟨gS_blind, fun U hU hW => ⟨rfl, by rw [hU], by rw [hU]; exact hPc, va_K.moved hW.alike hKc, hDc.weaken (fun _ _ _ _ => trivial), hG.call hS hU hW hFc⟩⟩ rfl rfl hl.1 rfl (lv_room (Nat.le_of_ble_eq_true rfl)) dL_law_1839 ⟨Nat.le_of_ble_eq_true rfl, Nat.le_of_ble_eq_true rfl⟩) hP hD hS hK hFc rfl rfl (by decide) (by decide) (fun r2 u3 H locs h4 hP hD hS hK => ?_)
  obtain rfl : r2 = 1 := h4
  have hK : va_K D vwCl (tLw t1 t2 t3 t4 t5 tc tj td) s := hK
  have hP : va_P D vwCl [(m0, .inr (20, [.int 0, .ref m1, .ref m2, .ref m3, .ref m4, .int 0, .ref m5, .ref m6, .int 0])), (m1, .inr (4, [.int 0, .ref tE, .int 0])), (m2, .inr (4, [.int 0, .ref tE, .int 0])), (m3, .inr (4, [.int 0, .ref tE, .int 0])), (m4, .inr (4, [.int 0, .ref tE, .int 0])), (m5, .inl (tc, 4, .inl (upd (upd (upd (upd (fun _ => 0) 0 110) 1 110) 2 110) 3 110))), (o, .inl (tj, 1, .inr (.inl (fun _ => 0)))), (oD, .inl (td, 1, .inr (.inr (.inr (.inl (fun _ => 0))))))] H := hP
  have hD : va_D A [(m0, .inr (20, [.int 0, .ref m1, .ref m2, .ref m3, .ref m4, .int 0, .ref m5, .ref m6, .int 0])), (m1, .inr (4, [.int 0, .ref tE, .int 0])), (m2, .inr (4, [.int 0, .ref tE, .int 0])), (m3, .inr (4, [.int 0, .ref tE, .int 0])), (m4, .inr (4, [.int 0, .ref tE, .int 0])), (m5, .inl (tc, 4, .inl (upd (upd (upd (upd (fun _ => 0) 0 110) 1 110) 2 110) 3 110))), (o, .inl (tj, 1, .inr (.inl (fun _ => 0)))), (oD, .inl (td, 1, .inr (.inr (.inr (.inl (fun _ => 0))))))] := hD
  refine lv_istore (lv' := [(6, .int 1), (5, .int 0), (4, .ref oD), (3, .ref o), (2, .ref m0), (1, .ref h0), (0, .ref b)]) hx hb dL_law_1842 hl (by decide) rfl (fun ls hl => ?_)
  refine lv_aload_n hx hb dL_law_1844 rfl (lv_at hl 4 rfl) ?_
  refine lv_aload_n hx hb dL_law_1845 rfl (lv_at hl 6 rfl) ?_
  refine lv_iload hx hb dL_law_1846 (lv_at hl 1 rfl) ?_
  refine lv_iconst (v := 1) hx hb dL_law_1848 (by decide) ?_
  refine lv_iadd hx hb dL_law_1849 ?_
  refine lv_topi (fun x5 ex5 => ?_)
  obtain rfl : x5 = 1 := ex5.trans (by decide)
  refine va_sld hx hb hX hbl hbA hS (i := 1) (by unfold vp_in; decide) dL_law_1850 ?_
  refine W.eq (g2 := F0 m 1851 ls [.int (xs 1), .ref m0]) rfl ?_
  have hPc := hP.sub (ws' := (wM tE m0 m1 m2 m3 m4 m5 m6 tc 0 0)) [0, 1, 2, 3, 4, 5] rfl
  have hKc := hK.sub (tys' := [(tc, .char)]) [5] rfl
  have hDc := hD.sub (ws' := (wM tE m0 m1 m2 m3 m4 m5 m6 tc 0 0)) [0, 1, 2, 3, 4, 5] (by decide) rfl
  have hFc := va_free (wc := (wM tE m0 m1 m2 m3 m4 m5 m6 tc 0 0)) hD hS hA [0, 1, 2, 3, 4, 5] rfl
  refine gJ_i (isC := [0, 1, 2, 3, 4, 5]) (isR := [6, 7]) (wr := [(o, .inl (tj, 1, .inr (.inl (fun _ => 0)))), (oD, .inl (td, 1, .inr (.inr (.inr (.inl (fun _ => 0))))))]) (va_runV (As := [.int (xs 1)]) (rest := []) ⟨hx, hb, hml, hown, hta⟩ (c_X15_finishedAt l ) (cwV 1 hta (gWV mw591 mw592 mw593 mw176 mw590) rfl rfl rfl (by decide +kernel) ⟨Nat.le_of_ble_eq_true rfl, Nat.le_of_ble_eq_true rfl⟩) ⟨gS_blind, va_recv hKc hPc (ci := 20) (q0 := 0) rfl rfl, fun U hU hW => ⟨rfl, by rw [hU], by rw [hU]; exact hPc, va_K.moved hW.alike hKc, hDc.weaken (fun _ _ _ _ => trivial), hG.call hS hU hW hFc⟩⟩ rfl rfl hl.1 rfl (lv_room (Nat.le_of_ble_eq_true rfl)) dL_law_1851 ⟨Nat.le_of_ble_eq_true rfl, Nat.le_of_ble_eq_true rfl⟩) hP hD hS hK hFc rfl rfl (by decide) (by decide) (fun r6 u7 H locs h8 hP hD hS hK => ?_)
  obtain rfl : r6 = 0 := h8
  have hK : va_K D vwCl (tLw t1 t2 t3 t4 t5 tc tj td) s := hK
  have hP : va_P D vwCl [(o, .inl (tj, 1, .inr (.inl (fun _ => 0)))), (oD, .inl (td, 1, .inr (.inr (.inr (.inl (fun _ => 0)))))), (m0, .inr (20, [.int 1, .ref m1, .ref m2, .ref m3, .ref m4, .int 0, .ref m5, .ref m6, .int 0])), (m1, .inr (4, [.int 0, .ref tE, .int 0])), (m2, .inr (4, [.int 0, .ref tE, .int 0])), (m3, .inr (4, [.int 0, .ref tE, .int 0])), (m4, .inr (4, [.int 0, .ref tE, .int 0])), (m5, .inl (tc, 4, .inl (upd (upd (upd (upd (fun _ => 0) 0 110) 1 110) 2 110) 3 110)))] H := hP
  have hD : va_D A [(o, .inl (tj, 1, .inr (.inl (fun _ => 0)))), (oD, .inl (td, 1, .inr (.inr (.inr (.inl (fun _ => 0)))))), (m0, .inr (20, [.int 1, .ref m1, .ref m2, .ref m3, .ref m4, .int 0, .ref m5, .ref m6, .int 0])), (m1, .inr (4, [.int 0, .ref tE, .int 0])), (m2, .inr (4, [.int 0, .ref tE, .int 0])), (m3, .inr (4, [.int 0, .ref tE, .int 0])), (m4, .inr (4, [.int 0, .ref tE, .int 0])), (m5, .inl (tc, 4, .inl (upd (upd (upd (upd (fun _ => 0) 0 110) 1 110) 2 110) 3 110)))] := hD
  refine lv_istore (lv' := [(7, .int 0), (6, .int 1), (5, .int 0), (4, .ref oD), (3, .ref o), (2, .ref m0), (1, .ref h0), (0, .ref b)]) hx hb dL_law_1854 hl (by decide) rfl (fun ls hl => ?_)
  refine lv_aload_n hx hb dL_law_1856 rfl (lv_at hl 5 rfl) ?_
  have hPc := hP.sub (ws' := [(m0, .inr (20, [.int 1, .ref m1, .ref m2, .ref m3, .ref m4, .int 0, .ref m5, .ref m6, .int 0]))]) [2] rfl
  have hKc := hK.sub (tys' := []) [] rfl
  refine vp_callSi (W.runV (As := []) (rest := []) ⟨hx, hb, hml, hown, hta⟩ (c_X15_thrown l ) (cwV 0 hta (gWV mw422 mw423 mw424 mw176 mw421) rfl rfl rfl (by decide +kernel) ⟨Nat.le_of_ble_eq_true rfl, Nat.le_of_ble_eq_true rfl⟩) ⟨gR_blind, va_recv hKc hPc (ci := 20) (q0 := 0) rfl rfl, fun U hU hW => ⟨rfl, by rw [hU]; exact hPc, va_K.moved hW.alike hKc⟩⟩ rfl rfl hl.1 rfl (lv_room (Nat.le_of_ble_eq_true rfl)) dL_law_1857 ⟨Nat.le_of_ble_eq_true rfl, Nat.le_of_ble_eq_true rfl⟩) (fun r9 h10 => ?_)
  obtain rfl : r9 = 1 := h10
  refine lv_iload hx hb dL_law_1860 (lv_at hl 1 rfl) ?_
  refine lv_icmp_eq (tgt := 1867) hx hb dL_law_1862 (by decide) (fun c11 => ?_) (fun c11 => ?_)
  · skip
    refine lv_iload hx hb dL_law_1867 (lv_at hl 1 rfl) ?_
    refine lv_if_ne (tgt := 1884) hx hb dL_law_1869 (by decide) (fun c12 => ?_) (fun c12 => ?_)
    · skip
      refine lv_goto (tgt := 2441) hx hb dL_law_1884 (by decide) ?_
      exact law_tail l C0 hA2 hS (lv_sub hl [7, 2] rfl) (Nat.le_of_ble_eq_true rfl) (Nat.le_of_ble_eq_true rfl)
    · exact absurd c12 (by decide)
  · exact absurd (by decide) c11

set_option maxHeartbeats 4000000 in
set_option maxRecDepth 100000 in
theorem lc_25 {p : Program} {e : Env} {s : State} {m : MethodId} {below : List Frame} {meth : Method} {c : Code} (l : Launch) (hl0 : l.stackTraces = false) {b : Nat} {xs : Nat → Int32} (C0 : lw_At p s m meth c b 6 xs) {A : Nat → Prop} (hA : ∀ q, s.heap.size ≤ q → A q) (hA2 : ∀ q, A q → s.heap.size ≤ q) {D : va_G} {tE : Nat} {h0 a1 a2 a3 a4 a5 h6 s0 s1 s2 s3 : Nat} {t1 t2 t3 t4 t5 : ClassId} {m0 m1 m2 m3 m4 m5 m6 : Nat} {tc : ClassId} {o oD : Nat} {tj td : ClassId} {H : Heap} {locs : List Loc} {ls : Array Slot} (hK : va_K D vwCl (tLw t1 t2 t3 t4 t5 tc tj td) s) (hG : gP tE A s) (hP : va_P D vwCl (wLw tE h0 a1 a2 a3 a4 a5 h6 s0 s1 s2 s3 m0 m1 m2 m3 m4 m5 m6 o oD t1 t2 t3 t4 t5 tc tj td) H) (hD : va_D A (wLw tE h0 a1 a2 a3 a4 a5 h6 s0 s1 s2 s3 m0 m1 m2 m3 m4 m5 m6 o oD t1 t2 t3 t4 t5 tc tj td)) (hS : va_S A s.heap H locs) (hl : lv_has ls 9 [(5, .int 0), (4, .ref oD), (3, .ref o), (2, .ref m0), (1, .ref h0), (0, .ref b)]) : W p l e room_1 s m #[Value.ref b] below meth c H locs 25 221 (lw_Z below #[Value.ref b] s) (F0 m 1887 ls []) := by
  obtain ⟨hx, hb, hr, hml, hown0, hts, hX, hbl, hlocks, hgv⟩ := id C0
  have hta : ∀ w ∈ WA, w.before #[Value.ref b] s = true := fun w h => hts w (WA_in w h)
  have hown : s.vm.findClass "FoundrymarkLaw" = some m.cls := hown0
  have hbA : ¬ A b := fun h => absurd (hA2 b h) (Nat.not_le.mpr hbl)
  refine lv_aload_n hx hb dL_law_1887 rfl (lv_at hl 4 rfl) ?_
  refine lv_aload_n hx hb dL_law_1888 rfl (lv_at hl 5 rfl) ?_
  refine lv_iload hx hb dL_law_1889 (lv_at hl 0 rfl) ?_
  refine lv_iconst (v := 1) hx hb dL_law_1891 (by decide) ?_
  refine lv_iadd hx hb dL_law_1892 ?_
  refine lv_topi (fun x1 ex1 => ?_)
  obtain rfl : x1 = 1 := ex1.trans (by decide)
  refine va_sld hx hb hX hbl hbA hS (i := 1) (by unfold vp_in; decide) dL_law_1893 ?_
  refine W.eq (g2 := F0 m 1894 ls [.int (xs 1), .ref h0]) rfl ?_
  refine lv_aload_n hx hb dL_law_1894 rfl (lv_at hl 2 rfl) ?_
  have hPc := hP.sub (ws' := (wX h0 a1 a2 a3 a4 a5 h6 s0 s1 s2 s3 t1 t2 t3 t4 t5)) [0, 1, 2, 3, 4, 5, 6, 7, 8, 9, 10] rfl
  have hKc := hK.sub (tys' := (tX t1 t2 t3 t4 t5)) [0, 1, 2, 3, 4] rfl
  have hDc := hD.sub (ws' := (wX h0 a1 a2 a3 a4 a5 h6 s0 s1 s2 s3 t1 t2 t3 t4 t5)) [0, 1, 2, 3, 4, 5, 6, 7, 8, 9, 10] (by decide) rfl
  have hFc := va_free (wc := (wX h0 a1 a2 a3 a4 a5 h6 s0 s1 s2 s3 t1 t2 t3 t4 t5)) hD hS hA [0, 1, 2, 3, 4, 5, 6, 7, 8, 9, 10] rfl
  refine gJ_i (isC := [0, 1, 2, 3, 4, 5, 6, 7, 8, 9, 10]) (isR := [11, 12, 13, 14, 15, 16, 17, 18]) (wr := [(m0, .inr (20, [.int 0, .ref m1, .ref m2, .ref m3, .ref m4, .int 0, .ref m5, .ref m6, .int 0])), (m1, .inr (4, [.int 0, .ref tE, .int 0])), (m2, .inr (4, [.int 0, .ref tE, .int 0])), (m3, .inr (4, [.int 0, .ref tE, .int 0])), (m4, .inr (4, [.int 0, .ref tE, .int 0])), (m5, .inl (tc, 4, .inl (upd (upd (upd (upd (fun _ => 0) 0 110) 1 110) 2 110) 3 110))), (o, .inl (tj, 1, .inr (.inl (fun _ => 0)))), (oD, .inl (td, 1, .inr (.inr (.inr (.inl (fun _ => 0))))))]) (vx_runSW (As := [.ref h0, .int (xs 1), .ref o]) (rest := []) ⟨hx, hb, hml, hown, hta⟩ (c_L_machineIs l hl0 ) (vx_cwSW 3 hta (gWSW mw595 mw596 mw416 mw594) rfl rfl rfl (by decide +kernel) ⟨Nat.le_of_ble_eq_true rfl, Nat.le_of_ble_eq_true rfl⟩) ⟨gS_blind, fun U hU hW => ⟨rfl, by rw [hU], by rw [hU]; exact hPc, va_K.moved hW.alike hKc, hDc.weaken (fun _ _ _ _ => trivial), hG.call hS hU hW hFc⟩⟩ rfl rfl hl.1 rfl (lv_room (Nat.le_of_ble_eq_true rfl)) dL_law_1895 ⟨Nat.le_of_ble_eq_true rfl, Nat.le_of_ble_eq_true rfl⟩) hP hD hS hK hFc rfl rfl (by decide) (by decide) (fun r2 u3 H locs h4 hP hD hS hK => ?_)
  obtain rfl : r2 = 1 := h4
  have hK : va_K D vwCl (tLw t1 t2 t3 t4 t5 tc tj td) s := hK
  have hP : va_P D vwCl [(m0, .inr (20, [.int 0, .ref m1, .ref m2, .ref m3, .ref m4, .int 0, .ref m5, .ref m6, .int 0])), (m1, .inr (4, [.int 0, .ref tE, .int 0])), (m2, .inr (4, [.int 0, .ref tE, .int 0])), (m3, .inr (4, [.int 0, .ref tE, .int 0])), (m4, .inr (4, [.int 0, .ref tE, .int 0])), (m5, .inl (tc, 4, .inl (upd (upd (upd (upd (fun _ => 0) 0 110) 1 110) 2 110) 3 110))), (o, .inl (tj, 1, .inr (.inl (fun _ => 0)))), (oD, .inl (td, 1, .inr (.inr (.inr (.inl (fun _ => 0))))))] H := hP
  have hD : va_D A [(m0, .inr (20, [.int 0, .ref m1, .ref m2, .ref m3, .ref m4, .int 0, .ref m5, .ref m6, .int 0])), (m1, .inr (4, [.int 0, .ref tE, .int 0])), (m2, .inr (4, [.int 0, .ref tE, .int 0])), (m3, .inr (4, [.int 0, .ref tE, .int 0])), (m4, .inr (4, [.int 0, .ref tE, .int 0])), (m5, .inl (tc, 4, .inl (upd (upd (upd (upd (fun _ => 0) 0 110) 1 110) 2 110) 3 110))), (o, .inl (tj, 1, .inr (.inl (fun _ => 0)))), (oD, .inl (td, 1, .inr (.inr (.inr (.inl (fun _ => 0))))))] := hD
  refine lv_istore (lv' := [(6, .int 1), (5, .int 0), (4, .ref oD), (3, .ref o), (2, .ref m0), (1, .ref h0), (0, .ref b)]) hx hb dL_law_1898 hl (by decide) rfl (fun ls hl => ?_)
  refine lv_aload_n hx hb dL_law_1900 rfl (lv_at hl 4 rfl) ?_
  refine lv_aload_n hx hb dL_law_1901 rfl (lv_at hl 6 rfl) ?_
  refine lv_iload hx hb dL_law_1902 (lv_at hl 1 rfl) ?_
  refine lv_iconst (v := 1) hx hb dL_law_1904 (by decide) ?_
  refine lv_iadd hx hb dL_law_1905 ?_
  refine lv_topi (fun x5 ex5 => ?_)
  obtain rfl : x5 = 1 := ex5.trans (by decide)
  refine va_sld hx hb hX hbl hbA hS (i := 1) (by unfold vp_in; decide) dL_law_1906 ?_
  refine W.eq (g2 := F0 m 1907 ls [.int (xs 1), .ref m0]) rfl ?_
  have hPc := hP.sub (ws' := (wM tE m0 m1 m2 m3 m4 m5 m6 tc 0 0)) [0, 1, 2, 3, 4, 5] rfl
  have hKc := hK.sub (tys' := [(tc, .char)]) [5] rfl
  have hDc := hD.sub (ws' := (wM tE m0 m1 m2 m3 m4 m5 m6 tc 0 0)) [0, 1, 2, 3, 4, 5] (by decide) rfl
  have hFc := va_free (wc := (wM tE m0 m1 m2 m3 m4 m5 m6 tc 0 0)) hD hS hA [0, 1, 2, 3, 4, 5] rfl
  refine gJ_i (isC := [0, 1, 2, 3, 4, 5]) (isR := [6, 7]) (wr := [(o, .inl (tj, 1, .inr (.inl (fun _ => 0)))), (oD, .inl (td, 1, .inr (.inr (.inr (.inl (fun _ => 0))))))]) (va_runV (As := [.int (xs 1)]) (rest := []) ⟨hx, hb, hml, hown, hta⟩ (c_X15_machineIs l ) (cwV 1 hta (gWV mw598 mw599 mw600 mw176 mw597) rfl rfl rfl (by decide +kernel) ⟨Nat.le_of_ble_eq_true rfl, Nat.le_of_ble_eq_true rfl⟩) ⟨gS_blind, va_recv hKc hPc (ci := 20) (q0 := 0) rfl rfl, fun U hU hW => ⟨rfl, by rw [hU], by rw [hU]; exact hPc, va_K.moved hW.alike hKc, hDc.weaken (fun _ _ _ _ => trivial), hG.call hS hU hW hFc⟩⟩ rfl rfl hl.1 rfl (lv_room (Nat.le_of_ble_eq_true rfl)) dL_law_1907 ⟨Nat.le_of_ble_eq_true rfl, Nat.le_of_ble_eq_true rfl⟩) hP hD hS hK hFc rfl rfl (by decide) (by decide) (fun r6 u7 H locs h8 hP hD hS hK => ?_)
  obtain rfl : r6 = 0 := h8
  have hK : va_K D vwCl (tLw t1 t2 t3 t4 t5 tc tj td) s := hK
  have hP : va_P D vwCl [(o, .inl (tj, 1, .inr (.inl (fun _ => 0)))), (oD, .inl (td, 1, .inr (.inr (.inr (.inl (fun _ => 0)))))), (m0, .inr (20, [.int 1, .ref m1, .ref m2, .ref m3, .ref m4, .int 0, .ref m5, .ref m6, .int 0])), (m1, .inr (4, [.int 0, .ref tE, .int 0])), (m2, .inr (4, [.int 0, .ref tE, .int 0])), (m3, .inr (4, [.int 0, .ref tE, .int 0])), (m4, .inr (4, [.int 0, .ref tE, .int 0])), (m5, .inl (tc, 4, .inl (upd (upd (upd (upd (fun _ => 0) 0 110) 1 110) 2 110) 3 110)))] H := hP
  have hD : va_D A [(o, .inl (tj, 1, .inr (.inl (fun _ => 0)))), (oD, .inl (td, 1, .inr (.inr (.inr (.inl (fun _ => 0)))))), (m0, .inr (20, [.int 1, .ref m1, .ref m2, .ref m3, .ref m4, .int 0, .ref m5, .ref m6, .int 0])), (m1, .inr (4, [.int 0, .ref tE, .int 0])), (m2, .inr (4, [.int 0, .ref tE, .int 0])), (m3, .inr (4, [.int 0, .ref tE, .int 0])), (m4, .inr (4, [.int 0, .ref tE, .int 0])), (m5, .inl (tc, 4, .inl (upd (upd (upd (upd (fun _ => 0) 0 110) 1 110) 2 110) 3 110)))] := hD
  refine lv_istore (lv' := [(7, .int 0), (6, .int 1), (5, .int 0), (4, .ref oD), (3, .ref o), (2, .ref m0), (1, .ref h0), (0, .ref b)]) hx hb dL_law_1910 hl (by decide) rfl (fun ls hl => ?_)
  refine lv_aload_n hx hb dL_law_1912 rfl (lv_at hl 5 rfl) ?_
  have hPc := hP.sub (ws' := [(m0, .inr (20, [.int 1, .ref m1, .ref m2, .ref m3, .ref m4, .int 0, .ref m5, .ref m6, .int 0]))]) [2] rfl
  have hKc := hK.sub (tys' := []) [] rfl
  refine vp_callSi (W.runV (As := []) (rest := []) ⟨hx, hb, hml, hown, hta⟩ (c_X15_thrown l ) (cwV 0 hta (gWV mw422 mw423 mw424 mw176 mw421) rfl rfl rfl (by decide +kernel) ⟨Nat.le_of_ble_eq_true rfl, Nat.le_of_ble_eq_true rfl⟩) ⟨gR_blind, va_recv hKc hPc (ci := 20) (q0 := 0) rfl rfl, fun U hU hW => ⟨rfl, by rw [hU]; exact hPc, va_K.moved hW.alike hKc⟩⟩ rfl rfl hl.1 rfl (lv_room (Nat.le_of_ble_eq_true rfl)) dL_law_1913 ⟨Nat.le_of_ble_eq_true rfl, Nat.le_of_ble_eq_true rfl⟩) (fun r9 h10 => ?_)
  obtain rfl : r9 = 1 := h10
  refine lv_iload hx hb dL_law_1916 (lv_at hl 1 rfl) ?_
  refine lv_icmp_eq (tgt := 1923) hx hb dL_law_1918 (by decide) (fun c11 => ?_) (fun c11 => ?_)
  · skip
    refine lv_iload hx hb dL_law_1923 (lv_at hl 1 rfl) ?_
    refine lv_if_ne (tgt := 1940) hx hb dL_law_1925 (by decide) (fun c12 => ?_) (fun c12 => ?_)
    · skip
      refine lv_goto (tgt := 2441) hx hb dL_law_1940 (by decide) ?_
      exact law_tail l C0 hA2 hS (lv_sub hl [7, 2] rfl) (Nat.le_of_ble_eq_true rfl) (Nat.le_of_ble_eq_true rfl)
    · exact absurd c12 (by decide)
  · exact absurd (by decide) c11

set_option maxHeartbeats 4000000 in
set_option maxRecDepth 100000 in
theorem lc_26 {p : Program} {e : Env} {s : State} {m : MethodId} {below : List Frame} {meth : Method} {c : Code} (l : Launch) (hl0 : l.stackTraces = false) {b : Nat} {xs : Nat → Int32} (C0 : lw_At p s m meth c b 6 xs) {A : Nat → Prop} (hA : ∀ q, s.heap.size ≤ q → A q) (hA2 : ∀ q, A q → s.heap.size ≤ q) {D : va_G} {tE : Nat} {h0 a1 a2 a3 a4 a5 h6 s0 s1 s2 s3 : Nat} {t1 t2 t3 t4 t5 : ClassId} {m0 m1 m2 m3 m4 m5 m6 : Nat} {tc : ClassId} {o oD : Nat} {tj td : ClassId} {H : Heap} {locs : List Loc} {ls : Array Slot} (hK : va_K D vwCl (tLw t1 t2 t3 t4 t5 tc tj td) s) (hG : gP tE A s) (hP : va_P D vwCl (wLw tE h0 a1 a2 a3 a4 a5 h6 s0 s1 s2 s3 m0 m1 m2 m3 m4 m5 m6 o oD t1 t2 t3 t4 t5 tc tj td) H) (hD : va_D A (wLw tE h0 a1 a2 a3 a4 a5 h6 s0 s1 s2 s3 m0 m1 m2 m3 m4 m5 m6 o oD t1 t2 t3 t4 t5 tc tj td)) (hS : va_S A s.heap H locs) (hl : lv_has ls 9 [(5, .int 0), (4, .ref oD), (3, .ref o), (2, .ref m0), (1, .ref h0), (0, .ref b)]) : W p l e room_1 s m #[Value.ref b] below meth c H locs 25 221 (lw_Z below #[Value.ref b] s) (F0 m 1943 ls []) := by
  obtain ⟨hx, hb, hr, hml, hown0, hts, hX, hbl, hlocks, hgv⟩ := id C0
  have hta : ∀ w ∈ WA, w.before #[Value.ref b] s = true := fun w h => hts w (WA_in w h)
  have hown : s.vm.findClass "FoundrymarkLaw" = some m.cls := hown0
  have hbA : ¬ A b := fun h => absurd (hA2 b h) (Nat.not_le.mpr hbl)
  refine lv_aload_n hx hb dL_law_1943 rfl (lv_at hl 4 rfl) ?_
  refine lv_aload_n hx hb dL_law_1944 rfl (lv_at hl 5 rfl) ?_
  refine lv_iload hx hb dL_law_1945 (lv_at hl 0 rfl) ?_
  refine lv_iconst (v := 1) hx hb dL_law_1947 (by decide) ?_
  refine lv_iadd hx hb dL_law_1948 ?_
  refine lv_topi (fun x1 ex1 => ?_)
  obtain rfl : x1 = 1 := ex1.trans (by decide)
  refine va_sld hx hb hX hbl hbA hS (i := 1) (by unfold vp_in; decide) dL_law_1949 ?_
  refine W.eq (g2 := F0 m 1950 ls [.int (xs 1), .ref h0]) rfl ?_
  refine lv_aload_n hx hb dL_law_1950 rfl (lv_at hl 2 rfl) ?_
  have hPc := hP.sub (ws' := (wX h0 a1 a2 a3 a4 a5 h6 s0 s1 s2 s3 t1 t2 t3 t4 t5)) [0, 1, 2, 3, 4, 5, 6, 7, 8, 9, 10] rfl
  have hKc := hK.sub (tys' := (tX t1 t2 t3 t4 t5)) [0, 1, 2, 3, 4] rfl
  have hDc := hD.sub (ws' := (wX h0 a1 a2 a3 a4 a5 h6 s0 s1 s2 s3 t1 t2 t3 t4 t5)) [0, 1, 2, 3, 4, 5, 6, 7, 8, 9, 10] (by decide) rfl
  have hFc := va_free (wc := (wX h0 a1 a2 a3 a4 a5 h6 s0 s1 s2 s3 t1 t2 t3 t4 t5)) hD hS hA [0, 1, 2, 3, 4, 5, 6, 7, 8, 9, 10] rfl
  refine gJ_i (isC := [0, 1, 2, 3, 4, 5, 6, 7, 8, 9, 10]) (isR := [11, 12, 13, 14, 15, 16, 17, 18]) (wr := [(m0, .inr (20, [.int 0, .ref m1, .ref m2, .ref m3, .ref m4, .int 0, .ref m5, .ref m6, .int 0])), (m1, .inr (4, [.int 0, .ref tE, .int 0])), (m2, .inr (4, [.int 0, .ref tE, .int 0])), (m3, .inr (4, [.int 0, .ref tE, .int 0])), (m4, .inr (4, [.int 0, .ref tE, .int 0])), (m5, .inl (tc, 4, .inl (upd (upd (upd (upd (fun _ => 0) 0 110) 1 110) 2 110) 3 110))), (o, .inl (tj, 1, .inr (.inl (fun _ => 0)))), (oD, .inl (td, 1, .inr (.inr (.inr (.inl (fun _ => 0))))))]) (vx_runSW (As := [.ref h0, .int (xs 1), .ref o]) (rest := []) ⟨hx, hb, hml, hown, hta⟩ (c_L_wear l hl0 ) (vx_cwSW 3 hta (gWSW mw602 mw603 mw416 mw601) rfl rfl rfl (by decide +kernel) ⟨Nat.le_of_ble_eq_true rfl, Nat.le_of_ble_eq_true rfl⟩) ⟨gS_blind, fun U hU hW => ⟨rfl, by rw [hU], by rw [hU]; exact hPc, va_K.moved hW.alike hKc, hDc.weaken (fun _ _ _ _ => trivial), hG.call hS hU hW hFc⟩⟩ rfl rfl hl.1 rfl (lv_room (Nat.le_of_ble_eq_true rfl)) dL_law_1951 ⟨Nat.le_of_ble_eq_true rfl, Nat.le_of_ble_eq_true rfl⟩) hP hD hS hK hFc rfl rfl (by decide) (by decide) (fun r2 u3 H locs h4 hP hD hS hK => ?_)
  obtain rfl : r2 = 1 := h4
  have hK : va_K D vwCl (tLw t1 t2 t3 t4 t5 tc tj td) s := hK
  have hP : va_P D vwCl [(m0, .inr (20, [.int 0, .ref m1, .ref m2, .ref m3, .ref m4, .int 0, .ref m5, .ref m6, .int 0])), (m1, .inr (4, [.int 0, .ref tE, .int 0])), (m2, .inr (4, [.int 0, .ref tE, .int 0])), (m3, .inr (4, [.int 0, .ref tE, .int 0])), (m4, .inr (4, [.int 0, .ref tE, .int 0])), (m5, .inl (tc, 4, .inl (upd (upd (upd (upd (fun _ => 0) 0 110) 1 110) 2 110) 3 110))), (o, .inl (tj, 1, .inr (.inl (fun _ => 0)))), (oD, .inl (td, 1, .inr (.inr (.inr (.inl (fun _ => 0))))))] H := hP
  have hD : va_D A [(m0, .inr (20, [.int 0, .ref m1, .ref m2, .ref m3, .ref m4, .int 0, .ref m5, .ref m6, .int 0])), (m1, .inr (4, [.int 0, .ref tE, .int 0])), (m2, .inr (4, [.int 0, .ref tE, .int 0])), (m3, .inr (4, [.int 0, .ref tE, .int 0])), (m4, .inr (4, [.int 0, .ref tE, .int 0])), (m5, .inl (tc, 4, .inl (upd (upd (upd (upd (fun _ => 0) 0 110) 1 110) 2 110) 3 110))), (o, .inl (tj, 1, .inr (.inl (fun _ => 0)))), (oD, .inl (td, 1, .inr (.inr (.inr (.inl (fun _ => 0))))))] := hD
  refine lv_istore (lv' := [(6, .int 1), (5, .int 0), (4, .ref oD), (3, .ref o), (2, .ref m0), (1, .ref h0), (0, .ref b)]) hx hb dL_law_1954 hl (by decide) rfl (fun ls hl => ?_)
  refine lv_aload_n hx hb dL_law_1956 rfl (lv_at hl 4 rfl) ?_
  refine lv_aload_n hx hb dL_law_1957 rfl (lv_at hl 6 rfl) ?_
  refine lv_iload hx hb dL_law_1958 (lv_at hl 1 rfl) ?_
  refine lv_iconst (v := 1) hx hb dL_law_1960 (by decide) ?_
  refine lv_iadd hx hb dL_law_1961 ?_
  refine lv_topi (fun x5 ex5 => ?_)
  obtain rfl : x5 = 1 := ex5.trans (by decide)
  refine va_sld hx hb hX hbl hbA hS (i := 1) (by unfold vp_in; decide) dL_law_1962 ?_
  refine W.eq (g2 := F0 m 1963 ls [.int (xs 1), .ref m0]) rfl ?_
  have hPc := hP.sub (ws' := (wM tE m0 m1 m2 m3 m4 m5 m6 tc 0 0)) [0, 1, 2, 3, 4, 5] rfl
  have hKc := hK.sub (tys' := [(tc, .char)]) [5] rfl
  have hDc := hD.sub (ws' := (wM tE m0 m1 m2 m3 m4 m5 m6 tc 0 0)) [0, 1, 2, 3, 4, 5] (by decide) rfl
  have hFc := va_free (wc := (wM tE m0 m1 m2 m3 m4 m5 m6 tc 0 0)) hD hS hA [0, 1, 2, 3, 4, 5] rfl
  refine gJ_i (isC := [0, 1, 2, 3, 4, 5]) (isR := [6, 7]) (wr := [(o, .inl (tj, 1, .inr (.inl (fun _ => 0)))), (oD, .inl (td, 1, .inr (.inr (.inr (.inl (fun _ => 0))))))]) (va_runV (As := [.int (xs 1)]) (rest := []) ⟨hx, hb, hml, hown, hta⟩ (c_X15_wear l ) (cwV 1 hta (gWV mw605 mw606 mw607 mw176 mw604) rfl rfl rfl (by decide +kernel) ⟨Nat.le_of_ble_eq_true rfl, Nat.le_of_ble_eq_true rfl⟩) ⟨gS_blind, va_recv hKc hPc (ci := 20) (q0 := 0) rfl rfl, fun U hU hW => ⟨rfl, by rw [hU], by rw [hU]; exact hPc, va_K.moved hW.alike hKc, hDc.weaken (fun _ _ _ _ => trivial), hG.call hS hU hW hFc⟩⟩ rfl rfl hl.1 rfl (lv_room (Nat.le_of_ble_eq_true rfl)) dL_law_1963 ⟨Nat.le_of_ble_eq_true rfl, Nat.le_of_ble_eq_true rfl⟩) hP hD hS hK hFc rfl rfl (by decide) (by decide) (fun r6 u7 H locs h8 hP hD hS hK => ?_)
  obtain rfl : r6 = 0 := h8
  have hK : va_K D vwCl (tLw t1 t2 t3 t4 t5 tc tj td) s := hK
  have hP : va_P D vwCl [(o, .inl (tj, 1, .inr (.inl (fun _ => 0)))), (oD, .inl (td, 1, .inr (.inr (.inr (.inl (fun _ => 0)))))), (m0, .inr (20, [.int 1, .ref m1, .ref m2, .ref m3, .ref m4, .int 0, .ref m5, .ref m6, .int 0])), (m1, .inr (4, [.int 0, .ref tE, .int 0])), (m2, .inr (4, [.int 0, .ref tE, .int 0])), (m3, .inr (4, [.int 0, .ref tE, .int 0])), (m4, .inr (4, [.int 0, .ref tE, .int 0])), (m5, .inl (tc, 4, .inl (upd (upd (upd (upd (fun _ => 0) 0 110) 1 110) 2 110) 3 110)))] H := hP
  have hD : va_D A [(o, .inl (tj, 1, .inr (.inl (fun _ => 0)))), (oD, .inl (td, 1, .inr (.inr (.inr (.inl (fun _ => 0)))))), (m0, .inr (20, [.int 1, .ref m1, .ref m2, .ref m3, .ref m4, .int 0, .ref m5, .ref m6, .int 0])), (m1, .inr (4, [.int 0, .ref tE, .int 0])), (m2, .inr (4, [.int 0, .ref tE, .int 0])), (m3, .inr (4, [.int 0, .ref tE, .int 0])), (m4, .inr (4, [.int 0, .ref tE, .int 0])), (m5, .inl (tc, 4, .inl (upd (upd (upd (upd (fun _ => 0) 0 110) 1 110) 2 110) 3 110)))] := hD
  refine lv_istore (lv' := [(7, .int 0), (6, .int 1), (5, .int 0), (4, .ref oD), (3, .ref o), (2, .ref m0), (1, .ref h0), (0, .ref b)]) hx hb dL_law_1966 hl (by decide) rfl (fun ls hl => ?_)
  refine lv_aload_n hx hb dL_law_1968 rfl (lv_at hl 5 rfl) ?_
  have hPc := hP.sub (ws' := [(m0, .inr (20, [.int 1, .ref m1, .ref m2, .ref m3, .ref m4, .int 0, .ref m5, .ref m6, .int 0]))]) [2] rfl
  have hKc := hK.sub (tys' := []) [] rfl
  refine vp_callSi (W.runV (As := []) (rest := []) ⟨hx, hb, hml, hown, hta⟩ (c_X15_thrown l ) (cwV 0 hta (gWV mw422 mw423 mw424 mw176 mw421) rfl rfl rfl (by decide +kernel) ⟨Nat.le_of_ble_eq_true rfl, Nat.le_of_ble_eq_true rfl⟩) ⟨gR_blind, va_recv hKc hPc (ci := 20) (q0 := 0) rfl rfl, fun U hU hW => ⟨rfl, by rw [hU]; exact hPc, va_K.moved hW.alike hKc⟩⟩ rfl rfl hl.1 rfl (lv_room (Nat.le_of_ble_eq_true rfl)) dL_law_1969 ⟨Nat.le_of_ble_eq_true rfl, Nat.le_of_ble_eq_true rfl⟩) (fun r9 h10 => ?_)
  obtain rfl : r9 = 1 := h10
  refine lv_iload hx hb dL_law_1972 (lv_at hl 1 rfl) ?_
  refine lv_icmp_eq (tgt := 1979) hx hb dL_law_1974 (by decide) (fun c11 => ?_) (fun c11 => ?_)
  · skip
    refine lv_iload hx hb dL_law_1979 (lv_at hl 1 rfl) ?_
    refine lv_if_ne (tgt := 1996) hx hb dL_law_1981 (by decide) (fun c12 => ?_) (fun c12 => ?_)
    · skip
      refine lv_goto (tgt := 2441) hx hb dL_law_1996 (by decide) ?_
      exact law_tail l C0 hA2 hS (lv_sub hl [7, 2] rfl) (Nat.le_of_ble_eq_true rfl) (Nat.le_of_ble_eq_true rfl)
    · exact absurd c12 (by decide)
  · exact absurd (by decide) c11

set_option maxHeartbeats 4000000 in
set_option maxRecDepth 100000 in
theorem lc_27 {p : Program} {e : Env} {s : State} {m : MethodId} {below : List Frame} {meth : Method} {c : Code} (l : Launch) (hl0 : l.stackTraces = false) {b : Nat} {xs : Nat → Int32} (C0 : lw_At p s m meth c b 6 xs) {A : Nat → Prop} (hA : ∀ q, s.heap.size ≤ q → A q) (hA2 : ∀ q, A q → s.heap.size ≤ q) {D : va_G} {tE : Nat} {h0 a1 a2 a3 a4 a5 h6 s0 s1 s2 s3 : Nat} {t1 t2 t3 t4 t5 : ClassId} {m0 m1 m2 m3 m4 m5 m6 : Nat} {tc : ClassId} {o oD : Nat} {tj td : ClassId} {H : Heap} {locs : List Loc} {ls : Array Slot} (hK : va_K D vwCl (tLw t1 t2 t3 t4 t5 tc tj td) s) (hG : gP tE A s) (hP : va_P D vwCl (wLw tE h0 a1 a2 a3 a4 a5 h6 s0 s1 s2 s3 m0 m1 m2 m3 m4 m5 m6 o oD t1 t2 t3 t4 t5 tc tj td) H) (hD : va_D A (wLw tE h0 a1 a2 a3 a4 a5 h6 s0 s1 s2 s3 m0 m1 m2 m3 m4 m5 m6 o oD t1 t2 t3 t4 t5 tc tj td)) (hS : va_S A s.heap H locs) (hl : lv_has ls 9 [(5, .int 0), (4, .ref oD), (3, .ref o), (2, .ref m0), (1, .ref h0), (0, .ref b)]) : W p l e room_1 s m #[Value.ref b] below meth c H locs 25 221 (lw_Z below #[Value.ref b] s) (F0 m 1999 ls []) := by
  obtain ⟨hx, hb, hr, hml, hown0, hts, hX, hbl, hlocks, hgv⟩ := id C0
  have hta : ∀ w ∈ WA, w.before #[Value.ref b] s = true := fun w h => hts w (WA_in w h)
  have hown : s.vm.findClass "FoundrymarkLaw" = some m.cls := hown0
  have hbA : ¬ A b := fun h => absurd (hA2 b h) (Nat.not_le.mpr hbl)
  refine lv_aload_n hx hb dL_law_1999 rfl (lv_at hl 4 rfl) ?_
  refine lv_aload_n hx hb dL_law_2000 rfl (lv_at hl 5 rfl) ?_
  refine lv_iload hx hb dL_law_2001 (lv_at hl 0 rfl) ?_
  refine lv_iconst (v := 1) hx hb dL_law_2003 (by decide) ?_
  refine lv_iadd hx hb dL_law_2004 ?_
  refine lv_topi (fun x1 ex1 => ?_)
  obtain rfl : x1 = 1 := ex1.trans (by decide)
  refine va_sld hx hb hX hbl hbA hS (i := 1) (by unfold vp_in; decide) dL_law_2005 ?_
  refine W.eq (g2 := F0 m 2006 ls [.int (xs 1), .ref h0]) rfl ?_
  refine lv_aload_n hx hb dL_law_2006 rfl (lv_at hl 2 rfl) ?_
  have hPc := hP.sub (ws' := (wX h0 a1 a2 a3 a4 a5 h6 s0 s1 s2 s3 t1 t2 t3 t4 t5)) [0, 1, 2, 3, 4, 5, 6, 7, 8, 9, 10] rfl
  have hKc := hK.sub (tys' := (tX t1 t2 t3 t4 t5)) [0, 1, 2, 3, 4] rfl
  have hDc := hD.sub (ws' := (wX h0 a1 a2 a3 a4 a5 h6 s0 s1 s2 s3 t1 t2 t3 t4 t5)) [0, 1, 2, 3, 4, 5, 6, 7, 8, 9, 10] (by decide) rfl
  have hFc := va_free (wc := (wX h0 a1 a2 a3 a4 a5 h6 s0 s1 s2 s3 t1 t2 t3 t4 t5)) hD hS hA [0, 1, 2, 3, 4, 5, 6, 7, 8, 9, 10] rfl
  refine gJ_i (isC := [0, 1, 2, 3, 4, 5, 6, 7, 8, 9, 10]) (isR := [11, 12, 13, 14, 15, 16, 17, 18]) (wr := [(m0, .inr (20, [.int 0, .ref m1, .ref m2, .ref m3, .ref m4, .int 0, .ref m5, .ref m6, .int 0])), (m1, .inr (4, [.int 0, .ref tE, .int 0])), (m2, .inr (4, [.int 0, .ref tE, .int 0])), (m3, .inr (4, [.int 0, .ref tE, .int 0])), (m4, .inr (4, [.int 0, .ref tE, .int 0])), (m5, .inl (tc, 4, .inl (upd (upd (upd (upd (fun _ => 0) 0 110) 1 110) 2 110) 3 110))), (o, .inl (tj, 1, .inr (.inl (fun _ => 0)))), (oD, .inl (td, 1, .inr (.inr (.inr (.inl (fun _ => 0))))))]) (vx_runSW (As := [.ref h0, .int (xs 1), .ref o]) (rest := []) ⟨hx, hb, hml, hown, hta⟩ (c_L_waiting l hl0 ) (vx_cwSW 3 hta (gWSW mw609 mw610 mw416 mw608) rfl rfl rfl (by decide +kernel) ⟨Nat.le_of_ble_eq_true rfl, Nat.le_of_ble_eq_true rfl⟩) ⟨gS_blind, fun U hU hW => ⟨rfl, by rw [hU], by rw [hU]; exact hPc, va_K.moved hW.alike hKc, hDc.weaken (fun _ _ _ _ => trivial), hG.call hS hU hW hFc⟩⟩ rfl rfl hl.1 rfl (lv_room (Nat.le_of_ble_eq_true rfl)) dL_law_2007 ⟨Nat.le_of_ble_eq_true rfl, Nat.le_of_ble_eq_true rfl⟩) hP hD hS hK hFc rfl rfl (by decide) (by decide) (fun r2 u3 H locs h4 hP hD hS hK => ?_)
  obtain rfl : r2 = 1 := h4
  have hK : va_K D vwCl (tLw t1 t2 t3 t4 t5 tc tj td) s := hK
  have hP : va_P D vwCl [(m0, .inr (20, [.int 0, .ref m1, .ref m2, .ref m3, .ref m4, .int 0, .ref m5, .ref m6, .int 0])), (m1, .inr (4, [.int 0, .ref tE, .int 0])), (m2, .inr (4, [.int 0, .ref tE, .int 0])), (m3, .inr (4, [.int 0, .ref tE, .int 0])), (m4, .inr (4, [.int 0, .ref tE, .int 0])), (m5, .inl (tc, 4, .inl (upd (upd (upd (upd (fun _ => 0) 0 110) 1 110) 2 110) 3 110))), (o, .inl (tj, 1, .inr (.inl (fun _ => 0)))), (oD, .inl (td, 1, .inr (.inr (.inr (.inl (fun _ => 0))))))] H := hP
  have hD : va_D A [(m0, .inr (20, [.int 0, .ref m1, .ref m2, .ref m3, .ref m4, .int 0, .ref m5, .ref m6, .int 0])), (m1, .inr (4, [.int 0, .ref tE, .int 0])), (m2, .inr (4, [.int 0, .ref tE, .int 0])), (m3, .inr (4, [.int 0, .ref tE, .int 0])), (m4, .inr (4, [.int 0, .ref tE, .int 0])), (m5, .inl (tc, 4, .inl (upd (upd (upd (upd (fun _ => 0) 0 110) 1 110) 2 110) 3 110))), (o, .inl (tj, 1, .inr (.inl (fun _ => 0)))), (oD, .inl (td, 1, .inr (.inr (.inr (.inl (fun _ => 0))))))] := hD
  refine lv_istore (lv' := [(6, .int 1), (5, .int 0), (4, .ref oD), (3, .ref o), (2, .ref m0), (1, .ref h0), (0, .ref b)]) hx hb dL_law_2010 hl (by decide) rfl (fun ls hl => ?_)
  refine lv_aload_n hx hb dL_law_2012 rfl (lv_at hl 4 rfl) ?_
  refine lv_aload_n hx hb dL_law_2013 rfl (lv_at hl 6 rfl) ?_
  refine lv_iload hx hb dL_law_2014 (lv_at hl 1 rfl) ?_
  refine lv_iconst (v := 1) hx hb dL_law_2016 (by decide) ?_
  refine lv_iadd hx hb dL_law_2017 ?_
  refine lv_topi (fun x5 ex5 => ?_)
  obtain rfl : x5 = 1 := ex5.trans (by decide)
  refine va_sld hx hb hX hbl hbA hS (i := 1) (by unfold vp_in; decide) dL_law_2018 ?_
  refine W.eq (g2 := F0 m 2019 ls [.int (xs 1), .ref m0]) rfl ?_
  have hPc := hP.sub (ws' := (wM tE m0 m1 m2 m3 m4 m5 m6 tc 0 0)) [0, 1, 2, 3, 4, 5] rfl
  have hKc := hK.sub (tys' := [(tc, .char)]) [5] rfl
  have hDc := hD.sub (ws' := (wM tE m0 m1 m2 m3 m4 m5 m6 tc 0 0)) [0, 1, 2, 3, 4, 5] (by decide) rfl
  have hFc := va_free (wc := (wM tE m0 m1 m2 m3 m4 m5 m6 tc 0 0)) hD hS hA [0, 1, 2, 3, 4, 5] rfl
  refine gJ_i (isC := [0, 1, 2, 3, 4, 5]) (isR := [6, 7]) (wr := [(o, .inl (tj, 1, .inr (.inl (fun _ => 0)))), (oD, .inl (td, 1, .inr (.inr (.inr (.inl (fun _ => 0))))))]) (va_runV (As := [.int (xs 1)]) (rest := []) ⟨hx, hb, hml, hown, hta⟩ (c_X15_waiting l ) (cwV 1 hta (gWV mw612 mw613 mw614 mw176 mw611) rfl rfl rfl (by decide +kernel) ⟨Nat.le_of_ble_eq_true rfl, Nat.le_of_ble_eq_true rfl⟩) ⟨gS_blind, va_recv hKc hPc (ci := 20) (q0 := 0) rfl rfl, fun U hU hW => ⟨rfl, by rw [hU], by rw [hU]; exact hPc, va_K.moved hW.alike hKc, hDc.weaken (fun _ _ _ _ => trivial), hG.call hS hU hW hFc⟩⟩ rfl rfl hl.1 rfl (lv_room (Nat.le_of_ble_eq_true rfl)) dL_law_2019 ⟨Nat.le_of_ble_eq_true rfl, Nat.le_of_ble_eq_true rfl⟩) hP hD hS hK hFc rfl rfl (by decide) (by decide) (fun r6 u7 H locs h8 hP hD hS hK => ?_)
  obtain rfl : r6 = 0 := h8
  have hK : va_K D vwCl (tLw t1 t2 t3 t4 t5 tc tj td) s := hK
  have hP : va_P D vwCl [(o, .inl (tj, 1, .inr (.inl (fun _ => 0)))), (oD, .inl (td, 1, .inr (.inr (.inr (.inl (fun _ => 0)))))), (m0, .inr (20, [.int 1, .ref m1, .ref m2, .ref m3, .ref m4, .int 0, .ref m5, .ref m6, .int 0])), (m1, .inr (4, [.int 0, .ref tE, .int 0])), (m2, .inr (4, [.int 0, .ref tE, .int 0])), (m3, .inr (4, [.int 0, .ref tE, .int 0])), (m4, .inr (4, [.int 0, .ref tE, .int 0])), (m5, .inl (tc, 4, .inl (upd (upd (upd (upd (fun _ => 0) 0 110) 1 110) 2 110) 3 110)))] H := hP
  have hD : va_D A [(o, .inl (tj, 1, .inr (.inl (fun _ => 0)))), (oD, .inl (td, 1, .inr (.inr (.inr (.inl (fun _ => 0)))))), (m0, .inr (20, [.int 1, .ref m1, .ref m2, .ref m3, .ref m4, .int 0, .ref m5, .ref m6, .int 0])), (m1, .inr (4, [.int 0, .ref tE, .int 0])), (m2, .inr (4, [.int 0, .ref tE, .int 0])), (m3, .inr (4, [.int 0, .ref tE, .int 0])), (m4, .inr (4, [.int 0, .ref tE, .int 0])), (m5, .inl (tc, 4, .inl (upd (upd (upd (upd (fun _ => 0) 0 110) 1 110) 2 110) 3 110)))] := hD
  refine lv_istore (lv' := [(7, .int 0), (6, .int 1), (5, .int 0), (4, .ref oD), (3, .ref o), (2, .ref m0), (1, .ref h0), (0, .ref b)]) hx hb dL_law_2022 hl (by decide) rfl (fun ls hl => ?_)
  refine lv_aload_n hx hb dL_law_2024 rfl (lv_at hl 5 rfl) ?_
  have hPc := hP.sub (ws' := [(m0, .inr (20, [.int 1, .ref m1, .ref m2, .ref m3, .ref m4, .int 0, .ref m5, .ref m6, .int 0]))]) [2] rfl
  have hKc := hK.sub (tys' := []) [] rfl
  refine vp_callSi (W.runV (As := []) (rest := []) ⟨hx, hb, hml, hown, hta⟩ (c_X15_thrown l ) (cwV 0 hta (gWV mw422 mw423 mw424 mw176 mw421) rfl rfl rfl (by decide +kernel) ⟨Nat.le_of_ble_eq_true rfl, Nat.le_of_ble_eq_true rfl⟩) ⟨gR_blind, va_recv hKc hPc (ci := 20) (q0 := 0) rfl rfl, fun U hU hW => ⟨rfl, by rw [hU]; exact hPc, va_K.moved hW.alike hKc⟩⟩ rfl rfl hl.1 rfl (lv_room (Nat.le_of_ble_eq_true rfl)) dL_law_2025 ⟨Nat.le_of_ble_eq_true rfl, Nat.le_of_ble_eq_true rfl⟩) (fun r9 h10 => ?_)
  obtain rfl : r9 = 1 := h10
  refine lv_iload hx hb dL_law_2028 (lv_at hl 1 rfl) ?_
  refine lv_icmp_eq (tgt := 2035) hx hb dL_law_2030 (by decide) (fun c11 => ?_) (fun c11 => ?_)
  · skip
    refine lv_iload hx hb dL_law_2035 (lv_at hl 1 rfl) ?_
    refine lv_if_ne (tgt := 2052) hx hb dL_law_2037 (by decide) (fun c12 => ?_) (fun c12 => ?_)
    · skip
      refine lv_goto (tgt := 2441) hx hb dL_law_2052 (by decide) ?_
      exact law_tail l C0 hA2 hS (lv_sub hl [7, 2] rfl) (Nat.le_of_ble_eq_true rfl) (Nat.le_of_ble_eq_true rfl)
    · exact absurd c12 (by decide)
  · exact absurd (by decide) c11
