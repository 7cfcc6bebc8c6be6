set_option maxHeartbeats 4000000 in
set_option maxRecDepth 100000 in
theorem lc_28 {p : Program} {e : Env} {s : State} {m : MethodId} {below : List Frame} {meth : Method} {c : Code} (l : Launch) (hl0 : l.stackTraces = false) {b : Nat} {xs : Nat → Int32} (C0 : lw_At p s m meth c b 6 xs) {A : Nat → Prop} (hA : ∀ q, s.heap.size ≤ q → A q) (hA2 : ∀ q, A q → s.heap.size ≤ q) {D : va_G} {tE : Nat} {h0 a1 a2 a3 a4 a5 h6 s0 s1 s2 s3 : Nat} {t1 t2 t3 t4 t5 : ClassId} {m0 m1 m2 m3 m4 m5 m6 : Nat} {tc : ClassId} {o oD : Nat} {tj td : ClassId} {H : Heap} {locs : List Loc} {ls : Array Slot} (hK : va_K D vwCl (tLw t1 t2 t3 t4 t5 tc tj td) s) (hG : gP tE A s) (hP : va_P D vwCl (wLw tE h0 a1 a2 a3 a4 a5 h6 s0 s1 s2 s3 m0 m1 m2 m3 m4 m5 m6 o oD t1 t2 t3 t4 t5 tc tj td) H) (hD : va_D A (wLw tE h0 a1 a2 a3 a4 a5 h6 s0 s1 s2 s3 m0 m1 m2 m3 m4 m5 m6 o oD t1 t2 t3 t4 t5 tc tj td)) (hS : va_S A s.heap H locs) (hl : lv_has ls 9 [(5, .int 0), (4, .ref oD), (3, .ref o), (2, .ref m0), (1, .ref h0), (0, .ref b)]) : W p l e room_1 s m #[Value.ref b] below meth c H locs 25 221 (lw_Z below #[Value.ref b] s) (F0 m 2055 ls []) := by
  obtain ⟨hx, hb, hr, hml, hown0, hts, hX, hbl, hlocks, hgv⟩ := id C0
  have hta : ∀ w ∈ WA, w.before #[Value.ref b] s = true := fun w h => hts w (WA_in w h)
  have hown : s.vm.findClass "FoundrymarkLaw" = some m.cls := hown0
  have hbA : ¬ A b := fun h => absurd (hA2 b h) (Nat.not_le.mpr hbl)
  refine lv_aload_n hx hb dL_law_2055 rfl (lv_at hl 4 rfl) ?_
  refine lv_aload_n hx hb dL_law_2056 rfl (lv_at hl 5 rfl) ?_
  refine lv_iload hx hb dL_law_2057 (lv_at hl 0 rfl) ?_
  refine lv_iconst (v := 1) hx hb dL_law_2059 (by decide) ?_
  refine lv_iadd hx hb dL_law_2060 ?_
  refine lv_topi (fun x1 ex1 => ?_)
  obtain rfl : x1 = 1 := ex1.trans (by decide)
  refine va_sld hx hb hX hbl hbA hS (i := 1) (by unfold vp_in; decide) dL_law_2061 ?_
  refine W.eq (g2 := F0 m 2062 ls [.int (xs 1), .ref h0]) rfl ?_
  refine lv_aload_n hx hb dL_law_2062 rfl (lv_at hl 5 rfl) ?_
  refine lv_iload hx hb dL_law_2063 (lv_at hl 0 rfl) ?_
  refine lv_iconst (v := 2) hx hb dL_law_2065 (by decide) ?_
  refine lv_iadd hx hb dL_law_2066 ?_
  refine lv_topi (fun x2 ex2 => ?_)
  obtain rfl : x2 = 2 := ex2.trans (by decide)
  refine va_sld hx hb hX hbl hbA hS (i := 2) (by unfold vp_in; decide) dL_law_2067 ?_
  refine W.eq (g2 := F0 m 2068 ls [.int (xs 2), .int (xs 1), .ref h0]) rfl ?_
  refine lv_aload_n hx hb dL_law_2068 rfl (lv_at hl 2 rfl) ?_
  have hPc := hP.sub (ws' := (wX h0 a1 a2 a3 a4 a5 h6 s0 s1 s2 s3 t1 t2 t3 t4 t5)) [0, 1, 2, 3, 4, 5, 6, 7, 8, 9, 10] rfl
  have hKc := hK.sub (tys' := (tX t1 t2 t3 t4 t5)) [0, 1, 2, 3, 4] rfl
  have hDc := hD.sub (ws' := (wX h0 a1 a2 a3 a4 a5 h6 s0 s1 s2 s3 t1 t2 t3 t4 t5)) [0, 1, 2, 3, 4, 5, 6, 7, 8, 9, 10] (by decide) rfl
  have hFc := va_free (wc := (wX h0 a1 a2 a3 a4 a5 h6 s0 s1 s2 s3 t1 t2 t3 t4 t5)) hD hS hA [0, 1, 2, 3, 4, 5, 6, 7, 8, 9, 10] rfl
  refine gJ_i (isC := [0, 1, 2, 3, 4, 5, 6, 7, 8, 9, 10]) (isR := [11, 12, 13, 14, 15, 16, 17, 18]) (wr := [(m0, .inr (20, [.int 0, .ref m1, .ref m2, .ref m3, .ref m4, .int 0, .ref m5, .ref m6, .int 0])), (m1, .inr (4, [.int 0, .ref tE, .int 0])), (m2, .inr (4, [.int 0, .ref tE, .int 0])), (m3, .inr (4, [.int 0, .ref tE, .int 0])), (m4, .inr (4, [.int 0, .ref tE, .int 0])), (m5, .inl (tc, 4, .inl (upd (upd (upd (upd (fun _ => 0) 0 110) 1 110) 2 110) 3 110))), (o, .inl (tj, 1, .inr (.inl (fun _ => 0)))), (oD, .inl (td, 1, .inr (.inr (.inr (.inl (fun _ => 0))))))]) (vx_runSW (As := [.ref h0, .int (xs 1), .int (xs 2), .ref o]) (rest := []) ⟨hx, hb, hml, hown, hta⟩ (c_L_isIn l hl0 ) (vx_cwSW 4 hta (gWSW mw616 mw617 mw416 mw615) rfl rfl rfl (by decide +kernel) ⟨Nat.le_of_ble_eq_true rfl, Nat.le_of_ble_eq_true rfl⟩) ⟨gS_blind, fun U hU hW => ⟨rfl, by rw [hU], by rw [hU]; exact hPc, va_K.moved hW.alike hKc, hDc.weaken (fun _ _ _ _ => trivial), hG.call hS hU hW hFc⟩⟩ rfl rfl hl.1 rfl (lv_room (Nat.le_of_ble_eq_true rfl)) dL_law_2069 ⟨Nat.le_of_ble_eq_true rfl, Nat.le_of_ble_eq_true rfl⟩) hP hD hS hK hFc rfl rfl (by decide) (by decide) (fun r3 u4 H locs h5 hP hD hS hK => ?_)
  obtain rfl : r3 = 1 := h5
  have hK : va_K D vwCl (tLw t1 t2 t3 t4 t5 tc tj td) s := hK
  have hP : va_P D vwCl [(m0, .inr (20, [.int 0, .ref m1, .ref m2, .ref m3, .ref m4, .int 0, .ref m5, .ref m6, .int 0])), (m1, .inr (4, [.int 0, .ref tE, .int 0])), (m2, .inr (4, [.int 0, .ref tE, .int 0])), (m3, .inr (4, [.int 0, .ref tE, .int 0])), (m4, .inr (4, [.int 0, .ref tE, .int 0])), (m5, .inl (tc, 4, .inl (upd (upd (upd (upd (fun _ => 0) 0 110) 1 110) 2 110) 3 110))), (o, .inl (tj, 1, .inr (.inl (fun _ => 0)))), (oD, .inl (td, 1, .inr (.inr (.inr (.inl (fun _ => 0))))))] H := hP
  have hD : va_D A [(m0, .inr (20, [.int 0, .ref m1, .ref m2, .ref m3, .ref m4, .int 0, .ref m5, .ref m6, .int 0])), (m1, .inr (4, [.int 0, .ref tE, .int 0])), (m2, .inr (4, [.int 0, .ref tE, .int 0])), (m3, .inr (4, [.int 0, .ref tE, .int 0])), (m4, .inr (4, [.int 0, .ref tE, .int 0])), (m5, .inl (tc, 4, .inl (upd (upd (upd (upd (fun _ => 0) 0 110) 1 110) 2 110) 3 110))), (o, .inl (tj, 1, .inr (.inl (fun _ => 0)))), (oD, .inl (td, 1, .inr (.inr (.inr (.inl (fun _ => 0))))))] := hD
  refine lv_istore (lv' := [(6, .int 1), (5, .int 0), (4, .ref oD), (3, .ref o), (2, .ref m0), (1, .ref h0), (0, .ref b)]) hx hb dL_law_2072 hl (by decide) rfl (fun ls hl => ?_)
  refine lv_aload_n hx hb dL_law_2074 rfl (lv_at hl 4 rfl) ?_
  refine lv_aload_n hx hb dL_law_2075 rfl (lv_at hl 6 rfl) ?_
  refine lv_iload hx hb dL_law_2076 (lv_at hl 1 rfl) ?_
  refine lv_iconst (v := 1) hx hb dL_law_2078 (by decide) ?_
  refine lv_iadd hx hb dL_law_2079 ?_
  refine lv_topi (fun x6 ex6 => ?_)
  obtain rfl : x6 = 1 := ex6.trans (by decide)
  refine va_sld hx hb hX hbl hbA hS (i := 1) (by unfold vp_in; decide) dL_law_2080 ?_
  refine W.eq (g2 := F0 m 2081 ls [.int (xs 1), .ref m0]) rfl ?_
  refine lv_aload_n hx hb dL_law_2081 rfl (lv_at hl 6 rfl) ?_
  refine lv_iload hx hb dL_law_2082 (lv_at hl 1 rfl) ?_
  refine lv_iconst (v := 2) hx hb dL_law_2084 (by decide) ?_
  refine lv_iadd hx hb dL_law_2085 ?_
  refine lv_topi (fun x7 ex7 => ?_)
  obtain rfl : x7 = 2 := ex7.trans (by decide)
  refine va_sld hx hb hX hbl hbA hS (i := 2) (by unfold vp_in; decide) dL_law_2086 ?_
  refine W.eq (g2 := F0 m 2087 ls [.int (xs 2), .int (xs 1), .ref m0]) rfl ?_
  have hPc := hP.sub (ws' := (wM tE m0 m1 m2 m3 m4 m5 m6 tc 0 0)) [0, 1, 2, 3, 4, 5] rfl
  have hKc := hK.sub (tys' := [(tc, .char)]) [5] rfl
  have hDc := hD.sub (ws' := (wM tE m0 m1 m2 m3 m4 m5 m6 tc 0 0)) [0, 1, 2, 3, 4, 5] (by decide) rfl
  have hFc := va_free (wc := (wM tE m0 m1 m2 m3 m4 m5 m6 tc 0 0)) hD hS hA [0, 1, 2, 3, 4, 5] rfl
  refine gJ_i (isC := [0, 1, 2, 3, 4, 5]) (isR := [6, 7]) (wr := [(o, .inl (tj, 1, .inr (.inl (fun _ => 0)))), (oD, .inl (td, 1, .inr (.inr (.inr (.inl (fun _ => 0))))))]) (va_runV (As := [.int (xs 1), .int (xs 2)]) (rest := []) ⟨hx, hb, hml, hown, hta⟩ (c_X15_isIn l ) (cwV 2 hta (gWV mw619 mw620 mw621 mw176 mw618) rfl rfl rfl (by decide +kernel) ⟨Nat.le_of_ble_eq_true rfl, Nat.le_of_ble_eq_true rfl⟩) ⟨gS_blind, va_recv hKc hPc (ci := 20) (q0 := 0) rfl rfl, fun U hU hW => ⟨rfl, by rw [hU], by rw [hU]; exact hPc, va_K.moved hW.alike hKc, hDc.weaken (fun _ _ _ _ => trivial), hG.call hS hU hW hFc⟩⟩ rfl rfl hl.1 rfl (lv_room (Nat.le_of_ble_eq_true rfl)) dL_law_2087 ⟨Nat.le_of_ble_eq_true rfl, Nat.le_of_ble_eq_true rfl⟩) hP hD hS hK hFc rfl rfl (by decide) (by decide) (fun r8 u9 H locs h10 hP hD hS hK => ?_)
  obtain rfl : r8 = 0 := h10
  have hK : va_K D vwCl (tLw t1 t2 t3 t4 t5 tc tj td) s := hK
  have hP : va_P D vwCl [(o, .inl (tj, 1, .inr (.inl (fun _ => 0)))), (oD, .inl (td, 1, .inr (.inr (.inr (.inl (fun _ => 0)))))), (m0, .inr (20, [.int 1, .ref m1, .ref m2, .ref m3, .ref m4, .int 0, .ref m5, .ref m6, .int 0])), (m1, .inr (4, [.int 0, .ref tE, .int 0])), (m2, .inr (4, [.int 0, .ref tE, .int 0])), (m3, .inr (4, [.int 0, .ref tE, .int 0])), (m4, .inr (4, [.int 0, .ref tE, .int 0])), (m5, .inl (tc, 4, .inl (upd (upd (upd (upd (fun _ => 0) 0 110) 1 110) 2 110) 3 110)))] H := hP
  have hD : va_D A [(o, .inl (tj, 1, .inr (.inl (fun _ => 0)))), (oD, .inl (td, 1, .inr (.inr (.inr (.inl (fun _ => 0)))))), (m0, .inr (20, [.int 1, .ref m1, .ref m2, .ref m3, .ref m4, .int 0, .ref m5, .ref m6, .int 0])), (m1, .inr (4, [.int 0, .ref tE, .int 0])), (m2, .inr (4, [.int 0, .ref tE, .int 0])), (m3, .inr (4, [.int 0, .ref tE, .int 0])), (m4, .inr (4, [.int 0, .ref tE, .int 0])), (m5, .inl (tc, 4, .inl (upd (upd (upd (upd (fun _ => 0) 0 110) 1 110) 2 110) 3 110)))] := hD
  refine lv_istore (lv' := [(7, .int 0), (6, .int 1), (5, .int 0), (4, .ref oD), (3, .ref o), (2, .ref m0), (1, .ref h0), (0, .ref b)]) hx hb dL_law_2090 hl (by decide) rfl (fun ls hl => ?_)
  refine lv_aload_n hx hb dL_law_2092 rfl (lv_at hl 5 rfl) ?_
  have hPc := hP.sub (ws' := [(m0, .inr (20, [.int 1, .ref m1, .ref m2, .ref m3, .ref m4, .int 0, .ref m5, .ref m6, .int 0]))]) [2] rfl
  have hKc := hK.sub (tys' := []) [] rfl
  refine vp_callSi (W.runV (As := []) (rest := []) ⟨hx, hb, hml, hown, hta⟩ (c_X15_thrown l ) (cwV 0 hta (gWV mw422 mw423 mw424 mw176 mw421) rfl rfl rfl (by decide +kernel) ⟨Nat.le_of_ble_eq_true rfl, Nat.le_of_ble_eq_true rfl⟩) ⟨gR_blind, va_recv hKc hPc (ci := 20) (q0 := 0) rfl rfl, fun U hU hW => ⟨rfl, by rw [hU]; exact hPc, va_K.moved hW.alike hKc⟩⟩ rfl rfl hl.1 rfl (lv_room (Nat.le_of_ble_eq_true rfl)) dL_law_2093 ⟨Nat.le_of_ble_eq_true rfl, Nat.le_of_ble_eq_true rfl⟩) (fun r11 h12 => ?_)
  obtain rfl : r11 = 1 := h12
  refine lv_iload hx hb dL_law_2096 (lv_at hl 1 rfl) ?_
  refine lv_icmp_eq (tgt := 2103) hx hb dL_law_2098 (by decide) (fun c13 => ?_) (fun c13 => ?_)
  · skip
    refine lv_iload hx hb dL_law_2103 (lv_at hl 1 rfl) ?_
    refine lv_if_ne (tgt := 2127) hx hb dL_law_2105 (by decide) (fun c14 => ?_) (fun c14 => ?_)
    · skip
      refine lv_goto (tgt := 2441) hx hb dL_law_2127 (by decide) ?_
      exact law_tail l C0 hA2 hS (lv_sub hl [7, 2] rfl) (Nat.le_of_ble_eq_true rfl) (Nat.le_of_ble_eq_true rfl)
    · exact absurd c14 (by decide)
  · exact absurd (by decide) c13

set_option maxHeartbeats 4000000 in
set_option maxRecDepth 100000 in
theorem lc_29 {p : Program} {e : Env} {s : State} {m : MethodId} {below : List Frame} {meth : Method} {c : Code} (l : Launch) (hl0 : l.stackTraces = false) {b : Nat} {xs : Nat → Int32} (C0 : lw_At p s m meth c b 6 xs) {A : Nat → Prop} (hA : ∀ q, s.heap.size ≤ q → A q) (hA2 : ∀ q, A q → s.heap.size ≤ q) {D : va_G} {tE : Nat} {h0 a1 a2 a3 a4 a5 h6 s0 s1 s2 s3 : Nat} {t1 t2 t3 t4 t5 : ClassId} {m0 m1 m2 m3 m4 m5 m6 : Nat} {tc : ClassId} {o oD : Nat} {tj td : ClassId} {H : Heap} {locs : List Loc} {ls : Array Slot} (hK : va_K D vwCl (tLw t1 t2 t3 t4 t5 tc tj td) s) (hG : gP tE A s) (hP : va_P D vwCl (wLw tE h0 a1 a2 a3 a4 a5 h6 s0 s1 s2 s3 m0 m1 m2 m3 m4 m5 m6 o oD t1 t2 t3 t4 t5 tc tj td) H) (hD : va_D A (wLw tE h0 a1 a2 a3 a4 a5 h6 s0 s1 s2 s3 m0 m1 m2 m3 m4 m5 m6 o oD t1 t2 t3 t4 t5 tc tj td)) (hS : va_S A s.heap H locs) (hl : lv_has ls 9 [(5, .int 0), (4, .ref oD), (3, .ref o), (2, .ref m0), (1, .ref h0), (0, .ref b)]) : W p l e room_1 s m #[Value.ref b] below meth c H locs 25 221 (lw_Z below #[Value.ref b] s) (F0 m 2130 ls []) := by
  obtain ⟨hx, hb, hr, hml, hown0, hts, hX, hbl, hlocks, hgv⟩ := id C0
  have hta : ∀ w ∈ WA, w.before #[Value.ref b] s = true := fun w h => hts w (WA_in w h)
  have hown : s.vm.findClass "FoundrymarkLaw" = some m.cls := hown0
  have hbA : ¬ A b := fun h => absurd (hA2 b h) (Nat.not_le.mpr hbl)
  refine lv_aload_n hx hb dL_law_2130 rfl (lv_at hl 4 rfl) ?_
  refine lv_aload_n hx hb dL_law_2131 rfl (lv_at hl 5 rfl) ?_
  refine lv_iload hx hb dL_law_2132 (lv_at hl 0 rfl) ?_
  refine lv_iconst (v := 1) hx hb dL_law_2134 (by decide) ?_
  refine lv_iadd hx hb dL_law_2135 ?_
  refine lv_topi (fun x1 ex1 => ?_)
  obtain rfl : x1 = 1 := ex1.trans (by decide)
  refine va_sld hx hb hX hbl hbA hS (i := 1) (by unfold vp_in; decide) dL_law_2136 ?_
  refine W.eq (g2 := F0 m 2137 ls [.int (xs 1), .ref h0]) rfl ?_
  refine lv_aload_n hx hb dL_law_2137 rfl (lv_at hl 2 rfl) ?_
  have hPc := hP.sub (ws' := (wX h0 a1 a2 a3 a4 a5 h6 s0 s1 s2 s3 t1 t2 t3 t4 t5)) [0, 1, 2, 3, 4, 5, 6, 7, 8, 9, 10] rfl
  have hKc := hK.sub (tys' := (tX t1 t2 t3 t4 t5)) [0, 1, 2, 3, 4] rfl
  have hDc := hD.sub (ws' := (wX h0 a1 a2 a3 a4 a5 h6 s0 s1 s2 s3 t1 t2 t3 t4 t5)) [0, 1, 2, 3, 4, 5, 6, 7, 8, 9, 10] (by decide) rfl
  have hFc := va_free (wc := (wX h0 a1 a2 a3 a4 a5 h6 s0 s1 s2 s3 t1 t2 t3 t4 t5)) hD hS hA [0, 1, 2, 3, 4, 5, 6, 7, 8, 9, 10] rfl
  refine gJ_i (isC := [0, 1, 2, 3, 4, 5, 6, 7, 8, 9, 10]) (isR := [11, 12, 13, 14, 15, 16, 17, 18]) (wr := [(m0, .inr (20, [.int 0, .ref m1, .ref m2, .ref m3, .ref m4, .int 0, .ref m5, .ref m6, .int 0])), (m1, .inr (4, [.int 0, .ref tE, .int 0])), (m2, .inr (4, [.int 0, .ref tE, .int 0])), (m3, .inr (4, [.int 0, .ref tE, .int 0])), (m4, .inr (4, [.int 0, .ref tE, .int 0])), (m5, .inl (tc, 4, .inl (upd (upd (upd (upd (fun _ => 0) 0 110) 1 110) 2 110) 3 110))), (o, .inl (tj, 1, .inr (.inl (fun _ => 0)))), (oD, .inl (td, 1, .inr (.inr (.inr (.inl (fun _ => 0))))))]) (vx_runSW (As := [.ref h0, .int (xs 1), .ref o]) (rest := []) ⟨hx, hb, hml, hown, hta⟩ (c_L_touched l hl0 ) (vx_cwSW 3 hta (gWSW mw623 mw624 mw416 mw622) rfl rfl rfl (by decide +kernel) ⟨Nat.le_of_ble_eq_true rfl, Nat.le_of_ble_eq_true rfl⟩) ⟨gS_blind, fun U hU hW => ⟨rfl, by rw [hU], by rw [hU]; exact hPc, va_K.moved hW.alike hKc, hDc.weaken (fun _ _ _ _ => trivial), hG.call hS hU hW hFc⟩⟩ rfl rfl hl.1 rfl (lv_room (Nat.le_of_ble_eq_true rfl)) dL_law_2138 ⟨Nat.le_of_ble_eq_true rfl, Nat.le_of_ble_eq_true rfl⟩) hP hD hS hK hFc rfl rfl (by decide) (by decide) (fun r2 u3 H locs h4 hP hD hS hK => ?_)
  obtain rfl : r2 = 1 := h4
  have hK : va_K D vwCl (tLw t1 t2 t3 t4 t5 tc tj td) s := hK
  have hP : va_P D vwCl [(m0, .inr (20, [.int 0, .ref m1, .ref m2, .ref m3, .ref m4, .int 0, .ref m5, .ref m6, .int 0])), (m1, .inr (4, [.int 0, .ref tE, .int 0])), (m2, .inr (4, [.int 0, .ref tE, .int 0])), (m3, .inr (4, [.int 0, .ref tE, .int 0])), (m4, .inr (4, [.int 0, .ref tE, .int 0])), (m5, .inl (tc, 4, .inl (upd (upd (upd (upd (fun _ => 0) 0 110) 1 110) 2 110) 3 110))), (o, .inl (tj, 1, .inr (.inl (fun _ => 0)))), (oD, .inl (td, 1, .inr (.inr (.inr (.inl (fun _ => 0))))))] H := hP
  have hD : va_D A [(m0, .inr (20, [.int 0, .ref m1, .ref m2, .ref m3, .ref m4, .int 0, .ref m5, .ref m6, .int 0])), (m1, .inr (4, [.int 0, .ref tE, .int 0])), (m2, .inr (4, [.int 0, .ref tE, .int 0])), (m3, .inr (4, [.int 0, .ref tE, .int 0])), (m4, .inr (4, [.int 0, .ref tE, .int 0])), (m5, .inl (tc, 4, .inl (upd (upd (upd (upd (fun _ => 0) 0 110) 1 110) 2 110) 3 110))), (o, .inl (tj, 1, .inr (.inl (fun _ => 0)))), (oD, .inl (td, 1, .inr (.inr (.inr (.inl (fun _ => 0))))))] := hD
  refine lv_istore (lv' := [(6, .int 1), (5, .int 0), (4, .ref oD), (3, .ref o), (2, .ref m0), (1, .ref h0), (0, .ref b)]) hx hb dL_law_2141 hl (by decide) rfl (fun ls hl => ?_)
  refine lv_aload_n hx hb dL_law_2143 rfl (lv_at hl 4 rfl) ?_
  refine lv_aload_n hx hb dL_law_2144 rfl (lv_at hl 6 rfl) ?_
  refine lv_iload hx hb dL_law_2145 (lv_at hl 1 rfl) ?_
  refine lv_iconst (v := 1) hx hb dL_law_2147 (by decide) ?_
  refine lv_iadd hx hb dL_law_2148 ?_
  refine lv_topi (fun x5 ex5 => ?_)
  obtain rfl : x5 = 1 := ex5.trans (by decide)
  refine va_sld hx hb hX hbl hbA hS (i := 1) (by unfold vp_in; decide) dL_law_2149 ?_
  refine W.eq (g2 := F0 m 2150 ls [.int (xs 1), .ref m0]) rfl ?_
  have hPc := hP.sub (ws' := (wM tE m0 m1 m2 m3 m4 m5 m6 tc 0 0)) [0, 1, 2, 3, 4, 5] rfl
  have hKc := hK.sub (tys' := [(tc, .char)]) [5] rfl
  have hDc := hD.sub (ws' := (wM tE m0 m1 m2 m3 m4 m5 m6 tc 0 0)) [0, 1, 2, 3, 4, 5] (by decide) rfl
  have hFc := va_free (wc := (wM tE m0 m1 m2 m3 m4 m5 m6 tc 0 0)) hD hS hA [0, 1, 2, 3, 4, 5] rfl
  refine gJ_i (isC := [0, 1, 2, 3, 4, 5]) (isR := [6, 7]) (wr := [(o, .inl (tj, 1, .inr (.inl (fun _ => 0)))), (oD, .inl (td, 1, .inr (.inr (.inr (.inl (fun _ => 0))))))]) (va_runV (As := [.int (xs 1)]) (rest := []) ⟨hx, hb, hml, hown, hta⟩ (c_X15_touched l ) (cwV 1 hta (gWV mw626 mw627 mw628 mw176 mw625) rfl rfl rfl (by decide +kernel) ⟨Nat.le_of_ble_eq_true rfl, Nat.le_of_ble_eq_true rfl⟩) ⟨gS_blind, va_recv hKc hPc (ci := 20) (q0 := 0) rfl rfl, fun U hU hW => ⟨rfl, by rw [hU], by rw [hU]; exact hPc, va_K.moved hW.alike hKc, hDc.weaken (fun _ _ _ _ => trivial), hG.call hS hU hW hFc⟩⟩ rfl rfl hl.1 rfl (lv_room (Nat.le_of_ble_eq_true rfl)) dL_law_2150 ⟨Nat.le_of_ble_eq_true rfl, Nat.le_of_ble_eq_true rfl⟩) hP hD hS hK hFc rfl rfl (by decide) (by decide) (fun r6 u7 H locs h8 hP hD hS hK => ?_)
  obtain rfl : r6 = 0 := h8
  have hK : va_K D vwCl (tLw t1 t2 t3 t4 t5 tc tj td) s := hK
  have hP : va_P D vwCl [(o, .inl (tj, 1, .inr (.inl (fun _ => 0)))), (oD, .inl (td, 1, .inr (.inr (.inr (.inl (fun _ => 0)))))), (m0, .inr (20, [.int 1, .ref m1, .ref m2, .ref m3, .ref m4, .int 0, .ref m5, .ref m6, .int 0])), (m1, .inr (4, [.int 0, .ref tE, .int 0])), (m2, .inr (4, [.int 0, .ref tE, .int 0])), (m3, .inr (4, [.int 0, .ref tE, .int 0])), (m4, .inr (4, [.int 0, .ref tE, .int 0])), (m5, .inl (tc, 4, .inl (upd (upd (upd (upd (fun _ => 0) 0 110) 1 110) 2 110) 3 110)))] H := hP
  have hD : va_D A [(o, .inl (tj, 1, .inr (.inl (fun _ => 0)))), (oD, .inl (td, 1, .inr (.inr (.inr (.inl (fun _ => 0)))))), (m0, .inr (20, [.int 1, .ref m1, .ref m2, .ref m3, .ref m4, .int 0, .ref m5, .ref m6, .int 0])), (m1, .inr (4, [.int 0, .ref tE, .int 0])), (m2, .inr (4, [.int 0, .ref tE, .int 0])), (m3, .inr (4, [.int 0, .ref tE, .int 0])), (m4, .inr (4, [.int 0, .ref tE, .int 0])), (m5, .inl (tc, 4, .inl (upd (upd (upd (upd (fun _ => 0) 0 110) 1 110) 2 110) 3 110)))] := hD
  refine lv_istore (lv' := [(7, .int 0), (6, .int 1), (5, .int 0), (4, .ref oD), (3, .ref o), (2, .ref m0), (1, .ref h0), (0, .ref b)]) hx hb dL_law_2153 hl (by decide) rfl (fun ls hl => ?_)
  refine lv_aload_n hx hb dL_law_2155 rfl (lv_at hl 5 rfl) ?_
  have hPc := hP.sub (ws' := [(m0, .inr (20, [.int 1, .ref m1, .ref m2, .ref m3, .ref m4, .int 0, .ref m5, .ref m6, .int 0]))]) [2] rfl
  have hKc := hK.sub (tys' := []) [] rfl
  refine vp_callSi (W.runV (As := []) (rest := []) ⟨hx, hb, hml, hown, hta⟩ (c_X15_thrown l ) (cwV 0 hta (gWV mw422 mw423 mw424 mw176 mw421) rfl rfl rfl (by decide +kernel) ⟨Nat.le_of_ble_eq_true rfl, Nat.le_of_ble_eq_true rfl⟩) ⟨gR_blind, va_recv hKc hPc (ci := 20) (q0 := 0) rfl rfl, fun U hU hW => ⟨rfl, by rw [hU]; exact hPc, va_K.moved hW.alike hKc⟩⟩ rfl rfl hl.1 rfl (lv_room (Nat.le_of_ble_eq_true rfl)) dL_law_2156 ⟨Nat.le_of_ble_eq_true rfl, Nat.le_of_ble_eq_true rfl⟩) (fun r9 h10 => ?_)
  obtain rfl : r9 = 1 := h10
  refine lv_iload hx hb dL_law_2159 (lv_at hl 1 rfl) ?_
  refine lv_icmp_eq (tgt := 2166) hx hb dL_law_2161 (by decide) (fun c11 => ?_) (fun c11 => ?_)
  · skip
    refine lv_iload hx hb dL_law_2166 (lv_at hl 1 rfl) ?_
    refine lv_if_ne (tgt := 2183) hx hb dL_law_2168 (by decide) (fun c12 => ?_) (fun c12 => ?_)
    · skip
      refine lv_goto (tgt := 2441) hx hb dL_law_2183 (by decide) ?_
      exact law_tail l C0 hA2 hS (lv_sub hl [7, 2] rfl) (Nat.le_of_ble_eq_true rfl) (Nat.le_of_ble_eq_true rfl)
    · exact absurd c12 (by decide)
  · exact absurd (by decide) c11

set_option maxHeartbeats 4000000 in
set_option maxRecDepth 100000 in
theorem lc_30 {p : Program} {e : Env} {s : State} {m : MethodId} {below : List Frame} {meth : Method} {c : Code} (l : Launch) (hl0 : l.stackTraces = false) {b : Nat} {xs : Nat → Int32} (C0 : lw_At p s m meth c b 6 xs) {A : Nat → Prop} (hA : ∀ q, s.heap.size ≤ q → A q) (hA2 : ∀ q, A q → s.heap.size ≤ q) {D : va_G} {tE : Nat} {h0 a1 a2 a3 a4 a5 h6 s0 s1 s2 s3 : Nat} {t1 t2 t3 t4 t5 : ClassId} {m0 m1 m2 m3 m4 m5 m6 : Nat} {tc : ClassId} {o oD : Nat} {tj td : ClassId} {H : Heap} {locs : List Loc} {ls : Array Slot} (hK : va_K D vwCl (tLw t1 t2 t3 t4 t5 tc tj td) s) (hG : gP tE A s) (hP : va_P D vwCl (wLw tE h0 a1 a2 a3 a4 a5 h6 s0 s1 s2 s3 m0 m1 m2 m3 m4 m5 m6 o oD t1 t2 t3 t4 t5 tc tj td) H) (hD : va_D A (wLw tE h0 a1 a2 a3 a4 a5 h6 s0 s1 s2 s3 m0 m1 m2 m3 m4 m5 m6 o oD t1 t2 t3 t4 t5 tc tj td)) (hS : va_S A s.heap H locs) (hl : lv_has ls 9 [(5, .int 0), (4, .ref oD), (3, .ref o), (2, .ref m0), (1, .ref h0), (0, .ref b)]) : W p l e room_1 s m #[Value.ref b] below meth c H locs 25 221 (lw_Z below #[Value.ref b] s) (F0 m 2186 ls []) := by
  obtain ⟨hx, hb, hr, hml, hown0, hts, hX, hbl, hlocks, hgv⟩ := id C0
  have hta : ∀ w ∈ WA, w.before #[Value.ref b] s = true := fun w h => hts w (WA_in w h)
  have hown : s.vm.findClass "FoundrymarkLaw" = some m.cls := hown0
  have hbA : ¬ A b := fun h => absurd (hA2 b h) (Nat.not_le.mpr hbl)
  refine lv_aload_n hx hb dL_law_2186 rfl (lv_at hl 4 rfl) ?_
  refine lv_aload_n hx hb dL_law_2187 rfl (lv_at hl 5 rfl) ?_
  refine lv_iload hx hb dL_law_2188 (lv_at hl 0 rfl) ?_
  refine lv_iconst (v := 1) hx hb dL_law_2190 (by decide) ?_
  refine lv_iadd hx hb dL_law_2191 ?_
  refine lv_topi (fun x1 ex1 => ?_)
  obtain rfl : x1 = 1 := ex1.trans (by decide)
  refine va_sld hx hb hX hbl hbA hS (i := 1) (by unfold vp_in; decide) dL_law_2192 ?_
  refine W.eq (g2 := F0 m 2193 ls [.int (xs 1), .ref h0]) rfl ?_
  refine lv_aload_n hx hb dL_law_2193 rfl (lv_at hl 2 rfl) ?_
  have hPc := hP.sub (ws' := (wX h0 a1 a2 a3 a4 a5 h6 s0 s1 s2 s3 t1 t2 t3 t4 t5)) [0, 1, 2, 3, 4, 5, 6, 7, 8, 9, 10] rfl
  have hKc := hK.sub (tys' := (tX t1 t2 t3 t4 t5)) [0, 1, 2, 3, 4] rfl
  have hDc := hD.sub (ws' := (wX h0 a1 a2 a3 a4 a5 h6 s0 s1 s2 s3 t1 t2 t3 t4 t5)) [0, 1, 2, 3, 4, 5, 6, 7, 8, 9, 10] (by decide) rfl
  have hFc := va_free (wc := (wX h0 a1 a2 a3 a4 a5 h6 s0 s1 s2 s3 t1 t2 t3 t4 t5)) hD hS hA [0, 1, 2, 3, 4, 5, 6, 7, 8, 9, 10] rfl
  refine gJ_i (isC := [0, 1, 2, 3, 4, 5, 6, 7, 8, 9, 10]) (isR := [11, 12, 13, 14, 15, 16, 17, 18]) (wr := [(m0, .inr (20, [.int 0, .ref m1, .ref m2, .ref m3, .ref m4, .int 0, .ref m5, .ref m6, .int 0])), (m1, .inr (4, [.int 0, .ref tE, .int 0])), (m2, .inr (4, [.int 0, .ref tE, .int 0])), (m3, .inr (4, [.int 0, .ref tE, .int 0])), (m4, .inr (4, [.int 0, .ref tE, .int 0])), (m5, .inl (tc, 4, .inl (upd (upd (upd (upd (fun _ => 0) 0 110) 1 110) 2 110) 3 110))), (o, .inl (tj, 1, .inr (.inl (fun _ => 0)))), (oD, .inl (td, 1, .inr (.inr (.inr (.inl (fun _ => 0))))))]) (vx_runSW (As := [.ref h0, .int (xs 1), .ref o]) (rest := []) ⟨hx, hb, hml, hown, hta⟩ (c_L_lotsIn l hl0 ) (vx_cwSW 3 hta (gWSW mw630 mw631 mw416 mw629) rfl rfl rfl (by decide +kernel) ⟨Nat.le_of_ble_eq_true rfl, Nat.le_of_ble_eq_true rfl⟩) ⟨gS_blind, fun U hU hW => ⟨rfl, by rw [hU], by rw [hU]; exact hPc, va_K.moved hW.alike hKc, hDc.weaken (fun _ _ _ _ => trivial), hG.call hS hU hW hFc⟩⟩ rfl rfl hl.1 rfl (lv_room (Nat.le_of_ble_eq_true rfl)) dL_law_2194 ⟨Nat.le_of_ble_eq_true rfl, Nat.le_of_ble_eq_true rfl⟩) hP hD hS hK hFc rfl rfl (by decide) (by decide) (fun r2 u3 H locs h4 hP hD hS hK => ?_)
  obtain rfl : r2 = 1 := h4
  have hK : va_K D vwCl (tLw t1 t2 t3 t4 t5 tc tj td) s := hK
  have hP : va_P D vwCl [(m0, .inr (20, [.int 0, .ref m1, .ref m2, .ref m3, .ref m4, .int 0, .ref m5, .ref m6, .int 0])), (m1, .inr (4, [.int 0, .ref tE, .int 0])), (m2, .inr (4, [.int 0, .ref tE, .int 0])), (m3, .inr (4, [.int 0, .ref tE, .int 0])), (m4, .inr (4, [.int 0, .ref tE, .int 0])), (m5, .inl (tc, 4, .inl (upd (upd (upd (upd (fun _ => 0) 0 110) 1 110) 2 110) 3 110))), (o, .inl (tj, 1, .inr (.inl (fun _ => 0)))), (oD, .inl (td, 1, .inr (.inr (.inr (.inl (fun _ => 0))))))] H := hP
  have hD : va_D A [(m0, .inr (20, [.int 0, .ref m1, .ref m2, .ref m3, .ref m4, .int 0, .ref m5, .ref m6, .int 0])), (m1, .inr (4, [.int 0, .ref tE, .int 0])), (m2, .inr (4, [.int 0, .ref tE, .int 0])), (m3, .inr (4, [.int 0, .ref tE, .int 0])), (m4, .inr (4, [.int 0, .ref tE, .int 0])), (m5, .inl (tc, 4, .inl (upd (upd (upd (upd (fun _ => 0) 0 110) 1 110) 2 110) 3 110))), (o, .inl (tj, 1, .inr (.inl (fun _ => 0)))), (oD, .inl (td, 1, .inr (.inr (.inr (.inl (fun _ => 0))))))] := hD
  refine lv_istore (lv' := [(6, .int 1), (5, .int 0), (4, .ref oD), (3, .ref o), (2, .ref m0), (1, .ref h0), (0, .ref b)]) hx hb dL_law_2197 hl (by decide) rfl (fun ls hl => ?_)
  refine lv_aload_n hx hb dL_law_2199 rfl (lv_at hl 4 rfl) ?_
  refine lv_aload_n hx hb dL_law_2200 rfl (lv_at hl 6 rfl) ?_
  refine lv_iload hx hb dL_law_2201 (lv_at hl 1 rfl) ?_
  refine lv_iconst (v := 1) hx hb dL_law_2203 (by decide) ?_
  refine lv_iadd hx hb dL_law_2204 ?_
  refine lv_topi (fun x5 ex5 => ?_)
  obtain rfl : x5 = 1 := ex5.trans (by decide)
  refine va_sld hx hb hX hbl hbA hS (i := 1) (by unfold vp_in; decide) dL_law_2205 ?_
  refine W.eq (g2 := F0 m 2206 ls [.int (xs 1), .ref m0]) rfl ?_
  have hPc := hP.sub (ws' := (wM tE m0 m1 m2 m3 m4 m5 m6 tc 0 0)) [0, 1, 2, 3, 4, 5] rfl
  have hKc := hK.sub (tys' := [(tc, .char)]) [5] rfl
  have hDc := hD.sub (ws' := (wM tE m0 m1 m2 m3 m4 m5 m6 tc 0 0)) [0, 1, 2, 3, 4, 5] (by decide) rfl
  have hFc := va_free (wc := (wM tE m0 m1 m2 m3 m4 m5 m6 tc 0 0)) hD hS hA [0, 1, 2, 3, 4, 5] rfl
  refine gJ_i (isC := [0, 1, 2, 3, 4, 5]) (isR := [6, 7]) (wr := [(o, .inl (tj, 1, .inr (.inl (fun _ => 0)))), (oD, .inl (td, 1, .inr (.inr (.inr (.inl (fun _ => 0))))))]) (va_runV (As := [.int (xs 1)]) (rest := []) ⟨hx, hb, hml, hown, hta⟩ (c_X15_lotsIn l ) (cwV 1 hta (gWV mw633 mw634 mw635 mw176 mw632) rfl rfl rfl (by decide +kernel) ⟨Nat.le_of_ble_eq_true rfl, Nat.le_of_ble_eq_true rfl⟩) ⟨gS_blind, va_recv hKc hPc (ci := 20) (q0 := 0) rfl rfl, fun U hU hW => ⟨rfl, by rw [hU], by rw [hU]; exact hPc, va_K.moved hW.alike hKc, hDc.weaken (fun _ _ _ _ => trivial), hG.call hS hU hW hFc⟩⟩ rfl rfl hl.1 rfl (lv_room (Nat.le_of_ble_eq_true rfl)) dL_law_2206 ⟨Nat.le_of_ble_eq_true rfl, Nat.le_of_ble_eq_true rfl⟩) hP hD hS hK hFc rfl rfl (by decide) (by decide) (fun r6 u7 H locs h8 hP hD hS hK => ?_)
  obtain rfl : r6 = 0 := h8
  have hK : va_K D vwCl (tLw t1 t2 t3 t4 t5 tc tj td) s := hK
  have hP : va_P D vwCl [(o, .inl (tj, 1, .inr (.inl (fun _ => 0)))), (oD, .inl (td, 1, .inr (.inr (.inr (.inl (fun _ => 0)))))), (m0, .inr (20, [.int 1, .ref m1, .ref m2, .ref m3, .ref m4, .int 0, .ref m5, .ref m6, .int 0])), (m1, .inr (4, [.int 0, .ref tE, .int 0])), (m2, .inr (4, [.int 0, .ref tE, .int 0])), (m3, .inr (4, [.int 0, .ref tE, .int 0])), (m4, .inr (4, [.int 0, .ref tE, .int 0])), (m5, .inl (tc, 4, .inl (upd (upd (upd (upd (fun _ => 0) 0 110) 1 110) 2 110) 3 110)))] H := hP
  have hD : va_D A [(o, .inl (tj, 1, .inr (.inl (fun _ => 0)))), (oD, .inl (td, 1, .inr (.inr (.inr (.inl (fun _ => 0)))))), (m0, .inr (20, [.int 1, .ref m1, .ref m2, .ref m3, .ref m4, .int 0, .ref m5, .ref m6, .int 0])), (m1, .inr (4, [.int 0, .ref tE, .int 0])), (m2, .inr (4, [.int 0, .ref tE, .int 0])), (m3, .inr (4, [.int 0, .ref tE, .int 0])), (m4, .inr (4, [.int 0, .ref tE, .int 0])), (m5, .inl (tc, 4, .inl (upd (upd (upd (upd (fun _ => 0) 0 110) 1 110) 2 110) 3 110)))] := hD
  refine lv_istore (lv' := [(7, .int 0), (6, .int 1), (5, .int 0), (4, .ref oD), (3, .ref o), (2, .ref m0), (1, .ref h0), (0, .ref b)]) hx hb dL_law_2209 hl (by decide) rfl (fun ls hl => ?_)
  refine lv_aload_n hx hb dL_law_2211 rfl (lv_at hl 5 rfl) ?_
  have hPc := hP.sub (ws' := [(m0, .inr (20, [.int 1, .ref m1, .ref m2, .ref m3, .ref m4, .int 0, .ref m5, .ref m6, .int 0]))]) [2] rfl
  have hKc := hK.sub (tys' := []) [] rfl
  refine vp_callSi (W.runV (As := []) (rest := []) ⟨hx, hb, hml, hown, hta⟩ (c_X15_thrown l ) (cwV 0 hta (gWV mw422 mw423 mw424 mw176 mw421) rfl rfl rfl (by decide +kernel) ⟨Nat.le_of_ble_eq_true rfl, Nat.le_of_ble_eq_true rfl⟩) ⟨gR_blind, va_recv hKc hPc (ci := 20) (q0 := 0) rfl rfl, fun U hU hW => ⟨rfl, by rw [hU]; exact hPc, va_K.moved hW.alike hKc⟩⟩ rfl rfl hl.1 rfl (lv_room (Nat.le_of_ble_eq_true rfl)) dL_law_2212 ⟨Nat.le_of_ble_eq_true rfl, Nat.le_of_ble_eq_true rfl⟩) (fun r9 h10 => ?_)
  obtain rfl : r9 = 1 := h10
  refine lv_iload hx hb dL_law_2215 (lv_at hl 1 rfl) ?_
  refine lv_icmp_eq (tgt := 2222) hx hb dL_law_2217 (by decide) (fun c11 => ?_) (fun c11 => ?_)
  · skip
    refine lv_iload hx hb dL_law_2222 (lv_at hl 1 rfl) ?_
    refine lv_if_ne (tgt := 2239) hx hb dL_law_2224 (by decide) (fun c12 => ?_) (fun c12 => ?_)
    · skip
      refine lv_goto (tgt := 2441) hx hb dL_law_2239 (by decide) ?_
      exact law_tail l C0 hA2 hS (lv_sub hl [7, 2] rfl) (Nat.le_of_ble_eq_true rfl) (Nat.le_of_ble_eq_true rfl)
    · exact absurd c12 (by decide)
  · exact absurd (by decide) c11

set_option maxHeartbeats 4000000 in
set_option maxRecDepth 100000 in
theorem lc_31 {p : Program} {e : Env} {s : State} {m : MethodId} {below : List Frame} {meth : Method} {c : Code} (l : Launch) (hl0 : l.stackTraces = false) {b : Nat} {xs : Nat → Int32} (C0 : lw_At p s m meth c b 6 xs) {A : Nat → Prop} (hA : ∀ q, s.heap.size ≤ q → A q) (hA2 : ∀ q, A q → s.heap.size ≤ q) {D : va_G} {tE : Nat} {h0 a1 a2 a3 a4 a5 h6 s0 s1 s2 s3 : Nat} {t1 t2 t3 t4 t5 : ClassId} {m0 m1 m2 m3 m4 m5 m6 : Nat} {tc : ClassId} {o oD : Nat} {tj td : ClassId} {H : Heap} {locs : List Loc} {ls : Array Slot} (hK : va_K D vwCl (tLw t1 t2 t3 t4 t5 tc tj td) s) (hG : gP tE A s) (hP : va_P D vwCl (wLw tE h0 a1 a2 a3 a4 a5 h6 s0 s1 s2 s3 m0 m1 m2 m3 m4 m5 m6 o oD t1 t2 t3 t4 t5 tc tj td) H) (hD : va_D A (wLw tE h0 a1 a2 a3 a4 a5 h6 s0 s1 s2 s3 m0 m1 m2 m3 m4 m5 m6 o oD t1 t2 t3 t4 t5 tc tj td)) (hS : va_S A s.heap H locs) (hl : lv_has ls 9 [(5, .int 0), (4, .ref oD), (3, .ref o), (2, .ref m0), (1, .ref h0), (0, .ref b)]) : W p l e room_1 s m #[Value.ref b] below meth c H locs 25 221 (lw_Z below #[Value.ref b] s) (F0 m 2242 ls []) := by
  obtain ⟨hx, hb, hr, hml, hown0, hts, hX, hbl, hlocks, hgv⟩ := id C0
  have hta : ∀ w ∈ WA, w.before #[Value.ref b] s = true := fun w h => hts w (WA_in w h)
  have hown : s.vm.findClass "FoundrymarkLaw" = some m.cls := hown0
  have hbA : ¬ A b := fun h => absurd (hA2 b h) (Nat.not_le.mpr hbl)
  refine lv_aload_n hx hb dL_law_2242 rfl (lv_at hl 4 rfl) ?_
  refine lv_aload_n hx hb dL_law_2243 rfl (lv_at hl 5 rfl) ?_
  refine lv_iload hx hb dL_law_2244 (lv_at hl 0 rfl) ?_
  refine lv_iconst (v := 1) hx hb dL_law_2246 (by decide) ?_
  refine lv_iadd hx hb dL_law_2247 ?_
  refine lv_topi (fun x1 ex1 => ?_)
  obtain rfl : x1 = 1 := ex1.trans (by decide)
  refine va_sld hx hb hX hbl hbA hS (i := 1) (by unfold vp_in; decide) dL_law_2248 ?_
  refine W.eq (g2 := F0 m 2249 ls [.int (xs 1), .ref h0]) rfl ?_
  refine lv_aload_n hx hb dL_law_2249 rfl (lv_at hl 2 rfl) ?_
  have hPc := hP.sub (ws' := (wX h0 a1 a2 a3 a4 a5 h6 s0 s1 s2 s3 t1 t2 t3 t4 t5)) [0, 1, 2, 3, 4, 5, 6, 7, 8, 9, 10] rfl
  have hKc := hK.sub (tys' := (tX t1 t2 t3 t4 t5)) [0, 1, 2, 3, 4] rfl
  have hDc := hD.sub (ws' := (wX h0 a1 a2 a3 a4 a5 h6 s0 s1 s2 s3 t1 t2 t3 t4 t5)) [0, 1, 2, 3, 4, 5, 6, 7, 8, 9, 10] (by decide) rfl
  have hFc := va_free (wc := (wX h0 a1 a2 a3 a4 a5 h6 s0 s1 s2 s3 t1 t2 t3 t4 t5)) hD hS hA [0, 1, 2, 3, 4, 5, 6, 7, 8, 9, 10] rfl
  refine gJ_i (isC := [0, 1, 2, 3, 4, 5, 6, 7, 8, 9, 10]) (isR := [11, 12, 13, 14, 15, 16, 17, 18]) (wr := [(m0, .inr (20, [.int 0, .ref m1, .ref m2, .ref m3, .ref m4, .int 0, .ref m5, .ref m6, .int 0])), (m1, .inr (4, [.int 0, .ref tE, .int 0])), (m2, .inr (4, [.int 0, .ref tE, .int 0])), (m3, .inr (4, [.int 0, .ref tE, .int 0])), (m4, .inr (4, [.int 0, .ref tE, .int 0])), (m5, .inl (tc, 4, .inl (upd (upd (upd (upd (fun _ => 0) 0 110) 1 110) 2 110) 3 110))), (o, .inl (tj, 1, .inr (.inl (fun _ => 0)))), (oD, .inl (td, 1, .inr (.inr (.inr (.inl (fun _ => 0))))))]) (vx_runSW (As := [.ref h0, .int (xs 1), .ref o]) (rest := []) ⟨hx, hb, hml, hown, hta⟩ (c_L_deliveredCost l hl0 ) (vx_cwSW 3 hta (gWSW mw637 mw638 mw416 mw636) rfl rfl rfl (by decide +kernel) ⟨Nat.le_of_ble_eq_true rfl, Nat.le_of_ble_eq_true rfl⟩) ⟨gS_blind, fun U hU hW => ⟨rfl, by rw [hU], by rw [hU]; exact hPc, va_K.moved hW.alike hKc, hDc.weaken (fun _ _ _ _ => trivial), hG.call hS hU hW hFc⟩⟩ rfl rfl hl.1 rfl (lv_room (Nat.le_of_ble_eq_true rfl)) dL_law_2250 ⟨Nat.le_of_ble_eq_true rfl, Nat.le_of_ble_eq_true rfl⟩) hP hD hS hK hFc rfl rfl (by decide) (by decide) (fun r2 u3 H locs h4 hP hD hS hK => ?_)
  obtain rfl : r2 = 1 := h4
  have hK : va_K D vwCl (tLw t1 t2 t3 t4 t5 tc tj td) s := hK
  have hP : va_P D vwCl [(m0, .inr (20, [.int 0, .ref m1, .ref m2, .ref m3, .ref m4, .int 0, .ref m5, .ref m6, .int 0])), (m1, .inr (4, [.int 0, .ref tE, .int 0])), (m2, .inr (4, [.int 0, .ref tE, .int 0])), (m3, .inr (4, [.int 0, .ref tE, .int 0])), (m4, .inr (4, [.int 0, .ref tE, .int 0])), (m5, .inl (tc, 4, .inl (upd (upd (upd (upd (fun _ => 0) 0 110) 1 110) 2 110) 3 110))), (o, .inl (tj, 1, .inr (.inl (fun _ => 0)))), (oD, .inl (td, 1, .inr (.inr (.inr (.inl (fun _ => 0))))))] H := hP
  have hD : va_D A [(m0, .inr (20, [.int 0, .ref m1, .ref m2, .ref m3, .ref m4, .int 0, .ref m5, .ref m6, .int 0])), (m1, .inr (4, [.int 0, .ref tE, .int 0])), (m2, .inr (4, [.int 0, .ref tE, .int 0])), (m3, .inr (4, [.int 0, .ref tE, .int 0])), (m4, .inr (4, [.int 0, .ref tE, .int 0])), (m5, .inl (tc, 4, .inl (upd (upd (upd (upd (fun _ => 0) 0 110) 1 110) 2 110) 3 110))), (o, .inl (tj, 1, .inr (.inl (fun _ => 0)))), (oD, .inl (td, 1, .inr (.inr (.inr (.inl (fun _ => 0))))))] := hD
  refine lv_istore (lv' := [(6, .int 1), (5, .int 0), (4, .ref oD), (3, .ref o), (2, .ref m0), (1, .ref h0), (0, .ref b)]) hx hb dL_law_2253 hl (by decide) rfl (fun ls hl => ?_)
  refine lv_aload_n hx hb dL_law_2255 rfl (lv_at hl 4 rfl) ?_
  refine lv_aload_n hx hb dL_law_2256 rfl (lv_at hl 6 rfl) ?_
  refine lv_iload hx hb dL_law_2257 (lv_at hl 1 rfl) ?_
  refine lv_iconst (v := 1) hx hb dL_law_2259 (by decide) ?_
  refine lv_iadd hx hb dL_law_2260 ?_
  refine lv_topi (fun x5 ex5 => ?_)
  obtain rfl : x5 = 1 := ex5.trans (by decide)
  refine va_sld hx hb hX hbl hbA hS (i := 1) (by unfold vp_in; decide) dL_law_2261 ?_
  refine W.eq (g2 := F0 m 2262 ls [.int (xs 1), .ref m0]) rfl ?_
  have hPc := hP.sub (ws' := (wM tE m0 m1 m2 m3 m4 m5 m6 tc 0 0)) [0, 1, 2, 3, 4, 5] rfl
  have hKc := hK.sub (tys' := [(tc, .char)]) [5] rfl
  have hDc := hD.sub (ws' := (wM tE m0 m1 m2 m3 m4 m5 m6 tc 0 0)) [0, 1, 2, 3, 4, 5] (by decide) rfl
  have hFc := va_free (wc := (wM tE m0 m1 m2 m3 m4 m5 m6 tc 0 0)) hD hS hA [0, 1, 2, 3, 4, 5] rfl
  refine gJ_l (isC := [0, 1, 2, 3, 4, 5]) (isR := [6, 7]) (wr := [(o, .inl (tj, 1, .inr (.inl (fun _ => 0)))), (oD, .inl (td, 1, .inr (.inr (.inr (.inl (fun _ => 0))))))]) (va_runV (As := [.int (xs 1)]) (rest := []) ⟨hx, hb, hml, hown, hta⟩ (c_X15_deliveredCost l ) (cwV 1 hta (gWV mw640 mw641 mw642 mw176 mw639) rfl rfl rfl (by decide +kernel) ⟨Nat.le_of_ble_eq_true rfl, Nat.le_of_ble_eq_true rfl⟩) ⟨gS_blind, va_recv hKc hPc (ci := 20) (q0 := 0) rfl rfl, fun U hU hW => ⟨rfl, by rw [hU], by rw [hU]; exact hPc, va_K.moved hW.alike hKc, hDc.weaken (fun _ _ _ _ => trivial), hG.call hS hU hW hFc⟩⟩ rfl rfl hl.1 rfl (lv_room (Nat.le_of_ble_eq_true rfl)) dL_law_2262 ⟨Nat.le_of_ble_eq_true rfl, Nat.le_of_ble_eq_true rfl⟩) hP hD hS hK hFc rfl rfl (by decide) (by decide) (fun r6 u7 H locs h8 hP hD hS hK => ?_)
  obtain rfl : r6 = 0 := h8
  have hK : va_K D vwCl (tLw t1 t2 t3 t4 t5 tc tj td) s := hK
  have hP : va_P D vwCl [(o, .inl (tj, 1, .inr (.inl (fun _ => 0)))), (oD, .inl (td, 1, .inr (.inr (.inr (.inl (fun _ => 0)))))), (m0, .inr (20, [.int 1, .ref m1, .ref m2, .ref m3, .ref m4, .int 0, .ref m5, .ref m6, .int 0])), (m1, .inr (4, [.int 0, .ref tE, .int 0])), (m2, .inr (4, [.int 0, .ref tE, .int 0])), (m3, .inr (4, [.int 0, .ref tE, .int 0])), (m4, .inr (4, [.int 0, .ref tE, .int 0])), (m5, .inl (tc, 4, .inl (upd (upd (upd (upd (fun _ => 0) 0 110) 1 110) 2 110) 3 110)))] H := hP
  have hD : va_D A [(o, .inl (tj, 1, .inr (.inl (fun _ => 0)))), (oD, .inl (td, 1, .inr (.inr (.inr (.inl (fun _ => 0)))))), (m0, .inr (20, [.int 1, .ref m1, .ref m2, .ref m3, .ref m4, .int 0, .ref m5, .ref m6, .int 0])), (m1, .inr (4, [.int 0, .ref tE, .int 0])), (m2, .inr (4, [.int 0, .ref tE, .int 0])), (m3, .inr (4, [.int 0, .ref tE, .int 0])), (m4, .inr (4, [.int 0, .ref tE, .int 0])), (m5, .inl (tc, 4, .inl (upd (upd (upd (upd (fun _ => 0) 0 110) 1 110) 2 110) 3 110)))] := hD
  refine lv_lstore (lv' := [(7, .long 0), (6, .int 1), (5, .int 0), (4, .ref oD), (3, .ref o), (2, .ref m0), (1, .ref h0), (0, .ref b)]) hx hb dL_law_2265 hl (by decide) rfl (fun ls hl => ?_)
  refine lv_aload_n hx hb dL_law_2267 rfl (lv_at hl 5 rfl) ?_
  have hPc := hP.sub (ws' := [(m0, .inr (20, [.int 1, .ref m1, .ref m2, .ref m3, .ref m4, .int 0, .ref m5, .ref m6, .int 0]))]) [2] rfl
  have hKc := hK.sub (tys' := []) [] rfl
  refine vp_callSi (W.runV (As := []) (rest := []) ⟨hx, hb, hml, hown, hta⟩ (c_X15_thrown l ) (cwV 0 hta (gWV mw422 mw423 mw424 mw176 mw421) rfl rfl rfl (by decide +kernel) ⟨Nat.le_of_ble_eq_true rfl, Nat.le_of_ble_eq_true rfl⟩) ⟨gR_blind, va_recv hKc hPc (ci := 20) (q0 := 0) rfl rfl, fun U hU hW => ⟨rfl, by rw [hU]; exact hPc, va_K.moved hW.alike hKc⟩⟩ rfl rfl hl.1 rfl (lv_room (Nat.le_of_ble_eq_true rfl)) dL_law_2268 ⟨Nat.le_of_ble_eq_true rfl, Nat.le_of_ble_eq_true rfl⟩) (fun r9 h10 => ?_)
  obtain rfl : r9 = 1 := h10
  refine lv_iload hx hb dL_law_2271 (lv_at hl 1 rfl) ?_
  refine lv_icmp_eq (tgt := 2278) hx hb dL_law_2273 (by decide) (fun c11 => ?_) (fun c11 => ?_)
  · skip
    refine lv_iload hx hb dL_law_2278 (lv_at hl 1 rfl) ?_
    refine lv_if_ne (tgt := 2294) hx hb dL_law_2280 (by decide) (fun c12 => ?_) (fun c12 => ?_)
    · skip
      refine lv_goto (tgt := 2441) hx hb dL_law_2294 (by decide) ?_
      exact law_tail l C0 hA2 hS (lv_sub hl [7, 2] rfl) (Nat.le_of_ble_eq_true rfl) (Nat.le_of_ble_eq_true rfl)
    · exact absurd c12 (by decide)
  · exact absurd (by decide) c11

set_option maxHeartbeats 4000000 in
set_option maxRecDepth 100000 in
theorem lc_32 {p : Program} {e : Env} {s : State} {m : MethodId} {below : List Frame} {meth : Method} {c : Code} (l : Launch) (hl0 : l.stackTraces = false) {b : Nat} {xs : Nat → Int32} (C0 : lw_At p s m meth c b 6 xs) {A : Nat → Prop} (hA : ∀ q, s.heap.size ≤ q → A q) (hA2 : ∀ q, A q → s.heap.size ≤ q) {D : va_G} {tE : Nat} {h0 a1 a2 a3 a4 a5 h6 s0 s1 s2 s3 : Nat} {t1 t2 t3 t4 t5 : ClassId} {m0 m1 m2 m3 m4 m5 m6 : Nat} {tc : ClassId} {o oD : Nat} {tj td : ClassId} {H : Heap} {locs : List Loc} {ls : Array Slot} (hK : va_K D vwCl (tLw t1 t2 t3 t4 t5 tc tj td) s) (hG : gP tE A s) (hP : va_P D vwCl (wLw tE h0 a1 a2 a3 a4 a5 h6 s0 s1 s2 s3 m0 m1 m2 m3 m4 m5 m6 o oD t1 t2 t3 t4 t5 tc tj td) H) (hD : va_D A (wLw tE h0 a1 a2 a3 a4 a5 h6 s0 s1 s2 s3 m0 m1 m2 m3 m4 m5 m6 o oD t1 t2 t3 t4 t5 tc tj td)) (hS : va_S A s.heap H locs) (hl : lv_has ls 9 [(5, .int 0), (4, .ref oD), (3, .ref o), (2, .ref m0), (1, .ref h0), (0, .ref b)]) : W p l e room_1 s m #[Value.ref b] below meth c H locs 25 221 (lw_Z below #[Value.ref b] s) (F0 m 2297 ls []) := by
  obtain ⟨hx, hb, hr, hml, hown0, hts, hX, hbl, hlocks, hgv⟩ := id C0
  have hta : ∀ w ∈ WA, w.before #[Value.ref b] s = true := fun w h => hts w (WA_in w h)
  have hown : s.vm.findClass "FoundrymarkLaw" = some m.cls := hown0
  have hbA : ¬ A b := fun h => absurd (hA2 b h) (Nat.not_le.mpr hbl)
  refine lv_aload_n hx hb dL_law_2297 rfl (lv_at hl 4 rfl) ?_
  refine lv_aload hx hb dL_law_2298 (lv_at hl 1 rfl) ?_
  have hPc := hP.sub (ws' := (wX h0 a1 a2 a3 a4 a5 h6 s0 s1 s2 s3 t1 t2 t3 t4 t5)) [0, 1, 2, 3, 4, 5, 6, 7, 8, 9, 10] rfl
  have hKc := hK.sub (tys' := (tX t1 t2 t3 t4 t5)) [0, 1, 2, 3, 4] rfl
  have hDc := hD.sub (ws' := (wX h0 a1 a2 a3 a4 a5 h6 s0 s1 s2 s3 t1 t2 t3 t4 t5)) [0, 1, 2, 3, 4, 5, 6, 7, 8, 9, 10] (by decide) rfl
  have hFc := va_free (wc := (wX h0 a1 a2 a3 a4 a5 h6 s0 s1 s2 s3 t1 t2 t3 t4 t5)) hD hS hA [0, 1, 2, 3, 4, 5, 6, 7, 8, 9, 10] rfl
  refine gJ_i (isC := [0, 1, 2, 3, 4, 5, 6, 7, 8, 9, 10]) (isR := [11, 12, 13, 14, 15, 16, 17, 18]) (wr := [(m0, .inr (20, [.int 0, .ref m1, .ref m2, .ref m3, .ref m4, .int 0, .ref m5, .ref m6, .int 0])), (m1, .inr (4, [.int 0, .ref tE, .int 0])), (m2, .inr (4, [.int 0, .ref tE, .int 0])), (m3, .inr (4, [.int 0, .ref tE, .int 0])), (m4, .inr (4, [.int 0, .ref tE, .int 0])), (m5, .inl (tc, 4, .inl (upd (upd (upd (upd (fun _ => 0) 0 110) 1 110) 2 110) 3 110))), (o, .inl (tj, 1, .inr (.inl (fun _ => 0)))), (oD, .inl (td, 1, .inr (.inr (.inr (.inl (fun _ => 0))))))]) (vx_runSW (As := [.ref h0, .ref oD]) (rest := []) ⟨hx, hb, hml, hown, hta⟩ (c_L_inTimeShare l hl0 ) (vx_cwSW 2 hta (gWSW mw644 mw645 mw416 mw643) rfl rfl rfl (by decide +kernel) ⟨Nat.le_of_ble_eq_true rfl, Nat.le_of_ble_eq_true rfl⟩) ⟨gS_blind, fun U hU hW => ⟨rfl, by rw [hU], by rw [hU]; exact hPc, va_K.moved hW.alike hKc, hDc.weaken (fun _ _ _ _ => trivial), hG.call hS hU hW hFc⟩⟩ rfl rfl hl.1 rfl (lv_room (Nat.le_of_ble_eq_true rfl)) dL_law_2300 ⟨Nat.le_of_ble_eq_true rfl, Nat.le_of_ble_eq_true rfl⟩) hP hD hS hK hFc rfl rfl (by decide) (by decide) (fun r1 u2 H locs h3 hP hD hS hK => ?_)
  obtain rfl : r1 = 1 := h3
  have hK : va_K D vwCl (tLw t1 t2 t3 t4 t5 tc tj td) s := hK
  have hP : va_P D vwCl [(m0, .inr (20, [.int 0, .ref m1, .ref m2, .ref m3, .ref m4, .int 0, .ref m5, .ref m6, .int 0])), (m1, .inr (4, [.int 0, .ref tE, .int 0])), (m2, .inr (4, [.int 0, .ref tE, .int 0])), (m3, .inr (4, [.int 0, .ref tE, .int 0])), (m4, .inr (4, [.int 0, .ref tE, .int 0])), (m5, .inl (tc, 4, .inl (upd (upd (upd (upd (fun _ => 0) 0 110) 1 110) 2 110) 3 110))), (o, .inl (tj, 1, .inr (.inl (fun _ => 0)))), (oD, .inl (td, 1, .inr (.inr (.inr (.inl (fun _ => 0))))))] H := hP
  have hD : va_D A [(m0, .inr (20, [.int 0, .ref m1, .ref m2, .ref m3, .ref m4, .int 0, .ref m5, .ref m6, .int 0])), (m1, .inr (4, [.int 0, .ref tE, .int 0])), (m2, .inr (4, [.int 0, .ref tE, .int 0])), (m3, .inr (4, [.int 0, .ref tE, .int 0])), (m4, .inr (4, [.int 0, .ref tE, .int 0])), (m5, .inl (tc, 4, .inl (upd (upd (upd (upd (fun _ => 0) 0 110) 1 110) 2 110) 3 110))), (o, .inl (tj, 1, .inr (.inl (fun _ => 0)))), (oD, .inl (td, 1, .inr (.inr (.inr (.inl (fun _ => 0))))))] := hD
  refine lv_istore (lv' := [(6, .int 1), (5, .int 0), (4, .ref oD), (3, .ref o), (2, .ref m0), (1, .ref h0), (0, .ref b)]) hx hb dL_law_2303 hl (by decide) rfl (fun ls hl => ?_)
  refine lv_aload_n hx hb dL_law_2305 rfl (lv_at hl 4 rfl) ?_
  have hPc := hP.sub (ws' := (wM tE m0 m1 m2 m3 m4 m5 m6 tc 0 0)) [0, 1, 2, 3, 4, 5] rfl
  have hKc := hK.sub (tys' := [(tc, .char)]) [5] rfl
  have hDc := hD.sub (ws' := (wM tE m0 m1 m2 m3 m4 m5 m6 tc 0 0)) [0, 1, 2, 3, 4, 5] (by decide) rfl
  have hFc := va_free (wc := (wM tE m0 m1 m2 m3 m4 m5 m6 tc 0 0)) hD hS hA [0, 1, 2, 3, 4, 5] rfl
  refine gJ_f (isC := [0, 1, 2, 3, 4, 5]) (isR := [6, 7]) (wr := [(o, .inl (tj, 1, .inr (.inl (fun _ => 0)))), (oD, .inl (td, 1, .inr (.inr (.inr (.inl (fun _ => 0))))))]) (va_runV (As := []) (rest := []) ⟨hx, hb, hml, hown, hta⟩ (c_X15_inTimeShare l ) (cwV 0 hta (gWV mw647 mw648 mw649 mw176 mw646) rfl rfl rfl (by decide +kernel) ⟨Nat.le_of_ble_eq_true rfl, Nat.le_of_ble_eq_true rfl⟩) ⟨gS_blind, va_recv hKc hPc (ci := 20) (q0 := 0) rfl rfl, fun U hU hW => ⟨rfl, by rw [hU], by rw [hU]; exact hPc, va_K.moved hW.alike hKc, hDc.weaken (fun _ _ _ _ => trivial), hG.call hS hU hW hFc⟩⟩ rfl rfl hl.1 rfl (lv_room (Nat.le_of_ble_eq_true rfl)) dL_law_2306 ⟨Nat.le_of_ble_eq_true rfl, Nat.le_of_ble_eq_true rfl⟩) hP hD hS hK hFc rfl rfl (by decide) (by decide) (fun r4 u5 H locs h6 hP hD hS hK => ?_)
  have hK : va_K D vwCl (tLw t1 t2 t3 t4 t5 tc tj td) s := hK
  have hP : va_P D vwCl [(o, .inl (tj, 1, .inr (.inl (fun _ => 0)))), (oD, .inl (td, 1, .inr (.inr (.inr (.inl (fun _ => 0)))))), (m0, .inr (20, [.int 1, .ref m1, .ref m2, .ref m3, .ref m4, .int 0, .ref m5, .ref m6, .int 0])), (m1, .inr (4, [.int 0, .ref tE, .int 0])), (m2, .inr (4, [.int 0, .ref tE, .int 0])), (m3, .inr (4, [.int 0, .ref tE, .int 0])), (m4, .inr (4, [.int 0, .ref tE, .int 0])), (m5, .inl (tc, 4, .inl (upd (upd (upd (upd (fun _ => 0) 0 110) 1 110) 2 110) 3 110)))] H := hP
  have hD : va_D A [(o, .inl (tj, 1, .inr (.inl (fun _ => 0)))), (oD, .inl (td, 1, .inr (.inr (.inr (.inl (fun _ => 0)))))), (m0, .inr (20, [.int 1, .ref m1, .ref m2, .ref m3, .ref m4, .int 0, .ref m5, .ref m6, .int 0])), (m1, .inr (4, [.int 0, .ref tE, .int 0])), (m2, .inr (4, [.int 0, .ref tE, .int 0])), (m3, .inr (4, [.int 0, .ref tE, .int 0])), (m4, .inr (4, [.int 0, .ref tE, .int 0])), (m5, .inl (tc, 4, .inl (upd (upd (upd (upd (fun _ => 0) 0 110) 1 110) 2 110) 3 110)))] := hD
  refine lv_fstore (lv' := [(7, .float r4), (6, .int 1), (5, .int 0), (4, .ref oD), (3, .ref o), (2, .ref m0), (1, .ref h0), (0, .ref b)]) hx hb dL_law_2309 hl (by decide) rfl (fun ls hl => ?_)
  refine lv_aload_n hx hb dL_law_2311 rfl (lv_at hl 5 rfl) ?_
  have hPc := hP.sub (ws' := [(m0, .inr (20, [.int 1, .ref m1, .ref m2, .ref m3, .ref m4, .int 0, .ref m5, .ref m6, .int 0]))]) [2] rfl
  have hKc := hK.sub (tys' := []) [] rfl
  refine vp_callSi (W.runV (As := []) (rest := []) ⟨hx, hb, hml, hown, hta⟩ (c_X15_thrown l ) (cwV 0 hta (gWV mw422 mw423 mw424 mw176 mw421) rfl rfl rfl (by decide +kernel) ⟨Nat.le_of_ble_eq_true rfl, Nat.le_of_ble_eq_true rfl⟩) ⟨gR_blind, va_recv hKc hPc (ci := 20) (q0 := 0) rfl rfl, fun U hU hW => ⟨rfl, by rw [hU]; exact hPc, va_K.moved hW.alike hKc⟩⟩ rfl rfl hl.1 rfl (lv_room (Nat.le_of_ble_eq_true rfl)) dL_law_2312 ⟨Nat.le_of_ble_eq_true rfl, Nat.le_of_ble_eq_true rfl⟩) (fun r7 h8 => ?_)
  obtain rfl : r7 = 1 := h8
  refine lv_iload hx hb dL_law_2315 (lv_at hl 1 rfl) ?_
  refine lv_icmp_eq (tgt := 2322) hx hb dL_law_2317 (by decide) (fun c9 => ?_) (fun c9 => ?_)
  · skip
    refine lv_iload hx hb dL_law_2322 (lv_at hl 1 rfl) ?_
    refine lv_if_ne (tgt := 2360) hx hb dL_law_2324 (by decide) (fun c10 => ?_) (fun c10 => ?_)
    · skip
      refine lv_goto (tgt := 2441) hx hb dL_law_2360 (by decide) ?_
      exact law_tail l C0 hA2 hS (lv_sub hl [7, 2] rfl) (Nat.le_of_ble_eq_true rfl) (Nat.le_of_ble_eq_true rfl)
    · exact absurd c10 (by decide)
  · exact absurd (by decide) c9

set_option maxHeartbeats 4000000 in
set_option maxRecDepth 100000 in
theorem lc_33 {p : Program} {e : Env} {s : State} {m : MethodId} {below : List Frame} {meth : Method} {c : Code} (l : Launch) (hl0 : l.stackTraces = false) {b : Nat} {xs : Nat → Int32} (C0 : lw_At p s m meth c b 6 xs) {A : Nat → Prop} (hA : ∀ q, s.heap.size ≤ q → A q) (hA2 : ∀ q, A q → s.heap.size ≤ q) {D : va_G} {tE : Nat} {h0 a1 a2 a3 a4 a5 h6 s0 s1 s2 s3 : Nat} {t1 t2 t3 t4 t5 : ClassId} {m0 m1 m2 m3 m4 m5 m6 : Nat} {tc : ClassId} {o oD : Nat} {tj td : ClassId} {H : Heap} {locs : List Loc} {ls : Array Slot} (hK : va_K D vwCl (tLw t1 t2 t3 t4 t5 tc tj td) s) (hG : gP tE A s) (hP : va_P D vwCl (wLw tE h0 a1 a2 a3 a4 a5 h6 s0 s1 s2 s3 m0 m1 m2 m3 m4 m5 m6 o oD t1 t2 t3 t4 t5 tc tj td) H) (hD : va_D A (wLw tE h0 a1 a2 a3 a4 a5 h6 s0 s1 s2 s3 m0 m1 m2 m3 m4 m5 m6 o oD t1 t2 t3 t4 t5 tc tj td)) (hS : va_S A s.heap H locs) (hl : lv_has ls 9 [(5, .int 0), (4, .ref oD), (3, .ref o), (2, .ref m0), (1, .ref h0), (0, .ref b)]) : W p l e room_1 s m #[Value.ref b] below meth c H locs 25 221 (lw_Z below #[Value.ref b] s) (F0 m 2363 ls []) := by
  obtain ⟨hx, hb, hr, hml, hown0, hts, hX, hbl, hlocks, hgv⟩ := id C0
  have hta : ∀ w ∈ WA, w.before #[Value.ref b] s = true := fun w h => hts w (WA_in w h)
  have hown : s.vm.findClass "FoundrymarkLaw" = some m.cls := hown0
  have hbA : ¬ A b := fun h => absurd (hA2 b h) (Nat.not_le.mpr hbl)
  refine lv_aload_n hx hb dL_law_2363 rfl (lv_at hl 4 rfl) ?_
  refine lv_aload hx hb dL_law_2364 (lv_at hl 1 rfl) ?_
  have hPc := hP.sub (ws' := (wX h0 a1 a2 a3 a4 a5 h6 s0 s1 s2 s3 t1 t2 t3 t4 t5)) [0, 1, 2, 3, 4, 5, 6, 7, 8, 9, 10] rfl
  have hKc := hK.sub (tys' := (tX t1 t2 t3 t4 t5)) [0, 1, 2, 3, 4] rfl
  have hDc := hD.sub (ws' := (wX h0 a1 a2 a3 a4 a5 h6 s0 s1 s2 s3 t1 t2 t3 t4 t5)) [0, 1, 2, 3, 4, 5, 6, 7, 8, 9, 10] (by decide) rfl
  have hFc := va_free (wc := (wX h0 a1 a2 a3 a4 a5 h6 s0 s1 s2 s3 t1 t2 t3 t4 t5)) hD hS hA [0, 1, 2, 3, 4, 5, 6, 7, 8, 9, 10] rfl
  refine gJ_i (isC := [0, 1, 2, 3, 4, 5, 6, 7, 8, 9, 10]) (isR := [11, 12, 13, 14, 15, 16, 17, 18]) (wr := [(m0, .inr (20, [.int 0, .ref m1, .ref m2, .ref m3, .ref m4, .int 0, .ref m5, .ref m6, .int 0])), (m1, .inr (4, [.int 0, .ref tE, .int 0])), (m2, .inr (4, [.int 0, .ref tE, .int 0])), (m3, .inr (4, [.int 0, .ref tE, .int 0])), (m4, .inr (4, [.int 0, .ref tE, .int 0])), (m5, .inl (tc, 4, .inl (upd (upd (upd (upd (fun _ => 0) 0 110) 1 110) 2 110) 3 110))), (o, .inl (tj, 1, .inr (.inl (fun _ => 0)))), (oD, .inl (td, 1, .inr (.inr (.inr (.inl (fun _ => 0))))))]) (vx_runSW (As := [.ref h0, .ref oD]) (rest := []) ⟨hx, hb, hml, hown, hta⟩ (c_L_meanBusy l hl0 ) (vx_cwSW 2 hta (gWSW mw651 mw652 mw416 mw650) rfl rfl rfl (by decide +kernel) ⟨Nat.le_of_ble_eq_true rfl, Nat.le_of_ble_eq_true rfl⟩) ⟨gS_blind, fun U hU hW => ⟨rfl, by rw [hU], by rw [hU]; exact hPc, va_K.moved hW.alike hKc, hDc.weaken (fun _ _ _ _ => trivial), hG.call hS hU hW hFc⟩⟩ rfl rfl hl.1 rfl (lv_room (Nat.le_of_ble_eq_true rfl)) dL_law_2366 ⟨Nat.le_of_ble_eq_true rfl, Nat.le_of_ble_eq_true rfl⟩) hP hD hS hK hFc rfl rfl (by decide) (by decide) (fun r1 u2 H locs h3 hP hD hS hK => ?_)
  obtain rfl : r1 = 1 := h3
  have hK : va_K D vwCl (tLw t1 t2 t3 t4 t5 tc tj td) s := hK
  have hP : va_P D vwCl [(m0, .inr (20, [.int 0, .ref m1, .ref m2, .ref m3, .ref m4, .int 0, .ref m5, .ref m6, .int 0])), (m1, .inr (4, [.int 0, .ref tE, .int 0])), (m2, .inr (4, [.int 0, .ref tE, .int 0])), (m3, .inr (4, [.int 0, .ref tE, .int 0])), (m4, .inr (4, [.int 0, .ref tE, .int 0])), (m5, .inl (tc, 4, .inl (upd (upd (upd (upd (fun _ => 0) 0 110) 1 110) 2 110) 3 110))), (o, .inl (tj, 1, .inr (.inl (fun _ => 0)))), (oD, .inl (td, 1, .inr (.inr (.inr (.inl (fun _ => 0))))))] H := hP
  have hD : va_D A [(m0, .inr (20, [.int 0, .ref m1, .ref m2, .ref m3, .ref m4, .int 0, .ref m5, .ref m6, .int 0])), (m1, .inr (4, [.int 0, .ref tE, .int 0])), (m2, .inr (4, [.int 0, .ref tE, .int 0])), (m3, .inr (4, [.int 0, .ref tE, .int 0])), (m4, .inr (4, [.int 0, .ref tE, .int 0])), (m5, .inl (tc, 4, .inl (upd (upd (upd (upd (fun _ => 0) 0 110) 1 110) 2 110) 3 110))), (o, .inl (tj, 1, .inr (.inl (fun _ => 0)))), (oD, .inl (td, 1, .inr (.inr (.inr (.inl (fun _ => 0))))))] := hD
  refine lv_istore (lv' := [(6, .int 1), (5, .int 0), (4, .ref oD), (3, .ref o), (2, .ref m0), (1, .ref h0), (0, .ref b)]) hx hb dL_law_2369 hl (by decide) rfl (fun ls hl => ?_)
  refine lv_aload_n hx hb dL_law_2371 rfl (lv_at hl 4 rfl) ?_
  have hPc := hP.sub (ws' := (wM tE m0 m1 m2 m3 m4 m5 m6 tc 0 0)) [0, 1, 2, 3, 4, 5] rfl
  have hKc := hK.sub (tys' := [(tc, .char)]) [5] rfl
  have hDc := hD.sub (ws' := (wM tE m0 m1 m2 m3 m4 m5 m6 tc 0 0)) [0, 1, 2, 3, 4, 5] (by decide) rfl
  have hFc := va_free (wc := (wM tE m0 m1 m2 m3 m4 m5 m6 tc 0 0)) hD hS hA [0, 1, 2, 3, 4, 5] rfl
  refine gJ_d (isC := [0, 1, 2, 3, 4, 5]) (isR := [6, 7]) (wr := [(o, .inl (tj, 1, .inr (.inl (fun _ => 0)))), (oD, .inl (td, 1, .inr (.inr (.inr (.inl (fun _ => 0))))))]) (va_runV (As := []) (rest := []) ⟨hx, hb, hml, hown, hta⟩ (c_X15_meanBusy l ) (cwV 0 hta (gWV mw654 mw655 mw656 mw176 mw653) rfl rfl rfl (by decide +kernel) ⟨Nat.le_of_ble_eq_true rfl, Nat.le_of_ble_eq_true rfl⟩) ⟨gS_blind, va_recv hKc hPc (ci := 20) (q0 := 0) rfl rfl, fun U hU hW => ⟨rfl, by rw [hU], by rw [hU]; exact hPc, va_K.moved hW.alike hKc, hDc.weaken (fun _ _ _ _ => trivial), hG.call hS hU hW hFc⟩⟩ rfl rfl hl.1 rfl (lv_room (Nat.le_of_ble_eq_true rfl)) dL_law_2372 ⟨Nat.le_of_ble_eq_true rfl, Nat.le_of_ble_eq_true rfl⟩) hP hD hS hK hFc rfl rfl (by decide) (by decide) (fun r4 u5 H locs h6 hP hD hS hK => ?_)
  have hK : va_K D vwCl (tLw t1 t2 t3 t4 t5 tc tj td) s := hK
  have hP : va_P D vwCl [(o, .inl (tj, 1, .inr (.inl (fun _ => 0)))), (oD, .inl (td, 1, .inr (.inr (.inr (.inl (fun _ => 0)))))), (m0, .inr (20, [.int 1, .ref m1, .ref m2, .ref m3, .ref m4, .int 0, .ref m5, .ref m6, .int 0])), (m1, .inr (4, [.int 0, .ref tE, .int 0])), (m2, .inr (4, [.int 0, .ref tE, .int 0])), (m3, .inr (4, [.int 0, .ref tE, .int 0])), (m4, .inr (4, [.int 0, .ref tE, .int 0])), (m5, .inl (tc, 4, .inl (upd (upd (upd (upd (fun _ => 0) 0 110) 1 110) 2 110) 3 110)))] H := hP
  have hD : va_D A [(o, .inl (tj, 1, .inr (.inl (fun _ => 0)))), (oD, .inl (td, 1, .inr (.inr (.inr (.inl (fun _ => 0)))))), (m0, .inr (20, [.int 1, .ref m1, .ref m2, .ref m3, .ref m4, .int 0, .ref m5, .ref m6, .int 0])), (m1, .inr (4, [.int 0, .ref tE, .int 0])), (m2, .inr (4, [.int 0, .ref tE, .int 0])), (m3, .inr (4, [.int 0, .ref tE, .int 0])), (m4, .inr (4, [.int 0, .ref tE, .int 0])), (m5, .inl (tc, 4, .inl (upd (upd (upd (upd (fun _ => 0) 0 110) 1 110) 2 110) 3 110)))] := hD
  refine lv_dstore (lv' := [(7, .double r4), (6, .int 1), (5, .int 0), (4, .ref oD), (3, .ref o), (2, .ref m0), (1, .ref h0), (0, .ref b)]) hx hb dL_law_2375 hl (by decide) rfl (fun ls hl => ?_)
  refine lv_aload_n hx hb dL_law_2377 rfl (lv_at hl 5 rfl) ?_
  have hPc := hP.sub (ws' := [(m0, .inr (20, [.int 1, .ref m1, .ref m2, .ref m3, .ref m4, .int 0, .ref m5, .ref m6, .int 0]))]) [2] rfl
  have hKc := hK.sub (tys' := []) [] rfl
  refine vp_callSi (W.runV (As := []) (rest := []) ⟨hx, hb, hml, hown, hta⟩ (c_X15_thrown l ) (cwV 0 hta (gWV mw422 mw423 mw424 mw176 mw421) rfl rfl rfl (by decide +kernel) ⟨Nat.le_of_ble_eq_true rfl, Nat.le_of_ble_eq_true rfl⟩) ⟨gR_blind, va_recv hKc hPc (ci := 20) (q0 := 0) rfl rfl, fun U hU hW => ⟨rfl, by rw [hU]; exact hPc, va_K.moved hW.alike hKc⟩⟩ rfl rfl hl.1 rfl (lv_room (Nat.le_of_ble_eq_true rfl)) dL_law_2378 ⟨Nat.le_of_ble_eq_true rfl, Nat.le_of_ble_eq_true rfl⟩) (fun r7 h8 => ?_)
  obtain rfl : r7 = 1 := h8
  refine lv_iload hx hb dL_law_2381 (lv_at hl 1 rfl) ?_
  refine lv_icmp_eq (tgt := 2388) hx hb dL_law_2383 (by decide) (fun c9 => ?_) (fun c9 => ?_)
  · skip
    refine lv_iload hx hb dL_law_2388 (lv_at hl 1 rfl) ?_
    refine lv_if_ne (tgt := 2425) hx hb dL_law_2390 (by decide) (fun c10 => ?_) (fun c10 => ?_)
    · skip
      refine lv_goto (tgt := 2441) hx hb dL_law_2425 (by decide) ?_
      exact law_tail l C0 hA2 hS (lv_sub hl [7, 2] rfl) (Nat.le_of_ble_eq_true rfl) (Nat.le_of_ble_eq_true rfl)
    · exact absurd c10 (by decide)
  · exact absurd (by decide) c9

set_option maxHeartbeats 4000000 in
set_option maxRecDepth 100000 in
theorem lc_34 {p : Program} {e : Env} {s : State} {m : MethodId} {below : List Frame} {meth : Method} {c : Code} (l : Launch) (hl0 : l.stackTraces = false) {b : Nat} {xs : Nat → Int32} (C0 : lw_At p s m meth c b 6 xs) {A : Nat → Prop} (hA : ∀ q, s.heap.size ≤ q → A q) (hA2 : ∀ q, A q → s.heap.size ≤ q) {D : va_G} {tE : Nat} {h0 a1 a2 a3 a4 a5 h6 s0 s1 s2 s3 : Nat} {t1 t2 t3 t4 t5 : ClassId} {m0 m1 m2 m3 m4 m5 m6 : Nat} {tc : ClassId} {o oD : Nat} {tj td : ClassId} {H : Heap} {locs : List Loc} {ls : Array Slot} (hK : va_K D vwCl (tLw t1 t2 t3 t4 t5 tc tj td) s) (hG : gP tE A s) (hP : va_P D vwCl (wLw tE h0 a1 a2 a3 a4 a5 h6 s0 s1 s2 s3 m0 m1 m2 m3 m4 m5 m6 o oD t1 t2 t3 t4 t5 tc tj td) H) (hD : va_D A (wLw tE h0 a1 a2 a3 a4 a5 h6 s0 s1 s2 s3 m0 m1 m2 m3 m4 m5 m6 o oD t1 t2 t3 t4 t5 tc tj td)) (hS : va_S A s.heap H locs) (hl : lv_has ls 9 [(5, .int 0), (4, .ref oD), (3, .ref o), (2, .ref m0), (1, .ref h0), (0, .ref b)]) : W p l e room_1 s m #[Value.ref b] below meth c H locs 25 221 (lw_Z below #[Value.ref b] s) (F0 m 2428 ls []) := by
  obtain ⟨hx, hb, hr, hml, hown0, hts, hX, hbl, hlocks, hgv⟩ := id C0
  have hta : ∀ w ∈ WA, w.before #[Value.ref b] s = true := fun w h => hts w (WA_in w h)
  have hown : s.vm.findClass "FoundrymarkLaw" = some m.cls := hown0
  have hbA : ¬ A b := fun h => absurd (hA2 b h) (Nat.not_le.mpr hbl)
  refine lv_aload_n hx hb dL_law_2428 rfl (lv_at hl 4 rfl) ?_
  have hPc := hP.sub (ws' := (wX h0 a1 a2 a3 a4 a5 h6 s0 s1 s2 s3 t1 t2 t3 t4 t5)) [0, 1, 2, 3, 4, 5, 6, 7, 8, 9, 10] rfl
  have hKc := hK.sub (tys' := (tX t1 t2 t3 t4 t5)) [0, 1, 2, 3, 4] rfl
  refine vp_callSi (W.runV (As := []) (rest := []) ⟨hx, hb, hml, hown, hta⟩ (c_X10_isSound l ) (cwV 0 hta (gWV mw658 mw659 mw660 mw10 mw657) rfl rfl rfl (by decide +kernel) ⟨Nat.le_of_ble_eq_true rfl, Nat.le_of_ble_eq_true rfl⟩) ⟨gR_blind, va_recv hKc hPc (ci := 15) (q0 := 0) rfl rfl, fun U hU hW => ⟨rfl, by rw [hU]; exact hPc, va_K.moved hW.alike hKc⟩⟩ rfl rfl hl.1 rfl (lv_room (Nat.le_of_ble_eq_true rfl)) dL_law_2429 ⟨Nat.le_of_ble_eq_true rfl, Nat.le_of_ble_eq_true rfl⟩) (fun r1 h2 => ?_)
  obtain rfl : r1 = 1 := h2
  refine lv_aload_n hx hb dL_law_2432 rfl (lv_at hl 3 rfl) ?_
  have hPc := hP.sub (ws' := (wM tE m0 m1 m2 m3 m4 m5 m6 tc 0 0)) [11, 12, 13, 14, 15, 16] rfl
  have hKc := hK.sub (tys' := [(tc, .char)]) [5] rfl
  have hDc := hD.sub (ws' := (wM tE m0 m1 m2 m3 m4 m5 m6 tc 0 0)) [11, 12, 13, 14, 15, 16] (by decide) rfl
  have hFc := va_free (wc := (wM tE m0 m1 m2 m3 m4 m5 m6 tc 0 0)) hD hS hA [11, 12, 13, 14, 15, 16] rfl
  refine gJ_i (isC := [11, 12, 13, 14, 15, 16]) (isR := [0, 1, 2, 3, 4, 5, 6, 7, 8, 9, 10, 17, 18]) (wr := [(h0, .inr (15, [.ref a1, .ref a2, .ref a3, .ref a4, .ref a5, .ref h6, .int 0, .int 0, .int 0, .int 0, .int 0, .int 0, .long 0, .long 0])), (a1, .inl (t1, 5, .inr (.inr (.inr (.inr (fun _ => none)))))), (a2, .inl (t2, 12, .inr (.inr (.inr (.inr (fun _ => none)))))), (a3, .inl (t3, 4, .inr (.inr (.inr (.inr (va_up (va_up (va_up (va_up (fun _ => none) 0 (some s0)) 1 (some s1)) 2 (some s2)) 3 (some s3))))))), (a4, .inl (t4, 90, .inr (.inr (.inr (.inr (fun _ => none)))))), (a5, .inl (t5, 30, .inr (.inr (.inr (.inr (fun _ => none)))))), (h6, .inr (10, [.long 0, .long 0])), (s0, .inr (14, [.int 110, .int 0, .int 0])), (s1, .inr (14, [.int 110, .int 0, .int 0])), (s2, .inr (14, [.int 110, .int 0, .int 0])), (s3, .inr (14, [.int 110, .int 0, .int 0])), (o, .inl (tj, 1, .inr (.inl (fun _ => 0)))), (oD, .inl (td, 1, .inr (.inr (.inr (.inl (fun _ => 0))))))]) (va_runV (As := []) (rest := [.int 1]) ⟨hx, hb, hml, hown, hta⟩ (c_X15_isSound l ) (cwV 0 hta (gWV mw662 mw663 mw664 mw176 mw661) rfl rfl rfl (by decide +kernel) ⟨Nat.le_of_ble_eq_true rfl, Nat.le_of_ble_eq_true rfl⟩) ⟨gS_blind, va_recv hKc hPc (ci := 20) (q0 := 0) rfl rfl, fun U hU hW => ⟨rfl, by rw [hU], by rw [hU]; exact hPc, va_K.moved hW.alike hKc, hDc.weaken (fun _ _ _ _ => trivial), hG.call hS hU hW hFc⟩⟩ rfl rfl hl.1 rfl (lv_room (Nat.le_of_ble_eq_true rfl)) dL_law_2433 ⟨Nat.le_of_ble_eq_true rfl, Nat.le_of_ble_eq_true rfl⟩) hP hD hS hK hFc rfl rfl (by decide) (by decide) (fun r3 u4 H locs h5 hP hD hS hK => ?_)
  obtain rfl : r3 = 1 := h5
  have hK : va_K D vwCl (tLw t1 t2 t3 t4 t5 tc tj td) s := hK
  have hP : va_P D vwCl [(h0, .inr (15, [.ref a1, .ref a2, .ref a3, .ref a4, .ref a5, .ref h6, .int 0, .int 0, .int 0, .int 0, .int 0, .int 0, .long 0, .long 0])), (a1, .inl (t1, 5, .inr (.inr (.inr (.inr (fun _ => none)))))), (a2, .inl (t2, 12, .inr (.inr (.inr (.inr (fun _ => none)))))), (a3, .inl (t3, 4, .inr (.inr (.inr (.inr (va_up (va_up (va_up (va_up (fun _ => none) 0 (some s0)) 1 (some s1)) 2 (some s2)) 3 (some s3))))))), (a4, .inl (t4, 90, .inr (.inr (.inr (.inr (fun _ => none)))))), (a5, .inl (t5, 30, .inr (.inr (.inr (.inr (fun _ => none)))))), (h6, .inr (10, [.long 0, .long 0])), (s0, .inr (14, [.int 110, .int 0, .int 0])), (s1, .inr (14, [.int 110, .int 0, .int 0])), (s2, .inr (14, [.int 110, .int 0, .int 0])), (s3, .inr (14, [.int 110, .int 0, .int 0])), (o, .inl (tj, 1, .inr (.inl (fun _ => 0)))), (oD, .inl (td, 1, .inr (.inr (.inr (.inl (fun _ => 0)))))), (m0, .inr (20, [.int 0, .ref m1, .ref m2, .ref m3, .ref m4, .int 0, .ref m5, .ref m6, .int 0])), (m1, .inr (4, [.int 0, .ref tE, .int 0])), (m2, .inr (4, [.int 0, .ref tE, .int 0])), (m3, .inr (4, [.int 0, .ref tE, .int 0])), (m4, .inr (4, [.int 0, .ref tE, .int 0])), (m5, .inl (tc, 4, .inl (upd (upd (upd (upd (fun _ => 0) 0 110) 1 110) 2 110) 3 110)))] H := hP
  have hD : va_D A [(h0, .inr (15, [.ref a1, .ref a2, .ref a3, .ref a4, .ref a5, .ref h6, .int 0, .int 0, .int 0, .int 0, .int 0, .int 0, .long 0, .long 0])), (a1, .inl (t1, 5, .inr (.inr (.inr (.inr (fun _ => none)))))), (a2, .inl (t2, 12, .inr (.inr (.inr (.inr (fun _ => none)))))), (a3, .inl (t3, 4, .inr (.inr (.inr (.inr (va_up (va_up (va_up (va_up (fun _ => none) 0 (some s0)) 1 (some s1)) 2 (some s2)) 3 (some s3))))))), (a4, .inl (t4, 90, .inr (.inr (.inr (.inr (fun _ => none)))))), (a5, .inl (t5, 30, .inr (.inr (.inr (.inr (fun _ => none)))))), (h6, .inr (10, [.long 0, .long 0])), (s0, .inr (14, [.int 110, .int 0, .int 0])), (s1, .inr (14, [.int 110, .int 0, .int 0])), (s2, .inr (14, [.int 110, .int 0, .int 0])), (s3, .inr (14, [.int 110, .int 0, .int 0])), (o, .inl (tj, 1, .inr (.inl (fun _ => 0)))), (oD, .inl (td, 1, .inr (.inr (.inr (.inl (fun _ => 0)))))), (m0, .inr (20, [.int 0, .ref m1, .ref m2, .ref m3, .ref m4, .int 0, .ref m5, .ref m6, .int 0])), (m1, .inr (4, [.int 0, .ref tE, .int 0])), (m2, .inr (4, [.int 0, .ref tE, .int 0])), (m3, .inr (4, [.int 0, .ref tE, .int 0])), (m4, .inr (4, [.int 0, .ref tE, .int 0])), (m5, .inl (tc, 4, .inl (upd (upd (upd (upd (fun _ => 0) 0 110) 1 110) 2 110) 3 110)))] := hD
  refine lv_icmp_eq (tgt := 2441) hx hb dL_law_2436 (by decide) (fun c6 => ?_) (fun c6 => ?_)
  · skip
    exact law_tail l C0 hA2 hS (lv_sub hl [5, 0] rfl) (Nat.le_of_ble_eq_true rfl) (Nat.le_of_ble_eq_true rfl)
  · exact absurd (by decide) c6
