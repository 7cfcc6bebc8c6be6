set_option maxHeartbeats 4000000 in
set_option maxRecDepth 100000 in
theorem lc_7 {p : Program} {e : Env} {s : State} {m : MethodId} {below : List Frame} {meth : Method} {c : Code} (l : Launch) (hl0 : l.stackTraces = false) {b : Nat} {xs : Nat → Int32} (C0 : lw_At p s m meth c b 6 xs) {A : Nat → Prop} (hA : ∀ q, s.heap.size ≤ q → A q) (hA2 : ∀ q, A q → s.heap.size ≤ q) {D : va_G} {tE : Nat} {h0 a1 a2 a3 a4 a5 h6 s0 s1 s2 s3 : Nat} {t1 t2 t3 t4 t5 : ClassId} {m0 m1 m2 m3 m4 m5 m6 : Nat} {tc : ClassId} {o oD : Nat} {tj td : ClassId} {H : Heap} {locs : List Loc} {ls : Array Slot} (hK : va_K D vwCl (tLw t1 t2 t3 t4 t5 tc tj td) s) (hG : gP tE A s) (hP : va_P D vwCl (wLw tE h0 a1 a2 a3 a4 a5 h6 s0 s1 s2 s3 m0 m1 m2 m3 m4 m5 m6 o oD t1 t2 t3 t4 t5 tc tj td) H) (hD : va_D A (wLw tE h0 a1 a2 a3 a4 a5 h6 s0 s1 s2 s3 m0 m1 m2 m3 m4 m5 m6 o oD t1 t2 t3 t4 t5 tc tj td)) (hS : va_S A s.heap H locs) (hl : lv_has ls 9 [(5, .int 0), (4, .ref oD), (3, .ref o), (2, .ref m0), (1, .ref h0), (0, .ref b)]) : W p l e room_1 s m #[Value.ref b] below meth c H locs 25 221 (lw_Z below #[Value.ref b] s) (F0 m 804 ls []) := by
  obtain ⟨hx, hb, hr, hml, hown0, hts, hX, hbl, hlocks, hgv⟩ := id C0
  have hta : ∀ w ∈ WA, w.before #[Value.ref b] s = true := fun w h => hts w (WA_in w h)
  have hown : s.vm.findClass "FoundrymarkLaw" = some m.cls := hown0
  have hbA : ¬ A b := fun h => absurd (hA2 b h) (Nat.not_le.mpr hbl)
  refine lv_aload_n hx hb dL_law_804 rfl (lv_at hl 4 rfl) ?_
  refine lv_aload_n hx hb dL_law_805 rfl (lv_at hl 5 rfl) ?_
  refine lv_iload hx hb dL_law_806 (lv_at hl 0 rfl) ?_
  refine lv_iconst (v := 1) hx hb dL_law_808 (by decide) ?_
  refine lv_iadd hx hb dL_law_809 ?_
  refine lv_topi (fun x1 ex1 => ?_)
  obtain rfl : x1 = 1 := ex1.trans (by decide)
  refine va_sld hx hb hX hbl hbA hS (i := 1) (by unfold vp_in; decide) dL_law_810 ?_
  refine W.eq (g2 := F0 m 811 ls [.int (xs 1), .ref h0]) rfl ?_
  refine lv_aload_n hx hb dL_law_811 rfl (lv_at hl 2 rfl) ?_
  have hPc := hP.sub (ws' := (wX h0 a1 a2 a3 a4 a5 h6 s0 s1 s2 s3 t1 t2 t3 t4 t5)) [0, 1, 2, 3, 4, 5, 6, 7, 8, 9, 10] rfl
  have hKc := hK.sub (tys' := (tX t1 t2 t3 t4 t5)) [0, 1, 2, 3, 4] rfl
  have hDc := hD.sub (ws' := (wX h0 a1 a2 a3 a4 a5 h6 s0 s1 s2 s3 t1 t2 t3 t4 t5)) [0, 1, 2, 3, 4, 5, 6, 7, 8, 9, 10] (by decide) rfl
  have hFc := va_free (wc := (wX h0 a1 a2 a3 a4 a5 h6 s0 s1 s2 s3 t1 t2 t3 t4 t5)) hD hS hA [0, 1, 2, 3, 4, 5, 6, 7, 8, 9, 10] rfl
  refine gJ_i (isC := [0, 1, 2, 3, 4, 5, 6, 7, 8, 9, 10]) (isR := [11, 12, 13, 14, 15, 16, 17, 18]) (wr := [(m0, .inr (20, [.int 0, .ref m1, .ref m2, .ref m3, .ref m4, .int 0, .ref m5, .ref m6, .int 0])), (m1, .inr (4, [.int 0, .ref tE, .int 0])), (m2, .inr (4, [.int 0, .ref tE, .int 0])), (m3, .inr (4, [.int 0, .ref tE, .int 0])), (m4, .inr (4, [.int 0, .ref tE, .int 0])), (m5, .inl (tc, 4, .inl (upd (upd (upd (upd (fun _ => 0) 0 110) 1 110) 2 110) 3 110))), (o, .inl (tj, 1, .inr (.inl (fun _ => 0)))), (oD, .inl (td, 1, .inr (.inr (.inr (.inl (fun _ => 0))))))]) (vx_runSW (As := [.ref h0, .int (xs 1), .ref o]) (rest := []) ⟨hx, hb, hml, hown, hta⟩ (c_L_isHeld l hl0 ) (vx_cwSW 3 hta (gWSW mw468 mw469 mw416 mw467) rfl rfl rfl (by decide +kernel) ⟨Nat.le_of_ble_eq_true rfl, Nat.le_of_ble_eq_true rfl⟩) ⟨gS_blind, fun U hU hW => ⟨rfl, by rw [hU], by rw [hU]; exact hPc, va_K.moved hW.alike hKc, hDc.weaken (fun _ _ _ _ => trivial), hG.call hS hU hW hFc⟩⟩ rfl rfl hl.1 rfl (lv_room (Nat.le_of_ble_eq_true rfl)) dL_law_812 ⟨Nat.le_of_ble_eq_true rfl, Nat.le_of_ble_eq_true rfl⟩) hP hD hS hK hFc rfl rfl (by decide) (by decide) (fun r2 u3 H locs h4 hP hD hS hK => ?_)
  obtain rfl : r2 = 1 := h4
  have hK : va_K D vwCl (tLw t1 t2 t3 t4 t5 tc tj td) s := hK
  have hP : va_P D vwCl [(m0, .inr (20, [.int 0, .ref m1, .ref m2, .ref m3, .ref m4, .int 0, .ref m5, .ref m6, .int 0])), (m1, .inr (4, [.int 0, .ref tE, .int 0])), (m2, .inr (4, [.int 0, .ref tE, .int 0])), (m3, .inr (4, [.int 0, .ref tE, .int 0])), (m4, .inr (4, [.int 0, .ref tE, .int 0])), (m5, .inl (tc, 4, .inl (upd (upd (upd (upd (fun _ => 0) 0 110) 1 110) 2 110) 3 110))), (o, .inl (tj, 1, .inr (.inl (fun _ => 0)))), (oD, .inl (td, 1, .inr (.inr (.inr (.inl (fun _ => 0))))))] H := hP
  have hD : va_D A [(m0, .inr (20, [.int 0, .ref m1, .ref m2, .ref m3, .ref m4, .int 0, .ref m5, .ref m6, .int 0])), (m1, .inr (4, [.int 0, .ref tE, .int 0])), (m2, .inr (4, [.int 0, .ref tE, .int 0])), (m3, .inr (4, [.int 0, .ref tE, .int 0])), (m4, .inr (4, [.int 0, .ref tE, .int 0])), (m5, .inl (tc, 4, .inl (upd (upd (upd (upd (fun _ => 0) 0 110) 1 110) 2 110) 3 110))), (o, .inl (tj, 1, .inr (.inl (fun _ => 0)))), (oD, .inl (td, 1, .inr (.inr (.inr (.inl (fun _ => 0))))))] := hD
  refine lv_istore (lv' := [(6, .int 1), (5, .int 0), (4, .ref oD), (3, .ref o), (2, .ref m0), (1, .ref h0), (0, .ref b)]) hx hb dL_law_815 hl (by decide) rfl (fun ls hl => ?_)
  refine lv_aload_n hx hb dL_law_817 rfl (lv_at hl 4 rfl) ?_
  refine lv_aload_n hx hb dL_law_818 rfl (lv_at hl 6 rfl) ?_
  refine lv_iload hx hb dL_law_819 (lv_at hl 1 rfl) ?_
  refine lv_iconst (v := 1) hx hb dL_law_821 (by decide) ?_
  refine lv_iadd hx hb dL_law_822 ?_
  refine lv_topi (fun x5 ex5 => ?_)
  obtain rfl : x5 = 1 := ex5.trans (by decide)
  refine va_sld hx hb hX hbl hbA hS (i := 1) (by unfold vp_in; decide) dL_law_823 ?_
  refine W.eq (g2 := F0 m 824 ls [.int (xs 1), .ref m0]) rfl ?_
  have hPc := hP.sub (ws' := (wM tE m0 m1 m2 m3 m4 m5 m6 tc 0 0)) [0, 1, 2, 3, 4, 5] rfl
  have hKc := hK.sub (tys' := [(tc, .char)]) [5] rfl
  have hDc := hD.sub (ws' := (wM tE m0 m1 m2 m3 m4 m5 m6 tc 0 0)) [0, 1, 2, 3, 4, 5] (by decide) rfl
  have hFc := va_free (wc := (wM tE m0 m1 m2 m3 m4 m5 m6 tc 0 0)) hD hS hA [0, 1, 2, 3, 4, 5] rfl
  refine gJ_i (isC := [0, 1, 2, 3, 4, 5]) (isR := [6, 7]) (wr := [(o, .inl (tj, 1, .inr (.inl (fun _ => 0)))), (oD, .inl (td, 1, .inr (.inr (.inr (.inl (fun _ => 0))))))]) (va_runV (As := [.int (xs 1)]) (rest := []) ⟨hx, hb, hml, hown, hta⟩ (c_X15_isHeld l ) (cwV 1 hta (gWV mw471 mw472 mw473 mw176 mw470) rfl rfl rfl (by decide +kernel) ⟨Nat.le_of_ble_eq_true rfl, Nat.le_of_ble_eq_true rfl⟩) ⟨gS_blind, va_recv hKc hPc (ci := 20) (q0 := 0) rfl rfl, fun U hU hW => ⟨rfl, by rw [hU], by rw [hU]; exact hPc, va_K.moved hW.alike hKc, hDc.weaken (fun _ _ _ _ => trivial), hG.call hS hU hW hFc⟩⟩ rfl rfl hl.1 rfl (lv_room (Nat.le_of_ble_eq_true rfl)) dL_law_824 ⟨Nat.le_of_ble_eq_true rfl, Nat.le_of_ble_eq_true rfl⟩) hP hD hS hK hFc rfl rfl (by decide) (by decide) (fun r6 u7 H locs h8 hP hD hS hK => ?_)
  obtain rfl : r6 = 0 := h8
  have hK : va_K D vwCl (tLw t1 t2 t3 t4 t5 tc tj td) s := hK
  have hP : va_P D vwCl [(o, .inl (tj, 1, .inr (.inl (fun _ => 0)))), (oD, .inl (td, 1, .inr (.inr (.inr (.inl (fun _ => 0)))))), (m0, .inr (20, [.int 1, .ref m1, .ref m2, .ref m3, .ref m4, .int 0, .ref m5, .ref m6, .int 0])), (m1, .inr (4, [.int 0, .ref tE, .int 0])), (m2, .inr (4, [.int 0, .ref tE, .int 0])), (m3, .inr (4, [.int 0, .ref tE, .int 0])), (m4, .inr (4, [.int 0, .ref tE, .int 0])), (m5, .inl (tc, 4, .inl (upd (upd (upd (upd (fun _ => 0) 0 110) 1 110) 2 110) 3 110)))] H := hP
  have hD : va_D A [(o, .inl (tj, 1, .inr (.inl (fun _ => 0)))), (oD, .inl (td, 1, .inr (.inr (.inr (.inl (fun _ => 0)))))), (m0, .inr (20, [.int 1, .ref m1, .ref m2, .ref m3, .ref m4, .int 0, .ref m5, .ref m6, .int 0])), (m1, .inr (4, [.int 0, .ref tE, .int 0])), (m2, .inr (4, [.int 0, .ref tE, .int 0])), (m3, .inr (4, [.int 0, .ref tE, .int 0])), (m4, .inr (4, [.int 0, .ref tE, .int 0])), (m5, .inl (tc, 4, .inl (upd (upd (upd (upd (fun _ => 0) 0 110) 1 110) 2 110) 3 110)))] := hD
  refine lv_istore (lv' := [(7, .int 0), (6, .int 1), (5, .int 0), (4, .ref oD), (3, .ref o), (2, .ref m0), (1, .ref h0), (0, .ref b)]) hx hb dL_law_827 hl (by decide) rfl (fun ls hl => ?_)
  refine lv_aload_n hx hb dL_law_829 rfl (lv_at hl 5 rfl) ?_
  have hPc := hP.sub (ws' := [(m0, .inr (20, [.int 1, .ref m1, .ref m2, .ref m3, .ref m4, .int 0, .ref m5, .ref m6, .int 0]))]) [2] rfl
  have hKc := hK.sub (tys' := []) [] rfl
  refine vp_callSi (W.runV (As := []) (rest := []) ⟨hx, hb, hml, hown, hta⟩ (c_X15_thrown l ) (cwV 0 hta (gWV mw422 mw423 mw424 mw176 mw421) rfl rfl rfl (by decide +kernel) ⟨Nat.le_of_ble_eq_true rfl, Nat.le_of_ble_eq_true rfl⟩) ⟨gR_blind, va_recv hKc hPc (ci := 20) (q0 := 0) rfl rfl, fun U hU hW => ⟨rfl, by rw [hU]; exact hPc, va_K.moved hW.alike hKc⟩⟩ rfl rfl hl.1 rfl (lv_room (Nat.le_of_ble_eq_true rfl)) dL_law_830 ⟨Nat.le_of_ble_eq_true rfl, Nat.le_of_ble_eq_true rfl⟩) (fun r9 h10 => ?_)
  obtain rfl : r9 = 1 := h10
  refine lv_iload hx hb dL_law_833 (lv_at hl 1 rfl) ?_
  refine lv_icmp_eq (tgt := 840) hx hb dL_law_835 (by decide) (fun c11 => ?_) (fun c11 => ?_)
  · skip
    refine lv_iload hx hb dL_law_840 (lv_at hl 1 rfl) ?_
    refine lv_if_ne (tgt := 864) hx hb dL_law_842 (by decide) (fun c12 => ?_) (fun c12 => ?_)
    · skip
      refine lv_goto (tgt := 2441) hx hb dL_law_864 (by decide) ?_
      exact law_tail l C0 hA2 hS (lv_sub hl [7, 2] rfl) (Nat.le_of_ble_eq_true rfl) (Nat.le_of_ble_eq_true rfl)
    · exact absurd c12 (by decide)
  · exact absurd (by decide) c11

set_option maxHeartbeats 4000000 in
set_option maxRecDepth 100000 in
theorem lc_8 {p : Program} {e : Env} {s : State} {m : MethodId} {below : List Frame} {meth : Method} {c : Code} (l : Launch) (hl0 : l.stackTraces = false) {b : Nat} {xs : Nat → Int32} (C0 : lw_At p s m meth c b 6 xs) {A : Nat → Prop} (hA : ∀ q, s.heap.size ≤ q → A q) (hA2 : ∀ q, A q → s.heap.size ≤ q) {D : va_G} {tE : Nat} {h0 a1 a2 a3 a4 a5 h6 s0 s1 s2 s3 : Nat} {t1 t2 t3 t4 t5 : ClassId} {m0 m1 m2 m3 m4 m5 m6 : Nat} {tc : ClassId} {o oD : Nat} {tj td : ClassId} {H : Heap} {locs : List Loc} {ls : Array Slot} (hK : va_K D vwCl (tLw t1 t2 t3 t4 t5 tc tj td) s) (hG : gP tE A s) (hP : va_P D vwCl (wLw tE h0 a1 a2 a3 a4 a5 h6 s0 s1 s2 s3 m0 m1 m2 m3 m4 m5 m6 o oD t1 t2 t3 t4 t5 tc tj td) H) (hD : va_D A (wLw tE h0 a1 a2 a3 a4 a5 h6 s0 s1 s2 s3 m0 m1 m2 m3 m4 m5 m6 o oD t1 t2 t3 t4 t5 tc tj td)) (hS : va_S A s.heap H locs) (hl : lv_has ls 9 [(5, .int 0), (4, .ref oD), (3, .ref o), (2, .ref m0), (1, .ref h0), (0, .ref b)]) : W p l e room_1 s m #[Value.ref b] below meth c H locs 25 221 (lw_Z below #[Value.ref b] s) (F0 m 867 ls []) := by
  obtain ⟨hx, hb, hr, hml, hown0, hts, hX, hbl, hlocks, hgv⟩ := id C0
  have hta : ∀ w ∈ WA, w.before #[Value.ref b] s = true := fun w h => hts w (WA_in w h)
  have hown : s.vm.findClass "FoundrymarkLaw" = some m.cls := hown0
  have hbA : ¬ A b := fun h => absurd (hA2 b h) (Nat.not_le.mpr hbl)
  refine lv_aload_n hx hb dL_law_867 rfl (lv_at hl 4 rfl) ?_
  refine lv_aload_n hx hb dL_law_868 rfl (lv_at hl 5 rfl) ?_
  refine lv_iload hx hb dL_law_869 (lv_at hl 0 rfl) ?_
  refine lv_iconst (v := 1) hx hb dL_law_871 (by decide) ?_
  refine lv_iadd hx hb dL_law_872 ?_
  refine lv_topi (fun x1 ex1 => ?_)
  obtain rfl : x1 = 1 := ex1.trans (by decide)
  refine va_sld hx hb hX hbl hbA hS (i := 1) (by unfold vp_in; decide) dL_law_873 ?_
  refine W.eq (g2 := F0 m 874 ls [.int (xs 1), .ref h0]) rfl ?_
  refine lv_aload_n hx hb dL_law_874 rfl (lv_at hl 5 rfl) ?_
  refine lv_iload hx hb dL_law_875 (lv_at hl 0 rfl) ?_
  refine lv_iconst (v := 2) hx hb dL_law_877 (by decide) ?_
  refine lv_iadd hx hb dL_law_878 ?_
  refine lv_topi (fun x2 ex2 => ?_)
  obtain rfl : x2 = 2 := ex2.trans (by decide)
  refine va_sld hx hb hX hbl hbA hS (i := 2) (by unfold vp_in; decide) dL_law_879 ?_
  refine W.eq (g2 := F0 m 880 ls [.int (xs 2), .int (xs 1), .ref h0]) rfl ?_
  refine lv_aload_n hx hb dL_law_880 rfl (lv_at hl 5 rfl) ?_
  refine lv_iload hx hb dL_law_881 (lv_at hl 0 rfl) ?_
  refine lv_iconst (v := 3) hx hb dL_law_883 (by decide) ?_
  refine lv_iadd hx hb dL_law_884 ?_
  refine lv_topi (fun x3 ex3 => ?_)
  obtain rfl : x3 = 3 := ex3.trans (by decide)
  refine va_sld hx hb hX hbl hbA hS (i := 3) (by unfold vp_in; decide) dL_law_885 ?_
  refine W.eq (g2 := F0 m 886 ls [.int (xs 3), .int (xs 2), .int (xs 1), .ref h0]) rfl ?_
  refine lv_aload_n hx hb dL_law_886 rfl (lv_at hl 2 rfl) ?_
  have hPc := hP.sub (ws' := (wX h0 a1 a2 a3 a4 a5 h6 s0 s1 s2 s3 t1 t2 t3 t4 t5)) [0, 1, 2, 3, 4, 5, 6, 7, 8, 9, 10] rfl
  have hKc := hK.sub (tys' := (tX t1 t2 t3 t4 t5)) [0, 1, 2, 3, 4] rfl
  have hDc := hD.sub (ws' := (wX h0 a1 a2 a3 a4 a5 h6 s0 s1 s2 s3 t1 t2 t3 t4 t5)) [0, 1, 2, 3, 4, 5, 6, 7, 8, 9, 10] (by decide) rfl
  have hFc := va_free (wc := (wX h0 a1 a2 a3 a4 a5 h6 s0 s1 s2 s3 t1 t2 t3 t4 t5)) hD hS hA [0, 1, 2, 3, 4, 5, 6, 7, 8, 9, 10] rfl
  refine gJ_i (isC := [0, 1, 2, 3, 4, 5, 6, 7, 8, 9, 10]) (isR := [11, 12, 13, 14, 15, 16, 17, 18]) (wr := [(m0, .inr (20, [.int 0, .ref m1, .ref m2, .ref m3, .ref m4, .int 0, .ref m5, .ref m6, .int 0])), (m1, .inr (4, [.int 0, .ref tE, .int 0])), (m2, .inr (4, [.int 0, .ref tE, .int 0])), (m3, .inr (4, [.int 0, .ref tE, .int 0])), (m4, .inr (4, [.int 0, .ref tE, .int 0])), (m5, .inl (tc, 4, .inl (upd (upd (upd (upd (fun _ => 0) 0 110) 1 110) 2 110) 3 110))), (o, .inl (tj, 1, .inr (.inl (fun _ => 0)))), (oD, .inl (td, 1, .inr (.inr (.inr (.inl (fun _ => 0))))))]) (vx_runSW (As := [.ref h0, .int (xs 1), .int (xs 2), .int (xs 3), .ref o]) (rest := []) ⟨hx, hb, hml, hown, hta⟩ (c_L_setChart l hl0 ) (vx_cwSW 5 hta (gWSW mw475 mw476 mw416 mw474) rfl rfl rfl (by decide +kernel) ⟨Nat.le_of_ble_eq_true rfl, Nat.le_of_ble_eq_true rfl⟩) ⟨gS_blind, fun U hU hW => ⟨rfl, by rw [hU], by rw [hU]; exact hPc, va_K.moved hW.alike hKc, hDc.weaken (fun _ _ _ _ => trivial), hG.call hS hU hW hFc⟩⟩ rfl rfl hl.1 rfl (lv_room (Nat.le_of_ble_eq_true rfl)) dL_law_887 ⟨Nat.le_of_ble_eq_true rfl, Nat.le_of_ble_eq_true rfl⟩) hP hD hS hK hFc rfl rfl (by decide) (by decide) (fun r4 u5 H locs h6 hP hD hS hK => ?_)
  obtain rfl : r4 = 1 := h6
  have hK : va_K D vwCl (tLw t1 t2 t3 t4 t5 tc tj td) s := hK
  have hP : va_P D vwCl [(m0, .inr (20, [.int 0, .ref m1, .ref m2, .ref m3, .ref m4, .int 0, .ref m5, .ref m6, .int 0])), (m1, .inr (4, [.int 0, .ref tE, .int 0])), (m2, .inr (4, [.int 0, .ref tE, .int 0])), (m3, .inr (4, [.int 0, .ref tE, .int 0])), (m4, .inr (4, [.int 0, .ref tE, .int 0])), (m5, .inl (tc, 4, .inl (upd (upd (upd (upd (fun _ => 0) 0 110) 1 110) 2 110) 3 110))), (o, .inl (tj, 1, .inr (.inl (fun _ => 0)))), (oD, .inl (td, 1, .inr (.inr (.inr (.inl (fun _ => 0))))))] H := hP
  have hD : va_D A [(m0, .inr (20, [.int 0, .ref m1, .ref m2, .ref m3, .ref m4, .int 0, .ref m5, .ref m6, .int 0])), (m1, .inr (4, [.int 0, .ref tE, .int 0])), (m2, .inr (4, [.int 0, .ref tE, .int 0])), (m3, .inr (4, [.int 0, .ref tE, .int 0])), (m4, .inr (4, [.int 0, .ref tE, .int 0])), (m5, .inl (tc, 4, .inl (upd (upd (upd (upd (fun _ => 0) 0 110) 1 110) 2 110) 3 110))), (o, .inl (tj, 1, .inr (.inl (fun _ => 0)))), (oD, .inl (td, 1, .inr (.inr (.inr (.inl (fun _ => 0))))))] := hD
  refine lv_istore (lv' := [(6, .int 1), (5, .int 0), (4, .ref oD), (3, .ref o), (2, .ref m0), (1, .ref h0), (0, .ref b)]) hx hb dL_law_890 hl (by decide) rfl (fun ls hl => ?_)
  refine lv_aload_n hx hb dL_law_892 rfl (lv_at hl 4 rfl) ?_
  refine lv_aload_n hx hb dL_law_893 rfl (lv_at hl 6 rfl) ?_
  refine lv_iload hx hb dL_law_894 (lv_at hl 1 rfl) ?_
  refine lv_iconst (v := 1) hx hb dL_law_896 (by decide) ?_
  refine lv_iadd hx hb dL_law_897 ?_
  refine lv_topi (fun x7 ex7 => ?_)
  obtain rfl : x7 = 1 := ex7.trans (by decide)
  refine va_sld hx hb hX hbl hbA hS (i := 1) (by unfold vp_in; decide) dL_law_898 ?_
  refine W.eq (g2 := F0 m 899 ls [.int (xs 1), .ref m0]) rfl ?_
  refine lv_aload_n hx hb dL_law_899 rfl (lv_at hl 6 rfl) ?_
  refine lv_iload hx hb dL_law_900 (lv_at hl 1 rfl) ?_
  refine lv_iconst (v := 2) hx hb dL_law_902 (by decide) ?_
  refine lv_iadd hx hb dL_law_903 ?_
  refine lv_topi (fun x8 ex8 => ?_)
  obtain rfl : x8 = 2 := ex8.trans (by decide)
  refine va_sld hx hb hX hbl hbA hS (i := 2) (by unfold vp_in; decide) dL_law_904 ?_
  refine W.eq (g2 := F0 m 905 ls [.int (xs 2), .int (xs 1), .ref m0]) rfl ?_
  refine lv_aload_n hx hb dL_law_905 rfl (lv_at hl 6 rfl) ?_
  refine lv_iload hx hb dL_law_906 (lv_at hl 1 rfl) ?_
  refine lv_iconst (v := 3) hx hb dL_law_908 (by decide) ?_
  refine lv_iadd hx hb dL_law_909 ?_
  refine lv_topi (fun x9 ex9 => ?_)
  obtain rfl : x9 = 3 := ex9.trans (by decide)
  refine va_sld hx hb hX hbl hbA hS (i := 3) (by unfold vp_in; decide) dL_law_910 ?_
  refine W.eq (g2 := F0 m 911 ls [.int (xs 3), .int (xs 2), .int (xs 1), .ref m0]) rfl ?_
  have hPc := hP.sub (ws' := (wM tE m0 m1 m2 m3 m4 m5 m6 tc 0 0)) [0, 1, 2, 3, 4, 5] rfl
  have hKc := hK.sub (tys' := [(tc, .char)]) [5] rfl
  have hDc := hD.sub (ws' := (wM tE m0 m1 m2 m3 m4 m5 m6 tc 0 0)) [0, 1, 2, 3, 4, 5] (by decide) rfl
  have hFc := va_free (wc := (wM tE m0 m1 m2 m3 m4 m5 m6 tc 0 0)) hD hS hA [0, 1, 2, 3, 4, 5] rfl
  refine gJ_i (isC := [0, 1, 2, 3, 4, 5]) (isR := [6, 7]) (wr := [(o, .inl (tj, 1, .inr (.inl (fun _ => 0)))), (oD, .inl (td, 1, .inr (.inr (.inr (.inl (fun _ => 0))))))]) (va_runV (As := [.int (xs 1), .int (xs 2), .int (xs 3)]) (rest := []) ⟨hx, hb, hml, hown, hta⟩ (c_X15_setChart l ) (cwV 3 hta (gWV mw478 mw479 mw480 mw176 mw477) rfl rfl rfl (by decide +kernel) ⟨Nat.le_of_ble_eq_true rfl, Nat.le_of_ble_eq_true rfl⟩) ⟨gS_blind, va_recv hKc hPc (ci := 20) (q0 := 0) rfl rfl, fun U hU hW => ⟨rfl, by rw [hU], by rw [hU]; exact hPc, va_K.moved hW.alike hKc, hDc.weaken (fun _ _ _ _ => trivial), hG.call hS hU hW hFc⟩⟩ rfl rfl hl.1 rfl (lv_room (Nat.le_of_ble_eq_true rfl)) dL_law_911 ⟨Nat.le_of_ble_eq_true rfl, Nat.le_of_ble_eq_true rfl⟩) hP hD hS hK hFc rfl rfl (by decide) (by decide) (fun r10 u11 H locs h12 hP hD hS hK => ?_)
  obtain rfl : r10 = 0 := h12
  have hK : va_K D vwCl (tLw t1 t2 t3 t4 t5 tc tj td) s := hK
  have hP : va_P D vwCl [(o, .inl (tj, 1, .inr (.inl (fun _ => 0)))), (oD, .inl (td, 1, .inr (.inr (.inr (.inl (fun _ => 0)))))), (m0, .inr (20, [.int 1, .ref m1, .ref m2, .ref m3, .ref m4, .int 0, .ref m5, .ref m6, .int 0])), (m1, .inr (4, [.int 0, .ref tE, .int 0])), (m2, .inr (4, [.int 0, .ref tE, .int 0])), (m3, .inr (4, [.int 0, .ref tE, .int 0])), (m4, .inr (4, [.int 0, .ref tE, .int 0])), (m5, .inl (tc, 4, .inl (upd (upd (upd (upd (fun _ => 0) 0 110) 1 110) 2 110) 3 110)))] H := hP
  have hD : va_D A [(o, .inl (tj, 1, .inr (.inl (fun _ => 0)))), (oD, .inl (td, 1, .inr (.inr (.inr (.inl (fun _ => 0)))))), (m0, .inr (20, [.int 1, .ref m1, .ref m2, .ref m3, .ref m4, .int 0, .ref m5, .ref m6, .int 0])), (m1, .inr (4, [.int 0, .ref tE, .int 0])), (m2, .inr (4, [.int 0, .ref tE, .int 0])), (m3, .inr (4, [.int 0, .ref tE, .int 0])), (m4, .inr (4, [.int 0, .ref tE, .int 0])), (m5, .inl (tc, 4, .inl (upd (upd (upd (upd (fun _ => 0) 0 110) 1 110) 2 110) 3 110)))] := hD
  refine lv_istore (lv' := [(7, .int 0), (6, .int 1), (5, .int 0), (4, .ref oD), (3, .ref o), (2, .ref m0), (1, .ref h0), (0, .ref b)]) hx hb dL_law_914 hl (by decide) rfl (fun ls hl => ?_)
  refine lv_aload_n hx hb dL_law_916 rfl (lv_at hl 5 rfl) ?_
  have hPc := hP.sub (ws' := [(m0, .inr (20, [.int 1, .ref m1, .ref m2, .ref m3, .ref m4, .int 0, .ref m5, .ref m6, .int 0]))]) [2] rfl
  have hKc := hK.sub (tys' := []) [] rfl
  refine vp_callSi (W.runV (As := []) (rest := []) ⟨hx, hb, hml, hown, hta⟩ (c_X15_thrown l ) (cwV 0 hta (gWV mw422 mw423 mw424 mw176 mw421) rfl rfl rfl (by decide +kernel) ⟨Nat.le_of_ble_eq_true rfl, Nat.le_of_ble_eq_true rfl⟩) ⟨gR_blind, va_recv hKc hPc (ci := 20) (q0 := 0) rfl rfl, fun U hU hW => ⟨rfl, by rw [hU]; exact hPc, va_K.moved hW.alike hKc⟩⟩ rfl rfl hl.1 rfl (lv_room (Nat.le_of_ble_eq_true rfl)) dL_law_917 ⟨Nat.le_of_ble_eq_true rfl, Nat.le_of_ble_eq_true rfl⟩) (fun r13 h14 => ?_)
  obtain rfl : r13 = 1 := h14
  refine lv_iload hx hb dL_law_920 (lv_at hl 1 rfl) ?_
  refine lv_icmp_eq (tgt := 927) hx hb dL_law_922 (by decide) (fun c15 => ?_) (fun c15 => ?_)
  · skip
    refine lv_iload hx hb dL_law_927 (lv_at hl 1 rfl) ?_
    refine lv_if_ne (tgt := 944) hx hb dL_law_929 (by decide) (fun c16 => ?_) (fun c16 => ?_)
    · skip
      refine lv_goto (tgt := 2441) hx hb dL_law_944 (by decide) ?_
      exact law_tail l C0 hA2 hS (lv_sub hl [7, 2] rfl) (Nat.le_of_ble_eq_true rfl) (Nat.le_of_ble_eq_true rfl)
    · exact absurd c16 (by decide)
  · exact absurd (by decide) c15

set_option maxHeartbeats 4000000 in
set_option maxRecDepth 100000 in
theorem lc_9 {p : Program} {e : Env} {s : State} {m : MethodId} {below : List Frame} {meth : Method} {c : Code} (l : Launch) (hl0 : l.stackTraces = false) {b : Nat} {xs : Nat → Int32} (C0 : lw_At p s m meth c b 6 xs) {A : Nat → Prop} (hA : ∀ q, s.heap.size ≤ q → A q) (hA2 : ∀ q, A q → s.heap.size ≤ q) {D : va_G} {tE : Nat} {h0 a1 a2 a3 a4 a5 h6 s0 s1 s2 s3 : Nat} {t1 t2 t3 t4 t5 : ClassId} {m0 m1 m2 m3 m4 m5 m6 : Nat} {tc : ClassId} {o oD : Nat} {tj td : ClassId} {H : Heap} {locs : List Loc} {ls : Array Slot} (hK : va_K D vwCl (tLw t1 t2 t3 t4 t5 tc tj td) s) (hG : gP tE A s) (hP : va_P D vwCl (wLw tE h0 a1 a2 a3 a4 a5 h6 s0 s1 s2 s3 m0 m1 m2 m3 m4 m5 m6 o oD t1 t2 t3 t4 t5 tc tj td) H) (hD : va_D A (wLw tE h0 a1 a2 a3 a4 a5 h6 s0 s1 s2 s3 m0 m1 m2 m3 m4 m5 m6 o oD t1 t2 t3 t4 t5 tc tj td)) (hS : va_S A s.heap H locs) (hl : lv_has ls 9 [(5, .int 0), (4, .ref oD), (3, .ref o), (2, .ref m0), (1, .ref h0), (0, .ref b)]) : W p l e room_1 s m #[Value.ref b] below meth c H locs 25 221 (lw_Z below #[Value.ref b] s) (F0 m 947 ls []) := by
  obtain ⟨hx, hb, hr, hml, hown0, hts, hX, hbl, hlocks, hgv⟩ := id C0
  have hta : ∀ w ∈ WA, w.before #[Value.ref b] s = true := fun w h => hts w (WA_in w h)
  have hown : s.vm.findClass "FoundrymarkLaw" = some m.cls := hown0
  have hbA : ¬ A b := fun h => absurd (hA2 b h) (Nat.not_le.mpr hbl)
  refine lv_aload_n hx hb dL_law_947 rfl (lv_at hl 4 rfl) ?_
  refine lv_aload_n hx hb dL_law_948 rfl (lv_at hl 5 rfl) ?_
  refine lv_iload hx hb dL_law_949 (lv_at hl 0 rfl) ?_
  refine lv_iconst (v := 1) hx hb dL_law_951 (by decide) ?_
  refine lv_iadd hx hb dL_law_952 ?_
  refine lv_topi (fun x1 ex1 => ?_)
  obtain rfl : x1 = 1 := ex1.trans (by decide)
  refine va_sld hx hb hX hbl hbA hS (i := 1) (by unfold vp_in; decide) dL_law_953 ?_
  refine W.eq (g2 := F0 m 954 ls [.int (xs 1), .ref h0]) rfl ?_
  refine lv_aload_n hx hb dL_law_954 rfl (lv_at hl 5 rfl) ?_
  refine lv_iload hx hb dL_law_955 (lv_at hl 0 rfl) ?_
  refine lv_iconst (v := 2) hx hb dL_law_957 (by decide) ?_
  refine lv_iadd hx hb dL_law_958 ?_
  refine lv_topi (fun x2 ex2 => ?_)
  obtain rfl : x2 = 2 := ex2.trans (by decide)
  refine va_sld hx hb hX hbl hbA hS (i := 2) (by unfold vp_in; decide) dL_law_959 ?_
  refine W.eq (g2 := F0 m 960 ls [.int (xs 2), .int (xs 1), .ref h0]) rfl ?_
  refine lv_aload_n hx hb dL_law_960 rfl (lv_at hl 2 rfl) ?_
  have hPc := hP.sub (ws' := (wX h0 a1 a2 a3 a4 a5 h6 s0 s1 s2 s3 t1 t2 t3 t4 t5)) [0, 1, 2, 3, 4, 5, 6, 7, 8, 9, 10] rfl
  have hKc := hK.sub (tys' := (tX t1 t2 t3 t4 t5)) [0, 1, 2, 3, 4] rfl
  have hDc := hD.sub (ws' := (wX h0 a1 a2 a3 a4 a5 h6 s0 s1 s2 s3 t1 t2 t3 t4 t5)) [0, 1, 2, 3, 4, 5, 6, 7, 8, 9, 10] (by decide) rfl
  have hFc := va_free (wc := (wX h0 a1 a2 a3 a4 a5 h6 s0 s1 s2 s3 t1 t2 t3 t4 t5)) hD hS hA [0, 1, 2, 3, 4, 5, 6, 7, 8, 9, 10] rfl
  refine gJ_i (isC := [0, 1, 2, 3, 4, 5, 6, 7, 8, 9, 10]) (isR := [11, 12, 13, 14, 15, 16, 17, 18]) (wr := [(m0, .inr (20, [.int 0, .ref m1, .ref m2, .ref m3, .ref m4, .int 0, .ref m5, .ref m6, .int 0])), (m1, .inr (4, [.int 0, .ref tE, .int 0])), (m2, .inr (4, [.int 0, .ref tE, .int 0])), (m3, .inr (4, [.int 0, .ref tE, .int 0])), (m4, .inr (4, [.int 0, .ref tE, .int 0])), (m5, .inl (tc, 4, .inl (upd (upd (upd (upd (fun _ => 0) 0 110) 1 110) 2 110) 3 110))), (o, .inl (tj, 1, .inr (.inl (fun _ => 0)))), (oD, .inl (td, 1, .inr (.inr (.inr (.inl (fun _ => 0))))))]) (vx_runSW (As := [.ref h0, .int (xs 1), .int (xs 2), .ref o]) (rest := []) ⟨hx, hb, hml, hown, hta⟩ (c_L_measure l hl0 ) (vx_cwSW 4 hta (gWSW mw482 mw483 mw416 mw481) rfl rfl rfl (by decide +kernel) ⟨Nat.le_of_ble_eq_true rfl, Nat.le_of_ble_eq_true rfl⟩) ⟨gS_blind, fun U hU hW => ⟨rfl, by rw [hU], by rw [hU]; exact hPc, va_K.moved hW.alike hKc, hDc.weaken (fun _ _ _ _ => trivial), hG.call hS hU hW hFc⟩⟩ rfl rfl hl.1 rfl (lv_room (Nat.le_of_ble_eq_true rfl)) dL_law_961 ⟨Nat.le_of_ble_eq_true rfl, Nat.le_of_ble_eq_true rfl⟩) hP hD hS hK hFc rfl rfl (by decide) (by decide) (fun r3 u4 H locs h5 hP hD hS hK => ?_)
  obtain rfl : r3 = 1 := h5
  have hK : va_K D vwCl (tLw t1 t2 t3 t4 t5 tc tj td) s := hK
  have hP : va_P D vwCl [(m0, .inr (20, [.int 0, .ref m1, .ref m2, .ref m3, .ref m4, .int 0, .ref m5, .ref m6, .int 0])), (m1, .inr (4, [.int 0, .ref tE, .int 0])), (m2, .inr (4, [.int 0, .ref tE, .int 0])), (m3, .inr (4, [.int 0, .ref tE, .int 0])), (m4, .inr (4, [.int 0, .ref tE, .int 0])), (m5, .inl (tc, 4, .inl (upd (upd (upd (upd (fun _ => 0) 0 110) 1 110) 2 110) 3 110))), (o, .inl (tj, 1, .inr (.inl (fun _ => 0)))), (oD, .inl (td, 1, .inr (.inr (.inr (.inl (fun _ => 0))))))] H := hP
  have hD : va_D A [(m0, .inr (20, [.int 0, .ref m1, .ref m2, .ref m3, .ref m4, .int 0, .ref m5, .ref m6, .int 0])), (m1, .inr (4, [.int 0, .ref tE, .int 0])), (m2, .inr (4, [.int 0, .ref tE, .int 0])), (m3, .inr (4, [.int 0, .ref tE, .int 0])), (m4, .inr (4, [.int 0, .ref tE, .int 0])), (m5, .inl (tc, 4, .inl (upd (upd (upd (upd (fun _ => 0) 0 110) 1 110) 2 110) 3 110))), (o, .inl (tj, 1, .inr (.inl (fun _ => 0)))), (oD, .inl (td, 1, .inr (.inr (.inr (.inl (fun _ => 0))))))] := hD
  refine lv_istore (lv' := [(6, .int 1), (5, .int 0), (4, .ref oD), (3, .ref o), (2, .ref m0), (1, .ref h0), (0, .ref b)]) hx hb dL_law_964 hl (by decide) rfl (fun ls hl => ?_)
  refine lv_aload_n hx hb dL_law_966 rfl (lv_at hl 4 rfl) ?_
  refine lv_aload_n hx hb dL_law_967 rfl (lv_at hl 6 rfl) ?_
  refine lv_iload hx hb dL_law_968 (lv_at hl 1 rfl) ?_
  refine lv_iconst (v := 1) hx hb dL_law_970 (by decide) ?_
  refine lv_iadd hx hb dL_law_971 ?_
  refine lv_topi (fun x6 ex6 => ?_)
  obtain rfl : x6 = 1 := ex6.trans (by decide)
  refine va_sld hx hb hX hbl hbA hS (i := 1) (by unfold vp_in; decide) dL_law_972 ?_
  refine W.eq (g2 := F0 m 973 ls [.int (xs 1), .ref m0]) rfl ?_
  refine lv_aload_n hx hb dL_law_973 rfl (lv_at hl 6 rfl) ?_
  refine lv_iload hx hb dL_law_974 (lv_at hl 1 rfl) ?_
  refine lv_iconst (v := 2) hx hb dL_law_976 (by decide) ?_
  refine lv_iadd hx hb dL_law_977 ?_
  refine lv_topi (fun x7 ex7 => ?_)
  obtain rfl : x7 = 2 := ex7.trans (by decide)
  refine va_sld hx hb hX hbl hbA hS (i := 2) (by unfold vp_in; decide) dL_law_978 ?_
  refine W.eq (g2 := F0 m 979 ls [.int (xs 2), .int (xs 1), .ref m0]) rfl ?_
  have hPc := hP.sub (ws' := (wM tE m0 m1 m2 m3 m4 m5 m6 tc 0 0)) [0, 1, 2, 3, 4, 5] rfl
  have hKc := hK.sub (tys' := [(tc, .char)]) [5] rfl
  have hDc := hD.sub (ws' := (wM tE m0 m1 m2 m3 m4 m5 m6 tc 0 0)) [0, 1, 2, 3, 4, 5] (by decide) rfl
  have hFc := va_free (wc := (wM tE m0 m1 m2 m3 m4 m5 m6 tc 0 0)) hD hS hA [0, 1, 2, 3, 4, 5] rfl
  refine gJ_i (isC := [0, 1, 2, 3, 4, 5]) (isR := [6, 7]) (wr := [(o, .inl (tj, 1, .inr (.inl (fun _ => 0)))), (oD, .inl (td, 1, .inr (.inr (.inr (.inl (fun _ => 0))))))]) (va_runV (As := [.int (xs 1), .int (xs 2)]) (rest := []) ⟨hx, hb, hml, hown, hta⟩ (c_X15_measure l ) (cwV 2 hta (gWV mw485 mw486 mw487 mw176 mw484) rfl rfl rfl (by decide +kernel) ⟨Nat.le_of_ble_eq_true rfl, Nat.le_of_ble_eq_true rfl⟩) ⟨gS_blind, va_recv hKc hPc (ci := 20) (q0 := 0) rfl rfl, fun U hU hW => ⟨rfl, by rw [hU], by rw [hU]; exact hPc, va_K.moved hW.alike hKc, hDc.weaken (fun _ _ _ _ => trivial), hG.call hS hU hW hFc⟩⟩ rfl rfl hl.1 rfl (lv_room (Nat.le_of_ble_eq_true rfl)) dL_law_979 ⟨Nat.le_of_ble_eq_true rfl, Nat.le_of_ble_eq_true rfl⟩) hP hD hS hK hFc rfl rfl (by decide) (by decide) (fun r8 u9 H locs h10 hP hD hS hK => ?_)
  obtain rfl : r8 = 0 := h10
  have hK : va_K D vwCl (tLw t1 t2 t3 t4 t5 tc tj td) s := hK
  have hP : va_P D vwCl [(o, .inl (tj, 1, .inr (.inl (fun _ => 0)))), (oD, .inl (td, 1, .inr (.inr (.inr (.inl (fun _ => 0)))))), (m0, .inr (20, [.int 1, .ref m1, .ref m2, .ref m3, .ref m4, .int 0, .ref m5, .ref m6, .int 0])), (m1, .inr (4, [.int 0, .ref tE, .int 0])), (m2, .inr (4, [.int 0, .ref tE, .int 0])), (m3, .inr (4, [.int 0, .ref tE, .int 0])), (m4, .inr (4, [.int 0, .ref tE, .int 0])), (m5, .inl (tc, 4, .inl (upd (upd (upd (upd (fun _ => 0) 0 110) 1 110) 2 110) 3 110)))] H := hP
  have hD : va_D A [(o, .inl (tj, 1, .inr (.inl (fun _ => 0)))), (oD, .inl (td, 1, .inr (.inr (.inr (.inl (fun _ => 0)))))), (m0, .inr (20, [.int 1, .ref m1, .ref m2, .ref m3, .ref m4, .int 0, .ref m5, .ref m6, .int 0])), (m1, .inr (4, [.int 0, .ref tE, .int 0])), (m2, .inr (4, [.int 0, .ref tE, .int 0])), (m3, .inr (4, [.int 0, .ref tE, .int 0])), (m4, .inr (4, [.int 0, .ref tE, .int 0])), (m5, .inl (tc, 4, .inl (upd (upd (upd (upd (fun _ => 0) 0 110) 1 110) 2 110) 3 110)))] := hD
  refine lv_istore (lv' := [(7, .int 0), (6, .int 1), (5, .int 0), (4, .ref oD), (3, .ref o), (2, .ref m0), (1, .ref h0), (0, .ref b)]) hx hb dL_law_982 hl (by decide) rfl (fun ls hl => ?_)
  refine lv_aload_n hx hb dL_law_984 rfl (lv_at hl 5 rfl) ?_
  have hPc := hP.sub (ws' := [(m0, .inr (20, [.int 1, .ref m1, .ref m2, .ref m3, .ref m4, .int 0, .ref m5, .ref m6, .int 0]))]) [2] rfl
  have hKc := hK.sub (tys' := []) [] rfl
  refine vp_callSi (W.runV (As := []) (rest := []) ⟨hx, hb, hml, hown, hta⟩ (c_X15_thrown l ) (cwV 0 hta (gWV mw422 mw423 mw424 mw176 mw421) rfl rfl rfl (by decide +kernel) ⟨Nat.le_of_ble_eq_true rfl, Nat.le_of_ble_eq_true rfl⟩) ⟨gR_blind, va_recv hKc hPc (ci := 20) (q0 := 0) rfl rfl, fun U hU hW => ⟨rfl, by rw [hU]; exact hPc, va_K.moved hW.alike hKc⟩⟩ rfl rfl hl.1 rfl (lv_room (Nat.le_of_ble_eq_true rfl)) dL_law_985 ⟨Nat.le_of_ble_eq_true rfl, Nat.le_of_ble_eq_true rfl⟩) (fun r11 h12 => ?_)
  obtain rfl : r11 = 1 := h12
  refine lv_iload hx hb dL_law_988 (lv_at hl 1 rfl) ?_
  refine lv_icmp_eq (tgt := 995) hx hb dL_law_990 (by decide) (fun c13 => ?_) (fun c13 => ?_)
  · skip
    refine lv_iload hx hb dL_law_995 (lv_at hl 1 rfl) ?_
    refine lv_if_ne (tgt := 1019) hx hb dL_law_997 (by decide) (fun c14 => ?_) (fun c14 => ?_)
    · skip
      refine lv_goto (tgt := 2441) hx hb dL_law_1019 (by decide) ?_
      exact law_tail l C0 hA2 hS (lv_sub hl [7, 2] rfl) (Nat.le_of_ble_eq_true rfl) (Nat.le_of_ble_eq_true rfl)
    · exact absurd c14 (by decide)
  · exact absurd (by decide) c13

set_option maxHeartbeats 4000000 in
set_option maxRecDepth 100000 in
theorem lc_10 {p : Program} {e : Env} {s : State} {m : MethodId} {below : List Frame} {meth : Method} {c : Code} (l : Launch) (hl0 : l.stackTraces = false) {b : Nat} {xs : Nat → Int32} (C0 : lw_At p s m meth c b 6 xs) {A : Nat → Prop} (hA : ∀ q, s.heap.size ≤ q → A q) (hA2 : ∀ q, A q → s.heap.size ≤ q) {D : va_G} {tE : Nat} {h0 a1 a2 a3 a4 a5 h6 s0 s1 s2 s3 : Nat} {t1 t2 t3 t4 t5 : ClassId} {m0 m1 m2 m3 m4 m5 m6 : Nat} {tc : ClassId} {o oD : Nat} {tj td : ClassId} {H : Heap} {locs : List Loc} {ls : Array Slot} (hK : va_K D vwCl (tLw t1 t2 t3 t4 t5 tc tj td) s) (hG : gP tE A s) (hP : va_P D vwCl (wLw tE h0 a1 a2 a3 a4 a5 h6 s0 s1 s2 s3 m0 m1 m2 m3 m4 m5 m6 o oD t1 t2 t3 t4 t5 tc tj td) H) (hD : va_D A (wLw tE h0 a1 a2 a3 a4 a5 h6 s0 s1 s2 s3 m0 m1 m2 m3 m4 m5 m6 o oD t1 t2 t3 t4 t5 tc tj td)) (hS : va_S A s.heap H locs) (hl : lv_has ls 9 [(5, .int 0), (4, .ref oD), (3, .ref o), (2, .ref m0), (1, .ref h0), (0, .ref b)]) : W p l e room_1 s m #[Value.ref b] below meth c H locs 25 221 (lw_Z below #[Value.ref b] s) (F0 m 1022 ls []) := by
  obtain ⟨hx, hb, hr, hml, hown0, hts, hX, hbl, hlocks, hgv⟩ := id C0
  have hta : ∀ w ∈ WA, w.before #[Value.ref b] s = true := fun w h => hts w (WA_in w h)
  have hown : s.vm.findClass "FoundrymarkLaw" = some m.cls := hown0
  have hbA : ¬ A b := fun h => absurd (hA2 b h) (Nat.not_le.mpr hbl)
  refine lv_aload_n hx hb dL_law_1022 rfl (lv_at hl 4 rfl) ?_
  have hPc := hP.sub (ws' := (wX h0 a1 a2 a3 a4 a5 h6 s0 s1 s2 s3 t1 t2 t3 t4 t5)) [0, 1, 2, 3, 4, 5, 6, 7, 8, 9, 10] rfl
  have hKc := hK.sub (tys' := (tX t1 t2 t3 t4 t5)) [0, 1, 2, 3, 4] rfl
  refine vp_callSi (W.runV (As := []) (rest := []) ⟨hx, hb, hml, hown, hta⟩ (c_X10_lots l ) (cwV 0 hta (gWV mw489 mw490 mw491 mw10 mw488) rfl rfl rfl (by decide +kernel) ⟨Nat.le_of_ble_eq_true rfl, Nat.le_of_ble_eq_true rfl⟩) ⟨gR_blind, va_recv hKc hPc (ci := 15) (q0 := 0) rfl rfl, fun U hU hW => ⟨rfl, by rw [hU]; exact hPc, va_K.moved hW.alike hKc⟩⟩ rfl rfl hl.1 rfl (lv_room (Nat.le_of_ble_eq_true rfl)) dL_law_1023 ⟨Nat.le_of_ble_eq_true rfl, Nat.le_of_ble_eq_true rfl⟩) (fun r1 h2 => ?_)
  obtain rfl : r1 = 0 := h2
  refine lv_aload_n hx hb dL_law_1026 rfl (lv_at hl 3 rfl) ?_
  have hPc := hP.sub (ws' := (wM tE m0 m1 m2 m3 m4 m5 m6 tc 0 0)) [11, 12, 13, 14, 15, 16] rfl
  have hKc := hK.sub (tys' := [(tc, .char)]) [5] rfl
  have hDc := hD.sub (ws' := (wM tE m0 m1 m2 m3 m4 m5 m6 tc 0 0)) [11, 12, 13, 14, 15, 16] (by decide) rfl
  have hFc := va_free (wc := (wM tE m0 m1 m2 m3 m4 m5 m6 tc 0 0)) hD hS hA [11, 12, 13, 14, 15, 16] rfl
  refine gJ_i (isC := [11, 12, 13, 14, 15, 16]) (isR := [0, 1, 2, 3, 4, 5, 6, 7, 8, 9, 10, 17, 18]) (wr := [(h0, .inr (15, [.ref a1, .ref a2, .ref a3, .ref a4, .ref a5, .ref h6, .int 0, .int 0, .int 0, .int 0, .int 0, .int 0, .long 0, .long 0])), (a1, .inl (t1, 5, .inr (.inr (.inr (.inr (fun _ => none)))))), (a2, .inl (t2, 12, .inr (.inr (.inr (.inr (fun _ => none)))))), (a3, .inl (t3, 4, .inr (.inr (.inr (.inr (va_up (va_up (va_up (va_up (fun _ => none) 0 (some s0)) 1 (some s1)) 2 (some s2)) 3 (some s3))))))), (a4, .inl (t4, 90, .inr (.inr (.inr (.inr (fun _ => none)))))), (a5, .inl (t5, 30, .inr (.inr (.inr (.inr (fun _ => none)))))), (h6, .inr (10, [.long 0, .long 0])), (s0, .inr (14, [.int 110, .int 0, .int 0])), (s1, .inr (14, [.int 110, .int 0, .int 0])), (s2, .inr (14, [.int 110, .int 0, .int 0])), (s3, .inr (14, [.int 110, .int 0, .int 0])), (o, .inl (tj, 1, .inr (.inl (fun _ => 0)))), (oD, .inl (td, 1, .inr (.inr (.inr (.inl (fun _ => 0))))))]) (va_runV (As := []) (rest := [.int 0]) ⟨hx, hb, hml, hown, hta⟩ (c_X15_lots l ) (cwV 0 hta (gWV mw493 mw494 mw495 mw176 mw492) rfl rfl rfl (by decide +kernel) ⟨Nat.le_of_ble_eq_true rfl, Nat.le_of_ble_eq_true rfl⟩) ⟨gS_blind, va_recv hKc hPc (ci := 20) (q0 := 0) rfl rfl, fun U hU hW => ⟨rfl, by rw [hU], by rw [hU]; exact hPc, va_K.moved hW.alike hKc, hDc.weaken (fun _ _ _ _ => trivial), hG.call hS hU hW hFc⟩⟩ rfl rfl hl.1 rfl (lv_room (Nat.le_of_ble_eq_true rfl)) dL_law_1027 ⟨Nat.le_of_ble_eq_true rfl, Nat.le_of_ble_eq_true rfl⟩) hP hD hS hK hFc rfl rfl (by decide) (by decide) (fun r3 u4 H locs h5 hP hD hS hK => ?_)
  obtain rfl : r3 = 0 := h5
  have hK : va_K D vwCl (tLw t1 t2 t3 t4 t5 tc tj td) s := hK
  have hP : va_P D vwCl [(h0, .inr (15, [.ref a1, .ref a2, .ref a3, .ref a4, .ref a5, .ref h6, .int 0, .int 0, .int 0, .int 0, .int 0, .int 0, .long 0, .long 0])), (a1, .inl (t1, 5, .inr (.inr (.inr (.inr (fun _ => none)))))), (a2, .inl (t2, 12, .inr (.inr (.inr (.inr (fun _ => none)))))), (a3, .inl (t3, 4, .inr (.inr (.inr (.inr (va_up (va_up (va_up (va_up (fun _ => none) 0 (some s0)) 1 (some s1)) 2 (some s2)) 3 (some s3))))))), (a4, .inl (t4, 90, .inr (.inr (.inr (.inr (fun _ => none)))))), (a5, .inl (t5, 30, .inr (.inr (.inr (.inr (fun _ => none)))))), (h6, .inr (10, [.long 0, .long 0])), (s0, .inr (14, [.int 110, .int 0, .int 0])), (s1, .inr (14, [.int 110, .int 0, .int 0])), (s2, .inr (14, [.int 110, .int 0, .int 0])), (s3, .inr (14, [.int 110, .int 0, .int 0])), (o, .inl (tj, 1, .inr (.inl (fun _ => 0)))), (oD, .inl (td, 1, .inr (.inr (.inr (.inl (fun _ => 0)))))), (m0, .inr (20, [.int 0, .ref m1, .ref m2, .ref m3, .ref m4, .int 0, .ref m5, .ref m6, .int 0])), (m1, .inr (4, [.int 0, .ref tE, .int 0])), (m2, .inr (4, [.int 0, .ref tE, .int 0])), (m3, .inr (4, [.int 0, .ref tE, .int 0])), (m4, .inr (4, [.int 0, .ref tE, .int 0])), (m5, .inl (tc, 4, .inl (upd (upd (upd (upd (fun _ => 0) 0 110) 1 110) 2 110) 3 110)))] H := hP
  have hD : va_D A [(h0, .inr (15, [.ref a1, .ref a2, .ref a3, .ref a4, .ref a5, .ref h6, .int 0, .int 0, .int 0, .int 0, .int 0, .int 0, .long 0, .long 0])), (a1, .inl (t1, 5, .inr (.inr (.inr (.inr (fun _ => none)))))), (a2, .inl (t2, 12, .inr (.inr (.inr (.inr (fun _ => none)))))), (a3, .inl (t3, 4, .inr (.inr (.inr (.inr (va_up (va_up (va_up (va_up (fun _ => none) 0 (some s0)) 1 (some s1)) 2 (some s2)) 3 (some s3))))))), (a4, .inl (t4, 90, .inr (.inr (.inr (.inr (fun _ => none)))))), (a5, .inl (t5, 30, .inr (.inr (.inr (.inr (fun _ => none)))))), (h6, .inr (10, [.long 0, .long 0])), (s0, .inr (14, [.int 110, .int 0, .int 0])), (s1, .inr (14, [.int 110, .int 0, .int 0])), (s2, .inr (14, [.int 110, .int 0, .int 0])), (s3, .inr (14, [.int 110, .int 0, .int 0])), (o, .inl (tj, 1, .inr (.inl (fun _ => 0)))), (oD, .inl (td, 1, .inr (.inr (.inr (.inl (fun _ => 0)))))), (m0, .inr (20, [.int 0, .ref m1, .ref m2, .ref m3, .ref m4, .int 0, .ref m5, .ref m6, .int 0])), (m1, .inr (4, [.int 0, .ref tE, .int 0])), (m2, .inr (4, [.int 0, .ref tE, .int 0])), (m3, .inr (4, [.int 0, .ref tE, .int 0])), (m4, .inr (4, [.int 0, .ref tE, .int 0])), (m5, .inl (tc, 4, .inl (upd (upd (upd (upd (fun _ => 0) 0 110) 1 110) 2 110) 3 110)))] := hD
  refine lv_icmp_eq (tgt := 2441) hx hb dL_law_1030 (by decide) (fun c6 => ?_) (fun c6 => ?_)
  · skip
    exact law_tail l C0 hA2 hS (lv_sub hl [5, 0] rfl) (Nat.le_of_ble_eq_true rfl) (Nat.le_of_ble_eq_true rfl)
  · exact absurd (by decide) c6

set_option maxHeartbeats 4000000 in
set_option maxRecDepth 100000 in
theorem lc_11 {p : Program} {e : Env} {s : State} {m : MethodId} {below : List Frame} {meth : Method} {c : Code} (l : Launch) (hl0 : l.stackTraces = false) {b : Nat} {xs : Nat → Int32} (C0 : lw_At p s m meth c b 6 xs) {A : Nat → Prop} (hA : ∀ q, s.heap.size ≤ q → A q) (hA2 : ∀ q, A q → s.heap.size ≤ q) {D : va_G} {tE : Nat} {h0 a1 a2 a3 a4 a5 h6 s0 s1 s2 s3 : Nat} {t1 t2 t3 t4 t5 : ClassId} {m0 m1 m2 m3 m4 m5 m6 : Nat} {tc : ClassId} {o oD : Nat} {tj td : ClassId} {H : Heap} {locs : List Loc} {ls : Array Slot} (hK : va_K D vwCl (tLw t1 t2 t3 t4 t5 tc tj td) s) (hG : gP tE A s) (hP : va_P D vwCl (wLw tE h0 a1 a2 a3 a4 a5 h6 s0 s1 s2 s3 m0 m1 m2 m3 m4 m5 m6 o oD t1 t2 t3 t4 t5 tc tj td) H) (hD : va_D A (wLw tE h0 a1 a2 a3 a4 a5 h6 s0 s1 s2 s3 m0 m1 m2 m3 m4 m5 m6 o oD t1 t2 t3 t4 t5 tc tj td)) (hS : va_S A s.heap H locs) (hl : lv_has ls 9 [(5, .int 0), (4, .ref oD), (3, .ref o), (2, .ref m0), (1, .ref h0), (0, .ref b)]) : W p l e room_1 s m #[Value.ref b] below meth c H locs 25 221 (lw_Z below #[Value.ref b] s) (F0 m 1035 ls []) := by
  obtain ⟨hx, hb, hr, hml, hown0, hts, hX, hbl, hlocks, hgv⟩ := id C0
  have hta : ∀ w ∈ WA, w.before #[Value.ref b] s = true := fun w h => hts w (WA_in w h)
  have hown : s.vm.findClass "FoundrymarkLaw" = some m.cls := hown0
  have hbA : ¬ A b := fun h => absurd (hA2 b h) (Nat.not_le.mpr hbl)
  refine lv_aload_n hx hb dL_law_1035 rfl (lv_at hl 4 rfl) ?_
  refine lv_aload_n hx hb dL_law_1036 rfl (lv_at hl 5 rfl) ?_
  refine lv_iload hx hb dL_law_1037 (lv_at hl 0 rfl) ?_
  refine lv_iconst (v := 1) hx hb dL_law_1039 (by decide) ?_
  refine lv_iadd hx hb dL_law_1040 ?_
  refine lv_topi (fun x1 ex1 => ?_)
  obtain rfl : x1 = 1 := ex1.trans (by decide)
  refine va_sld hx hb hX hbl hbA hS (i := 1) (by unfold vp_in; decide) dL_law_1041 ?_
  refine W.eq (g2 := F0 m 1042 ls [.int (xs 1), .ref h0]) rfl ?_
  refine lv_aload_n hx hb dL_law_1042 rfl (lv_at hl 2 rfl) ?_
  have hPc := hP.sub (ws' := (wX h0 a1 a2 a3 a4 a5 h6 s0 s1 s2 s3 t1 t2 t3 t4 t5)) [0, 1, 2, 3, 4, 5, 6, 7, 8, 9, 10] rfl
  have hKc := hK.sub (tys' := (tX t1 t2 t3 t4 t5)) [0, 1, 2, 3, 4] rfl
  have hDc := hD.sub (ws' := (wX h0 a1 a2 a3 a4 a5 h6 s0 s1 s2 s3 t1 t2 t3 t4 t5)) [0, 1, 2, 3, 4, 5, 6, 7, 8, 9, 10] (by decide) rfl
  have hFc := va_free (wc := (wX h0 a1 a2 a3 a4 a5 h6 s0 s1 s2 s3 t1 t2 t3 t4 t5)) hD hS hA [0, 1, 2, 3, 4, 5, 6, 7, 8, 9, 10] rfl
  refine gJ_i (isC := [0, 1, 2, 3, 4, 5, 6, 7, 8, 9, 10]) (isR := [11, 12, 13, 14, 15, 16, 17, 18]) (wr := [(m0, .inr (20, [.int 0, .ref m1, .ref m2, .ref m3, .ref m4, .int 0, .ref m5, .ref m6, .int 0])), (m1, .inr (4, [.int 0, .ref tE, .int 0])), (m2, .inr (4, [.int 0, .ref tE, .int 0])), (m3, .inr (4, [.int 0, .ref tE, .int 0])), (m4, .inr (4, [.int 0, .ref tE, .int 0])), (m5, .inl (tc, 4, .inl (upd (upd (upd (upd (fun _ => 0) 0 110) 1 110) 2 110) 3 110))), (o, .inl (tj, 1, .inr (.inl (fun _ => 0)))), (oD, .inl (td, 1, .inr (.inr (.inr (.inl (fun _ => 0))))))]) (vx_runSW (As := [.ref h0, .int (xs 1), .ref o]) (rest := []) ⟨hx, hb, hml, hown, hta⟩ (c_L_partOf l hl0 ) (vx_cwSW 3 hta (gWSW mw497 mw498 mw416 mw496) rfl rfl rfl (by decide +kernel) ⟨Nat.le_of_ble_eq_true rfl, Nat.le_of_ble_eq_true rfl⟩) ⟨gS_blind, fun U hU hW => ⟨rfl, by rw [hU], by rw [hU]; exact hPc, va_K.moved hW.alike hKc, hDc.weaken (fun _ _ _ _ => trivial), hG.call hS hU hW hFc⟩⟩ rfl rfl hl.1 rfl (lv_room (Nat.le_of_ble_eq_true rfl)) dL_law_1043 ⟨Nat.le_of_ble_eq_true rfl, Nat.le_of_ble_eq_true rfl⟩) hP hD hS hK hFc rfl rfl (by decide) (by decide) (fun r2 u3 H locs h4 hP hD hS hK => ?_)
  obtain rfl : r2 = 1 := h4
  have hK : va_K D vwCl (tLw t1 t2 t3 t4 t5 tc tj td) s := hK
  have hP : va_P D vwCl [(m0, .inr (20, [.int 0, .ref m1, .ref m2, .ref m3, .ref m4, .int 0, .ref m5, .ref m6, .int 0])), (m1, .inr (4, [.int 0, .ref tE, .int 0])), (m2, .inr (4, [.int 0, .ref tE, .int 0])), (m3, .inr (4, [.int 0, .ref tE, .int 0])), (m4, .inr (4, [.int 0, .ref tE, .int 0])), (m5, .inl (tc, 4, .inl (upd (upd (upd (upd (fun _ => 0) 0 110) 1 110) 2 110) 3 110))), (o, .inl (tj, 1, .inr (.inl (fun _ => 0)))), (oD, .inl (td, 1, .inr (.inr (.inr (.inl (fun _ => 0))))))] H := hP
  have hD : va_D A [(m0, .inr (20, [.int 0, .ref m1, .ref m2, .ref m3, .ref m4, .int 0, .ref m5, .ref m6, .int 0])), (m1, .inr (4, [.int 0, .ref tE, .int 0])), (m2, .inr (4, [.int 0, .ref tE, .int 0])), (m3, .inr (4, [.int 0, .ref tE, .int 0])), (m4, .inr (4, [.int 0, .ref tE, .int 0])), (m5, .inl (tc, 4, .inl (upd (upd (upd (upd (fun _ => 0) 0 110) 1 110) 2 110) 3 110))), (o, .inl (tj, 1, .inr (.inl (fun _ => 0)))), (oD, .inl (td, 1, .inr (.inr (.inr (.inl (fun _ => 0))))))] := hD
  refine lv_istore (lv' := [(6, .int 1), (5, .int 0), (4, .ref oD), (3, .ref o), (2, .ref m0), (1, .ref h0), (0, .ref b)]) hx hb dL_law_1046 hl (by decide) rfl (fun ls hl => ?_)
  refine lv_aload_n hx hb dL_law_1048 rfl (lv_at hl 4 rfl) ?_
  refine lv_aload_n hx hb dL_law_1049 rfl (lv_at hl 6 rfl) ?_
  refine lv_iload hx hb dL_law_1050 (lv_at hl 1 rfl) ?_
  refine lv_iconst (v := 1) hx hb dL_law_1052 (by decide) ?_
  refine lv_iadd hx hb dL_law_1053 ?_
  refine lv_topi (fun x5 ex5 => ?_)
  obtain rfl : x5 = 1 := ex5.trans (by decide)
  refine va_sld hx hb hX hbl hbA hS (i := 1) (by unfold vp_in; decide) dL_law_1054 ?_
  refine W.eq (g2 := F0 m 1055 ls [.int (xs 1), .ref m0]) rfl ?_
  have hPc := hP.sub (ws' := (wM tE m0 m1 m2 m3 m4 m5 m6 tc 0 0)) [0, 1, 2, 3, 4, 5] rfl
  have hKc := hK.sub (tys' := [(tc, .char)]) [5] rfl
  have hDc := hD.sub (ws' := (wM tE m0 m1 m2 m3 m4 m5 m6 tc 0 0)) [0, 1, 2, 3, 4, 5] (by decide) rfl
  have hFc := va_free (wc := (wM tE m0 m1 m2 m3 m4 m5 m6 tc 0 0)) hD hS hA [0, 1, 2, 3, 4, 5] rfl
  refine gJ_i (isC := [0, 1, 2, 3, 4, 5]) (isR := [6, 7]) (wr := [(o, .inl (tj, 1, .inr (.inl (fun _ => 0)))), (oD, .inl (td, 1, .inr (.inr (.inr (.inl (fun _ => 0))))))]) (va_runV (As := [.int (xs 1)]) (rest := []) ⟨hx, hb, hml, hown, hta⟩ (c_X15_partOf l ) (cwV 1 hta (gWV mw500 mw501 mw502 mw176 mw499) rfl rfl rfl (by decide +kernel) ⟨Nat.le_of_ble_eq_true rfl, Nat.le_of_ble_eq_true rfl⟩) ⟨gS_blind, va_recv hKc hPc (ci := 20) (q0 := 0) rfl rfl, fun U hU hW => ⟨rfl, by rw [hU], by rw [hU]; exact hPc, va_K.moved hW.alike hKc, hDc.weaken (fun _ _ _ _ => trivial), hG.call hS hU hW hFc⟩⟩ rfl rfl hl.1 rfl (lv_room (Nat.le_of_ble_eq_true rfl)) dL_law_1055 ⟨Nat.le_of_ble_eq_true rfl, Nat.le_of_ble_eq_true rfl⟩) hP hD hS hK hFc rfl rfl (by decide) (by decide) (fun r6 u7 H locs h8 hP hD hS hK => ?_)
  obtain rfl : r6 = 0 := h8
  have hK : va_K D vwCl (tLw t1 t2 t3 t4 t5 tc tj td) s := hK
  have hP : va_P D vwCl [(o, .inl (tj, 1, .inr (.inl (fun _ => 0)))), (oD, .inl (td, 1, .inr (.inr (.inr (.inl (fun _ => 0)))))), (m0, .inr (20, [.int 1, .ref m1, .ref m2, .ref m3, .ref m4, .int 0, .ref m5, .ref m6, .int 0])), (m1, .inr (4, [.int 0, .ref tE, .int 0])), (m2, .inr (4, [.int 0, .ref tE, .int 0])), (m3, .inr (4, [.int 0, .ref tE, .int 0])), (m4, .inr (4, [.int 0, .ref tE, .int 0])), (m5, .inl (tc, 4, .inl (upd (upd (upd (upd (fun _ => 0) 0 110) 1 110) 2 110) 3 110)))] H := hP
  have hD : va_D A [(o, .inl (tj, 1, .inr (.inl (fun _ => 0)))), (oD, .inl (td, 1, .inr (.inr (.inr (.inl (fun _ => 0)))))), (m0, .inr (20, [.int 1, .ref m1, .ref m2, .ref m3, .ref m4, .int 0, .ref m5, .ref m6, .int 0])), (m1, .inr (4, [.int 0, .ref tE, .int 0])), (m2, .inr (4, [.int 0, .ref tE, .int 0])), (m3, .inr (4, [.int 0, .ref tE, .int 0])), (m4, .inr (4, [.int 0, .ref tE, .int 0])), (m5, .inl (tc, 4, .inl (upd (upd (upd (upd (fun _ => 0) 0 110) 1 110) 2 110) 3 110)))] := hD
  refine lv_istore (lv' := [(7, .int 0), (6, .int 1), (5, .int 0), (4, .ref oD), (3, .ref o), (2, .ref m0), (1, .ref h0), (0, .ref b)]) hx hb dL_law_1058 hl (by decide) rfl (fun ls hl => ?_)
  refine lv_aload_n hx hb dL_law_1060 rfl (lv_at hl 5 rfl) ?_
  have hPc := hP.sub (ws' := [(m0, .inr (20, [.int 1, .ref m1, .ref m2, .ref m3, .ref m4, .int 0, .ref m5, .ref m6, .int 0]))]) [2] rfl
  have hKc := hK.sub (tys' := []) [] rfl
  refine vp_callSi (W.runV (As := []) (rest := []) ⟨hx, hb, hml, hown, hta⟩ (c_X15_thrown l ) (cwV 0 hta (gWV mw422 mw423 mw424 mw176 mw421) rfl rfl rfl (by decide +kernel) ⟨Nat.le_of_ble_eq_true rfl, Nat.le_of_ble_eq_true rfl⟩) ⟨gR_blind, va_recv hKc hPc (ci := 20) (q0 := 0) rfl rfl, fun U hU hW => ⟨rfl, by rw [hU]; exact hPc, va_K.moved hW.alike hKc⟩⟩ rfl rfl hl.1 rfl (lv_room (Nat.le_of_ble_eq_true rfl)) dL_law_1061 ⟨Nat.le_of_ble_eq_true rfl, Nat.le_of_ble_eq_true rfl⟩) (fun r9 h10 => ?_)
  obtain rfl : r9 = 1 := h10
  refine lv_iload hx hb dL_law_1064 (lv_at hl 1 rfl) ?_
  refine lv_icmp_eq (tgt := 1071) hx hb dL_law_1066 (by decide) (fun c11 => ?_) (fun c11 => ?_)
  · skip
    refine lv_iload hx hb dL_law_1071 (lv_at hl 1 rfl) ?_
    refine lv_if_ne (tgt := 1088) hx hb dL_law_1073 (by decide) (fun c12 => ?_) (fun c12 => ?_)
    · skip
      refine lv_goto (tgt := 2441) hx hb dL_law_1088 (by decide) ?_
      exact law_tail l C0 hA2 hS (lv_sub hl [7, 2] rfl) (Nat.le_of_ble_eq_true rfl) (Nat.le_of_ble_eq_true rfl)
    · exact absurd c12 (by decide)
  · exact absurd (by decide) c11

set_option maxHeartbeats 4000000 in
set_option maxRecDepth 100000 in
theorem lc_12 {p : Program} {e : Env} {s : State} {m : MethodId} {below : List Frame} {meth : Method} {c : Code} (l : Launch) (hl0 : l.stackTraces = false) {b : Nat} {xs : Nat → Int32} (C0 : lw_At p s m meth c b 6 xs) {A : Nat → Prop} (hA : ∀ q, s.heap.size ≤ q → A q) (hA2 : ∀ q, A q → s.heap.size ≤ q) {D : va_G} {tE : Nat} {h0 a1 a2 a3 a4 a5 h6 s0 s1 s2 s3 : Nat} {t1 t2 t3 t4 t5 : ClassId} {m0 m1 m2 m3 m4 m5 m6 : Nat} {tc : ClassId} {o oD : Nat} {tj td : ClassId} {H : Heap} {locs : List Loc} {ls : Array Slot} (hK : va_K D vwCl (tLw t1 t2 t3 t4 t5 tc tj td) s) (hG : gP tE A s) (hP : va_P D vwCl (wLw tE h0 a1 a2 a3 a4 a5 h6 s0 s1 s2 s3 m0 m1 m2 m3 m4 m5 m6 o oD t1 t2 t3 t4 t5 tc tj td) H) (hD : va_D A (wLw tE h0 a1 a2 a3 a4 a5 h6 s0 s1 s2 s3 m0 m1 m2 m3 m4 m5 m6 o oD t1 t2 t3 t4 t5 tc tj td)) (hS : va_S A s.heap H locs) (hl : lv_has ls 9 [(5, .int 0), (4, .ref oD), (3, .ref o), (2, .ref m0), (1, .ref h0), (0, .ref b)]) : W p l e room_1 s m #[Value.ref b] below meth c H locs 25 221 (lw_Z below #[Value.ref b] s) (F0 m 1091 ls []) := by
  obtain ⟨hx, hb, hr, hml, hown0, hts, hX, hbl, hlocks, hgv⟩ := id C0
  have hta : ∀ w ∈ WA, w.before #[Value.ref b] s = true := fun w h => hts w (WA_in w h)
  have hown : s.vm.findClass "FoundrymarkLaw" = some m.cls := hown0
  have hbA : ¬ A b := fun h => absurd (hA2 b h) (Nat.not_le.mpr hbl)
  refine lv_aload_n hx hb dL_law_1091 rfl (lv_at hl 4 rfl) ?_
  refine lv_aload_n hx hb dL_law_1092 rfl (lv_at hl 5 rfl) ?_
  refine lv_iload hx hb dL_law_1093 (lv_at hl 0 rfl) ?_
  refine lv_iconst (v := 1) hx hb dL_law_1095 (by decide) ?_
  refine lv_iadd hx hb dL_law_1096 ?_
  refine lv_topi (fun x1 ex1 => ?_)
  obtain rfl : x1 = 1 := ex1.trans (by decide)
  refine va_sld hx hb hX hbl hbA hS (i := 1) (by unfold vp_in; decide) dL_law_1097 ?_
  refine W.eq (g2 := F0 m 1098 ls [.int (xs 1), .ref h0]) rfl ?_
  refine lv_aload_n hx hb dL_law_1098 rfl (lv_at hl 2 rfl) ?_
  have hPc := hP.sub (ws' := (wX h0 a1 a2 a3 a4 a5 h6 s0 s1 s2 s3 t1 t2 t3 t4 t5)) [0, 1, 2, 3, 4, 5, 6, 7, 8, 9, 10] rfl
  have hKc := hK.sub (tys' := (tX t1 t2 t3 t4 t5)) [0, 1, 2, 3, 4] rfl
  have hDc := hD.sub (ws' := (wX h0 a1 a2 a3 a4 a5 h6 s0 s1 s2 s3 t1 t2 t3 t4 t5)) [0, 1, 2, 3, 4, 5, 6, 7, 8, 9, 10] (by decide) rfl
  have hFc := va_free (wc := (wX h0 a1 a2 a3 a4 a5 h6 s0 s1 s2 s3 t1 t2 t3 t4 t5)) hD hS hA [0, 1, 2, 3, 4, 5, 6, 7, 8, 9, 10] rfl
  refine gJ_i (isC := [0, 1, 2, 3, 4, 5, 6, 7, 8, 9, 10]) (isR := [11, 12, 13, 14, 15, 16, 17, 18]) (wr := [(m0, .inr (20, [.int 0, .ref m1, .ref m2, .ref m3, .ref m4, .int 0, .ref m5, .ref m6, .int 0])), (m1, .inr (4, [.int 0, .ref tE, .int 0])), (m2, .inr (4, [.int 0, .ref tE, .int 0])), (m3, .inr (4, [.int 0, .ref tE, .int 0])), (m4, .inr (4, [.int 0, .ref tE, .int 0])), (m5, .inl (tc, 4, .inl (upd (upd (upd (upd (fun _ => 0) 0 110) 1 110) 2 110) 3 110))), (o, .inl (tj, 1, .inr (.inl (fun _ => 0)))), (oD, .inl (td, 1, .inr (.inr (.inr (.inl (fun _ => 0))))))]) (vx_runSW (As := [.ref h0, .int (xs 1), .ref o]) (rest := []) ⟨hx, hb, hml, hown, hta⟩ (c_L_rest l hl0 ) (vx_cwSW 3 hta (gWSW mw504 mw505 mw416 mw503) rfl rfl rfl (by decide +kernel) ⟨Nat.le_of_ble_eq_true rfl, Nat.le_of_ble_eq_true rfl⟩) ⟨gS_blind, fun U hU hW => ⟨rfl, by rw [hU], by rw [hU]; exact hPc, va_K.moved hW.alike hKc, hDc.weaken (fun _ _ _ _ => trivial), hG.call hS hU hW hFc⟩⟩ rfl rfl hl.1 rfl (lv_room (Nat.le_of_ble_eq_true rfl)) dL_law_1099 ⟨Nat.le_of_ble_eq_true rfl, Nat.le_of_ble_eq_true rfl⟩) hP hD hS hK hFc rfl rfl (by decide) (by decide) (fun r2 u3 H locs h4 hP hD hS hK => ?_)
  obtain rfl : r2 = 1 := h4
  have hK : va_K D vwCl (tLw t1 t2 t3 t4 t5 tc tj td) s := hK
  have hP : va_P D vwCl [(m0, .inr (20, [.int 0, .ref m1, .ref m2, .ref m3, .ref m4, .int 0, .ref m5, .ref m6, .int 0])), (m1, .inr (4, [.int 0, .ref tE, .int 0])), (m2, .inr (4, [.int 0, .ref tE, .int 0])), (m3, .inr (4, [.int 0, .ref tE, .int 0])), (m4, .inr (4, [.int 0, .ref tE, .int 0])), (m5, .inl (tc, 4, .inl (upd (upd (upd (upd (fun _ => 0) 0 110) 1 110) 2 110) 3 110))), (o, .inl (tj, 1, .inr (.inl (fun _ => 0)))), (oD, .inl (td, 1, .inr (.inr (.inr (.inl (fun _ => 0))))))] H := hP
  have hD : va_D A [(m0, .inr (20, [.int 0, .ref m1, .ref m2, .ref m3, .ref m4, .int 0, .ref m5, .ref m6, .int 0])), (m1, .inr (4, [.int 0, .ref tE, .int 0])), (m2, .inr (4, [.int 0, .ref tE, .int 0])), (m3, .inr (4, [.int 0, .ref tE, .int 0])), (m4, .inr (4, [.int 0, .ref tE, .int 0])), (m5, .inl (tc, 4, .inl (upd (upd (upd (upd (fun _ => 0) 0 110) 1 110) 2 110) 3 110))), (o, .inl (tj, 1, .inr (.inl (fun _ => 0)))), (oD, .inl (td, 1, .inr (.inr (.inr (.inl (fun _ => 0))))))] := hD
  refine lv_istore (lv' := [(6, .int 1), (5, .int 0), (4, .ref oD), (3, .ref o), (2, .ref m0), (1, .ref h0), (0, .ref b)]) hx hb dL_law_1102 hl (by decide) rfl (fun ls hl => ?_)
  refine lv_aload_n hx hb dL_law_1104 rfl (lv_at hl 4 rfl) ?_
  refine lv_aload_n hx hb dL_law_1105 rfl (lv_at hl 6 rfl) ?_
  refine lv_iload hx hb dL_law_1106 (lv_at hl 1 rfl) ?_
  refine lv_iconst (v := 1) hx hb dL_law_1108 (by decide) ?_
  refine lv_iadd hx hb dL_law_1109 ?_
  refine lv_topi (fun x5 ex5 => ?_)
  obtain rfl : x5 = 1 := ex5.trans (by decide)
  refine va_sld hx hb hX hbl hbA hS (i := 1) (by unfold vp_in; decide) dL_law_1110 ?_
  refine W.eq (g2 := F0 m 1111 ls [.int (xs 1), .ref m0]) rfl ?_
  have hPc := hP.sub (ws' := (wM tE m0 m1 m2 m3 m4 m5 m6 tc 0 0)) [0, 1, 2, 3, 4, 5] rfl
  have hKc := hK.sub (tys' := [(tc, .char)]) [5] rfl
  have hDc := hD.sub (ws' := (wM tE m0 m1 m2 m3 m4 m5 m6 tc 0 0)) [0, 1, 2, 3, 4, 5] (by decide) rfl
  have hFc := va_free (wc := (wM tE m0 m1 m2 m3 m4 m5 m6 tc 0 0)) hD hS hA [0, 1, 2, 3, 4, 5] rfl
  refine gJ_i (isC := [0, 1, 2, 3, 4, 5]) (isR := [6, 7]) (wr := [(o, .inl (tj, 1, .inr (.inl (fun _ => 0)))), (oD, .inl (td, 1, .inr (.inr (.inr (.inl (fun _ => 0))))))]) (va_runV (As := [.int (xs 1)]) (rest := []) ⟨hx, hb, hml, hown, hta⟩ (c_X15_rest l ) (cwV 1 hta (gWV mw507 mw508 mw509 mw176 mw506) rfl rfl rfl (by decide +kernel) ⟨Nat.le_of_ble_eq_true rfl, Nat.le_of_ble_eq_true rfl⟩) ⟨gS_blind, va_recv hKc hPc (ci := 20) (q0 := 0) rfl rfl, fun U hU hW => ⟨rfl, by rw [hU], by rw [hU]; exact hPc, va_K.moved hW.alike hKc, hDc.weaken (fun _ _ _ _ => trivial), hG.call hS hU hW hFc⟩⟩ rfl rfl hl.1 rfl (lv_room (Nat.le_of_ble_eq_true rfl)) dL_law_1111 ⟨Nat.le_of_ble_eq_true rfl, Nat.le_of_ble_eq_true rfl⟩) hP hD hS hK hFc rfl rfl (by decide) (by decide) (fun r6 u7 H locs h8 hP hD hS hK => ?_)
  obtain rfl : r6 = 0 := h8
  have hK : va_K D vwCl (tLw t1 t2 t3 t4 t5 tc tj td) s := hK
  have hP : va_P D vwCl [(o, .inl (tj, 1, .inr (.inl (fun _ => 0)))), (oD, .inl (td, 1, .inr (.inr (.inr (.inl (fun _ => 0)))))), (m0, .inr (20, [.int 1, .ref m1, .ref m2, .ref m3, .ref m4, .int 0, .ref m5, .ref m6, .int 0])), (m1, .inr (4, [.int 0, .ref tE, .int 0])), (m2, .inr (4, [.int 0, .ref tE, .int 0])), (m3, .inr (4, [.int 0, .ref tE, .int 0])), (m4, .inr (4, [.int 0, .ref tE, .int 0])), (m5, .inl (tc, 4, .inl (upd (upd (upd (upd (fun _ => 0) 0 110) 1 110) 2 110) 3 110)))] H := hP
  have hD : va_D A [(o, .inl (tj, 1, .inr (.inl (fun _ => 0)))), (oD, .inl (td, 1, .inr (.inr (.inr (.inl (fun _ => 0)))))), (m0, .inr (20, [.int 1, .ref m1, .ref m2, .ref m3, .ref m4, .int 0, .ref m5, .ref m6, .int 0])), (m1, .inr (4, [.int 0, .ref tE, .int 0])), (m2, .inr (4, [.int 0, .ref tE, .int 0])), (m3, .inr (4, [.int 0, .ref tE, .int 0])), (m4, .inr (4, [.int 0, .ref tE, .int 0])), (m5, .inl (tc, 4, .inl (upd (upd (upd (upd (fun _ => 0) 0 110) 1 110) 2 110) 3 110)))] := hD
  refine lv_istore (lv' := [(7, .int 0), (6, .int 1), (5, .int 0), (4, .ref oD), (3, .ref o), (2, .ref m0), (1, .ref h0), (0, .ref b)]) hx hb dL_law_1114 hl (by decide) rfl (fun ls hl => ?_)
  refine lv_aload_n hx hb dL_law_1116 rfl (lv_at hl 5 rfl) ?_
  have hPc := hP.sub (ws' := [(m0, .inr (20, [.int 1, .ref m1, .ref m2, .ref m3, .ref m4, .int 0, .ref m5, .ref m6, .int 0]))]) [2] rfl
  have hKc := hK.sub (tys' := []) [] rfl
  refine vp_callSi (W.runV (As := []) (rest := []) ⟨hx, hb, hml, hown, hta⟩ (c_X15_thrown l ) (cwV 0 hta (gWV mw422 mw423 mw424 mw176 mw421) rfl rfl rfl (by decide +kernel) ⟨Nat.le_of_ble_eq_true rfl, Nat.le_of_ble_eq_true rfl⟩) ⟨gR_blind, va_recv hKc hPc (ci := 20) (q0 := 0) rfl rfl, fun U hU hW => ⟨rfl, by rw [hU]; exact hPc, va_K.moved hW.alike hKc⟩⟩ rfl rfl hl.1 rfl (lv_room (Nat.le_of_ble_eq_true rfl)) dL_law_1117 ⟨Nat.le_of_ble_eq_true rfl, Nat.le_of_ble_eq_true rfl⟩) (fun r9 h10 => ?_)
  obtain rfl : r9 = 1 := h10
  refine lv_iload hx hb dL_law_1120 (lv_at hl 1 rfl) ?_
  refine lv_icmp_eq (tgt := 1127) hx hb dL_law_1122 (by decide) (fun c11 => ?_) (fun c11 => ?_)
  · skip
    refine lv_iload hx hb dL_law_1127 (lv_at hl 1 rfl) ?_
    refine lv_if_ne (tgt := 1144) hx hb dL_law_1129 (by decide) (fun c12 => ?_) (fun c12 => ?_)
    · skip
      refine lv_goto (tgt := 2441) hx hb dL_law_1144 (by decide) ?_
      exact law_tail l C0 hA2 hS (lv_sub hl [7, 2] rfl) (Nat.le_of_ble_eq_true rfl) (Nat.le_of_ble_eq_true rfl)
    · exact absurd c12 (by decide)
  · exact absurd (by decide) c11

set_option maxHeartbeats 4000000 in
set_option maxRecDepth 100000 in
theorem lc_13 {p : Program} {e : Env} {s : State} {m : MethodId} {below : List Frame} {meth : Method} {c : Code} (l : Launch) (hl0 : l.stackTraces = false) {b : Nat} {xs : Nat → Int32} (C0 : lw_At p s m meth c b 6 xs) {A : Nat → Prop} (hA : ∀ q, s.heap.size ≤ q → A q) (hA2 : ∀ q, A q → s.heap.size ≤ q) {D : va_G} {tE : Nat} {h0 a1 a2 a3 a4 a5 h6 s0 s1 s2 s3 : Nat} {t1 t2 t3 t4 t5 : ClassId} {m0 m1 m2 m3 m4 m5 m6 : Nat} {tc : ClassId} {o oD : Nat} {tj td : ClassId} {H : Heap} {locs : List Loc} {ls : Array Slot} (hK : va_K D vwCl (tLw t1 t2 t3 t4 t5 tc tj td) s) (hG : gP tE A s) (hP : va_P D vwCl (wLw tE h0 a1 a2 a3 a4 a5 h6 s0 s1 s2 s3 m0 m1 m2 m3 m4 m5 m6 o oD t1 t2 t3 t4 t5 tc tj td) H) (hD : va_D A (wLw tE h0 a1 a2 a3 a4 a5 h6 s0 s1 s2 s3 m0 m1 m2 m3 m4 m5 m6 o oD t1 t2 t3 t4 t5 tc tj td)) (hS : va_S A s.heap H locs) (hl : lv_has ls 9 [(5, .int 0), (4, .ref oD), (3, .ref o), (2, .ref m0), (1, .ref h0), (0, .ref b)]) : W p l e room_1 s m #[Value.ref b] below meth c H locs 25 221 (lw_Z below #[Value.ref b] s) (F0 m 1147 ls []) := by
  obtain ⟨hx, hb, hr, hml, hown0, hts, hX, hbl, hlocks, hgv⟩ := id C0
  have hta : ∀ w ∈ WA, w.before #[Value.ref b] s = true := fun w h => hts w (WA_in w h)
  have hown : s.vm.findClass "FoundrymarkLaw" = some m.cls := hown0
  have hbA : ¬ A b := fun h => absurd (hA2 b h) (Nat.not_le.mpr hbl)
  refine lv_aload_n hx hb dL_law_1147 rfl (lv_at hl 4 rfl) ?_
  refine lv_aload_n hx hb dL_law_1148 rfl (lv_at hl 5 rfl) ?_
  refine lv_iload hx hb dL_law_1149 (lv_at hl 0 rfl) ?_
  refine lv_iconst (v := 1) hx hb dL_law_1151 (by decide) ?_
  refine lv_iadd hx hb dL_law_1152 ?_
  refine lv_topi (fun x1 ex1 => ?_)
  obtain rfl : x1 = 1 := ex1.trans (by decide)
  refine va_sld hx hb hX hbl hbA hS (i := 1) (by unfold vp_in; decide) dL_law_1153 ?_
  refine W.eq (g2 := F0 m 1154 ls [.int (xs 1), .ref h0]) rfl ?_
  refine lv_aload_n hx hb dL_law_1154 rfl (lv_at hl 2 rfl) ?_
  have hPc := hP.sub (ws' := (wX h0 a1 a2 a3 a4 a5 h6 s0 s1 s2 s3 t1 t2 t3 t4 t5)) [0, 1, 2, 3, 4, 5, 6, 7, 8, 9, 10] rfl
  have hKc := hK.sub (tys' := (tX t1 t2 t3 t4 t5)) [0, 1, 2, 3, 4] rfl
  have hDc := hD.sub (ws' := (wX h0 a1 a2 a3 a4 a5 h6 s0 s1 s2 s3 t1 t2 t3 t4 t5)) [0, 1, 2, 3, 4, 5, 6, 7, 8, 9, 10] (by decide) rfl
  have hFc := va_free (wc := (wX h0 a1 a2 a3 a4 a5 h6 s0 s1 s2 s3 t1 t2 t3 t4 t5)) hD hS hA [0, 1, 2, 3, 4, 5, 6, 7, 8, 9, 10] rfl
  refine gJ_i (isC := [0, 1, 2, 3, 4, 5, 6, 7, 8, 9, 10]) (isR := [11, 12, 13, 14, 15, 16, 17, 18]) (wr := [(m0, .inr (20, [.int 0, .ref m1, .ref m2, .ref m3, .ref m4, .int 0, .ref m5, .ref m6, .int 0])), (m1, .inr (4, [.int 0, .ref tE, .int 0])), (m2, .inr (4, [.int 0, .ref tE, .int 0])), (m3, .inr (4, [.int 0, .ref tE, .int 0])), (m4, .inr (4, [.int 0, .ref tE, .int 0])), (m5, .inl (tc, 4, .inl (upd (upd (upd (upd (fun _ => 0) 0 110) 1 110) 2 110) 3 110))), (o, .inl (tj, 1, .inr (.inl (fun _ => 0)))), (oD, .inl (td, 1, .inr (.inr (.inr (.inl (fun _ => 0))))))]) (vx_runSW (As := [.ref h0, .int (xs 1), .ref o]) (rest := []) ⟨hx, hb, hml, hown, hta⟩ (c_L_reserved l hl0 ) (vx_cwSW 3 hta (gWSW mw511 mw512 mw416 mw510) rfl rfl rfl (by decide +kernel) ⟨Nat.le_of_ble_eq_true rfl, Nat.le_of_ble_eq_true rfl⟩) ⟨gS_blind, fun U hU hW => ⟨rfl, by rw [hU], by rw [hU]; exact hPc, va_K.moved hW.alike hKc, hDc.weaken (fun _ _ _ _ => trivial), hG.call hS hU hW hFc⟩⟩ rfl rfl hl.1 rfl (lv_room (Nat.le_of_ble_eq_true rfl)) dL_law_1155 ⟨Nat.le_of_ble_eq_true rfl, Nat.le_of_ble_eq_true rfl⟩) hP hD hS hK hFc rfl rfl (by decide) (by decide) (fun r2 u3 H locs h4 hP hD hS hK => ?_)
  obtain rfl : r2 = 1 := h4
  have hK : va_K D vwCl (tLw t1 t2 t3 t4 t5 tc tj td) s := hK
  have hP : va_P D vwCl [(m0, .inr (20, [.int 0, .ref m1, .ref m2, .ref m3, .ref m4, .int 0, .ref m5, .ref m6, .int 0])), (m1, .inr (4, [.int 0, .ref tE, .int 0])), (m2, .inr (4, [.int 0, .ref tE, .int 0])), (m3, .inr (4, [.int 0, .ref tE, .int 0])), (m4, .inr (4, [.int 0, .ref tE, .int 0])), (m5, .inl (tc, 4, .inl (upd (upd (upd (upd (fun _ => 0) 0 110) 1 110) 2 110) 3 110))), (o, .inl (tj, 1, .inr (.inl (fun _ => 0)))), (oD, .inl (td, 1, .inr (.inr (.inr (.inl (fun _ => 0))))))] H := hP
  have hD : va_D A [(m0, .inr (20, [.int 0, .ref m1, .ref m2, .ref m3, .ref m4, .int 0, .ref m5, .ref m6, .int 0])), (m1, .inr (4, [.int 0, .ref tE, .int 0])), (m2, .inr (4, [.int 0, .ref tE, .int 0])), (m3, .inr (4, [.int 0, .ref tE, .int 0])), (m4, .inr (4, [.int 0, .ref tE, .int 0])), (m5, .inl (tc, 4, .inl (upd (upd (upd (upd (fun _ => 0) 0 110) 1 110) 2 110) 3 110))), (o, .inl (tj, 1, .inr (.inl (fun _ => 0)))), (oD, .inl (td, 1, .inr (.inr (.inr (.inl (fun _ => 0))))))] := hD
  refine lv_istore (lv' := [(6, .int 1), (5, .int 0), (4, .ref oD), (3, .ref o), (2, .ref m0), (1, .ref h0), (0, .ref b)]) hx hb dL_law_1158 hl (by decide) rfl (fun ls hl => ?_)
  refine lv_aload_n hx hb dL_law_1160 rfl (lv_at hl 4 rfl) ?_
  refine lv_aload_n hx hb dL_law_1161 rfl (lv_at hl 6 rfl) ?_
  refine lv_iload hx hb dL_law_1162 (lv_at hl 1 rfl) ?_
  refine lv_iconst (v := 1) hx hb dL_law_1164 (by decide) ?_
  refine lv_iadd hx hb dL_law_1165 ?_
  refine lv_topi (fun x5 ex5 => ?_)
  obtain rfl : x5 = 1 := ex5.trans (by decide)
  refine va_sld hx hb hX hbl hbA hS (i := 1) (by unfold vp_in; decide) dL_law_1166 ?_
  refine W.eq (g2 := F0 m 1167 ls [.int (xs 1), .ref m0]) rfl ?_
  have hPc := hP.sub (ws' := (wM tE m0 m1 m2 m3 m4 m5 m6 tc 0 0)) [0, 1, 2, 3, 4, 5] rfl
  have hKc := hK.sub (tys' := [(tc, .char)]) [5] rfl
  have hDc := hD.sub (ws' := (wM tE m0 m1 m2 m3 m4 m5 m6 tc 0 0)) [0, 1, 2, 3, 4, 5] (by decide) rfl
  have hFc := va_free (wc := (wM tE m0 m1 m2 m3 m4 m5 m6 tc 0 0)) hD hS hA [0, 1, 2, 3, 4, 5] rfl
  refine gJ_i (isC := [0, 1, 2, 3, 4, 5]) (isR := [6, 7]) (wr := [(o, .inl (tj, 1, .inr (.inl (fun _ => 0)))), (oD, .inl (td, 1, .inr (.inr (.inr (.inl (fun _ => 0))))))]) (va_runV (As := [.int (xs 1)]) (rest := []) ⟨hx, hb, hml, hown, hta⟩ (c_X15_reserved l ) (cwV 1 hta (gWV mw514 mw515 mw516 mw176 mw513) rfl rfl rfl (by decide +kernel) ⟨Nat.le_of_ble_eq_true rfl, Nat.le_of_ble_eq_true rfl⟩) ⟨gS_blind, va_recv hKc hPc (ci := 20) (q0 := 0) rfl rfl, fun U hU hW => ⟨rfl, by rw [hU], by rw [hU]; exact hPc, va_K.moved hW.alike hKc, hDc.weaken (fun _ _ _ _ => trivial), hG.call hS hU hW hFc⟩⟩ rfl rfl hl.1 rfl (lv_room (Nat.le_of_ble_eq_true rfl)) dL_law_1167 ⟨Nat.le_of_ble_eq_true rfl, Nat.le_of_ble_eq_true rfl⟩) hP hD hS hK hFc rfl rfl (by decide) (by decide) (fun r6 u7 H locs h8 hP hD hS hK => ?_)
  obtain rfl : r6 = 0 := h8
  have hK : va_K D vwCl (tLw t1 t2 t3 t4 t5 tc tj td) s := hK
  have hP : va_P D vwCl [(o, .inl (tj, 1, .inr (.inl (fun _ => 0)))), (oD, .inl (td, 1, .inr (.inr (.inr (.inl (fun _ => 0)))))), (m0, .inr (20, [.int 1, .ref m1, .ref m2, .ref m3, .ref m4, .int 0, .ref m5, .ref m6, .int 0])), (m1, .inr (4, [.int 0, .ref tE, .int 0])), (m2, .inr (4, [.int 0, .ref tE, .int 0])), (m3, .inr (4, [.int 0, .ref tE, .int 0])), (m4, .inr (4, [.int 0, .ref tE, .int 0])), (m5, .inl (tc, 4, .inl (upd (upd (upd (upd (fun _ => 0) 0 110) 1 110) 2 110) 3 110)))] H := hP
  have hD : va_D A [(o, .inl (tj, 1, .inr (.inl (fun _ => 0)))), (oD, .inl (td, 1, .inr (.inr (.inr (.inl (fun _ => 0)))))), (m0, .inr (20, [.int 1, .ref m1, .ref m2, .ref m3, .ref m4, .int 0, .ref m5, .ref m6, .int 0])), (m1, .inr (4, [.int 0, .ref tE, .int 0])), (m2, .inr (4, [.int 0, .ref tE, .int 0])), (m3, .inr (4, [.int 0, .ref tE, .int 0])), (m4, .inr (4, [.int 0, .ref tE, .int 0])), (m5, .inl (tc, 4, .inl (upd (upd (upd (upd (fun _ => 0) 0 110) 1 110) 2 110) 3 110)))] := hD
  refine lv_istore (lv' := [(7, .int 0), (6, .int 1), (5, .int 0), (4, .ref oD), (3, .ref o), (2, .ref m0), (1, .ref h0), (0, .ref b)]) hx hb dL_law_1170 hl (by decide) rfl (fun ls hl => ?_)
  refine lv_aload_n hx hb dL_law_1172 rfl (lv_at hl 5 rfl) ?_
  have hPc := hP.sub (ws' := [(m0, .inr (20, [.int 1, .ref m1, .ref m2, .ref m3, .ref m4, .int 0, .ref m5, .ref m6, .int 0]))]) [2] rfl
  have hKc := hK.sub (tys' := []) [] rfl
  refine vp_callSi (W.runV (As := []) (rest := []) ⟨hx, hb, hml, hown, hta⟩ (c_X15_thrown l ) (cwV 0 hta (gWV mw422 mw423 mw424 mw176 mw421) rfl rfl rfl (by decide +kernel) ⟨Nat.le_of_ble_eq_true rfl, Nat.le_of_ble_eq_true rfl⟩) ⟨gR_blind, va_recv hKc hPc (ci := 20) (q0 := 0) rfl rfl, fun U hU hW => ⟨rfl, by rw [hU]; exact hPc, va_K.moved hW.alike hKc⟩⟩ rfl rfl hl.1 rfl (lv_room (Nat.le_of_ble_eq_true rfl)) dL_law_1173 ⟨Nat.le_of_ble_eq_true rfl, Nat.le_of_ble_eq_true rfl⟩) (fun r9 h10 => ?_)
  obtain rfl : r9 = 1 := h10
  refine lv_iload hx hb dL_law_1176 (lv_at hl 1 rfl) ?_
  refine lv_icmp_eq (tgt := 1183) hx hb dL_law_1178 (by decide) (fun c11 => ?_) (fun c11 => ?_)
  · skip
    refine lv_iload hx hb dL_law_1183 (lv_at hl 1 rfl) ?_
    refine lv_if_ne (tgt := 1200) hx hb dL_law_1185 (by decide) (fun c12 => ?_) (fun c12 => ?_)
    · skip
      refine lv_goto (tgt := 2441) hx hb dL_law_1200 (by decide) ?_
      exact law_tail l C0 hA2 hS (lv_sub hl [7, 2] rfl) (Nat.le_of_ble_eq_true rfl) (Nat.le_of_ble_eq_true rfl)
    · exact absurd c12 (by decide)
  · exact absurd (by decide) c11
