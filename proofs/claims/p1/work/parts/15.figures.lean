set_option maxHeartbeats 4000000 in
set_option maxRecDepth 100000 in
theorem c_X10_inTimeShare (l : Launch) (hl0 : l.stackTraces = false) {D : va_G} {tE sz : Nat} {h0 a1 a2 a3 a4 a5 h6 s0 s1 s2 s3 : Nat} {t1 t2 t3 t4 t5 : ClassId} : vx_Met l ⟨"Foundrymark", "inTimeShare", "()F"⟩ (wsC ⟨"Foundrymark", "inTimeShare", "()F"⟩ cX10_inTimeShare 7 (some .float)) ({ frames := 6, cells := 1, slots := 6, locals := 98 }) (va_Pc [.ref h0] (gS tE D (wX h0 a1 a2 a3 a4 a5 h6 s0 s1 s2 s3 t1 t2 t3 t4 t5) (tX t1 t2 t3 t4 t5) sz)) (fun _ _ _ _ => False) (vx_X (fun _ : Unit => True) (fun E9 _ _ => E9 = "java/lang/ArithmeticException") (va_A (wX h0 a1 a2 a3 a4 a5 h6 s0 s1 s2 s3 t1 t2 t3 t4 t5) sz)) 1 6 (va_A (wX h0 a1 a2 a3 a4 a5 h6 s0 s1 s2 s3 t1 t2 t3 t4 t5) sz) := by
  refine vx_ofW (cc := cX10_inTimeShare) (maxL := 7) (ret := (some .float)) (by decide) rfl ?_
  intro p e s m args below meth c s₁ B hml hout hv
  obtain ⟨rfl, hsz, hP, hK, hD0, hG⟩ := hv
  have hx := B.exec
  have hb := B.bytes
  have hr := B.returns
  have hlocks := B.notSynchronized
  have hts := atoms_spec (ws := wsC ⟨"Foundrymark", "inTimeShare", "()F"⟩ cX10_inTimeShare 7 (some .float)) B.pre
  have hta : ∀ w ∈ WA, w.before _ s = true := fun w h => hts w (List.mem_cons_of_mem _ h)
  have hown : s.vm.findClass "Foundrymark" = some m.cls := findClass_of_methodNamed B.named
  subst hsz
  have hD : va_D (va_A (wX h0 a1 a2 a3 a4 a5 h6 s0 s1 s2 s3 t1 t2 t3 t4 t5) s.heap.size) (wX h0 a1 a2 a3 a4 a5 h6 s0 s1 s2 s3 t1 t2 t3 t4 t5) := hD0.self (sz := s.heap.size)
  generalize hAe : va_A (wX h0 a1 a2 a3 a4 a5 h6 s0 s1 s2 s3 t1 t2 t3 t4 t5) s.heap.size = A at hD hG ⊢
  have hA : ∀ q : Nat, s.heap.size ≤ q → A q := fun q h => by rw [← hAe]; exact Or.inr h
  have hS : va_S A s.heap s.heap [] := va_S.rf
  have hP : va_P D vwCl (wX h0 a1 a2 a3 a4 a5 h6 s0 s1 s2 s3 t1 t2 t3 t4 t5) s.heap := hP
  have hl := lv_entry ([.ref h0]) (n := 7) (Nat.le_of_ble_eq_true rfl)
  rw [lg_entry_eq]
  generalize (lg_sl ([.ref h0]) ++ List.replicate (7 - (lg_sl ([.ref h0])).length) Slot.unset).toArray = ls at hl ⊢
  have hl : lv_has ls 7 [(0, .ref h0)] := hl
  refine lv_iconst (v := 0) hx hb dX10_inTimeShare_0 (by decide) ?_
  refine lv_istore_n (lv' := [(1, .int 0), (0, .ref h0)]) hx hb dX10_inTimeShare_1 rfl hl (by decide) rfl (fun ls hl => ?_)
  refine lv_iconst (v := 0) hx hb dX10_inTimeShare_2 (by decide) ?_
  refine lv_istore_n (lv' := [(2, .int 0), (1, .int 0), (0, .ref h0)]) hx hb dX10_inTimeShare_3 rfl hl (by decide) rfl (fun ls hl => ?_)
  refine lv_aload_n hx hb dX10_inTimeShare_4 rfl (lv_at hl 2 rfl) ?_
  refine va_get (D := D) (ci := 15) (v := .ref a5) (C := RX10) (T := TX10) (N := 14) hx hb hta iwX10 hown hK hP 0 rfl rfl 4 (by decide) (hta _ mw5) (fun _ h9 => h9) rfl dX10_inTimeShare_5 ?_
  refine lv_astore_n (lv' := [(3, .ref a5), (2, .int 0), (1, .int 0), (0, .ref h0)]) hx hb dX10_inTimeShare_8 rfl hl (by decide) rfl (fun ls hl => ?_)
  refine lv_aload_n hx hb dX10_inTimeShare_9 rfl (lv_at hl 0 rfl) ?_
  refine va_alen hx hb hK hP 5 4 rfl rfl (v := 30) rfl dX10_inTimeShare_10 ?_
  refine lv_istore (lv' := [(4, .int 30), (3, .ref a5), (2, .int 0), (1, .int 0), (0, .ref h0)]) hx hb dX10_inTimeShare_11 hl (by decide) rfl (fun ls hl => ?_)
  refine lv_iconst (v := 0) hx hb dX10_inTimeShare_13 (by decide) ?_
  refine lv_istore (lv' := [(5, .int 0), (4, .int 30), (3, .ref a5), (2, .int 0), (1, .int 0), (0, .ref h0)]) hx hb dX10_inTimeShare_14 hl (by decide) rfl (fun ls hl => ?_)
  refine loop_g (σ := Array Slot) (Wg := fun ls => W p l e _ s m _ below meth c _ _ _ _ _ (F0 m 16 ls [])) 30 (fun j1 ls => lv_has ls 7 [(0, .ref h0), (1, .int 0), (2, .int 0), (3, .ref a5), (4, .int 30), (5, .int (nI j1))]) (fun j1 hj2 ih3 ls hl => ?_) (fun ls hl => ?_) ls (lv_sub hl [5, 4, 3, 2, 1, 0] rfl)
  · skip
    refine lv_iload hx hb dX10_inTimeShare_16 (lv_at hl 5 rfl) ?_
    refine lv_iload hx hb dX10_inTimeShare_18 (lv_at hl 4 rfl) ?_
    refine lv_icmp_ge (tgt := 74) hx hb dX10_inTimeShare_20 (by decide) (fun c4 => ?_) (fun c4 => ?_)
    · exact absurd c4 (nI_ge (a := j1) (b := 30) hj2 (by decide))
    · skip
      refine lv_aload_n hx hb dX10_inTimeShare_23 rfl (lv_at hl 3 rfl) ?_
      refine lv_iload hx hb dX10_inTimeShare_24 (lv_at hl 5 rfl) ?_
      refine va_aldq hx hb hK hP 5 4 rfl rfl (i := nI j1) (vp_in_nI hj2 (by decide)) dX10_inTimeShare_26 ?_
      refine W.eq (g2 := F0 m 27 ls [.null]) rfl ?_
      refine lv_astoreN (lv' := [(6, .null), (0, .ref h0), (1, .int 0), (2, .int 0), (3, .ref a5), (4, .int 30), (5, .int (nI j1))]) hx hb dX10_inTimeShare_27 hl (by decide) rfl (fun ls hl => ?_)
      refine lv_aloadN hx hb dX10_inTimeShare_29 (lv_at hl 0 rfl) ?_
      refine lv_ifnullN (tgt := 68) hx hb dX10_inTimeShare_31 (by decide) ?_
      refine lv_iinc (v := nI (j1 + 1)) (lv' := [(5, .int (nI (j1 + 1))), (6, .null), (0, .ref h0), (1, .int 0), (2, .int 0), (3, .ref a5), (4, .int 30)]) hx hb dX10_inTimeShare_68 hl (k := 6) rfl (nI_1 _) (by decide) rfl (fun ls hl => ?_)
      refine lv_goto (tgt := 16) hx hb dX10_inTimeShare_71 (by decide) ?_
      refine ih3 _ ?_
      exact lv_sub hl [2, 3, 4, 5, 6, 0] rfl
  · skip
    refine lv_iload hx hb dX10_inTimeShare_16 (lv_at hl 5 rfl) ?_
    refine lv_iload hx hb dX10_inTimeShare_18 (lv_at hl 4 rfl) ?_
    refine lv_icmp_ge (tgt := 74) hx hb dX10_inTimeShare_20 (by decide) (fun c5 => ?_) (fun c5 => ?_)
    · skip
      refine lv_iload_n hx hb dX10_inTimeShare_74 rfl (lv_at hl 1 rfl) ?_
      refine lv_if_ne (tgt := 89) hx hb dX10_inTimeShare_75 (by decide) (fun c6 => ?_) (fun c6 => ?_)
      · exact absurd c6 (by decide)
      · skip
        obtain ⟨sa, hsa⟩ := hG.S (363, "no order was delivered") (by decide)
        exact vx_throwSW (names := xnms) (mc := 1) (ms := 6) (text := "no order was delivered") (own := "Foundrymark") hx hb hl0 hown (by decide +kernel) (by decide +kernel) (hta _ mw52) (hta _ mw53) hsa (vx_hat (B := exB) (fun w hw => hta w (wx_365 w hw)) (by decide +kernel) (fun w hw => hG.B w hw)) (by decide +kernel) hG.U hG.N hS (hl.1.trans hml.symm) dX10_inTimeShare_78 dX10_inTimeShare_81 dX10_inTimeShare_82 dX10_inTimeShare_85 dX10_inTimeShare_88 (fun x hx9 => (hout x hx9).elim) (Nat.le_of_ble_eq_true rfl) (Nat.le_of_ble_eq_true rfl) (Nat.le_of_ble_eq_true rfl) (Nat.le_of_ble_eq_true rfl) hlocks (fun t hv hz hk => ⟨(), trivial, rfl, gF9 hS hz hk⟩) hS.2.2 (Nat.le_of_ble_eq_true rfl) (Nat.le_of_ble_eq_true rfl)
    · exact absurd (nI_le (a := 30) (b := 30) (Nat.le_refl _) (by decide)) c5

set_option maxHeartbeats 4000000 in
set_option maxRecDepth 100000 in
theorem c_X10_meanBusy (l : Launch) (hl0 : l.stackTraces = false) {D : va_G} {tE sz : Nat} {h0 a1 a2 a3 a4 a5 h6 s0 s1 s2 s3 : Nat} {t1 t2 t3 t4 t5 : ClassId} : vx_Met l ⟨"Foundrymark", "meanBusy", "()D"⟩ (wsC ⟨"Foundrymark", "meanBusy", "()D"⟩ cX10_meanBusy 7 (some .double)) ({ frames := 6, cells := 1, slots := 6, locals := 98 }) (va_Pc [.ref h0] (gS tE D (wX h0 a1 a2 a3 a4 a5 h6 s0 s1 s2 s3 t1 t2 t3 t4 t5) (tX t1 t2 t3 t4 t5) sz)) (fun _ _ _ _ => False) (vx_X (fun _ : Unit => True) (fun E9 _ _ => E9 = "java/lang/ArithmeticException") (va_A (wX h0 a1 a2 a3 a4 a5 h6 s0 s1 s2 s3 t1 t2 t3 t4 t5) sz)) 1 6 (va_A (wX h0 a1 a2 a3 a4 a5 h6 s0 s1 s2 s3 t1 t2 t3 t4 t5) sz) := by
  refine vx_ofW (cc := cX10_meanBusy) (maxL := 7) (ret := (some .double)) (by decide) rfl ?_
  intro p e s m args below meth c s₁ B hml hout hv
  obtain ⟨rfl, hsz, hP, hK, hD0, hG⟩ := hv
  have hx := B.exec
  have hb := B.bytes
  have hr := B.returns
  have hlocks := B.notSynchronized
  have hts := atoms_spec (ws := wsC ⟨"Foundrymark", "meanBusy", "()D"⟩ cX10_meanBusy 7 (some .double)) B.pre
  have hta : ∀ w ∈ WA, w.before _ s = true := fun w h => hts w (List.mem_cons_of_mem _ h)
  have hown : s.vm.findClass "Foundrymark" = some m.cls := findClass_of_methodNamed B.named
  subst hsz
  have hD : va_D (va_A (wX h0 a1 a2 a3 a4 a5 h6 s0 s1 s2 s3 t1 t2 t3 t4 t5) s.heap.size) (wX h0 a1 a2 a3 a4 a5 h6 s0 s1 s2 s3 t1 t2 t3 t4 t5) := hD0.self (sz := s.heap.size)
  generalize hAe : va_A (wX h0 a1 a2 a3 a4 a5 h6 s0 s1 s2 s3 t1 t2 t3 t4 t5) s.heap.size = A at hD hG ⊢
  have hA : ∀ q : Nat, s.heap.size ≤ q → A q := fun q h => by rw [← hAe]; exact Or.inr h
  have hS : va_S A s.heap s.heap [] := va_S.rf
  have hP : va_P D vwCl (wX h0 a1 a2 a3 a4 a5 h6 s0 s1 s2 s3 t1 t2 t3 t4 t5) s.heap := hP
  have hl := lv_entry ([.ref h0]) (n := 7) (Nat.le_of_ble_eq_true rfl)
  rw [lg_entry_eq]
  generalize (lg_sl ([.ref h0]) ++ List.replicate (7 - (lg_sl ([.ref h0])).length) Slot.unset).toArray = ls at hl ⊢
  have hl : lv_has ls 7 [(0, .ref h0)] := hl
  refine lv_aload_n hx hb dX10_meanBusy_0 rfl (lv_at hl 0 rfl) ?_
  refine va_get (D := D) (ci := 15) (v := .int 0) (C := RX10) (T := TX10) (N := 14) hx hb hta iwX10 hown hK hP 0 rfl rfl 6 (by decide) (hta _ mw54) (fun _ h9 => h9) rfl dX10_meanBusy_1 ?_
  refine lv_if_ne (tgt := 18) hx hb dX10_meanBusy_4 (by decide) (fun c1 => ?_) (fun c1 => ?_)
  · exact absurd c1 (by decide)
  · skip
    obtain ⟨sa, hsa⟩ := hG.S (366, "there are no machines") (by decide)
    exact vx_throwSW (names := xnms) (mc := 1) (ms := 6) (text := "there are no machines") (own := "Foundrymark") hx hb hl0 hown (by decide +kernel) (by decide +kernel) (hta _ mw52) (hta _ mw53) hsa (vx_hat (B := exB) (fun w hw => hta w (wx_365 w hw)) (by decide +kernel) (fun w hw => hG.B w hw)) (by decide +kernel) hG.U hG.N hS (hl.1.trans hml.symm) dX10_meanBusy_7 dX10_meanBusy_10 dX10_meanBusy_11 dX10_meanBusy_14 dX10_meanBusy_17 (fun x hx9 => (hout x hx9).elim) (Nat.le_of_ble_eq_true rfl) (Nat.le_of_ble_eq_true rfl) (Nat.le_of_ble_eq_true rfl) (Nat.le_of_ble_eq_true rfl) hlocks (fun t hv hz hk => ⟨(), trivial, rfl, gF9 hS hz hk⟩) hS.2.2 (Nat.le_of_ble_eq_true rfl) (Nat.le_of_ble_eq_true rfl)
