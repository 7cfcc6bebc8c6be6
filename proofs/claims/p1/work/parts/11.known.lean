set_option maxHeartbeats 4000000 in
set_option maxRecDepth 100000 in
theorem c_X10_knownMachine (l : Launch) (hl0 : l.stackTraces = false) {D : va_G} {tE sz : Nat} {h0 a1 a2 a3 a4 a5 h6 s0 s1 s2 s3 : Nat} {t1 t2 t3 t4 t5 : ClassId} {n : Int32} : vx_Met l ⟨"Foundrymark", "knownMachine", "(I)LFoundrymark$Machine;"⟩ (wsC ⟨"Foundrymark", "knownMachine", "(I)LFoundrymark$Machine;"⟩ cX10_knownMachine 3 (some (.object "Foundrymark$Machine"))) ({ frames := 6, cells := 1, slots := 6, locals := 98 }) (va_Pc [.ref h0, .int n] (gS tE D (wX h0 a1 a2 a3 a4 a5 h6 s0 s1 s2 s3 t1 t2 t3 t4 t5) (tX t1 t2 t3 t4 t5) sz)) (fun _ _ _ _ => False) (vx_X (fun _ : Unit => True) (fun E9 _ _ => E9 = "java/lang/IndexOutOfBoundsException") (va_A (wX h0 a1 a2 a3 a4 a5 h6 s0 s1 s2 s3 t1 t2 t3 t4 t5) sz)) 1 6 (va_A (wX h0 a1 a2 a3 a4 a5 h6 s0 s1 s2 s3 t1 t2 t3 t4 t5) sz) := by
  refine vx_ofW (cc := cX10_knownMachine) (maxL := 3) (ret := (some (.object "Foundrymark$Machine"))) (by decide) rfl ?_
  intro p e s m args below meth c s₁ B hml hout hv
  obtain ⟨rfl, hsz, hP, hK, hD0, hG⟩ := hv
  have hx := B.exec
  have hb := B.bytes
  have hr := B.returns
  have hlocks := B.notSynchronized
  have hts := atoms_spec (ws := wsC ⟨"Foundrymark", "knownMachine", "(I)LFoundrymark$Machine;"⟩ cX10_knownMachine 3 (some (.object "Foundrymark$Machine"))) B.pre
  have hta : ∀ w ∈ WA, w.before _ s = true := fun w h => hts w (List.mem_cons_of_mem _ h)
  have hown : s.vm.findClass "Foundrymark" = some m.cls := findClass_of_methodNamed B.named
  subst hsz
  have hD : va_D (va_A (wX h0 a1 a2 a3 a4 a5 h6 s0 s1 s2 s3 t1 t2 t3 t4 t5) s.heap.size) (wX h0 a1 a2 a3 a4 a5 h6 s0 s1 s2 s3 t1 t2 t3 t4 t5) := hD0.self (sz := s.heap.size)
  generalize hAe : va_A (wX h0 a1 a2 a3 a4 a5 h6 s0 s1 s2 s3 t1 t2 t3 t4 t5) s.heap.size = A at hD hG ⊢
  have hA : ∀ q : Nat, s.heap.size ≤ q → A q := fun q h => by rw [← hAe]; exact Or.inr h
  have hS : va_S A s.heap s.heap [] := va_S.rf
  have hP : va_P D vwCl (wX h0 a1 a2 a3 a4 a5 h6 s0 s1 s2 s3 t1 t2 t3 t4 t5) s.heap := hP
  have hl := lv_entry ([.ref h0, .int n]) (n := 3) (Nat.le_of_ble_eq_true rfl)
  rw [lg_entry_eq]
  generalize (lg_sl ([.ref h0, .int n]) ++ List.replicate (3 - (lg_sl ([.ref h0, .int n])).length) Slot.unset).toArray = ls at hl ⊢
  have hl : lv_has ls 3 [(0, .ref h0), (1, .int n)] := hl
  refine lv_iload_n hx hb dX10_knownMachine_0 rfl (lv_at hl 1 rfl) ?_
  refine lv_if_lt (tgt := 22) hx hb dX10_knownMachine_1 (by decide) (fun c1 => ?_) (fun c1 => ?_)
  · skip
    refine lv_null hx hb dX10_knownMachine_22 ?_
    refine lv_astore_nN (lv' := [(2, .null), (0, .ref h0), (1, .int n)]) hx hb dX10_knownMachine_23 rfl hl (by decide) rfl (fun ls hl => ?_)
    refine lv_aload_nN hx hb dX10_knownMachine_24 rfl (lv_at hl 0 rfl) ?_
    refine lv_ifnonnullN hx hb dX10_knownMachine_25 ?_
    obtain ⟨sa, hsa⟩ := hG.S (387, "there is no such machine") (by decide)
    exact vx_throwSW (names := xnms) (mc := 1) (ms := 6) (text := "there is no such machine") (own := "Foundrymark") hx hb hl0 hown (by decide +kernel) (by decide +kernel) (hta _ mw0) (hta _ mw1) hsa (vx_hat (B := exB) (fun w hw => hta w (wx_168 w hw)) (by decide +kernel) (fun w hw => hG.B w hw)) (by decide +kernel) hG.U hG.N hS (hl.1.trans hml.symm) dX10_knownMachine_28 dX10_knownMachine_31 dX10_knownMachine_32 dX10_knownMachine_35 dX10_knownMachine_38 (fun x hx9 => (hout x hx9).elim) (Nat.le_of_ble_eq_true rfl) (Nat.le_of_ble_eq_true rfl) (Nat.le_of_ble_eq_true rfl) (Nat.le_of_ble_eq_true rfl) hlocks (fun t hv hz hk => ⟨(), trivial, rfl, gF9 hS hz hk⟩) hS.2.2 (Nat.le_of_ble_eq_true rfl) (Nat.le_of_ble_eq_true rfl)
  · skip
    refine lv_iload_n hx hb dX10_knownMachine_4 rfl (lv_at hl 1 rfl) ?_
    refine lv_aload_n hx hb dX10_knownMachine_5 rfl (lv_at hl 0 rfl) ?_
    refine va_get (D := D) (ci := 15) (v := .ref a1) (C := RX10) (T := TX10) (N := 14) hx hb hta iwX10 hown hK hP 0 rfl rfl 0 (by decide) (hta _ mw2) (fun _ h9 => h9) rfl dX10_knownMachine_6 ?_
    refine va_alen hx hb hK hP 1 0 rfl rfl (v := 5) rfl dX10_knownMachine_9 ?_
    refine lv_icmp_ge (tgt := 22) hx hb dX10_knownMachine_10 (by decide) (fun c2 => ?_) (fun c2 => ?_)
    · skip
      refine lv_null hx hb dX10_knownMachine_22 ?_
      refine lv_astore_nN (lv' := [(2, .null), (0, .ref h0), (1, .int n)]) hx hb dX10_knownMachine_23 rfl hl (by decide) rfl (fun ls hl => ?_)
      refine lv_aload_nN hx hb dX10_knownMachine_24 rfl (lv_at hl 0 rfl) ?_
      refine lv_ifnonnullN hx hb dX10_knownMachine_25 ?_
      obtain ⟨sa, hsa⟩ := hG.S (387, "there is no such machine") (by decide)
      exact vx_throwSW (names := xnms) (mc := 1) (ms := 6) (text := "there is no such machine") (own := "Foundrymark") hx hb hl0 hown (by decide +kernel) (by decide +kernel) (hta _ mw0) (hta _ mw1) hsa (vx_hat (B := exB) (fun w hw => hta w (wx_168 w hw)) (by decide +kernel) (fun w hw => hG.B w hw)) (by decide +kernel) hG.U hG.N hS (hl.1.trans hml.symm) dX10_knownMachine_28 dX10_knownMachine_31 dX10_knownMachine_32 dX10_knownMachine_35 dX10_knownMachine_38 (fun x hx9 => (hout x hx9).elim) (Nat.le_of_ble_eq_true rfl) (Nat.le_of_ble_eq_true rfl) (Nat.le_of_ble_eq_true rfl) (Nat.le_of_ble_eq_true rfl) hlocks (fun t hv hz hk => ⟨(), trivial, rfl, gF9 hS hz hk⟩) hS.2.2 (Nat.le_of_ble_eq_true rfl) (Nat.le_of_ble_eq_true rfl)
    · skip
      refine lv_aload_n hx hb dX10_knownMachine_13 rfl (lv_at hl 0 rfl) ?_
      refine va_get (D := D) (ci := 15) (v := .ref a1) (C := RX10) (T := TX10) (N := 14) hx hb hta iwX10 hown hK hP 0 rfl rfl 0 (by decide) (hta _ mw2) (fun _ h9 => h9) rfl dX10_knownMachine_14 ?_
      refine lv_iload_n hx hb dX10_knownMachine_17 rfl (lv_at hl 1 rfl) ?_
      refine va_aldq hx hb hK hP 1 0 rfl rfl (i := n) (gIn (M := 5) rfl c1 c2) dX10_knownMachine_18 ?_
      refine W.eq (g2 := F0 m 19 ls [.null]) rfl ?_
      refine lv_goto (tgt := 23) hx hb dX10_knownMachine_19 (by decide) ?_
      refine lv_astore_nN (lv' := [(2, .null), (0, .ref h0), (1, .int n)]) hx hb dX10_knownMachine_23 rfl hl (by decide) rfl (fun ls hl => ?_)
      refine lv_aload_nN hx hb dX10_knownMachine_24 rfl (lv_at hl 0 rfl) ?_
      refine lv_ifnonnullN hx hb dX10_knownMachine_25 ?_
      obtain ⟨sa, hsa⟩ := hG.S (387, "there is no such machine") (by decide)
      exact vx_throwSW (names := xnms) (mc := 1) (ms := 6) (text := "there is no such machine") (own := "Foundrymark") hx hb hl0 hown (by decide +kernel) (by decide +kernel) (hta _ mw0) (hta _ mw1) hsa (vx_hat (B := exB) (fun w hw => hta w (wx_168 w hw)) (by decide +kernel) (fun w hw => hG.B w hw)) (by decide +kernel) hG.U hG.N hS (hl.1.trans hml.symm) dX10_knownMachine_28 dX10_knownMachine_31 dX10_knownMachine_32 dX10_knownMachine_35 dX10_knownMachine_38 (fun x hx9 => (hout x hx9).elim) (Nat.le_of_ble_eq_true rfl) (Nat.le_of_ble_eq_true rfl) (Nat.le_of_ble_eq_true rfl) (Nat.le_of_ble_eq_true rfl) hlocks (fun t hv hz hk => ⟨(), trivial, rfl, gF9 hS hz hk⟩) hS.2.2 (Nat.le_of_ble_eq_true rfl) (Nat.le_of_ble_eq_true rfl)

set_option maxHeartbeats 4000000 in
set_option maxRecDepth 100000 in
theorem c_X10_knownPart (l : Launch) (hl0 : l.stackTraces = false) {D : va_G} {tE sz : Nat} {h0 a1 a2 a3 a4 a5 h6 s0 s1 s2 s3 : Nat} {t1 t2 t3 t4 t5 : ClassId} {n : Int32} : vx_Met l ⟨"Foundrymark", "knownPart", "(I)LFoundrymark$Part;"⟩ (wsC ⟨"Foundrymark", "knownPart", "(I)LFoundrymark$Part;"⟩ cX10_knownPart 3 (some (.object "Foundrymark$Part"))) ({ frames := 6, cells := 1, slots := 6, locals := 98 }) (va_Pc [.ref h0, .int n] (gS tE D (wX h0 a1 a2 a3 a4 a5 h6 s0 s1 s2 s3 t1 t2 t3 t4 t5) (tX t1 t2 t3 t4 t5) sz)) (fun _ _ _ _ => False) (vx_X (fun _ : Unit => True) (fun E9 _ _ => E9 = "java/lang/IndexOutOfBoundsException") (va_A (wX h0 a1 a2 a3 a4 a5 h6 s0 s1 s2 s3 t1 t2 t3 t4 t5) sz)) 1 6 (va_A (wX h0 a1 a2 a3 a4 a5 h6 s0 s1 s2 s3 t1 t2 t3 t4 t5) sz) := by
  refine vx_ofW (cc := cX10_knownPart) (maxL := 3) (ret := (some (.object "Foundrymark$Part"))) (by decide) rfl ?_
  intro p e s m args below meth c s₁ B hml hout hv
  obtain ⟨rfl, hsz, hP, hK, hD0, hG⟩ := hv
  have hx := B.exec
  have hb := B.bytes
  have hr := B.returns
  have hlocks := B.notSynchronized
  have hts := atoms_spec (ws := wsC ⟨"Foundrymark", "knownPart", "(I)LFoundrymark$Part;"⟩ cX10_knownPart 3 (some (.object "Foundrymark$Part"))) B.pre
  have hta : ∀ w ∈ WA, w.before _ s = true := fun w h => hts w (List.mem_cons_of_mem _ h)
  have hown : s.vm.findClass "Foundrymark" = some m.cls := findClass_of_methodNamed B.named
  subst hsz
  have hD : va_D (va_A (wX h0 a1 a2 a3 a4 a5 h6 s0 s1 s2 s3 t1 t2 t3 t4 t5) s.heap.size) (wX h0 a1 a2 a3 a4 a5 h6 s0 s1 s2 s3 t1 t2 t3 t4 t5) := hD0.self (sz := s.heap.size)
  generalize hAe : va_A (wX h0 a1 a2 a3 a4 a5 h6 s0 s1 s2 s3 t1 t2 t3 t4 t5) s.heap.size = A at hD hG ⊢
  have hA : ∀ q : Nat, s.heap.size ≤ q → A q := fun q h => by rw [← hAe]; exact Or.inr h
  have hS : va_S A s.heap s.heap [] := va_S.rf
  have hP : va_P D vwCl (wX h0 a1 a2 a3 a4 a5 h6 s0 s1 s2 s3 t1 t2 t3 t4 t5) s.heap := hP
  have hl := lv_entry ([.ref h0, .int n]) (n := 3) (Nat.le_of_ble_eq_true rfl)
  rw [lg_entry_eq]
  generalize (lg_sl ([.ref h0, .int n]) ++ List.replicate (3 - (lg_sl ([.ref h0, .int n])).length) Slot.unset).toArray = ls at hl ⊢
  have hl : lv_has ls 3 [(0, .ref h0), (1, .int n)] := hl
  refine lv_iload_n hx hb dX10_knownPart_0 rfl (lv_at hl 1 rfl) ?_
  refine lv_if_lt (tgt := 22) hx hb dX10_knownPart_1 (by decide) (fun c1 => ?_) (fun c1 => ?_)
  · skip
    refine lv_null hx hb dX10_knownPart_22 ?_
    refine lv_astore_nN (lv' := [(2, .null), (0, .ref h0), (1, .int n)]) hx hb dX10_knownPart_23 rfl hl (by decide) rfl (fun ls hl => ?_)
    refine lv_aload_nN hx hb dX10_knownPart_24 rfl (lv_at hl 0 rfl) ?_
    refine lv_ifnonnullN hx hb dX10_knownPart_25 ?_
    obtain ⟨sa, hsa⟩ := hG.S (389, "there is no such part") (by decide)
    exact vx_throwSW (names := xnms) (mc := 1) (ms := 6) (text := "there is no such part") (own := "Foundrymark") hx hb hl0 hown (by decide +kernel) (by decide +kernel) (hta _ mw0) (hta _ mw1) hsa (vx_hat (B := exB) (fun w hw => hta w (wx_168 w hw)) (by decide +kernel) (fun w hw => hG.B w hw)) (by decide +kernel) hG.U hG.N hS (hl.1.trans hml.symm) dX10_knownPart_28 dX10_knownPart_31 dX10_knownPart_32 dX10_knownPart_35 dX10_knownPart_38 (fun x hx9 => (hout x hx9).elim) (Nat.le_of_ble_eq_true rfl) (Nat.le_of_ble_eq_true rfl) (Nat.le_of_ble_eq_true rfl) (Nat.le_of_ble_eq_true rfl) hlocks (fun t hv hz hk => ⟨(), trivial, rfl, gF9 hS hz hk⟩) hS.2.2 (Nat.le_of_ble_eq_true rfl) (Nat.le_of_ble_eq_true rfl)
  · skip
    refine lv_iload_n hx hb dX10_knownPart_4 rfl (lv_at hl 1 rfl) ?_
    refine lv_aload_n hx hb dX10_knownPart_5 rfl (lv_at hl 0 rfl) ?_
    refine va_get (D := D) (ci := 15) (v := .ref a2) (C := RX10) (T := TX10) (N := 14) hx hb hta iwX10 hown hK hP 0 rfl rfl 1 (by decide) (hta _ mw3) (fun _ h9 => h9) rfl dX10_knownPart_6 ?_
    refine va_alen hx hb hK hP 2 1 rfl rfl (v := 12) rfl dX10_knownPart_9 ?_
    refine lv_icmp_ge (tgt := 22) hx hb dX10_knownPart_10 (by decide) (fun c2 => ?_) (fun c2 => ?_)
    · skip
      refine lv_null hx hb dX10_knownPart_22 ?_
      refine lv_astore_nN (lv' := [(2, .null), (0, .ref h0), (1, .int n)]) hx hb dX10_knownPart_23 rfl hl (by decide) rfl (fun ls hl => ?_)
      refine lv_aload_nN hx hb dX10_knownPart_24 rfl (lv_at hl 0 rfl) ?_
      refine lv_ifnonnullN hx hb dX10_knownPart_25 ?_
      obtain ⟨sa, hsa⟩ := hG.S (389, "there is no such part") (by decide)
      exact vx_throwSW (names := xnms) (mc := 1) (ms := 6) (text := "there is no such part") (own := "Foundrymark") hx hb hl0 hown (by decide +kernel) (by decide +kernel) (hta _ mw0) (hta _ mw1) hsa (vx_hat (B := exB) (fun w hw => hta w (wx_168 w hw)) (by decide +kernel) (fun w hw => hG.B w hw)) (by decide +kernel) hG.U hG.N hS (hl.1.trans hml.symm) dX10_knownPart_28 dX10_knownPart_31 dX10_knownPart_32 dX10_knownPart_35 dX10_knownPart_38 (fun x hx9 => (hout x hx9).elim) (Nat.le_of_ble_eq_true rfl) (Nat.le_of_ble_eq_true rfl) (Nat.le_of_ble_eq_true rfl) (Nat.le_of_ble_eq_true rfl) hlocks (fun t hv hz hk => ⟨(), trivial, rfl, gF9 hS hz hk⟩) hS.2.2 (Nat.le_of_ble_eq_true rfl) (Nat.le_of_ble_eq_true rfl)
    · skip
      refine lv_aload_n hx hb dX10_knownPart_13 rfl (lv_at hl 0 rfl) ?_
      refine va_get (D := D) (ci := 15) (v := .ref a2) (C := RX10) (T := TX10) (N := 14) hx hb hta iwX10 hown hK hP 0 rfl rfl 1 (by decide) (hta _ mw3) (fun _ h9 => h9) rfl dX10_knownPart_14 ?_
      refine lv_iload_n hx hb dX10_knownPart_17 rfl (lv_at hl 1 rfl) ?_
      refine va_aldq hx hb hK hP 2 1 rfl rfl (i := n) (gIn (M := 12) rfl c1 c2) dX10_knownPart_18 ?_
      refine W.eq (g2 := F0 m 19 ls [.null]) rfl ?_
      refine lv_goto (tgt := 23) hx hb dX10_knownPart_19 (by decide) ?_
      refine lv_astore_nN (lv' := [(2, .null), (0, .ref h0), (1, .int n)]) hx hb dX10_knownPart_23 rfl hl (by decide) rfl (fun ls hl => ?_)
      refine lv_aload_nN hx hb dX10_knownPart_24 rfl (lv_at hl 0 rfl) ?_
      refine lv_ifnonnullN hx hb dX10_knownPart_25 ?_
      obtain ⟨sa, hsa⟩ := hG.S (389, "there is no such part") (by decide)
      exact vx_throwSW (names := xnms) (mc := 1) (ms := 6) (text := "there is no such part") (own := "Foundrymark") hx hb hl0 hown (by decide +kernel) (by decide +kernel) (hta _ mw0) (hta _ mw1) hsa (vx_hat (B := exB) (fun w hw => hta w (wx_168 w hw)) (by decide +kernel) (fun w hw => hG.B w hw)) (by decide +kernel) hG.U hG.N hS (hl.1.trans hml.symm) dX10_knownPart_28 dX10_knownPart_31 dX10_knownPart_32 dX10_knownPart_35 dX10_knownPart_38 (fun x hx9 => (hout x hx9).elim) (Nat.le_of_ble_eq_true rfl) (Nat.le_of_ble_eq_true rfl) (Nat.le_of_ble_eq_true rfl) (Nat.le_of_ble_eq_true rfl) hlocks (fun t hv hz hk => ⟨(), trivial, rfl, gF9 hS hz hk⟩) hS.2.2 (Nat.le_of_ble_eq_true rfl) (Nat.le_of_ble_eq_true rfl)

set_option maxHeartbeats 4000000 in
set_option maxRecDepth 100000 in
theorem c_X10_knownLot (l : Launch) (hl0 : l.stackTraces = false) {D : va_G} {tE sz : Nat} {h0 a1 a2 a3 a4 a5 h6 s0 s1 s2 s3 : Nat} {t1 t2 t3 t4 t5 : ClassId} {n : Int32} : vx_Met l ⟨"Foundrymark", "knownLot", "(I)LFoundrymark$Lot;"⟩ (wsC ⟨"Foundrymark", "knownLot", "(I)LFoundrymark$Lot;"⟩ cX10_knownLot 3 (some (.object "Foundrymark$Lot"))) ({ frames := 6, cells := 1, slots := 6, locals := 98 }) (va_Pc [.ref h0, .int n] (gS tE D (wX h0 a1 a2 a3 a4 a5 h6 s0 s1 s2 s3 t1 t2 t3 t4 t5) (tX t1 t2 t3 t4 t5) sz)) (fun _ _ _ _ => False) (vx_X (fun _ : Unit => True) (fun E9 _ _ => E9 = "java/lang/IndexOutOfBoundsException") (va_A (wX h0 a1 a2 a3 a4 a5 h6 s0 s1 s2 s3 t1 t2 t3 t4 t5) sz)) 1 6 (va_A (wX h0 a1 a2 a3 a4 a5 h6 s0 s1 s2 s3 t1 t2 t3 t4 t5) sz) := by
  refine vx_ofW (cc := cX10_knownLot) (maxL := 3) (ret := (some (.object "Foundrymark$Lot"))) (by decide) rfl ?_
  intro p e s m args below meth c s₁ B hml hout hv
  obtain ⟨rfl, hsz, hP, hK, hD0, hG⟩ := hv
  have hx := B.exec
  have hb := B.bytes
  have hr := B.returns
  have hlocks := B.notSynchronized
  have hts := atoms_spec (ws := wsC ⟨"Foundrymark", "knownLot", "(I)LFoundrymark$Lot;"⟩ cX10_knownLot 3 (some (.object "Foundrymark$Lot"))) B.pre
  have hta : ∀ w ∈ WA, w.before _ s = true := fun w h => hts w (List.mem_cons_of_mem _ h)
  have hown : s.vm.findClass "Foundrymark" = some m.cls := findClass_of_methodNamed B.named
  subst hsz
  have hD : va_D (va_A (wX h0 a1 a2 a3 a4 a5 h6 s0 s1 s2 s3 t1 t2 t3 t4 t5) s.heap.size) (wX h0 a1 a2 a3 a4 a5 h6 s0 s1 s2 s3 t1 t2 t3 t4 t5) := hD0.self (sz := s.heap.size)
  generalize hAe : va_A (wX h0 a1 a2 a3 a4 a5 h6 s0 s1 s2 s3 t1 t2 t3 t4 t5) s.heap.size = A at hD hG ⊢
  have hA : ∀ q : Nat, s.heap.size ≤ q → A q := fun q h => by rw [← hAe]; exact Or.inr h
  have hS : va_S A s.heap s.heap [] := va_S.rf
  have hP : va_P D vwCl (wX h0 a1 a2 a3 a4 a5 h6 s0 s1 s2 s3 t1 t2 t3 t4 t5) s.heap := hP
  have hl := lv_entry ([.ref h0, .int n]) (n := 3) (Nat.le_of_ble_eq_true rfl)
  rw [lg_entry_eq]
  generalize (lg_sl ([.ref h0, .int n]) ++ List.replicate (3 - (lg_sl ([.ref h0, .int n])).length) Slot.unset).toArray = ls at hl ⊢
  have hl : lv_has ls 3 [(0, .ref h0), (1, .int n)] := hl
  refine lv_iload_n hx hb dX10_knownLot_0 rfl (lv_at hl 1 rfl) ?_
  refine lv_if_lt (tgt := 22) hx hb dX10_knownLot_1 (by decide) (fun c1 => ?_) (fun c1 => ?_)
  · skip
    refine lv_null hx hb dX10_knownLot_22 ?_
    refine lv_astore_nN (lv' := [(2, .null), (0, .ref h0), (1, .int n)]) hx hb dX10_knownLot_23 rfl hl (by decide) rfl (fun ls hl => ?_)
    refine lv_aload_nN hx hb dX10_knownLot_24 rfl (lv_at hl 0 rfl) ?_
    refine lv_ifnonnullN hx hb dX10_knownLot_25 ?_
    obtain ⟨sa, hsa⟩ := hG.S (391, "there is no such lot") (by decide)
    exact vx_throwSW (names := xnms) (mc := 1) (ms := 6) (text := "there is no such lot") (own := "Foundrymark") hx hb hl0 hown (by decide +kernel) (by decide +kernel) (hta _ mw0) (hta _ mw1) hsa (vx_hat (B := exB) (fun w hw => hta w (wx_168 w hw)) (by decide +kernel) (fun w hw => hG.B w hw)) (by decide +kernel) hG.U hG.N hS (hl.1.trans hml.symm) dX10_knownLot_28 dX10_knownLot_31 dX10_knownLot_32 dX10_knownLot_35 dX10_knownLot_38 (fun x hx9 => (hout x hx9).elim) (Nat.le_of_ble_eq_true rfl) (Nat.le_of_ble_eq_true rfl) (Nat.le_of_ble_eq_true rfl) (Nat.le_of_ble_eq_true rfl) hlocks (fun t hv hz hk => ⟨(), trivial, rfl, gF9 hS hz hk⟩) hS.2.2 (Nat.le_of_ble_eq_true rfl) (Nat.le_of_ble_eq_true rfl)
  · skip
    refine lv_iload_n hx hb dX10_knownLot_4 rfl (lv_at hl 1 rfl) ?_
    refine lv_aload_n hx hb dX10_knownLot_5 rfl (lv_at hl 0 rfl) ?_
    refine va_get (D := D) (ci := 15) (v := .ref a4) (C := RX10) (T := TX10) (N := 14) hx hb hta iwX10 hown hK hP 0 rfl rfl 3 (by decide) (hta _ mw4) (fun _ h9 => h9) rfl dX10_knownLot_6 ?_
    refine va_alen hx hb hK hP 4 3 rfl rfl (v := 90) rfl dX10_knownLot_9 ?_
    refine lv_icmp_ge (tgt := 22) hx hb dX10_knownLot_10 (by decide) (fun c2 => ?_) (fun c2 => ?_)
    · skip
      refine lv_null hx hb dX10_knownLot_22 ?_
      refine lv_astore_nN (lv' := [(2, .null), (0, .ref h0), (1, .int n)]) hx hb dX10_knownLot_23 rfl hl (by decide) rfl (fun ls hl => ?_)
      refine lv_aload_nN hx hb dX10_knownLot_24 rfl (lv_at hl 0 rfl) ?_
      refine lv_ifnonnullN hx hb dX10_knownLot_25 ?_
      obtain ⟨sa, hsa⟩ := hG.S (391, "there is no such lot") (by decide)
      exact vx_throwSW (names := xnms) (mc := 1) (ms := 6) (text := "there is no such lot") (own := "Foundrymark") hx hb hl0 hown (by decide +kernel) (by decide +kernel) (hta _ mw0) (hta _ mw1) hsa (vx_hat (B := exB) (fun w hw => hta w (wx_168 w hw)) (by decide +kernel) (fun w hw => hG.B w hw)) (by decide +kernel) hG.U hG.N hS (hl.1.trans hml.symm) dX10_knownLot_28 dX10_knownLot_31 dX10_knownLot_32 dX10_knownLot_35 dX10_knownLot_38 (fun x hx9 => (hout x hx9).elim) (Nat.le_of_ble_eq_true rfl) (Nat.le_of_ble_eq_true rfl) (Nat.le_of_ble_eq_true rfl) (Nat.le_of_ble_eq_true rfl) hlocks (fun t hv hz hk => ⟨(), trivial, rfl, gF9 hS hz hk⟩) hS.2.2 (Nat.le_of_ble_eq_true rfl) (Nat.le_of_ble_eq_true rfl)
    · skip
      refine lv_aload_n hx hb dX10_knownLot_13 rfl (lv_at hl 0 rfl) ?_
      refine va_get (D := D) (ci := 15) (v := .ref a4) (C := RX10) (T := TX10) (N := 14) hx hb hta iwX10 hown hK hP 0 rfl rfl 3 (by decide) (hta _ mw4) (fun _ h9 => h9) rfl dX10_knownLot_14 ?_
      refine lv_iload_n hx hb dX10_knownLot_17 rfl (lv_at hl 1 rfl) ?_
      refine va_aldq hx hb hK hP 4 3 rfl rfl (i := n) (gIn (M := 90) rfl c1 c2) dX10_knownLot_18 ?_
      refine W.eq (g2 := F0 m 19 ls [.null]) rfl ?_
      refine lv_goto (tgt := 23) hx hb dX10_knownLot_19 (by decide) ?_
      refine lv_astore_nN (lv' := [(2, .null), (0, .ref h0), (1, .int n)]) hx hb dX10_knownLot_23 rfl hl (by decide) rfl (fun ls hl => ?_)
      refine lv_aload_nN hx hb dX10_knownLot_24 rfl (lv_at hl 0 rfl) ?_
      refine lv_ifnonnullN hx hb dX10_knownLot_25 ?_
      obtain ⟨sa, hsa⟩ := hG.S (391, "there is no such lot") (by decide)
      exact vx_throwSW (names := xnms) (mc := 1) (ms := 6) (text := "there is no such lot") (own := "Foundrymark") hx hb hl0 hown (by decide +kernel) (by decide +kernel) (hta _ mw0) (hta _ mw1) hsa (vx_hat (B := exB) (fun w hw => hta w (wx_168 w hw)) (by decide +kernel) (fun w hw => hG.B w hw)) (by decide +kernel) hG.U hG.N hS (hl.1.trans hml.symm) dX10_knownLot_28 dX10_knownLot_31 dX10_knownLot_32 dX10_knownLot_35 dX10_knownLot_38 (fun x hx9 => (hout x hx9).elim) (Nat.le_of_ble_eq_true rfl) (Nat.le_of_ble_eq_true rfl) (Nat.le_of_ble_eq_true rfl) (Nat.le_of_ble_eq_true rfl) hlocks (fun t hv hz hk => ⟨(), trivial, rfl, gF9 hS hz hk⟩) hS.2.2 (Nat.le_of_ble_eq_true rfl) (Nat.le_of_ble_eq_true rfl)

set_option maxHeartbeats 4000000 in
set_option maxRecDepth 100000 in
theorem c_X10_knownOrder (l : Launch) (hl0 : l.stackTraces = false) {D : va_G} {tE sz : Nat} {h0 a1 a2 a3 a4 a5 h6 s0 s1 s2 s3 : Nat} {t1 t2 t3 t4 t5 : ClassId} {n : Int32} : vx_Met l ⟨"Foundrymark", "knownOrder", "(I)LFoundrymark$Order;"⟩ (wsC ⟨"Foundrymark", "knownOrder", "(I)LFoundrymark$Order;"⟩ cX10_knownOrder 3 (some (.object "Foundrymark$Order"))) ({ frames := 6, cells := 1, slots := 6, locals := 98 }) (va_Pc [.ref h0, .int n] (gS tE D (wX h0 a1 a2 a3 a4 a5 h6 s0 s1 s2 s3 t1 t2 t3 t4 t5) (tX t1 t2 t3 t4 t5) sz)) (fun _ _ _ _ => False) (vx_X (fun _ : Unit => True) (fun E9 _ _ => E9 = "java/lang/IndexOutOfBoundsException") (va_A (wX h0 a1 a2 a3 a4 a5 h6 s0 s1 s2 s3 t1 t2 t3 t4 t5) sz)) 1 6 (va_A (wX h0 a1 a2 a3 a4 a5 h6 s0 s1 s2 s3 t1 t2 t3 t4 t5) sz) := by
  refine vx_ofW (cc := cX10_knownOrder) (maxL := 3) (ret := (some (.object "Foundrymark$Order"))) (by decide) rfl ?_
  intro p e s m args below meth c s₁ B hml hout hv
  obtain ⟨rfl, hsz, hP, hK, hD0, hG⟩ := hv
  have hx := B.exec
  have hb := B.bytes
  have hr := B.returns
  have hlocks := B.notSynchronized
  have hts := atoms_spec (ws := wsC ⟨"Foundrymark", "knownOrder", "(I)LFoundrymark$Order;"⟩ cX10_knownOrder 3 (some (.object "Foundrymark$Order"))) B.pre
  have hta : ∀ w ∈ WA, w.before _ s = true := fun w h => hts w (List.mem_cons_of_mem _ h)
  have hown : s.vm.findClass "Foundrymark" = some m.cls := findClass_of_methodNamed B.named
  subst hsz
  have hD : va_D (va_A (wX h0 a1 a2 a3 a4 a5 h6 s0 s1 s2 s3 t1 t2 t3 t4 t5) s.heap.size) (wX h0 a1 a2 a3 a4 a5 h6 s0 s1 s2 s3 t1 t2 t3 t4 t5) := hD0.self (sz := s.heap.size)
  generalize hAe : va_A (wX h0 a1 a2 a3 a4 a5 h6 s0 s1 s2 s3 t1 t2 t3 t4 t5) s.heap.size = A at hD hG ⊢
  have hA : ∀ q : Nat, s.heap.size ≤ q → A q := fun q h => by rw [← hAe]; exact Or.inr h
  have hS : va_S A s.heap s.heap [] := va_S.rf
  have hP : va_P D vwCl (wX h0 a1 a2 a3 a4 a5 h6 s0 s1 s2 s3 t1 t2 t3 t4 t5) s.heap := hP
  have hl := lv_entry ([.ref h0, .int n]) (n := 3) (Nat.le_of_ble_eq_true rfl)
  rw [lg_entry_eq]
  generalize (lg_sl ([.ref h0, .int n]) ++ List.replicate (3 - (lg_sl ([.ref h0, .int n])).length) Slot.unset).toArray = ls at hl ⊢
  have hl : lv_has ls 3 [(0, .ref h0), (1, .int n)] := hl
  refine lv_iload_n hx hb dX10_knownOrder_0 rfl (lv_at hl 1 rfl) ?_
  refine lv_if_lt (tgt := 22) hx hb dX10_knownOrder_1 (by decide) (fun c1 => ?_) (fun c1 => ?_)
  · skip
    refine lv_null hx hb dX10_knownOrder_22 ?_
    refine lv_astore_nN (lv' := [(2, .null), (0, .ref h0), (1, .int n)]) hx hb dX10_knownOrder_23 rfl hl (by decide) rfl (fun ls hl => ?_)
    refine lv_aload_nN hx hb dX10_knownOrder_24 rfl (lv_at hl 0 rfl) ?_
    refine lv_ifnonnullN hx hb dX10_knownOrder_25 ?_
    obtain ⟨sa, hsa⟩ := hG.S (393, "there is no such order") (by decide)
    exact vx_throwSW (names := xnms) (mc := 1) (ms := 6) (text := "there is no such order") (own := "Foundrymark") hx hb hl0 hown (by decide +kernel) (by decide +kernel) (hta _ mw0) (hta _ mw1) hsa (vx_hat (B := exB) (fun w hw => hta w (wx_168 w hw)) (by decide +kernel) (fun w hw => hG.B w hw)) (by decide +kernel) hG.U hG.N hS (hl.1.trans hml.symm) dX10_knownOrder_28 dX10_knownOrder_31 dX10_knownOrder_32 dX10_knownOrder_35 dX10_knownOrder_38 (fun x hx9 => (hout x hx9).elim) (Nat.le_of_ble_eq_true rfl) (Nat.le_of_ble_eq_true rfl) (Nat.le_of_ble_eq_true rfl) (Nat.le_of_ble_eq_true rfl) hlocks (fun t hv hz hk => ⟨(), trivial, rfl, gF9 hS hz hk⟩) hS.2.2 (Nat.le_of_ble_eq_true rfl) (Nat.le_of_ble_eq_true rfl)
  · skip
    refine lv_iload_n hx hb dX10_knownOrder_4 rfl (lv_at hl 1 rfl) ?_
    refine lv_aload_n hx hb dX10_knownOrder_5 rfl (lv_at hl 0 rfl) ?_
    refine va_get (D := D) (ci := 15) (v := .ref a5) (C := RX10) (T := TX10) (N := 14) hx hb hta iwX10 hown hK hP 0 rfl rfl 4 (by decide) (hta _ mw5) (fun _ h9 => h9) rfl dX10_knownOrder_6 ?_
    refine va_alen hx hb hK hP 5 4 rfl rfl (v := 30) rfl dX10_knownOrder_9 ?_
    refine lv_icmp_ge (tgt := 22) hx hb dX10_knownOrder_10 (by decide) (fun c2 => ?_) (fun c2 => ?_)
    · skip
      refine lv_null hx hb dX10_knownOrder_22 ?_
      refine lv_astore_nN (lv' := [(2, .null), (0, .ref h0), (1, .int n)]) hx hb dX10_knownOrder_23 rfl hl (by decide) rfl (fun ls hl => ?_)
      refine lv_aload_nN hx hb dX10_knownOrder_24 rfl (lv_at hl 0 rfl) ?_
      refine lv_ifnonnullN hx hb dX10_knownOrder_25 ?_
      obtain ⟨sa, hsa⟩ := hG.S (393, "there is no such order") (by decide)
      exact vx_throwSW (names := xnms) (mc := 1) (ms := 6) (text := "there is no such order") (own := "Foundrymark") hx hb hl0 hown (by decide +kernel) (by decide +kernel) (hta _ mw0) (hta _ mw1) hsa (vx_hat (B := exB) (fun w hw => hta w (wx_168 w hw)) (by decide +kernel) (fun w hw => hG.B w hw)) (by decide +kernel) hG.U hG.N hS (hl.1.trans hml.symm) dX10_knownOrder_28 dX10_knownOrder_31 dX10_knownOrder_32 dX10_knownOrder_35 dX10_knownOrder_38 (fun x hx9 => (hout x hx9).elim) (Nat.le_of_ble_eq_true rfl) (Nat.le_of_ble_eq_true rfl) (Nat.le_of_ble_eq_true rfl) (Nat.le_of_ble_eq_true rfl) hlocks (fun t hv hz hk => ⟨(), trivial, rfl, gF9 hS hz hk⟩) hS.2.2 (Nat.le_of_ble_eq_true rfl) (Nat.le_of_ble_eq_true rfl)
    · skip
      refine lv_aload_n hx hb dX10_knownOrder_13 rfl (lv_at hl 0 rfl) ?_
      refine va_get (D := D) (ci := 15) (v := .ref a5) (C := RX10) (T := TX10) (N := 14) hx hb hta iwX10 hown hK hP 0 rfl rfl 4 (by decide) (hta _ mw5) (fun _ h9 => h9) rfl dX10_knownOrder_14 ?_
      refine lv_iload_n hx hb dX10_knownOrder_17 rfl (lv_at hl 1 rfl) ?_
      refine va_aldq hx hb hK hP 5 4 rfl rfl (i := n) (gIn (M := 30) rfl c1 c2) dX10_knownOrder_18 ?_
      refine W.eq (g2 := F0 m 19 ls [.null]) rfl ?_
      refine lv_goto (tgt := 23) hx hb dX10_knownOrder_19 (by decide) ?_
      refine lv_astore_nN (lv' := [(2, .null), (0, .ref h0), (1, .int n)]) hx hb dX10_knownOrder_23 rfl hl (by decide) rfl (fun ls hl => ?_)
      refine lv_aload_nN hx hb dX10_knownOrder_24 rfl (lv_at hl 0 rfl) ?_
      refine lv_ifnonnullN hx hb dX10_knownOrder_25 ?_
      obtain ⟨sa, hsa⟩ := hG.S (393, "there is no such order") (by decide)
      exact vx_throwSW (names := xnms) (mc := 1) (ms := 6) (text := "there is no such order") (own := "Foundrymark") hx hb hl0 hown (by decide +kernel) (by decide +kernel) (hta _ mw0) (hta _ mw1) hsa (vx_hat (B := exB) (fun w hw => hta w (wx_168 w hw)) (by decide +kernel) (fun w hw => hG.B w hw)) (by decide +kernel) hG.U hG.N hS (hl.1.trans hml.symm) dX10_knownOrder_28 dX10_knownOrder_31 dX10_knownOrder_32 dX10_knownOrder_35 dX10_knownOrder_38 (fun x hx9 => (hout x hx9).elim) (Nat.le_of_ble_eq_true rfl) (Nat.le_of_ble_eq_true rfl) (Nat.le_of_ble_eq_true rfl) (Nat.le_of_ble_eq_true rfl) hlocks (fun t hv hz hk => ⟨(), trivial, rfl, gF9 hS hz hk⟩) hS.2.2 (Nat.le_of_ble_eq_true rfl) (Nat.le_of_ble_eq_true rfl)
