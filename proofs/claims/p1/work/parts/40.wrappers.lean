set_option maxHeartbeats 4000000 in
set_option maxRecDepth 100000 in
theorem c_L_addComponent (l : Launch) (hl0 : l.stackTraces = false) {D : va_G} {tE sz : Nat} {h0 a1 a2 a3 a4 a5 h6 s0 s1 s2 s3 : Nat} {t1 t2 t3 t4 t5 : ClassId} {o : Nat} {x0 x1 x2 x3 : Int32} : Met l ⟨"FoundrymarkLaw", "addComponent", "(LFoundrymark;IIII[J)I"⟩ (wsW ⟨"FoundrymarkLaw", "addComponent", "(LFoundrymark;IIII[J)I"⟩ cL_addComponent 7 (some .int) [(0, 14, 17, 24), (0, 14, 21, 26), (0, 14, 25, 13), (0, 14, 29, 15)]) ({ frames := 8, cells := 1, slots := 6, locals := 146 }) (va_Pc [.ref h0, .int x0, .int x1, .int x2, .int x3, .ref o] (gS tE D (wX h0 a1 a2 a3 a4 a5 h6 s0 s1 s2 s3 t1 t2 t3 t4 t5) (tX t1 t2 t3 t4 t5) sz)) (va_Qi (fun (r : Int32) (_ : Unit) => r = 1) (gO D (fun _ => []) (fun _ => []) (va_A (wX h0 a1 a2 a3 a4 a5 h6 s0 s1 s2 s3 t1 t2 t3 t4 t5) sz)) (va_A (wX h0 a1 a2 a3 a4 a5 h6 s0 s1 s2 s3 t1 t2 t3 t4 t5) sz)) 1 6 (va_A (wX h0 a1 a2 a3 a4 a5 h6 s0 s1 s2 s3 t1 t2 t3 t4 t5) sz) := by
  refine va_MetW (cc := cL_addComponent) (maxL := 7) (ret := (some .int)) (hh := [(0, 14, 17, 24), (0, 14, 21, 26), (0, 14, 25, 13), (0, 14, 29, 15)]) (by decide) rfl ?_
  intro p e s m args below meth c s₁ B hml hv
  obtain ⟨rfl, hsz, hP, hK, hD0, hG⟩ := hv
  have hx := B.exec
  have hb := B.bytes
  have hr := B.returns
  have hlocks := B.notSynchronized
  have hts := atoms_spec (ws := wsW ⟨"FoundrymarkLaw", "addComponent", "(LFoundrymark;IIII[J)I"⟩ cL_addComponent 7 (some .int) [(0, 14, 17, 24), (0, 14, 21, 26), (0, 14, 25, 13), (0, 14, 29, 15)]) B.pre
  have hta : ∀ w ∈ WA, w.before _ s = true := fun w h => hts w (List.mem_cons_of_mem _ h)
  have hown : s.vm.findClass "FoundrymarkLaw" = some m.cls := findClass_of_methodNamed B.named
  have htab := vx_table (x := ⟨"FoundrymarkLaw", "addComponent", "(LFoundrymark;IIII[J)I"⟩) B (hts _ List.mem_cons_self)
  subst hsz
  have hD : va_D (va_A (wX h0 a1 a2 a3 a4 a5 h6 s0 s1 s2 s3 t1 t2 t3 t4 t5) s.heap.size) (wX h0 a1 a2 a3 a4 a5 h6 s0 s1 s2 s3 t1 t2 t3 t4 t5) := hD0.self (sz := s.heap.size)
  generalize hAe : va_A (wX h0 a1 a2 a3 a4 a5 h6 s0 s1 s2 s3 t1 t2 t3 t4 t5) s.heap.size = A at hD hG ⊢
  have hA : ∀ q : Nat, s.heap.size ≤ q → A q := fun q h => by rw [← hAe]; exact Or.inr h
  have hS : va_S A s.heap s.heap [] := va_S.rf
  have hP : va_P D vwCl (wX h0 a1 a2 a3 a4 a5 h6 s0 s1 s2 s3 t1 t2 t3 t4 t5) s.heap := hP
  have hl := lv_entry ([.ref h0, .int x0, .int x1, .int x2, .int x3, .ref o]) (n := 7) (Nat.le_of_ble_eq_true rfl)
  rw [lg_entry_eq]
  generalize (lg_sl ([.ref h0, .int x0, .int x1, .int x2, .int x3, .ref o]) ++ List.replicate (7 - (lg_sl ([.ref h0, .int x0, .int x1, .int x2, .int x3, .ref o])).length) Slot.unset).toArray = ls at hl ⊢
  have hl : lv_has ls 7 [(0, .ref h0), (1, .int x0), (2, .int x1), (3, .int x2), (4, .int x3), (5, .ref o)] := hl
  refine lv_aload hx hb dL_addComponent_0 (lv_at hl 5 rfl) ?_
  refine lv_iconst (v := 0) hx hb dL_addComponent_2 (by decide) ?_
  refine lv_aload_n hx hb dL_addComponent_3 rfl (lv_at hl 0 rfl) ?_
  refine lv_iload_n hx hb dL_addComponent_4 rfl (lv_at hl 1 rfl) ?_
  refine lv_iload_n hx hb dL_addComponent_5 rfl (lv_at hl 2 rfl) ?_
  refine lv_iload_n hx hb dL_addComponent_6 rfl (lv_at hl 3 rfl) ?_
  refine lv_iload hx hb dL_addComponent_7 (lv_at hl 4 rfl) ?_
  have hPc := hP.sub (ws' := (wX h0 a1 a2 a3 a4 a5 h6 s0 s1 s2 s3 t1 t2 t3 t4 t5)) [0, 1, 2, 3, 4, 5, 6, 7, 8, 9, 10] rfl
  have hKc := hK.sub (tys' := (tX t1 t2 t3 t4 t5)) [0, 1, 2, 3, 4] rfl
  have hDc := hD.sub (ws' := (wX h0 a1 a2 a3 a4 a5 h6 s0 s1 s2 s3 t1 t2 t3 t4 t5)) [0, 1, 2, 3, 4, 5, 6, 7, 8, 9, 10] (by decide) rfl
  have hFc := va_free (wc := (wX h0 a1 a2 a3 a4 a5 h6 s0 s1 s2 s3 t1 t2 t3 t4 t5)) hD hS hA [0, 1, 2, 3, 4, 5, 6, 7, 8, 9, 10] rfl
  refine gX0 (isC := [0, 1, 2, 3, 4, 5, 6, 7, 8, 9, 10]) (isR := []) (wr := []) (vx_runV (As := [.int x0, .int x1, .int x2, .int x3]) (rest := [.int 0, .ref o]) ⟨hx, hb, hml, hown, hta⟩ (c_X10_addComponent l hl0) (cwV 4 hta (gWV mw267 mw268 mw269 mw10 mw266) rfl rfl rfl (by decide +kernel) ⟨Nat.le_of_ble_eq_true rfl, Nat.le_of_ble_eq_true rfl⟩) ⟨gS_blind, va_recv hKc hPc (ci := 15) (q0 := 0) rfl rfl, fun U hU hW => ⟨rfl, by rw [hU], by rw [hU]; exact hPc, va_K.moved hW.alike hKc, hDc.weaken (fun _ _ _ _ => trivial), hG.call hS hU hW hFc⟩⟩ rfl rfl hl.1 rfl (lv_room (Nat.le_of_ble_eq_true rfl)) dL_addComponent_9 ⟨Nat.le_of_ble_eq_true rfl, Nat.le_of_ble_eq_true rfl⟩) hP hD hS hFc rfl rfl (by decide) (by decide) (fun E9 ce q9 u2 H locs h3 hz9 hP hD hS hc9 hv9 hcl9 => ?_)
  obtain ⟨_, rfl⟩ := h3
  refine vx_catch (own := "FoundrymarkLaw") (name := "java/lang/IndexOutOfBoundsException") hown [] ⟨0, 14, 17, 24⟩ [⟨0, 14, 21, 26⟩, ⟨0, 14, 25, 13⟩, ⟨0, 14, 29, 15⟩] (by rw [htab]; rfl) (fun z hz => absurd hz List.not_mem_nil) (by decide) (by decide) (hta _ mw270) (va_Nw.use rfl (hG.C ("java/lang/IndexOutOfBoundsException", "java/lang/IndexOutOfBoundsException") (by decide))) hc9 hv9 hcl9 ?_
  refine W.eq (g2 := F0 m 17 ls [.ref q9]) rfl ?_
  refine lv_astore (lv' := [(6, .ref q9), (0, .ref h0), (1, .int x0), (2, .int x1), (3, .int x2), (4, .int x3), (5, .ref o)]) hx hb dL_addComponent_17 hl (by decide) rfl (fun ls hl => ?_)
  refine lv_iconst (v := 1) hx hb dL_addComponent_19 (by decide) ?_
  have hP9 := hP.sub (ws' := []) [] rfl
  have hD9 := hD.sub (ws' := []) [] (by decide) rfl
  have hK9 := hK.sub (tys' := []) [] rfl
  refine W.widen (k := 1) (n := 6) (Nat.le_of_ble_eq_true rfl) (Nat.le_of_ble_eq_true rfl) ?_
  exact W.iret (v := 1) hx hb hr (fun t ht hWm => ⟨⟨_, (), rfl, rfl, ⟨by rw [ht]; exact hP9, va_K.moved hWm.alike hK9, hD9⟩⟩, hS.F ht⟩) hS.2.2 dL_addComponent_20

set_option maxHeartbeats 4000000 in
set_option maxRecDepth 100000 in
theorem c_L_addOperation (l : Launch) (hl0 : l.stackTraces = false) {D : va_G} {tE sz : Nat} {h0 a1 a2 a3 a4 a5 h6 s0 s1 s2 s3 : Nat} {t1 t2 t3 t4 t5 : ClassId} {o : Nat} {x0 x1 x2 x3 : Int32} : Met l ⟨"FoundrymarkLaw", "addOperation", "(LFoundrymark;IIII[J)I"⟩ (wsW ⟨"FoundrymarkLaw", "addOperation", "(LFoundrymark;IIII[J)I"⟩ cL_addOperation 7 (some .int) [(0, 14, 17, 24), (0, 14, 21, 26), (0, 14, 25, 13), (0, 14, 29, 15)]) ({ frames := 8, cells := 1, slots := 6, locals := 147 }) (va_Pc [.ref h0, .int x0, .int x1, .int x2, .int x3, .ref o] (gS tE D (wX h0 a1 a2 a3 a4 a5 h6 s0 s1 s2 s3 t1 t2 t3 t4 t5) (tX t1 t2 t3 t4 t5) sz)) (va_Qi (fun (r : Int32) (_ : Unit) => r = 1) (gO D (fun _ => []) (fun _ => []) (va_A (wX h0 a1 a2 a3 a4 a5 h6 s0 s1 s2 s3 t1 t2 t3 t4 t5) sz)) (va_A (wX h0 a1 a2 a3 a4 a5 h6 s0 s1 s2 s3 t1 t2 t3 t4 t5) sz)) 1 6 (va_A (wX h0 a1 a2 a3 a4 a5 h6 s0 s1 s2 s3 t1 t2 t3 t4 t5) sz) := by
  refine va_MetW (cc := cL_addOperation) (maxL := 7) (ret := (some .int)) (hh := [(0, 14, 17, 24), (0, 14, 21, 26), (0, 14, 25, 13), (0, 14, 29, 15)]) (by decide) rfl ?_
  intro p e s m args below meth c s₁ B hml hv
  obtain ⟨rfl, hsz, hP, hK, hD0, hG⟩ := hv
  have hx := B.exec
  have hb := B.bytes
  have hr := B.returns
  have hlocks := B.notSynchronized
  have hts := atoms_spec (ws := wsW ⟨"FoundrymarkLaw", "addOperation", "(LFoundrymark;IIII[J)I"⟩ cL_addOperation 7 (some .int) [(0, 14, 17, 24), (0, 14, 21, 26), (0, 14, 25, 13), (0, 14, 29, 15)]) B.pre
  have hta : ∀ w ∈ WA, w.before _ s = true := fun w h => hts w (List.mem_cons_of_mem _ h)
  have hown : s.vm.findClass "FoundrymarkLaw" = some m.cls := findClass_of_methodNamed B.named
  have htab := vx_table (x := ⟨"FoundrymarkLaw", "addOperation", "(LFoundrymark;IIII[J)I"⟩) B (hts _ List.mem_cons_self)
  subst hsz
  have hD : va_D (va_A (wX h0 a1 a2 a3 a4 a5 h6 s0 s1 s2 s3 t1 t2 t3 t4 t5) s.heap.size) (wX h0 a1 a2 a3 a4 a5 h6 s0 s1 s2 s3 t1 t2 t3 t4 t5) := hD0.self (sz := s.heap.size)
  generalize hAe : va_A (wX h0 a1 a2 a3 a4 a5 h6 s0 s1 s2 s3 t1 t2 t3 t4 t5) s.heap.size = A at hD hG ⊢
  have hA : ∀ q : Nat, s.heap.size ≤ q → A q := fun q h => by rw [← hAe]; exact Or.inr h
  have hS : va_S A s.heap s.heap [] := va_S.rf
  have hP : va_P D vwCl (wX h0 a1 a2 a3 a4 a5 h6 s0 s1 s2 s3 t1 t2 t3 t4 t5) s.heap := hP
  have hl := lv_entry ([.ref h0, .int x0, .int x1, .int x2, .int x3, .ref o]) (n := 7) (Nat.le_of_ble_eq_true rfl)
  rw [lg_entry_eq]
  generalize (lg_sl ([.ref h0, .int x0, .int x1, .int x2, .int x3, .ref o]) ++ List.replicate (7 - (lg_sl ([.ref h0, .int x0, .int x1, .int x2, .int x3, .ref o])).length) Slot.unset).toArray = ls at hl ⊢
  have hl : lv_has ls 7 [(0, .ref h0), (1, .int x0), (2, .int x1), (3, .int x2), (4, .int x3), (5, .ref o)] := hl
  refine lv_aload hx hb dL_addOperation_0 (lv_at hl 5 rfl) ?_
  refine lv_iconst (v := 0) hx hb dL_addOperation_2 (by decide) ?_
  refine lv_aload_n hx hb dL_addOperation_3 rfl (lv_at hl 0 rfl) ?_
  refine lv_iload_n hx hb dL_addOperation_4 rfl (lv_at hl 1 rfl) ?_
  refine lv_iload_n hx hb dL_addOperation_5 rfl (lv_at hl 2 rfl) ?_
  refine lv_iload_n hx hb dL_addOperation_6 rfl (lv_at hl 3 rfl) ?_
  refine lv_iload hx hb dL_addOperation_7 (lv_at hl 4 rfl) ?_
  have hPc := hP.sub (ws' := (wX h0 a1 a2 a3 a4 a5 h6 s0 s1 s2 s3 t1 t2 t3 t4 t5)) [0, 1, 2, 3, 4, 5, 6, 7, 8, 9, 10] rfl
  have hKc := hK.sub (tys' := (tX t1 t2 t3 t4 t5)) [0, 1, 2, 3, 4] rfl
  have hDc := hD.sub (ws' := (wX h0 a1 a2 a3 a4 a5 h6 s0 s1 s2 s3 t1 t2 t3 t4 t5)) [0, 1, 2, 3, 4, 5, 6, 7, 8, 9, 10] (by decide) rfl
  have hFc := va_free (wc := (wX h0 a1 a2 a3 a4 a5 h6 s0 s1 s2 s3 t1 t2 t3 t4 t5)) hD hS hA [0, 1, 2, 3, 4, 5, 6, 7, 8, 9, 10] rfl
  refine gX0 (isC := [0, 1, 2, 3, 4, 5, 6, 7, 8, 9, 10]) (isR := []) (wr := []) (vx_runV (As := [.int x0, .int x1, .int x2, .int x3]) (rest := [.int 0, .ref o]) ⟨hx, hb, hml, hown, hta⟩ (c_X10_addOperation l hl0) (cwV 4 hta (gWV mw272 mw273 mw274 mw10 mw271) rfl rfl rfl (by decide +kernel) ⟨Nat.le_of_ble_eq_true rfl, Nat.le_of_ble_eq_true rfl⟩) ⟨gS_blind, va_recv hKc hPc (ci := 15) (q0 := 0) rfl rfl, fun U hU hW => ⟨rfl, by rw [hU], by rw [hU]; exact hPc, va_K.moved hW.alike hKc, hDc.weaken (fun _ _ _ _ => trivial), hG.call hS hU hW hFc⟩⟩ rfl rfl hl.1 rfl (lv_room (Nat.le_of_ble_eq_true rfl)) dL_addOperation_9 ⟨Nat.le_of_ble_eq_true rfl, Nat.le_of_ble_eq_true rfl⟩) hP hD hS hFc rfl rfl (by decide) (by decide) (fun E9 ce q9 u2 H locs h3 hz9 hP hD hS hc9 hv9 hcl9 => ?_)
  obtain ⟨_, rfl⟩ := h3
  refine vx_catch (own := "FoundrymarkLaw") (name := "java/lang/IndexOutOfBoundsException") hown [] ⟨0, 14, 17, 24⟩ [⟨0, 14, 21, 26⟩, ⟨0, 14, 25, 13⟩, ⟨0, 14, 29, 15⟩] (by rw [htab]; rfl) (fun z hz => absurd hz List.not_mem_nil) (by decide) (by decide) (hta _ mw270) (va_Nw.use rfl (hG.C ("java/lang/IndexOutOfBoundsException", "java/lang/IndexOutOfBoundsException") (by decide))) hc9 hv9 hcl9 ?_
  refine W.eq (g2 := F0 m 17 ls [.ref q9]) rfl ?_
  refine lv_astore (lv' := [(6, .ref q9), (0, .ref h0), (1, .int x0), (2, .int x1), (3, .int x2), (4, .int x3), (5, .ref o)]) hx hb dL_addOperation_17 hl (by decide) rfl (fun ls hl => ?_)
  refine lv_iconst (v := 1) hx hb dL_addOperation_19 (by decide) ?_
  have hP9 := hP.sub (ws' := []) [] rfl
  have hD9 := hD.sub (ws' := []) [] (by decide) rfl
  have hK9 := hK.sub (tys' := []) [] rfl
  refine W.widen (k := 1) (n := 6) (Nat.le_of_ble_eq_true rfl) (Nat.le_of_ble_eq_true rfl) ?_
  exact W.iret (v := 1) hx hb hr (fun t ht hWm => ⟨⟨_, (), rfl, rfl, ⟨by rw [ht]; exact hP9, va_K.moved hWm.alike hK9, hD9⟩⟩, hS.F ht⟩) hS.2.2 dL_addOperation_20

set_option maxHeartbeats 4000000 in
set_option maxRecDepth 100000 in
theorem c_L_receive (l : Launch) (hl0 : l.stackTraces = false) {D : va_G} {tE sz : Nat} {h0 a1 a2 a3 a4 a5 h6 s0 s1 s2 s3 : Nat} {t1 t2 t3 t4 t5 : ClassId} {o : Nat} {x0 x1 x2 x3 x4 : Int32} : Met l ⟨"FoundrymarkLaw", "receive", "(LFoundrymark;IIIII[J)I"⟩ (wsW ⟨"FoundrymarkLaw", "receive", "(LFoundrymark;IIIII[J)I"⟩ cL_receive 8 (some .int) [(0, 16, 19, 24), (0, 16, 23, 26), (0, 16, 27, 13), (0, 16, 31, 15)]) ({ frames := 8, cells := 1, slots := 6, locals := 150 }) (va_Pc [.ref h0, .int x0, .int x1, .int x2, .int x3, .int x4, .ref o] (gS tE D (wX h0 a1 a2 a3 a4 a5 h6 s0 s1 s2 s3 t1 t2 t3 t4 t5) (tX t1 t2 t3 t4 t5) sz)) (va_Qi (fun (r : Int32) (_ : Unit) => r = 1) (gO D (fun _ => []) (fun _ => []) (va_A (wX h0 a1 a2 a3 a4 a5 h6 s0 s1 s2 s3 t1 t2 t3 t4 t5) sz)) (va_A (wX h0 a1 a2 a3 a4 a5 h6 s0 s1 s2 s3 t1 t2 t3 t4 t5) sz)) 1 6 (va_A (wX h0 a1 a2 a3 a4 a5 h6 s0 s1 s2 s3 t1 t2 t3 t4 t5) sz) := by
  refine va_MetW (cc := cL_receive) (maxL := 8) (ret := (some .int)) (hh := [(0, 16, 19, 24), (0, 16, 23, 26), (0, 16, 27, 13), (0, 16, 31, 15)]) (by decide) rfl ?_
  intro p e s m args below meth c s₁ B hml hv
  obtain ⟨rfl, hsz, hP, hK, hD0, hG⟩ := hv
  have hx := B.exec
  have hb := B.bytes
  have hr := B.returns
  have hlocks := B.notSynchronized
  have hts := atoms_spec (ws := wsW ⟨"FoundrymarkLaw", "receive", "(LFoundrymark;IIIII[J)I"⟩ cL_receive 8 (some .int) [(0, 16, 19, 24), (0, 16, 23, 26), (0, 16, 27, 13), (0, 16, 31, 15)]) B.pre
  have hta : ∀ w ∈ WA, w.before _ s = true := fun w h => hts w (List.mem_cons_of_mem _ h)
  have hown : s.vm.findClass "FoundrymarkLaw" = some m.cls := findClass_of_methodNamed B.named
  have htab := vx_table (x := ⟨"FoundrymarkLaw", "receive", "(LFoundrymark;IIIII[J)I"⟩) B (hts _ List.mem_cons_self)
  subst hsz
  have hD : va_D (va_A (wX h0 a1 a2 a3 a4 a5 h6 s0 s1 s2 s3 t1 t2 t3 t4 t5) s.heap.size) (wX h0 a1 a2 a3 a4 a5 h6 s0 s1 s2 s3 t1 t2 t3 t4 t5) := hD0.self (sz := s.heap.size)
  generalize hAe : va_A (wX h0 a1 a2 a3 a4 a5 h6 s0 s1 s2 s3 t1 t2 t3 t4 t5) s.heap.size = A at hD hG ⊢
  have hA : ∀ q : Nat, s.heap.size ≤ q → A q := fun q h => by rw [← hAe]; exact Or.inr h
  have hS : va_S A s.heap s.heap [] := va_S.rf
  have hP : va_P D vwCl (wX h0 a1 a2 a3 a4 a5 h6 s0 s1 s2 s3 t1 t2 t3 t4 t5) s.heap := hP
  have hl := lv_entry ([.ref h0, .int x0, .int x1, .int x2, .int x3, .int x4, .ref o]) (n := 8) (Nat.le_of_ble_eq_true rfl)
  rw [lg_entry_eq]
  generalize (lg_sl ([.ref h0, .int x0, .int x1, .int x2, .int x3, .int x4, .ref o]) ++ List.replicate (8 - (lg_sl ([.ref h0, .int x0, .int x1, .int x2, .int x3, .int x4, .ref o])).length) Slot.unset).toArray = ls at hl ⊢
  have hl : lv_has ls 8 [(0, .ref h0), (1, .int x0), (2, .int x1), (3, .int x2), (4, .int x3), (5, .int x4), (6, .ref o)] := hl
  refine lv_aload hx hb dL_receive_0 (lv_at hl 6 rfl) ?_
  refine lv_iconst (v := 0) hx hb dL_receive_2 (by decide) ?_
  refine lv_aload_n hx hb dL_receive_3 rfl (lv_at hl 0 rfl) ?_
  refine lv_iload_n hx hb dL_receive_4 rfl (lv_at hl 1 rfl) ?_
  refine lv_iload_n hx hb dL_receive_5 rfl (lv_at hl 2 rfl) ?_
  refine lv_iload_n hx hb dL_receive_6 rfl (lv_at hl 3 rfl) ?_
  refine lv_iload hx hb dL_receive_7 (lv_at hl 4 rfl) ?_
  refine lv_iload hx hb dL_receive_9 (lv_at hl 5 rfl) ?_
  have hPc := hP.sub (ws' := (wX h0 a1 a2 a3 a4 a5 h6 s0 s1 s2 s3 t1 t2 t3 t4 t5)) [0, 1, 2, 3, 4, 5, 6, 7, 8, 9, 10] rfl
  have hKc := hK.sub (tys' := (tX t1 t2 t3 t4 t5)) [0, 1, 2, 3, 4] rfl
  have hDc := hD.sub (ws' := (wX h0 a1 a2 a3 a4 a5 h6 s0 s1 s2 s3 t1 t2 t3 t4 t5)) [0, 1, 2, 3, 4, 5, 6, 7, 8, 9, 10] (by decide) rfl
  have hFc := va_free (wc := (wX h0 a1 a2 a3 a4 a5 h6 s0 s1 s2 s3 t1 t2 t3 t4 t5)) hD hS hA [0, 1, 2, 3, 4, 5, 6, 7, 8, 9, 10] rfl
  refine gX0 (isC := [0, 1, 2, 3, 4, 5, 6, 7, 8, 9, 10]) (isR := []) (wr := []) (vx_runV (As := [.int x0, .int x1, .int x2, .int x3, .int x4]) (rest := [.int 0, .ref o]) ⟨hx, hb, hml, hown, hta⟩ (c_X10_receive l hl0) (cwV 5 hta (gWV mw276 mw277 mw278 mw10 mw275) rfl rfl rfl (by decide +kernel) ⟨Nat.le_of_ble_eq_true rfl, Nat.le_of_ble_eq_true rfl⟩) ⟨gS_blind, va_recv hKc hPc (ci := 15) (q0 := 0) rfl rfl, fun U hU hW => ⟨rfl, by rw [hU], by rw [hU]; exact hPc, va_K.moved hW.alike hKc, hDc.weaken (fun _ _ _ _ => trivial), hG.call hS hU hW hFc⟩⟩ rfl rfl hl.1 rfl (lv_room (Nat.le_of_ble_eq_true rfl)) dL_receive_11 ⟨Nat.le_of_ble_eq_true rfl, Nat.le_of_ble_eq_true rfl⟩) hP hD hS hFc rfl rfl (by decide) (by decide) (fun E9 ce q9 u2 H locs h3 hz9 hP hD hS hc9 hv9 hcl9 => ?_)
  obtain ⟨_, rfl⟩ := h3
  refine vx_catch (own := "FoundrymarkLaw") (name := "java/lang/IndexOutOfBoundsException") hown [] ⟨0, 16, 19, 24⟩ [⟨0, 16, 23, 26⟩, ⟨0, 16, 27, 13⟩, ⟨0, 16, 31, 15⟩] (by rw [htab]; rfl) (fun z hz => absurd hz List.not_mem_nil) (by decide) (by decide) (hta _ mw270) (va_Nw.use rfl (hG.C ("java/lang/IndexOutOfBoundsException", "java/lang/IndexOutOfBoundsException") (by decide))) hc9 hv9 hcl9 ?_
  refine W.eq (g2 := F0 m 19 ls [.ref q9]) rfl ?_
  refine lv_astore (lv' := [(7, .ref q9), (0, .ref h0), (1, .int x0), (2, .int x1), (3, .int x2), (4, .int x3), (5, .int x4), (6, .ref o)]) hx hb dL_receive_19 hl (by decide) rfl (fun ls hl => ?_)
  refine lv_iconst (v := 1) hx hb dL_receive_21 (by decide) ?_
  have hP9 := hP.sub (ws' := []) [] rfl
  have hD9 := hD.sub (ws' := []) [] (by decide) rfl
  have hK9 := hK.sub (tys' := []) [] rfl
  refine W.widen (k := 1) (n := 6) (Nat.le_of_ble_eq_true rfl) (Nat.le_of_ble_eq_true rfl) ?_
  exact W.iret (v := 1) hx hb hr (fun t ht hWm => ⟨⟨_, (), rfl, rfl, ⟨by rw [ht]; exact hP9, va_K.moved hWm.alike hK9, hD9⟩⟩, hS.F ht⟩) hS.2.2 dL_receive_22

set_option maxHeartbeats 4000000 in
set_option maxRecDepth 100000 in
theorem c_L_hold (l : Launch) (hl0 : l.stackTraces = false) {D : va_G} {tE sz : Nat} {h0 a1 a2 a3 a4 a5 h6 s0 s1 s2 s3 : Nat} {t1 t2 t3 t4 t5 : ClassId} {o : Nat} {x0 x1 : Int32} : Met l ⟨"FoundrymarkLaw", "hold", "(LFoundrymark;IZ[J)I"⟩ (wsW ⟨"FoundrymarkLaw", "hold", "(LFoundrymark;IZ[J)I"⟩ cL_hold 5 (some .int) [(0, 10, 13, 24)]) ({ frames := 8, cells := 1, slots := 6, locals := 143 }) (va_Pc [.ref h0, .int x0, .int x1, .ref o] (gS tE D (wX h0 a1 a2 a3 a4 a5 h6 s0 s1 s2 s3 t1 t2 t3 t4 t5) (tX t1 t2 t3 t4 t5) sz)) (va_Qi (fun (r : Int32) (_ : Unit) => r = 1) (gO D (fun _ => []) (fun _ => []) (va_A (wX h0 a1 a2 a3 a4 a5 h6 s0 s1 s2 s3 t1 t2 t3 t4 t5) sz)) (va_A (wX h0 a1 a2 a3 a4 a5 h6 s0 s1 s2 s3 t1 t2 t3 t4 t5) sz)) 1 6 (va_A (wX h0 a1 a2 a3 a4 a5 h6 s0 s1 s2 s3 t1 t2 t3 t4 t5) sz) := by
  refine va_MetW (cc := cL_hold) (maxL := 5) (ret := (some .int)) (hh := [(0, 10, 13, 24)]) (by decide) rfl ?_
  intro p e s m args below meth c s₁ B hml hv
  obtain ⟨rfl, hsz, hP, hK, hD0, hG⟩ := hv
  have hx := B.exec
  have hb := B.bytes
  have hr := B.returns
  have hlocks := B.notSynchronized
  have hts := atoms_spec (ws := wsW ⟨"FoundrymarkLaw", "hold", "(LFoundrymark;IZ[J)I"⟩ cL_hold 5 (some .int) [(0, 10, 13, 24)]) B.pre
  have hta : ∀ w ∈ WA, w.before _ s = true := fun w h => hts w (List.mem_cons_of_mem _ h)
  have hown : s.vm.findClass "FoundrymarkLaw" = some m.cls := findClass_of_methodNamed B.named
  have htab := vx_table (x := ⟨"FoundrymarkLaw", "hold", "(LFoundrymark;IZ[J)I"⟩) B (hts _ List.mem_cons_self)
  subst hsz
  have hD : va_D (va_A (wX h0 a1 a2 a3 a4 a5 h6 s0 s1 s2 s3 t1 t2 t3 t4 t5) s.heap.size) (wX h0 a1 a2 a3 a4 a5 h6 s0 s1 s2 s3 t1 t2 t3 t4 t5) := hD0.self (sz := s.heap.size)
  generalize hAe : va_A (wX h0 a1 a2 a3 a4 a5 h6 s0 s1 s2 s3 t1 t2 t3 t4 t5) s.heap.size = A at hD hG ⊢
  have hA : ∀ q : Nat, s.heap.size ≤ q → A q := fun q h => by rw [← hAe]; exact Or.inr h
  have hS : va_S A s.heap s.heap [] := va_S.rf
  have hP : va_P D vwCl (wX h0 a1 a2 a3 a4 a5 h6 s0 s1 s2 s3 t1 t2 t3 t4 t5) s.heap := hP
  have hl := lv_entry ([.ref h0, .int x0, .int x1, .ref o]) (n := 5) (Nat.le_of_ble_eq_true rfl)
  rw [lg_entry_eq]
  generalize (lg_sl ([.ref h0, .int x0, .int x1, .ref o]) ++ List.replicate (5 - (lg_sl ([.ref h0, .int x0, .int x1, .ref o])).length) Slot.unset).toArray = ls at hl ⊢
  have hl : lv_has ls 5 [(0, .ref h0), (1, .int x0), (2, .int x1), (3, .ref o)] := hl
  refine lv_aload_n hx hb dL_hold_0 rfl (lv_at hl 3 rfl) ?_
  refine lv_iconst (v := 0) hx hb dL_hold_1 (by decide) ?_
  refine lv_aload_n hx hb dL_hold_2 rfl (lv_at hl 0 rfl) ?_
  refine lv_iload_n hx hb dL_hold_3 rfl (lv_at hl 1 rfl) ?_
  refine lv_iload_n hx hb dL_hold_4 rfl (lv_at hl 2 rfl) ?_
  have hPc := hP.sub (ws' := (wX h0 a1 a2 a3 a4 a5 h6 s0 s1 s2 s3 t1 t2 t3 t4 t5)) [0, 1, 2, 3, 4, 5, 6, 7, 8, 9, 10] rfl
  have hKc := hK.sub (tys' := (tX t1 t2 t3 t4 t5)) [0, 1, 2, 3, 4] rfl
  have hDc := hD.sub (ws' := (wX h0 a1 a2 a3 a4 a5 h6 s0 s1 s2 s3 t1 t2 t3 t4 t5)) [0, 1, 2, 3, 4, 5, 6, 7, 8, 9, 10] (by decide) rfl
  have hFc := va_free (wc := (wX h0 a1 a2 a3 a4 a5 h6 s0 s1 s2 s3 t1 t2 t3 t4 t5)) hD hS hA [0, 1, 2, 3, 4, 5, 6, 7, 8, 9, 10] rfl
  refine gX0 (isC := [0, 1, 2, 3, 4, 5, 6, 7, 8, 9, 10]) (isR := []) (wr := []) (vx_runV (As := [.int x0, .int x1]) (rest := [.int 0, .ref o]) ⟨hx, hb, hml, hown, hta⟩ (c_X10_hold l hl0) (cwV 2 hta (gWV mw280 mw281 mw282 mw10 mw279) rfl rfl rfl (by decide +kernel) ⟨Nat.le_of_ble_eq_true rfl, Nat.le_of_ble_eq_true rfl⟩) ⟨gS_blind, va_recv hKc hPc (ci := 15) (q0 := 0) rfl rfl, fun U hU hW => ⟨rfl, by rw [hU], by rw [hU]; exact hPc, va_K.moved hW.alike hKc, hDc.weaken (fun _ _ _ _ => trivial), hG.call hS hU hW hFc⟩⟩ rfl rfl hl.1 rfl (lv_room (Nat.le_of_ble_eq_true rfl)) dL_hold_5 ⟨Nat.le_of_ble_eq_true rfl, Nat.le_of_ble_eq_true rfl⟩) hP hD hS hFc rfl rfl (by decide) (by decide) (fun E9 ce q9 u2 H locs h3 hz9 hP hD hS hc9 hv9 hcl9 => ?_)
  obtain ⟨_, rfl⟩ := h3
  refine vx_catch (own := "FoundrymarkLaw") (name := "java/lang/IndexOutOfBoundsException") hown [] ⟨0, 10, 13, 24⟩ [] (by rw [htab]; rfl) (fun z hz => absurd hz List.not_mem_nil) (by decide) (by decide) (hta _ mw270) (va_Nw.use rfl (hG.C ("java/lang/IndexOutOfBoundsException", "java/lang/IndexOutOfBoundsException") (by decide))) hc9 hv9 hcl9 ?_
  refine W.eq (g2 := F0 m 13 ls [.ref q9]) rfl ?_
  refine lv_astore (lv' := [(4, .ref q9), (0, .ref h0), (1, .int x0), (2, .int x1), (3, .ref o)]) hx hb dL_hold_13 hl (by decide) rfl (fun ls hl => ?_)
  refine lv_iconst (v := 1) hx hb dL_hold_15 (by decide) ?_
  have hP9 := hP.sub (ws' := []) [] rfl
  have hD9 := hD.sub (ws' := []) [] (by decide) rfl
  have hK9 := hK.sub (tys' := []) [] rfl
  refine W.widen (k := 1) (n := 6) (Nat.le_of_ble_eq_true rfl) (Nat.le_of_ble_eq_true rfl) ?_
  exact W.iret (v := 1) hx hb hr (fun t ht hWm => ⟨⟨_, (), rfl, rfl, ⟨by rw [ht]; exact hP9, va_K.moved hWm.alike hK9, hD9⟩⟩, hS.F ht⟩) hS.2.2 dL_hold_16

set_option maxHeartbeats 4000000 in
set_option maxRecDepth 100000 in
theorem c_L_isHeld (l : Launch) (hl0 : l.stackTraces = false) {D : va_G} {tE sz : Nat} {h0 a1 a2 a3 a4 a5 h6 s0 s1 s2 s3 : Nat} {t1 t2 t3 t4 t5 : ClassId} {o : Nat} {x0 : Int32} : Met l ⟨"FoundrymarkLaw", "isHeld", "(LFoundrymark;I[J)I"⟩ (wsW ⟨"FoundrymarkLaw", "isHeld", "(LFoundrymark;I[J)I"⟩ cL_isHeld 4 (some .int) [(0, 16, 19, 24)]) ({ frames := 8, cells := 1, slots := 6, locals := 141 }) (va_Pc [.ref h0, .int x0, .ref o] (gS tE D (wX h0 a1 a2 a3 a4 a5 h6 s0 s1 s2 s3 t1 t2 t3 t4 t5) (tX t1 t2 t3 t4 t5) sz)) (va_Qi (fun (r : Int32) (_ : Unit) => r = 1) (gO D (fun _ => []) (fun _ => []) (va_A (wX h0 a1 a2 a3 a4 a5 h6 s0 s1 s2 s3 t1 t2 t3 t4 t5) sz)) (va_A (wX h0 a1 a2 a3 a4 a5 h6 s0 s1 s2 s3 t1 t2 t3 t4 t5) sz)) 1 6 (va_A (wX h0 a1 a2 a3 a4 a5 h6 s0 s1 s2 s3 t1 t2 t3 t4 t5) sz) := by
  refine va_MetW (cc := cL_isHeld) (maxL := 4) (ret := (some .int)) (hh := [(0, 16, 19, 24)]) (by decide) rfl ?_
  intro p e s m args below meth c s₁ B hml hv
  obtain ⟨rfl, hsz, hP, hK, hD0, hG⟩ := hv
  have hx := B.exec
  have hb := B.bytes
  have hr := B.returns
  have hlocks := B.notSynchronized
  have hts := atoms_spec (ws := wsW ⟨"FoundrymarkLaw", "isHeld", "(LFoundrymark;I[J)I"⟩ cL_isHeld 4 (some .int) [(0, 16, 19, 24)]) B.pre
  have hta : ∀ w ∈ WA, w.before _ s = true := fun w h => hts w (List.mem_cons_of_mem _ h)
  have hown : s.vm.findClass "FoundrymarkLaw" = some m.cls := findClass_of_methodNamed B.named
  have htab := vx_table (x := ⟨"FoundrymarkLaw", "isHeld", "(LFoundrymark;I[J)I"⟩) B (hts _ List.mem_cons_self)
  subst hsz
  have hD : va_D (va_A (wX h0 a1 a2 a3 a4 a5 h6 s0 s1 s2 s3 t1 t2 t3 t4 t5) s.heap.size) (wX h0 a1 a2 a3 a4 a5 h6 s0 s1 s2 s3 t1 t2 t3 t4 t5) := hD0.self (sz := s.heap.size)
  generalize hAe : va_A (wX h0 a1 a2 a3 a4 a5 h6 s0 s1 s2 s3 t1 t2 t3 t4 t5) s.heap.size = A at hD hG ⊢
  have hA : ∀ q : Nat, s.heap.size ≤ q → A q := fun q h => by rw [← hAe]; exact Or.inr h
  have hS : va_S A s.heap s.heap [] := va_S.rf
  have hP : va_P D vwCl (wX h0 a1 a2 a3 a4 a5 h6 s0 s1 s2 s3 t1 t2 t3 t4 t5) s.heap := hP
  have hl := lv_entry ([.ref h0, .int x0, .ref o]) (n := 4) (Nat.le_of_ble_eq_true rfl)
  rw [lg_entry_eq]
  generalize (lg_sl ([.ref h0, .int x0, .ref o]) ++ List.replicate (4 - (lg_sl ([.ref h0, .int x0, .ref o])).length) Slot.unset).toArray = ls at hl ⊢
  have hl : lv_has ls 4 [(0, .ref h0), (1, .int x0), (2, .ref o)] := hl
  refine lv_aload_n hx hb dL_isHeld_0 rfl (lv_at hl 2 rfl) ?_
  refine lv_iconst (v := 0) hx hb dL_isHeld_1 (by decide) ?_
  refine lv_aload_n hx hb dL_isHeld_2 rfl (lv_at hl 0 rfl) ?_
  refine lv_iload_n hx hb dL_isHeld_3 rfl (lv_at hl 1 rfl) ?_
  have hPc := hP.sub (ws' := (wX h0 a1 a2 a3 a4 a5 h6 s0 s1 s2 s3 t1 t2 t3 t4 t5)) [0, 1, 2, 3, 4, 5, 6, 7, 8, 9, 10] rfl
  have hKc := hK.sub (tys' := (tX t1 t2 t3 t4 t5)) [0, 1, 2, 3, 4] rfl
  have hDc := hD.sub (ws' := (wX h0 a1 a2 a3 a4 a5 h6 s0 s1 s2 s3 t1 t2 t3 t4 t5)) [0, 1, 2, 3, 4, 5, 6, 7, 8, 9, 10] (by decide) rfl
  have hFc := va_free (wc := (wX h0 a1 a2 a3 a4 a5 h6 s0 s1 s2 s3 t1 t2 t3 t4 t5)) hD hS hA [0, 1, 2, 3, 4, 5, 6, 7, 8, 9, 10] rfl
  refine gX0 (isC := [0, 1, 2, 3, 4, 5, 6, 7, 8, 9, 10]) (isR := []) (wr := []) (vx_runV (As := [.int x0]) (rest := [.int 0, .ref o]) ⟨hx, hb, hml, hown, hta⟩ (c_X10_isHeld l hl0) (cwV 1 hta (gWV mw284 mw285 mw286 mw10 mw283) rfl rfl rfl (by decide +kernel) ⟨Nat.le_of_ble_eq_true rfl, Nat.le_of_ble_eq_true rfl⟩) ⟨gS_blind, va_recv hKc hPc (ci := 15) (q0 := 0) rfl rfl, fun U hU hW => ⟨rfl, by rw [hU], by rw [hU]; exact hPc, va_K.moved hW.alike hKc, hDc.weaken (fun _ _ _ _ => trivial), hG.call hS hU hW hFc⟩⟩ rfl rfl hl.1 rfl (lv_room (Nat.le_of_ble_eq_true rfl)) dL_isHeld_4 ⟨Nat.le_of_ble_eq_true rfl, Nat.le_of_ble_eq_true rfl⟩) hP hD hS hFc rfl rfl (by decide) (by decide) (fun E9 ce q9 u2 H locs h3 hz9 hP hD hS hc9 hv9 hcl9 => ?_)
  obtain ⟨_, rfl⟩ := h3
  refine vx_catch (own := "FoundrymarkLaw") (name := "java/lang/IndexOutOfBoundsException") hown [] ⟨0, 16, 19, 24⟩ [] (by rw [htab]; rfl) (fun z hz => absurd hz List.not_mem_nil) (by decide) (by decide) (hta _ mw270) (va_Nw.use rfl (hG.C ("java/lang/IndexOutOfBoundsException", "java/lang/IndexOutOfBoundsException") (by decide))) hc9 hv9 hcl9 ?_
  refine W.eq (g2 := F0 m 19 ls [.ref q9]) rfl ?_
  refine lv_astore_n (lv' := [(3, .ref q9), (0, .ref h0), (1, .int x0), (2, .ref o)]) hx hb dL_isHeld_19 rfl hl (by decide) rfl (fun ls hl => ?_)
  refine lv_iconst (v := 1) hx hb dL_isHeld_20 (by decide) ?_
  have hP9 := hP.sub (ws' := []) [] rfl
  have hD9 := hD.sub (ws' := []) [] (by decide) rfl
  have hK9 := hK.sub (tys' := []) [] rfl
  refine W.widen (k := 1) (n := 6) (Nat.le_of_ble_eq_true rfl) (Nat.le_of_ble_eq_true rfl) ?_
  exact W.iret (v := 1) hx hb hr (fun t ht hWm => ⟨⟨_, (), rfl, rfl, ⟨by rw [ht]; exact hP9, va_K.moved hWm.alike hK9, hD9⟩⟩, hS.F ht⟩) hS.2.2 dL_isHeld_21

set_option maxHeartbeats 4000000 in
set_option maxRecDepth 100000 in
theorem c_L_setChart (l : Launch) (hl0 : l.stackTraces = false) {D : va_G} {tE sz : Nat} {h0 a1 a2 a3 a4 a5 h6 s0 s1 s2 s3 : Nat} {t1 t2 t3 t4 t5 : ClassId} {o : Nat} {x0 x1 x2 : Int32} : Met l ⟨"FoundrymarkLaw", "setChart", "(LFoundrymark;III[J)I"⟩ (wsW ⟨"FoundrymarkLaw", "setChart", "(LFoundrymark;III[J)I"⟩ cL_setChart 6 (some .int) [(0, 12, 15, 24), (0, 12, 19, 13)]) ({ frames := 8, cells := 1, slots := 6, locals := 144 }) (va_Pc [.ref h0, .int x0, .int x1, .int x2, .ref o] (gS tE D (wX h0 a1 a2 a3 a4 a5 h6 s0 s1 s2 s3 t1 t2 t3 t4 t5) (tX t1 t2 t3 t4 t5) sz)) (va_Qi (fun (r : Int32) (_ : Unit) => r = 1) (gO D (fun _ => []) (fun _ => []) (va_A (wX h0 a1 a2 a3 a4 a5 h6 s0 s1 s2 s3 t1 t2 t3 t4 t5) sz)) (va_A (wX h0 a1 a2 a3 a4 a5 h6 s0 s1 s2 s3 t1 t2 t3 t4 t5) sz)) 1 6 (va_A (wX h0 a1 a2 a3 a4 a5 h6 s0 s1 s2 s3 t1 t2 t3 t4 t5) sz) := by
  refine va_MetW (cc := cL_setChart) (maxL := 6) (ret := (some .int)) (hh := [(0, 12, 15, 24), (0, 12, 19, 13)]) (by decide) rfl ?_
  intro p e s m args below meth c s₁ B hml hv
  obtain ⟨rfl, hsz, hP, hK, hD0, hG⟩ := hv
  have hx := B.exec
  have hb := B.bytes
  have hr := B.returns
  have hlocks := B.notSynchronized
  have hts := atoms_spec (ws := wsW ⟨"FoundrymarkLaw", "setChart", "(LFoundrymark;III[J)I"⟩ cL_setChart 6 (some .int) [(0, 12, 15, 24), (0, 12, 19, 13)]) B.pre
  have hta : ∀ w ∈ WA, w.before _ s = true := fun w h => hts w (List.mem_cons_of_mem _ h)
  have hown : s.vm.findClass "FoundrymarkLaw" = some m.cls := findClass_of_methodNamed B.named
  have htab := vx_table (x := ⟨"FoundrymarkLaw", "setChart", "(LFoundrymark;III[J)I"⟩) B (hts _ List.mem_cons_self)
  subst hsz
  have hD : va_D (va_A (wX h0 a1 a2 a3 a4 a5 h6 s0 s1 s2 s3 t1 t2 t3 t4 t5) s.heap.size) (wX h0 a1 a2 a3 a4 a5 h6 s0 s1 s2 s3 t1 t2 t3 t4 t5) := hD0.self (sz := s.heap.size)
  generalize hAe : va_A (wX h0 a1 a2 a3 a4 a5 h6 s0 s1 s2 s3 t1 t2 t3 t4 t5) s.heap.size = A at hD hG ⊢
  have hA : ∀ q : Nat, s.heap.size ≤ q → A q := fun q h => by rw [← hAe]; exact Or.inr h
  have hS : va_S A s.heap s.heap [] := va_S.rf
  have hP : va_P D vwCl (wX h0 a1 a2 a3 a4 a5 h6 s0 s1 s2 s3 t1 t2 t3 t4 t5) s.heap := hP
  have hl := lv_entry ([.ref h0, .int x0, .int x1, .int x2, .ref o]) (n := 6) (Nat.le_of_ble_eq_true rfl)
  rw [lg_entry_eq]
  generalize (lg_sl ([.ref h0, .int x0, .int x1, .int x2, .ref o]) ++ List.replicate (6 - (lg_sl ([.ref h0, .int x0, .int x1, .int x2, .ref o])).length) Slot.unset).toArray = ls at hl ⊢
  have hl : lv_has ls 6 [(0, .ref h0), (1, .int x0), (2, .int x1), (3, .int x2), (4, .ref o)] := hl
  refine lv_aload hx hb dL_setChart_0 (lv_at hl 4 rfl) ?_
  refine lv_iconst (v := 0) hx hb dL_setChart_2 (by decide) ?_
  refine lv_aload_n hx hb dL_setChart_3 rfl (lv_at hl 0 rfl) ?_
  refine lv_iload_n hx hb dL_setChart_4 rfl (lv_at hl 1 rfl) ?_
  refine lv_iload_n hx hb dL_setChart_5 rfl (lv_at hl 2 rfl) ?_
  refine lv_iload_n hx hb dL_setChart_6 rfl (lv_at hl 3 rfl) ?_
  have hPc := hP.sub (ws' := (wX h0 a1 a2 a3 a4 a5 h6 s0 s1 s2 s3 t1 t2 t3 t4 t5)) [0, 1, 2, 3, 4, 5, 6, 7, 8, 9, 10] rfl
  have hKc := hK.sub (tys' := (tX t1 t2 t3 t4 t5)) [0, 1, 2, 3, 4] rfl
  have hDc := hD.sub (ws' := (wX h0 a1 a2 a3 a4 a5 h6 s0 s1 s2 s3 t1 t2 t3 t4 t5)) [0, 1, 2, 3, 4, 5, 6, 7, 8, 9, 10] (by decide) rfl
  have hFc := va_free (wc := (wX h0 a1 a2 a3 a4 a5 h6 s0 s1 s2 s3 t1 t2 t3 t4 t5)) hD hS hA [0, 1, 2, 3, 4, 5, 6, 7, 8, 9, 10] rfl
  refine gX0 (isC := [0, 1, 2, 3, 4, 5, 6, 7, 8, 9, 10]) (isR := []) (wr := []) (vx_runV (As := [.int x0, .int x1, .int x2]) (rest := [.int 0, .ref o]) ⟨hx, hb, hml, hown, hta⟩ (c_X10_setChart l hl0) (cwV 3 hta (gWV mw288 mw289 mw290 mw10 mw287) rfl rfl rfl (by decide +kernel) ⟨Nat.le_of_ble_eq_true rfl, Nat.le_of_ble_eq_true rfl⟩) ⟨gS_blind, va_recv hKc hPc (ci := 15) (q0 := 0) rfl rfl, fun U hU hW => ⟨rfl, by rw [hU], by rw [hU]; exact hPc, va_K.moved hW.alike hKc, hDc.weaken (fun _ _ _ _ => trivial), hG.call hS hU hW hFc⟩⟩ rfl rfl hl.1 rfl (lv_room (Nat.le_of_ble_eq_true rfl)) dL_setChart_7 ⟨Nat.le_of_ble_eq_true rfl, Nat.le_of_ble_eq_true rfl⟩) hP hD hS hFc rfl rfl (by decide) (by decide) (fun E9 ce q9 u2 H locs h3 hz9 hP hD hS hc9 hv9 hcl9 => ?_)
  obtain ⟨_, rfl⟩ := h3
  refine vx_catch (own := "FoundrymarkLaw") (name := "java/lang/IndexOutOfBoundsException") hown [] ⟨0, 12, 15, 24⟩ [⟨0, 12, 19, 13⟩] (by rw [htab]; rfl) (fun z hz => absurd hz List.not_mem_nil) (by decide) (by decide) (hta _ mw270) (va_Nw.use rfl (hG.C ("java/lang/IndexOutOfBoundsException", "java/lang/IndexOutOfBoundsException") (by decide))) hc9 hv9 hcl9 ?_
  refine W.eq (g2 := F0 m 15 ls [.ref q9]) rfl ?_
  refine lv_astore (lv' := [(5, .ref q9), (0, .ref h0), (1, .int x0), (2, .int x1), (3, .int x2), (4, .ref o)]) hx hb dL_setChart_15 hl (by decide) rfl (fun ls hl => ?_)
  refine lv_iconst (v := 1) hx hb dL_setChart_17 (by decide) ?_
  have hP9 := hP.sub (ws' := []) [] rfl
  have hD9 := hD.sub (ws' := []) [] (by decide) rfl
  have hK9 := hK.sub (tys' := []) [] rfl
  refine W.widen (k := 1) (n := 6) (Nat.le_of_ble_eq_true rfl) (Nat.le_of_ble_eq_true rfl) ?_
  exact W.iret (v := 1) hx hb hr (fun t ht hWm => ⟨⟨_, (), rfl, rfl, ⟨by rw [ht]; exact hP9, va_K.moved hWm.alike hK9, hD9⟩⟩, hS.F ht⟩) hS.2.2 dL_setChart_18

set_option maxHeartbeats 4000000 in
set_option maxRecDepth 100000 in
theorem c_L_measure (l : Launch) (hl0 : l.stackTraces = false) {D : va_G} {tE sz : Nat} {h0 a1 a2 a3 a4 a5 h6 s0 s1 s2 s3 : Nat} {t1 t2 t3 t4 t5 : ClassId} {o : Nat} {x0 x1 : Int32} : Met l ⟨"FoundrymarkLaw", "measure", "(LFoundrymark;II[J)I"⟩ (wsW ⟨"FoundrymarkLaw", "measure", "(LFoundrymark;II[J)I"⟩ cL_measure 5 (some .int) [(0, 17, 20, 24), (0, 17, 24, 13)]) ({ frames := 8, cells := 1, slots := 6, locals := 144 }) (va_Pc [.ref h0, .int x0, .int x1, .ref o] (gS tE D (wX h0 a1 a2 a3 a4 a5 h6 s0 s1 s2 s3 t1 t2 t3 t4 t5) (tX t1 t2 t3 t4 t5) sz)) (va_Qi (fun (r : Int32) (_ : Unit) => r = 1) (gO D (fun _ => []) (fun _ => []) (va_A (wX h0 a1 a2 a3 a4 a5 h6 s0 s1 s2 s3 t1 t2 t3 t4 t5) sz)) (va_A (wX h0 a1 a2 a3 a4 a5 h6 s0 s1 s2 s3 t1 t2 t3 t4 t5) sz)) 1 6 (va_A (wX h0 a1 a2 a3 a4 a5 h6 s0 s1 s2 s3 t1 t2 t3 t4 t5) sz) := by
  refine va_MetW (cc := cL_measure) (maxL := 5) (ret := (some .int)) (hh := [(0, 17, 20, 24), (0, 17, 24, 13)]) (by decide) rfl ?_
  intro p e s m args below meth c s₁ B hml hv
  obtain ⟨rfl, hsz, hP, hK, hD0, hG⟩ := hv
  have hx := B.exec
  have hb := B.bytes
  have hr := B.returns
  have hlocks := B.notSynchronized
  have hts := atoms_spec (ws := wsW ⟨"FoundrymarkLaw", "measure", "(LFoundrymark;II[J)I"⟩ cL_measure 5 (some .int) [(0, 17, 20, 24), (0, 17, 24, 13)]) B.pre
  have hta : ∀ w ∈ WA, w.before _ s = true := fun w h => hts w (List.mem_cons_of_mem _ h)
  have hown : s.vm.findClass "FoundrymarkLaw" = some m.cls := findClass_of_methodNamed B.named
  have htab := vx_table (x := ⟨"FoundrymarkLaw", "measure", "(LFoundrymark;II[J)I"⟩) B (hts _ List.mem_cons_self)
  subst hsz
  have hD : va_D (va_A (wX h0 a1 a2 a3 a4 a5 h6 s0 s1 s2 s3 t1 t2 t3 t4 t5) s.heap.size) (wX h0 a1 a2 a3 a4 a5 h6 s0 s1 s2 s3 t1 t2 t3 t4 t5) := hD0.self (sz := s.heap.size)
  generalize hAe : va_A (wX h0 a1 a2 a3 a4 a5 h6 s0 s1 s2 s3 t1 t2 t3 t4 t5) s.heap.size = A at hD hG ⊢
  have hA : ∀ q : Nat, s.heap.size ≤ q → A q := fun q h => by rw [← hAe]; exact Or.inr h
  have hS : va_S A s.heap s.heap [] := va_S.rf
  have hP : va_P D vwCl (wX h0 a1 a2 a3 a4 a5 h6 s0 s1 s2 s3 t1 t2 t3 t4 t5) s.heap := hP
  have hl := lv_entry ([.ref h0, .int x0, .int x1, .ref o]) (n := 5) (Nat.le_of_ble_eq_true rfl)
  rw [lg_entry_eq]
  generalize (lg_sl ([.ref h0, .int x0, .int x1, .ref o]) ++ List.replicate (5 - (lg_sl ([.ref h0, .int x0, .int x1, .ref o])).length) Slot.unset).toArray = ls at hl ⊢
  have hl : lv_has ls 5 [(0, .ref h0), (1, .int x0), (2, .int x1), (3, .ref o)] := hl
  refine lv_aload_n hx hb dL_measure_0 rfl (lv_at hl 3 rfl) ?_
  refine lv_iconst (v := 0) hx hb dL_measure_1 (by decide) ?_
  refine lv_aload_n hx hb dL_measure_2 rfl (lv_at hl 0 rfl) ?_
  refine lv_iload_n hx hb dL_measure_3 rfl (lv_at hl 1 rfl) ?_
  refine lv_iload_n hx hb dL_measure_4 rfl (lv_at hl 2 rfl) ?_
  have hPc := hP.sub (ws' := (wX h0 a1 a2 a3 a4 a5 h6 s0 s1 s2 s3 t1 t2 t3 t4 t5)) [0, 1, 2, 3, 4, 5, 6, 7, 8, 9, 10] rfl
  have hKc := hK.sub (tys' := (tX t1 t2 t3 t4 t5)) [0, 1, 2, 3, 4] rfl
  have hDc := hD.sub (ws' := (wX h0 a1 a2 a3 a4 a5 h6 s0 s1 s2 s3 t1 t2 t3 t4 t5)) [0, 1, 2, 3, 4, 5, 6, 7, 8, 9, 10] (by decide) rfl
  have hFc := va_free (wc := (wX h0 a1 a2 a3 a4 a5 h6 s0 s1 s2 s3 t1 t2 t3 t4 t5)) hD hS hA [0, 1, 2, 3, 4, 5, 6, 7, 8, 9, 10] rfl
  refine gX0 (isC := [0, 1, 2, 3, 4, 5, 6, 7, 8, 9, 10]) (isR := []) (wr := []) (vx_runV (As := [.int x0, .int x1]) (rest := [.int 0, .ref o]) ⟨hx, hb, hml, hown, hta⟩ (c_X10_measure l hl0) (cwV 2 hta (gWV mw292 mw293 mw294 mw10 mw291) rfl rfl rfl (by decide +kernel) ⟨Nat.le_of_ble_eq_true rfl, Nat.le_of_ble_eq_true rfl⟩) ⟨gS_blind, va_recv hKc hPc (ci := 15) (q0 := 0) rfl rfl, fun U hU hW => ⟨rfl, by rw [hU], by rw [hU]; exact hPc, va_K.moved hW.alike hKc, hDc.weaken (fun _ _ _ _ => trivial), hG.call hS hU hW hFc⟩⟩ rfl rfl hl.1 rfl (lv_room (Nat.le_of_ble_eq_true rfl)) dL_measure_5 ⟨Nat.le_of_ble_eq_true rfl, Nat.le_of_ble_eq_true rfl⟩) hP hD hS hFc rfl rfl (by decide) (by decide) (fun E9 ce q9 u2 H locs h3 hz9 hP hD hS hc9 hv9 hcl9 => ?_)
  obtain ⟨_, rfl⟩ := h3
  refine vx_catch (own := "FoundrymarkLaw") (name := "java/lang/IndexOutOfBoundsException") hown [] ⟨0, 17, 20, 24⟩ [⟨0, 17, 24, 13⟩] (by rw [htab]; rfl) (fun z hz => absurd hz List.not_mem_nil) (by decide) (by decide) (hta _ mw270) (va_Nw.use rfl (hG.C ("java/lang/IndexOutOfBoundsException", "java/lang/IndexOutOfBoundsException") (by decide))) hc9 hv9 hcl9 ?_
  refine W.eq (g2 := F0 m 20 ls [.ref q9]) rfl ?_
  refine lv_astore (lv' := [(4, .ref q9), (0, .ref h0), (1, .int x0), (2, .int x1), (3, .ref o)]) hx hb dL_measure_20 hl (by decide) rfl (fun ls hl => ?_)
  refine lv_iconst (v := 1) hx hb dL_measure_22 (by decide) ?_
  have hP9 := hP.sub (ws' := []) [] rfl
  have hD9 := hD.sub (ws' := []) [] (by decide) rfl
  have hK9 := hK.sub (tys' := []) [] rfl
  refine W.widen (k := 1) (n := 6) (Nat.le_of_ble_eq_true rfl) (Nat.le_of_ble_eq_true rfl) ?_
  exact W.iret (v := 1) hx hb hr (fun t ht hWm => ⟨⟨_, (), rfl, rfl, ⟨by rw [ht]; exact hP9, va_K.moved hWm.alike hK9, hD9⟩⟩, hS.F ht⟩) hS.2.2 dL_measure_23

set_option maxHeartbeats 4000000 in
set_option maxRecDepth 100000 in
theorem c_L_partOf (l : Launch) (hl0 : l.stackTraces = false) {D : va_G} {tE sz : Nat} {h0 a1 a2 a3 a4 a5 h6 s0 s1 s2 s3 : Nat} {t1 t2 t3 t4 t5 : ClassId} {o : Nat} {x0 : Int32} : Met l ⟨"FoundrymarkLaw", "partOf", "(LFoundrymark;I[J)I"⟩ (wsW ⟨"FoundrymarkLaw", "partOf", "(LFoundrymark;I[J)I"⟩ cL_partOf 4 (some .int) [(0, 9, 12, 24)]) ({ frames := 8, cells := 1, slots := 6, locals := 141 }) (va_Pc [.ref h0, .int x0, .ref o] (gS tE D (wX h0 a1 a2 a3 a4 a5 h6 s0 s1 s2 s3 t1 t2 t3 t4 t5) (tX t1 t2 t3 t4 t5) sz)) (va_Qi (fun (r : Int32) (_ : Unit) => r = 1) (gO D (fun _ => []) (fun _ => []) (va_A (wX h0 a1 a2 a3 a4 a5 h6 s0 s1 s2 s3 t1 t2 t3 t4 t5) sz)) (va_A (wX h0 a1 a2 a3 a4 a5 h6 s0 s1 s2 s3 t1 t2 t3 t4 t5) sz)) 1 6 (va_A (wX h0 a1 a2 a3 a4 a5 h6 s0 s1 s2 s3 t1 t2 t3 t4 t5) sz) := by
  refine va_MetW (cc := cL_partOf) (maxL := 4) (ret := (some .int)) (hh := [(0, 9, 12, 24)]) (by decide) rfl ?_
  intro p e s m args below meth c s₁ B hml hv
  obtain ⟨rfl, hsz, hP, hK, hD0, hG⟩ := hv
  have hx := B.exec
  have hb := B.bytes
  have hr := B.returns
  have hlocks := B.notSynchronized
  have hts := atoms_spec (ws := wsW ⟨"FoundrymarkLaw", "partOf", "(LFoundrymark;I[J)I"⟩ cL_partOf 4 (some .int) [(0, 9, 12, 24)]) B.pre
  have hta : ∀ w ∈ WA, w.before _ s = true := fun w h => hts w (List.mem_cons_of_mem _ h)
  have hown : s.vm.findClass "FoundrymarkLaw" = some m.cls := findClass_of_methodNamed B.named
  have htab := vx_table (x := ⟨"FoundrymarkLaw", "partOf", "(LFoundrymark;I[J)I"⟩) B (hts _ List.mem_cons_self)
  subst hsz
  have hD : va_D (va_A (wX h0 a1 a2 a3 a4 a5 h6 s0 s1 s2 s3 t1 t2 t3 t4 t5) s.heap.size) (wX h0 a1 a2 a3 a4 a5 h6 s0 s1 s2 s3 t1 t2 t3 t4 t5) := hD0.self (sz := s.heap.size)
  generalize hAe : va_A (wX h0 a1 a2 a3 a4 a5 h6 s0 s1 s2 s3 t1 t2 t3 t4 t5) s.heap.size = A at hD hG ⊢
  have hA : ∀ q : Nat, s.heap.size ≤ q → A q := fun q h => by rw [← hAe]; exact Or.inr h
  have hS : va_S A s.heap s.heap [] := va_S.rf
  have hP : va_P D vwCl (wX h0 a1 a2 a3 a4 a5 h6 s0 s1 s2 s3 t1 t2 t3 t4 t5) s.heap := hP
  have hl := lv_entry ([.ref h0, .int x0, .ref o]) (n := 4) (Nat.le_of_ble_eq_true rfl)
  rw [lg_entry_eq]
  generalize (lg_sl ([.ref h0, .int x0, .ref o]) ++ List.replicate (4 - (lg_sl ([.ref h0, .int x0, .ref o])).length) Slot.unset).toArray = ls at hl ⊢
  have hl : lv_has ls 4 [(0, .ref h0), (1, .int x0), (2, .ref o)] := hl
  refine lv_aload_n hx hb dL_partOf_0 rfl (lv_at hl 2 rfl) ?_
  refine lv_iconst (v := 0) hx hb dL_partOf_1 (by decide) ?_
  refine lv_aload_n hx hb dL_partOf_2 rfl (lv_at hl 0 rfl) ?_
  refine lv_iload_n hx hb dL_partOf_3 rfl (lv_at hl 1 rfl) ?_
  have hPc := hP.sub (ws' := (wX h0 a1 a2 a3 a4 a5 h6 s0 s1 s2 s3 t1 t2 t3 t4 t5)) [0, 1, 2, 3, 4, 5, 6, 7, 8, 9, 10] rfl
  have hKc := hK.sub (tys' := (tX t1 t2 t3 t4 t5)) [0, 1, 2, 3, 4] rfl
  have hDc := hD.sub (ws' := (wX h0 a1 a2 a3 a4 a5 h6 s0 s1 s2 s3 t1 t2 t3 t4 t5)) [0, 1, 2, 3, 4, 5, 6, 7, 8, 9, 10] (by decide) rfl
  have hFc := va_free (wc := (wX h0 a1 a2 a3 a4 a5 h6 s0 s1 s2 s3 t1 t2 t3 t4 t5)) hD hS hA [0, 1, 2, 3, 4, 5, 6, 7, 8, 9, 10] rfl
  refine gX0 (isC := [0, 1, 2, 3, 4, 5, 6, 7, 8, 9, 10]) (isR := []) (wr := []) (vx_runV (As := [.int x0]) (rest := [.int 0, .ref o]) ⟨hx, hb, hml, hown, hta⟩ (c_X10_partOf l hl0) (cwV 1 hta (gWV mw296 mw297 mw298 mw10 mw295) rfl rfl rfl (by decide +kernel) ⟨Nat.le_of_ble_eq_true rfl, Nat.le_of_ble_eq_true rfl⟩) ⟨gS_blind, va_recv hKc hPc (ci := 15) (q0 := 0) rfl rfl, fun U hU hW => ⟨rfl, by rw [hU], by rw [hU]; exact hPc, va_K.moved hW.alike hKc, hDc.weaken (fun _ _ _ _ => trivial), hG.call hS hU hW hFc⟩⟩ rfl rfl hl.1 rfl (lv_room (Nat.le_of_ble_eq_true rfl)) dL_partOf_4 ⟨Nat.le_of_ble_eq_true rfl, Nat.le_of_ble_eq_true rfl⟩) hP hD hS hFc rfl rfl (by decide) (by decide) (fun E9 ce q9 u2 H locs h3 hz9 hP hD hS hc9 hv9 hcl9 => ?_)
  obtain ⟨_, rfl⟩ := h3
  refine vx_catch (own := "FoundrymarkLaw") (name := "java/lang/IndexOutOfBoundsException") hown [] ⟨0, 9, 12, 24⟩ [] (by rw [htab]; rfl) (fun z hz => absurd hz List.not_mem_nil) (by decide) (by decide) (hta _ mw270) (va_Nw.use rfl (hG.C ("java/lang/IndexOutOfBoundsException", "java/lang/IndexOutOfBoundsException") (by decide))) hc9 hv9 hcl9 ?_
  refine W.eq (g2 := F0 m 12 ls [.ref q9]) rfl ?_
  refine lv_astore_n (lv' := [(3, .ref q9), (0, .ref h0), (1, .int x0), (2, .ref o)]) hx hb dL_partOf_12 rfl hl (by decide) rfl (fun ls hl => ?_)
  refine lv_iconst (v := 1) hx hb dL_partOf_13 (by decide) ?_
  have hP9 := hP.sub (ws' := []) [] rfl
  have hD9 := hD.sub (ws' := []) [] (by decide) rfl
  have hK9 := hK.sub (tys' := []) [] rfl
  refine W.widen (k := 1) (n := 6) (Nat.le_of_ble_eq_true rfl) (Nat.le_of_ble_eq_true rfl) ?_
  exact W.iret (v := 1) hx hb hr (fun t ht hWm => ⟨⟨_, (), rfl, rfl, ⟨by rw [ht]; exact hP9, va_K.moved hWm.alike hK9, hD9⟩⟩, hS.F ht⟩) hS.2.2 dL_partOf_14

set_option maxHeartbeats 4000000 in
set_option maxRecDepth 100000 in
theorem c_L_rest (l : Launch) (hl0 : l.stackTraces = false) {D : va_G} {tE sz : Nat} {h0 a1 a2 a3 a4 a5 h6 s0 s1 s2 s3 : Nat} {t1 t2 t3 t4 t5 : ClassId} {o : Nat} {x0 : Int32} : Met l ⟨"FoundrymarkLaw", "rest", "(LFoundrymark;I[J)I"⟩ (wsW ⟨"FoundrymarkLaw", "rest", "(LFoundrymark;I[J)I"⟩ cL_rest 4 (some .int) [(0, 9, 12, 24)]) ({ frames := 8, cells := 1, slots := 6, locals := 141 }) (va_Pc [.ref h0, .int x0, .ref o] (gS tE D (wX h0 a1 a2 a3 a4 a5 h6 s0 s1 s2 s3 t1 t2 t3 t4 t5) (tX t1 t2 t3 t4 t5) sz)) (va_Qi (fun (r : Int32) (_ : Unit) => r = 1) (gO D (fun _ => []) (fun _ => []) (va_A (wX h0 a1 a2 a3 a4 a5 h6 s0 s1 s2 s3 t1 t2 t3 t4 t5) sz)) (va_A (wX h0 a1 a2 a3 a4 a5 h6 s0 s1 s2 s3 t1 t2 t3 t4 t5) sz)) 1 6 (va_A (wX h0 a1 a2 a3 a4 a5 h6 s0 s1 s2 s3 t1 t2 t3 t4 t5) sz) := by
  refine va_MetW (cc := cL_rest) (maxL := 4) (ret := (some .int)) (hh := [(0, 9, 12, 24)]) (by decide) rfl ?_
  intro p e s m args below meth c s₁ B hml hv
  obtain ⟨rfl, hsz, hP, hK, hD0, hG⟩ := hv
  have hx := B.exec
  have hb := B.bytes
  have hr := B.returns
  have hlocks := B.notSynchronized
  have hts := atoms_spec (ws := wsW ⟨"FoundrymarkLaw", "rest", "(LFoundrymark;I[J)I"⟩ cL_rest 4 (some .int) [(0, 9, 12, 24)]) B.pre
  have hta : ∀ w ∈ WA, w.before _ s = true := fun w h => hts w (List.mem_cons_of_mem _ h)
  have hown : s.vm.findClass "FoundrymarkLaw" = some m.cls := findClass_of_methodNamed B.named
  have htab := vx_table (x := ⟨"FoundrymarkLaw", "rest", "(LFoundrymark;I[J)I"⟩) B (hts _ List.mem_cons_self)
  subst hsz
  have hD : va_D (va_A (wX h0 a1 a2 a3 a4 a5 h6 s0 s1 s2 s3 t1 t2 t3 t4 t5) s.heap.size) (wX h0 a1 a2 a3 a4 a5 h6 s0 s1 s2 s3 t1 t2 t3 t4 t5) := hD0.self (sz := s.heap.size)
  generalize hAe : va_A (wX h0 a1 a2 a3 a4 a5 h6 s0 s1 s2 s3 t1 t2 t3 t4 t5) s.heap.size = A at hD hG ⊢
  have hA : ∀ q : Nat, s.heap.size ≤ q → A q := fun q h => by rw [← hAe]; exact Or.inr h
  have hS : va_S A s.heap s.heap [] := va_S.rf
  have hP : va_P D vwCl (wX h0 a1 a2 a3 a4 a5 h6 s0 s1 s2 s3 t1 t2 t3 t4 t5) s.heap := hP
  have hl := lv_entry ([.ref h0, .int x0, .ref o]) (n := 4) (Nat.le_of_ble_eq_true rfl)
  rw [lg_entry_eq]
  generalize (lg_sl ([.ref h0, .int x0, .ref o]) ++ List.replicate (4 - (lg_sl ([.ref h0, .int x0, .ref o])).length) Slot.unset).toArray = ls at hl ⊢
  have hl : lv_has ls 4 [(0, .ref h0), (1, .int x0), (2, .ref o)] := hl
  refine lv_aload_n hx hb dL_rest_0 rfl (lv_at hl 2 rfl) ?_
  refine lv_iconst (v := 0) hx hb dL_rest_1 (by decide) ?_
  refine lv_aload_n hx hb dL_rest_2 rfl (lv_at hl 0 rfl) ?_
  refine lv_iload_n hx hb dL_rest_3 rfl (lv_at hl 1 rfl) ?_
  have hPc := hP.sub (ws' := (wX h0 a1 a2 a3 a4 a5 h6 s0 s1 s2 s3 t1 t2 t3 t4 t5)) [0, 1, 2, 3, 4, 5, 6, 7, 8, 9, 10] rfl
  have hKc := hK.sub (tys' := (tX t1 t2 t3 t4 t5)) [0, 1, 2, 3, 4] rfl
  have hDc := hD.sub (ws' := (wX h0 a1 a2 a3 a4 a5 h6 s0 s1 s2 s3 t1 t2 t3 t4 t5)) [0, 1, 2, 3, 4, 5, 6, 7, 8, 9, 10] (by decide) rfl
  have hFc := va_free (wc := (wX h0 a1 a2 a3 a4 a5 h6 s0 s1 s2 s3 t1 t2 t3 t4 t5)) hD hS hA [0, 1, 2, 3, 4, 5, 6, 7, 8, 9, 10] rfl
  refine gX0 (isC := [0, 1, 2, 3, 4, 5, 6, 7, 8, 9, 10]) (isR := []) (wr := []) (vx_runV (As := [.int x0]) (rest := [.int 0, .ref o]) ⟨hx, hb, hml, hown, hta⟩ (c_X10_rest l hl0) (cwV 1 hta (gWV mw300 mw301 mw302 mw10 mw299) rfl rfl rfl (by decide +kernel) ⟨Nat.le_of_ble_eq_true rfl, Nat.le_of_ble_eq_true rfl⟩) ⟨gS_blind, va_recv hKc hPc (ci := 15) (q0 := 0) rfl rfl, fun U hU hW => ⟨rfl, by rw [hU], by rw [hU]; exact hPc, va_K.moved hW.alike hKc, hDc.weaken (fun _ _ _ _ => trivial), hG.call hS hU hW hFc⟩⟩ rfl rfl hl.1 rfl (lv_room (Nat.le_of_ble_eq_true rfl)) dL_rest_4 ⟨Nat.le_of_ble_eq_true rfl, Nat.le_of_ble_eq_true rfl⟩) hP hD hS hFc rfl rfl (by decide) (by decide) (fun E9 ce q9 u2 H locs h3 hz9 hP hD hS hc9 hv9 hcl9 => ?_)
  obtain ⟨_, rfl⟩ := h3
  refine vx_catch (own := "FoundrymarkLaw") (name := "java/lang/IndexOutOfBoundsException") hown [] ⟨0, 9, 12, 24⟩ [] (by rw [htab]; rfl) (fun z hz => absurd hz List.not_mem_nil) (by decide) (by decide) (hta _ mw270) (va_Nw.use rfl (hG.C ("java/lang/IndexOutOfBoundsException", "java/lang/IndexOutOfBoundsException") (by decide))) hc9 hv9 hcl9 ?_
  refine W.eq (g2 := F0 m 12 ls [.ref q9]) rfl ?_
  refine lv_astore_n (lv' := [(3, .ref q9), (0, .ref h0), (1, .int x0), (2, .ref o)]) hx hb dL_rest_12 rfl hl (by decide) rfl (fun ls hl => ?_)
  refine lv_iconst (v := 1) hx hb dL_rest_13 (by decide) ?_
  have hP9 := hP.sub (ws' := []) [] rfl
  have hD9 := hD.sub (ws' := []) [] (by decide) rfl
  have hK9 := hK.sub (tys' := []) [] rfl
  refine W.widen (k := 1) (n := 6) (Nat.le_of_ble_eq_true rfl) (Nat.le_of_ble_eq_true rfl) ?_
  exact W.iret (v := 1) hx hb hr (fun t ht hWm => ⟨⟨_, (), rfl, rfl, ⟨by rw [ht]; exact hP9, va_K.moved hWm.alike hK9, hD9⟩⟩, hS.F ht⟩) hS.2.2 dL_rest_14

set_option maxHeartbeats 4000000 in
set_option maxRecDepth 100000 in
theorem c_L_reserved (l : Launch) (hl0 : l.stackTraces = false) {D : va_G} {tE sz : Nat} {h0 a1 a2 a3 a4 a5 h6 s0 s1 s2 s3 : Nat} {t1 t2 t3 t4 t5 : ClassId} {o : Nat} {x0 : Int32} : Met l ⟨"FoundrymarkLaw", "reserved", "(LFoundrymark;I[J)I"⟩ (wsW ⟨"FoundrymarkLaw", "reserved", "(LFoundrymark;I[J)I"⟩ cL_reserved 4 (some .int) [(0, 9, 12, 24)]) ({ frames := 8, cells := 1, slots := 6, locals := 141 }) (va_Pc [.ref h0, .int x0, .ref o] (gS tE D (wX h0 a1 a2 a3 a4 a5 h6 s0 s1 s2 s3 t1 t2 t3 t4 t5) (tX t1 t2 t3 t4 t5) sz)) (va_Qi (fun (r : Int32) (_ : Unit) => r = 1) (gO D (fun _ => []) (fun _ => []) (va_A (wX h0 a1 a2 a3 a4 a5 h6 s0 s1 s2 s3 t1 t2 t3 t4 t5) sz)) (va_A (wX h0 a1 a2 a3 a4 a5 h6 s0 s1 s2 s3 t1 t2 t3 t4 t5) sz)) 1 6 (va_A (wX h0 a1 a2 a3 a4 a5 h6 s0 s1 s2 s3 t1 t2 t3 t4 t5) sz) := by
  refine va_MetW (cc := cL_reserved) (maxL := 4) (ret := (some .int)) (hh := [(0, 9, 12, 24)]) (by decide) rfl ?_
  intro p e s m args below meth c s₁ B hml hv
  obtain ⟨rfl, hsz, hP, hK, hD0, hG⟩ := hv
  have hx := B.exec
  have hb := B.bytes
  have hr := B.returns
  have hlocks := B.notSynchronized
  have hts := atoms_spec (ws := wsW ⟨"FoundrymarkLaw", "reserved", "(LFoundrymark;I[J)I"⟩ cL_reserved 4 (some .int) [(0, 9, 12, 24)]) B.pre
  have hta : ∀ w ∈ WA, w.before _ s = true := fun w h => hts w (List.mem_cons_of_mem _ h)
  have hown : s.vm.findClass "FoundrymarkLaw" = some m.cls := findClass_of_methodNamed B.named
  have htab := vx_table (x := ⟨"FoundrymarkLaw", "reserved", "(LFoundrymark;I[J)I"⟩) B (hts _ List.mem_cons_self)
  subst hsz
  have hD : va_D (va_A (wX h0 a1 a2 a3 a4 a5 h6 s0 s1 s2 s3 t1 t2 t3 t4 t5) s.heap.size) (wX h0 a1 a2 a3 a4 a5 h6 s0 s1 s2 s3 t1 t2 t3 t4 t5) := hD0.self (sz := s.heap.size)
  generalize hAe : va_A (wX h0 a1 a2 a3 a4 a5 h6 s0 s1 s2 s3 t1 t2 t3 t4 t5) s.heap.size = A at hD hG ⊢
  have hA : ∀ q : Nat, s.heap.size ≤ q → A q := fun q h => by rw [← hAe]; exact Or.inr h
  have hS : va_S A s.heap s.heap [] := va_S.rf
  have hP : va_P D vwCl (wX h0 a1 a2 a3 a4 a5 h6 s0 s1 s2 s3 t1 t2 t3 t4 t5) s.heap := hP
  have hl := lv_entry ([.ref h0, .int x0, .ref o]) (n := 4) (Nat.le_of_ble_eq_true rfl)
  rw [lg_entry_eq]
  generalize (lg_sl ([.ref h0, .int x0, .ref o]) ++ List.replicate (4 - (lg_sl ([.ref h0, .int x0, .ref o])).length) Slot.unset).toArray = ls at hl ⊢
  have hl : lv_has ls 4 [(0, .ref h0), (1, .int x0), (2, .ref o)] := hl
  refine lv_aload_n hx hb dL_reserved_0 rfl (lv_at hl 2 rfl) ?_
  refine lv_iconst (v := 0) hx hb dL_reserved_1 (by decide) ?_
  refine lv_aload_n hx hb dL_reserved_2 rfl (lv_at hl 0 rfl) ?_
  refine lv_iload_n hx hb dL_reserved_3 rfl (lv_at hl 1 rfl) ?_
  have hPc := hP.sub (ws' := (wX h0 a1 a2 a3 a4 a5 h6 s0 s1 s2 s3 t1 t2 t3 t4 t5)) [0, 1, 2, 3, 4, 5, 6, 7, 8, 9, 10] rfl
  have hKc := hK.sub (tys' := (tX t1 t2 t3 t4 t5)) [0, 1, 2, 3, 4] rfl
  have hDc := hD.sub (ws' := (wX h0 a1 a2 a3 a4 a5 h6 s0 s1 s2 s3 t1 t2 t3 t4 t5)) [0, 1, 2, 3, 4, 5, 6, 7, 8, 9, 10] (by decide) rfl
  have hFc := va_free (wc := (wX h0 a1 a2 a3 a4 a5 h6 s0 s1 s2 s3 t1 t2 t3 t4 t5)) hD hS hA [0, 1, 2, 3, 4, 5, 6, 7, 8, 9, 10] rfl
  refine gX0 (isC := [0, 1, 2, 3, 4, 5, 6, 7, 8, 9, 10]) (isR := []) (wr := []) (vx_runV (As := [.int x0]) (rest := [.int 0, .ref o]) ⟨hx, hb, hml, hown, hta⟩ (c_X10_reserved l hl0) (cwV 1 hta (gWV mw304 mw305 mw306 mw10 mw303) rfl rfl rfl (by decide +kernel) ⟨Nat.le_of_ble_eq_true rfl, Nat.le_of_ble_eq_true rfl⟩) ⟨gS_blind, va_recv hKc hPc (ci := 15) (q0 := 0) rfl rfl, fun U hU hW => ⟨rfl, by rw [hU], by rw [hU]; exact hPc, va_K.moved hW.alike hKc, hDc.weaken (fun _ _ _ _ => trivial), hG.call hS hU hW hFc⟩⟩ rfl rfl hl.1 rfl (lv_room (Nat.le_of_ble_eq_true rfl)) dL_reserved_4 ⟨Nat.le_of_ble_eq_true rfl, Nat.le_of_ble_eq_true rfl⟩) hP hD hS hFc rfl rfl (by decide) (by decide) (fun E9 ce q9 u2 H locs h3 hz9 hP hD hS hc9 hv9 hcl9 => ?_)
  obtain ⟨_, rfl⟩ := h3
  refine vx_catch (own := "FoundrymarkLaw") (name := "java/lang/IndexOutOfBoundsException") hown [] ⟨0, 9, 12, 24⟩ [] (by rw [htab]; rfl) (fun z hz => absurd hz List.not_mem_nil) (by decide) (by decide) (hta _ mw270) (va_Nw.use rfl (hG.C ("java/lang/IndexOutOfBoundsException", "java/lang/IndexOutOfBoundsException") (by decide))) hc9 hv9 hcl9 ?_
  refine W.eq (g2 := F0 m 12 ls [.ref q9]) rfl ?_
  refine lv_astore_n (lv' := [(3, .ref q9), (0, .ref h0), (1, .int x0), (2, .ref o)]) hx hb dL_reserved_12 rfl hl (by decide) rfl (fun ls hl => ?_)
  refine lv_iconst (v := 1) hx hb dL_reserved_13 (by decide) ?_
  have hP9 := hP.sub (ws' := []) [] rfl
  have hD9 := hD.sub (ws' := []) [] (by decide) rfl
  have hK9 := hK.sub (tys' := []) [] rfl
  refine W.widen (k := 1) (n := 6) (Nat.le_of_ble_eq_true rfl) (Nat.le_of_ble_eq_true rfl) ?_
  exact W.iret (v := 1) hx hb hr (fun t ht hWm => ⟨⟨_, (), rfl, rfl, ⟨by rw [ht]; exact hP9, va_K.moved hWm.alike hK9, hD9⟩⟩, hS.F ht⟩) hS.2.2 dL_reserved_14

set_option maxHeartbeats 4000000 in
set_option maxRecDepth 100000 in
theorem c_L_costOf (l : Launch) (hl0 : l.stackTraces = false) {D : va_G} {tE sz : Nat} {h0 a1 a2 a3 a4 a5 h6 s0 s1 s2 s3 : Nat} {t1 t2 t3 t4 t5 : ClassId} {o : Nat} {x0 : Int32} : Met l ⟨"FoundrymarkLaw", "costOf", "(LFoundrymark;I[J)I"⟩ (wsW ⟨"FoundrymarkLaw", "costOf", "(LFoundrymark;I[J)I"⟩ cL_costOf 4 (some .int) [(0, 8, 11, 24)]) ({ frames := 8, cells := 1, slots := 6, locals := 141 }) (va_Pc [.ref h0, .int x0, .ref o] (gS tE D (wX h0 a1 a2 a3 a4 a5 h6 s0 s1 s2 s3 t1 t2 t3 t4 t5) (tX t1 t2 t3 t4 t5) sz)) (va_Qi (fun (r : Int32) (_ : Unit) => r = 1) (gO D (fun _ => []) (fun _ => []) (va_A (wX h0 a1 a2 a3 a4 a5 h6 s0 s1 s2 s3 t1 t2 t3 t4 t5) sz)) (va_A (wX h0 a1 a2 a3 a4 a5 h6 s0 s1 s2 s3 t1 t2 t3 t4 t5) sz)) 1 6 (va_A (wX h0 a1 a2 a3 a4 a5 h6 s0 s1 s2 s3 t1 t2 t3 t4 t5) sz) := by
  refine va_MetW (cc := cL_costOf) (maxL := 4) (ret := (some .int)) (hh := [(0, 8, 11, 24)]) (by decide) rfl ?_
  intro p e s m args below meth c s₁ B hml hv
  obtain ⟨rfl, hsz, hP, hK, hD0, hG⟩ := hv
  have hx := B.exec
  have hb := B.bytes
  have hr := B.returns
  have hlocks := B.notSynchronized
  have hts := atoms_spec (ws := wsW ⟨"FoundrymarkLaw", "costOf", "(LFoundrymark;I[J)I"⟩ cL_costOf 4 (some .int) [(0, 8, 11, 24)]) B.pre
  have hta : ∀ w ∈ WA, w.before _ s = true := fun w h => hts w (List.mem_cons_of_mem _ h)
  have hown : s.vm.findClass "FoundrymarkLaw" = some m.cls := findClass_of_methodNamed B.named
  have htab := vx_table (x := ⟨"FoundrymarkLaw", "costOf", "(LFoundrymark;I[J)I"⟩) B (hts _ List.mem_cons_self)
  subst hsz
  have hD : va_D (va_A (wX h0 a1 a2 a3 a4 a5 h6 s0 s1 s2 s3 t1 t2 t3 t4 t5) s.heap.size) (wX h0 a1 a2 a3 a4 a5 h6 s0 s1 s2 s3 t1 t2 t3 t4 t5) := hD0.self (sz := s.heap.size)
  generalize hAe : va_A (wX h0 a1 a2 a3 a4 a5 h6 s0 s1 s2 s3 t1 t2 t3 t4 t5) s.heap.size = A at hD hG ⊢
  have hA : ∀ q : Nat, s.heap.size ≤ q → A q := fun q h => by rw [← hAe]; exact Or.inr h
  have hS : va_S A s.heap s.heap [] := va_S.rf
  have hP : va_P D vwCl (wX h0 a1 a2 a3 a4 a5 h6 s0 s1 s2 s3 t1 t2 t3 t4 t5) s.heap := hP
  have hl := lv_entry ([.ref h0, .int x0, .ref o]) (n := 4) (Nat.le_of_ble_eq_true rfl)
  rw [lg_entry_eq]
  generalize (lg_sl ([.ref h0, .int x0, .ref o]) ++ List.replicate (4 - (lg_sl ([.ref h0, .int x0, .ref o])).length) Slot.unset).toArray = ls at hl ⊢
  have hl : lv_has ls 4 [(0, .ref h0), (1, .int x0), (2, .ref o)] := hl
  refine lv_aload_n hx hb dL_costOf_0 rfl (lv_at hl 2 rfl) ?_
  refine lv_iconst (v := 0) hx hb dL_costOf_1 (by decide) ?_
  refine lv_aload_n hx hb dL_costOf_2 rfl (lv_at hl 0 rfl) ?_
  refine lv_iload_n hx hb dL_costOf_3 rfl (lv_at hl 1 rfl) ?_
  have hPc := hP.sub (ws' := (wX h0 a1 a2 a3 a4 a5 h6 s0 s1 s2 s3 t1 t2 t3 t4 t5)) [0, 1, 2, 3, 4, 5, 6, 7, 8, 9, 10] rfl
  have hKc := hK.sub (tys' := (tX t1 t2 t3 t4 t5)) [0, 1, 2, 3, 4] rfl
  have hDc := hD.sub (ws' := (wX h0 a1 a2 a3 a4 a5 h6 s0 s1 s2 s3 t1 t2 t3 t4 t5)) [0, 1, 2, 3, 4, 5, 6, 7, 8, 9, 10] (by decide) rfl
  have hFc := va_free (wc := (wX h0 a1 a2 a3 a4 a5 h6 s0 s1 s2 s3 t1 t2 t3 t4 t5)) hD hS hA [0, 1, 2, 3, 4, 5, 6, 7, 8, 9, 10] rfl
  refine gX0 (isC := [0, 1, 2, 3, 4, 5, 6, 7, 8, 9, 10]) (isR := []) (wr := []) (vx_runV (As := [.int x0]) (rest := [.int 0, .ref o]) ⟨hx, hb, hml, hown, hta⟩ (c_X10_costOf l hl0) (cwV 1 hta (gWV mw308 mw309 mw310 mw10 mw307) rfl rfl rfl (by decide +kernel) ⟨Nat.le_of_ble_eq_true rfl, Nat.le_of_ble_eq_true rfl⟩) ⟨gS_blind, va_recv hKc hPc (ci := 15) (q0 := 0) rfl rfl, fun U hU hW => ⟨rfl, by rw [hU], by rw [hU]; exact hPc, va_K.moved hW.alike hKc, hDc.weaken (fun _ _ _ _ => trivial), hG.call hS hU hW hFc⟩⟩ rfl rfl hl.1 rfl (lv_room (Nat.le_of_ble_eq_true rfl)) dL_costOf_4 ⟨Nat.le_of_ble_eq_true rfl, Nat.le_of_ble_eq_true rfl⟩) hP hD hS hFc rfl rfl (by decide) (by decide) (fun E9 ce q9 u2 H locs h3 hz9 hP hD hS hc9 hv9 hcl9 => ?_)
  obtain ⟨_, rfl⟩ := h3
  refine vx_catch (own := "FoundrymarkLaw") (name := "java/lang/IndexOutOfBoundsException") hown [] ⟨0, 8, 11, 24⟩ [] (by rw [htab]; rfl) (fun z hz => absurd hz List.not_mem_nil) (by decide) (by decide) (hta _ mw270) (va_Nw.use rfl (hG.C ("java/lang/IndexOutOfBoundsException", "java/lang/IndexOutOfBoundsException") (by decide))) hc9 hv9 hcl9 ?_
  refine W.eq (g2 := F0 m 11 ls [.ref q9]) rfl ?_
  refine lv_astore_n (lv' := [(3, .ref q9), (0, .ref h0), (1, .int x0), (2, .ref o)]) hx hb dL_costOf_11 rfl hl (by decide) rfl (fun ls hl => ?_)
  refine lv_iconst (v := 1) hx hb dL_costOf_12 (by decide) ?_
  have hP9 := hP.sub (ws' := []) [] rfl
  have hD9 := hD.sub (ws' := []) [] (by decide) rfl
  have hK9 := hK.sub (tys' := []) [] rfl
  refine W.widen (k := 1) (n := 6) (Nat.le_of_ble_eq_true rfl) (Nat.le_of_ble_eq_true rfl) ?_
  exact W.iret (v := 1) hx hb hr (fun t ht hWm => ⟨⟨_, (), rfl, rfl, ⟨by rw [ht]; exact hP9, va_K.moved hWm.alike hK9, hD9⟩⟩, hS.F ht⟩) hS.2.2 dL_costOf_13

set_option maxHeartbeats 4000000 in
set_option maxRecDepth 100000 in
theorem c_L_order (l : Launch) (hl0 : l.stackTraces = false) {D : va_G} {tE sz : Nat} {h0 a1 a2 a3 a4 a5 h6 s0 s1 s2 s3 : Nat} {t1 t2 t3 t4 t5 : ClassId} {o : Nat} {x0 x1 x2 x3 : Int32} : Met l ⟨"FoundrymarkLaw", "order", "(LFoundrymark;IIII[J)I"⟩ (wsW ⟨"FoundrymarkLaw", "order", "(LFoundrymark;IIII[J)I"⟩ cL_order 7 (some .int) [(0, 14, 17, 24), (0, 14, 21, 13), (0, 14, 25, 15)]) ({ frames := 8, cells := 1, slots := 6, locals := 145 }) (va_Pc [.ref h0, .int x0, .int x1, .int x2, .int x3, .ref o] (gS tE D (wX h0 a1 a2 a3 a4 a5 h6 s0 s1 s2 s3 t1 t2 t3 t4 t5) (tX t1 t2 t3 t4 t5) sz)) (va_Qi (fun (r : Int32) (_ : Unit) => r = 1) (gO D (fun _ => []) (fun _ => []) (va_A (wX h0 a1 a2 a3 a4 a5 h6 s0 s1 s2 s3 t1 t2 t3 t4 t5) sz)) (va_A (wX h0 a1 a2 a3 a4 a5 h6 s0 s1 s2 s3 t1 t2 t3 t4 t5) sz)) 1 6 (va_A (wX h0 a1 a2 a3 a4 a5 h6 s0 s1 s2 s3 t1 t2 t3 t4 t5) sz) := by
  refine va_MetW (cc := cL_order) (maxL := 7) (ret := (some .int)) (hh := [(0, 14, 17, 24), (0, 14, 21, 13), (0, 14, 25, 15)]) (by decide) rfl ?_
  intro p e s m args below meth c s₁ B hml hv
  obtain ⟨rfl, hsz, hP, hK, hD0, hG⟩ := hv
  have hx := B.exec
  have hb := B.bytes
  have hr := B.returns
  have hlocks := B.notSynchronized
  have hts := atoms_spec (ws := wsW ⟨"FoundrymarkLaw", "order", "(LFoundrymark;IIII[J)I"⟩ cL_order 7 (some .int) [(0, 14, 17, 24), (0, 14, 21, 13), (0, 14, 25, 15)]) B.pre
  have hta : ∀ w ∈ WA, w.before _ s = true := fun w h => hts w (List.mem_cons_of_mem _ h)
  have hown : s.vm.findClass "FoundrymarkLaw" = some m.cls := findClass_of_methodNamed B.named
  have htab := vx_table (x := ⟨"FoundrymarkLaw", "order", "(LFoundrymark;IIII[J)I"⟩) B (hts _ List.mem_cons_self)
  subst hsz
  have hD : va_D (va_A (wX h0 a1 a2 a3 a4 a5 h6 s0 s1 s2 s3 t1 t2 t3 t4 t5) s.heap.size) (wX h0 a1 a2 a3 a4 a5 h6 s0 s1 s2 s3 t1 t2 t3 t4 t5) := hD0.self (sz := s.heap.size)
  generalize hAe : va_A (wX h0 a1 a2 a3 a4 a5 h6 s0 s1 s2 s3 t1 t2 t3 t4 t5) s.heap.size = A at hD hG ⊢
  have hA : ∀ q : Nat, s.heap.size ≤ q → A q := fun q h => by rw [← hAe]; exact Or.inr h
  have hS : va_S A s.heap s.heap [] := va_S.rf
  have hP : va_P D vwCl (wX h0 a1 a2 a3 a4 a5 h6 s0 s1 s2 s3 t1 t2 t3 t4 t5) s.heap := hP
  have hl := lv_entry ([.ref h0, .int x0, .int x1, .int x2, .int x3, .ref o]) (n := 7) (Nat.le_of_ble_eq_true rfl)
  rw [lg_entry_eq]
  generalize (lg_sl ([.ref h0, .int x0, .int x1, .int x2, .int x3, .ref o]) ++ List.replicate (7 - (lg_sl ([.ref h0, .int x0, .int x1, .int x2, .int x3, .ref o])).length) Slot.unset).toArray = ls at hl ⊢
  have hl : lv_has ls 7 [(0, .ref h0), (1, .int x0), (2, .int x1), (3, .int x2), (4, .int x3), (5, .ref o)] := hl
  refine lv_aload hx hb dL_order_0 (lv_at hl 5 rfl) ?_
  refine lv_iconst (v := 0) hx hb dL_order_2 (by decide) ?_
  refine lv_aload_n hx hb dL_order_3 rfl (lv_at hl 0 rfl) ?_
  refine lv_iload_n hx hb dL_order_4 rfl (lv_at hl 1 rfl) ?_
  refine lv_iload_n hx hb dL_order_5 rfl (lv_at hl 2 rfl) ?_
  refine lv_iload_n hx hb dL_order_6 rfl (lv_at hl 3 rfl) ?_
  refine lv_iload hx hb dL_order_7 (lv_at hl 4 rfl) ?_
  have hPc := hP.sub (ws' := (wX h0 a1 a2 a3 a4 a5 h6 s0 s1 s2 s3 t1 t2 t3 t4 t5)) [0, 1, 2, 3, 4, 5, 6, 7, 8, 9, 10] rfl
  have hKc := hK.sub (tys' := (tX t1 t2 t3 t4 t5)) [0, 1, 2, 3, 4] rfl
  have hDc := hD.sub (ws' := (wX h0 a1 a2 a3 a4 a5 h6 s0 s1 s2 s3 t1 t2 t3 t4 t5)) [0, 1, 2, 3, 4, 5, 6, 7, 8, 9, 10] (by decide) rfl
  have hFc := va_free (wc := (wX h0 a1 a2 a3 a4 a5 h6 s0 s1 s2 s3 t1 t2 t3 t4 t5)) hD hS hA [0, 1, 2, 3, 4, 5, 6, 7, 8, 9, 10] rfl
  refine gX0 (isC := [0, 1, 2, 3, 4, 5, 6, 7, 8, 9, 10]) (isR := []) (wr := []) (vx_runV (As := [.int x0, .int x1, .int x2, .int x3]) (rest := [.int 0, .ref o]) ⟨hx, hb, hml, hown, hta⟩ (c_X10_order l hl0) (cwV 4 hta (gWV mw312 mw313 mw314 mw10 mw311) rfl rfl rfl (by decide +kernel) ⟨Nat.le_of_ble_eq_true rfl, Nat.le_of_ble_eq_true rfl⟩) ⟨gS_blind, va_recv hKc hPc (ci := 15) (q0 := 0) rfl rfl, fun U hU hW => ⟨rfl, by rw [hU], by rw [hU]; exact hPc, va_K.moved hW.alike hKc, hDc.weaken (fun _ _ _ _ => trivial), hG.call hS hU hW hFc⟩⟩ rfl rfl hl.1 rfl (lv_room (Nat.le_of_ble_eq_true rfl)) dL_order_9 ⟨Nat.le_of_ble_eq_true rfl, Nat.le_of_ble_eq_true rfl⟩) hP hD hS hFc rfl rfl (by decide) (by decide) (fun E9 ce q9 u2 H locs h3 hz9 hP hD hS hc9 hv9 hcl9 => ?_)
  obtain ⟨_, rfl⟩ := h3
  refine vx_catch (own := "FoundrymarkLaw") (name := "java/lang/IndexOutOfBoundsException") hown [] ⟨0, 14, 17, 24⟩ [⟨0, 14, 21, 13⟩, ⟨0, 14, 25, 15⟩] (by rw [htab]; rfl) (fun z hz => absurd hz List.not_mem_nil) (by decide) (by decide) (hta _ mw270) (va_Nw.use rfl (hG.C ("java/lang/IndexOutOfBoundsException", "java/lang/IndexOutOfBoundsException") (by decide))) hc9 hv9 hcl9 ?_
  refine W.eq (g2 := F0 m 17 ls [.ref q9]) rfl ?_
  refine lv_astore (lv' := [(6, .ref q9), (0, .ref h0), (1, .int x0), (2, .int x1), (3, .int x2), (4, .int x3), (5, .ref o)]) hx hb dL_order_17 hl (by decide) rfl (fun ls hl => ?_)
  refine lv_iconst (v := 1) hx hb dL_order_19 (by decide) ?_
  have hP9 := hP.sub (ws' := []) [] rfl
  have hD9 := hD.sub (ws' := []) [] (by decide) rfl
  have hK9 := hK.sub (tys' := []) [] rfl
  refine W.widen (k := 1) (n := 6) (Nat.le_of_ble_eq_true rfl) (Nat.le_of_ble_eq_true rfl) ?_
  exact W.iret (v := 1) hx hb hr (fun t ht hWm => ⟨⟨_, (), rfl, rfl, ⟨by rw [ht]; exact hP9, va_K.moved hWm.alike hK9, hD9⟩⟩, hS.F ht⟩) hS.2.2 dL_order_20

set_option maxHeartbeats 4000000 in
set_option maxRecDepth 100000 in
theorem c_L_promise (l : Launch) (hl0 : l.stackTraces = false) {D : va_G} {tE sz : Nat} {h0 a1 a2 a3 a4 a5 h6 s0 s1 s2 s3 : Nat} {t1 t2 t3 t4 t5 : ClassId} {o : Nat} {x0 : Int32} : Met l ⟨"FoundrymarkLaw", "promise", "(LFoundrymark;I[J)I"⟩ (wsW ⟨"FoundrymarkLaw", "promise", "(LFoundrymark;I[J)I"⟩ cL_promise 4 (some .int) [(0, 16, 19, 24), (0, 16, 22, 26)]) ({ frames := 8, cells := 1, slots := 6, locals := 142 }) (va_Pc [.ref h0, .int x0, .ref o] (gS tE D (wX h0 a1 a2 a3 a4 a5 h6 s0 s1 s2 s3 t1 t2 t3 t4 t5) (tX t1 t2 t3 t4 t5) sz)) (va_Qi (fun (r : Int32) (_ : Unit) => r = 1) (gO D (fun _ => []) (fun _ => []) (va_A (wX h0 a1 a2 a3 a4 a5 h6 s0 s1 s2 s3 t1 t2 t3 t4 t5) sz)) (va_A (wX h0 a1 a2 a3 a4 a5 h6 s0 s1 s2 s3 t1 t2 t3 t4 t5) sz)) 1 6 (va_A (wX h0 a1 a2 a3 a4 a5 h6 s0 s1 s2 s3 t1 t2 t3 t4 t5) sz) := by
  refine va_MetW (cc := cL_promise) (maxL := 4) (ret := (some .int)) (hh := [(0, 16, 19, 24), (0, 16, 22, 26)]) (by decide) rfl ?_
  intro p e s m args below meth c s₁ B hml hv
  obtain ⟨rfl, hsz, hP, hK, hD0, hG⟩ := hv
  have hx := B.exec
  have hb := B.bytes
  have hr := B.returns
  have hlocks := B.notSynchronized
  have hts := atoms_spec (ws := wsW ⟨"FoundrymarkLaw", "promise", "(LFoundrymark;I[J)I"⟩ cL_promise 4 (some .int) [(0, 16, 19, 24), (0, 16, 22, 26)]) B.pre
  have hta : ∀ w ∈ WA, w.before _ s = true := fun w h => hts w (List.mem_cons_of_mem _ h)
  have hown : s.vm.findClass "FoundrymarkLaw" = some m.cls := findClass_of_methodNamed B.named
  have htab := vx_table (x := ⟨"FoundrymarkLaw", "promise", "(LFoundrymark;I[J)I"⟩) B (hts _ List.mem_cons_self)
  subst hsz
  have hD : va_D (va_A (wX h0 a1 a2 a3 a4 a5 h6 s0 s1 s2 s3 t1 t2 t3 t4 t5) s.heap.size) (wX h0 a1 a2 a3 a4 a5 h6 s0 s1 s2 s3 t1 t2 t3 t4 t5) := hD0.self (sz := s.heap.size)
  generalize hAe : va_A (wX h0 a1 a2 a3 a4 a5 h6 s0 s1 s2 s3 t1 t2 t3 t4 t5) s.heap.size = A at hD hG ⊢
  have hA : ∀ q : Nat, s.heap.size ≤ q → A q := fun q h => by rw [← hAe]; exact Or.inr h
  have hS : va_S A s.heap s.heap [] := va_S.rf
  have hP : va_P D vwCl (wX h0 a1 a2 a3 a4 a5 h6 s0 s1 s2 s3 t1 t2 t3 t4 t5) s.heap := hP
  have hl := lv_entry ([.ref h0, .int x0, .ref o]) (n := 4) (Nat.le_of_ble_eq_true rfl)
  rw [lg_entry_eq]
  generalize (lg_sl ([.ref h0, .int x0, .ref o]) ++ List.replicate (4 - (lg_sl ([.ref h0, .int x0, .ref o])).length) Slot.unset).toArray = ls at hl ⊢
  have hl : lv_has ls 4 [(0, .ref h0), (1, .int x0), (2, .ref o)] := hl
  refine lv_aload_n hx hb dL_promise_0 rfl (lv_at hl 2 rfl) ?_
  refine lv_iconst (v := 0) hx hb dL_promise_1 (by decide) ?_
  refine lv_aload_n hx hb dL_promise_2 rfl (lv_at hl 0 rfl) ?_
  refine lv_iload_n hx hb dL_promise_3 rfl (lv_at hl 1 rfl) ?_
  have hPc := hP.sub (ws' := (wX h0 a1 a2 a3 a4 a5 h6 s0 s1 s2 s3 t1 t2 t3 t4 t5)) [0, 1, 2, 3, 4, 5, 6, 7, 8, 9, 10] rfl
  have hKc := hK.sub (tys' := (tX t1 t2 t3 t4 t5)) [0, 1, 2, 3, 4] rfl
  have hDc := hD.sub (ws' := (wX h0 a1 a2 a3 a4 a5 h6 s0 s1 s2 s3 t1 t2 t3 t4 t5)) [0, 1, 2, 3, 4, 5, 6, 7, 8, 9, 10] (by decide) rfl
  have hFc := va_free (wc := (wX h0 a1 a2 a3 a4 a5 h6 s0 s1 s2 s3 t1 t2 t3 t4 t5)) hD hS hA [0, 1, 2, 3, 4, 5, 6, 7, 8, 9, 10] rfl
  refine gX0 (isC := [0, 1, 2, 3, 4, 5, 6, 7, 8, 9, 10]) (isR := []) (wr := []) (vx_runV (As := [.int x0]) (rest := [.int 0, .ref o]) ⟨hx, hb, hml, hown, hta⟩ (c_X10_promise l hl0) (cwV 1 hta (gWV mw316 mw317 mw318 mw10 mw315) rfl rfl rfl (by decide +kernel) ⟨Nat.le_of_ble_eq_true rfl, Nat.le_of_ble_eq_true rfl⟩) ⟨gS_blind, va_recv hKc hPc (ci := 15) (q0 := 0) rfl rfl, fun U hU hW => ⟨rfl, by rw [hU], by rw [hU]; exact hPc, va_K.moved hW.alike hKc, hDc.weaken (fun _ _ _ _ => trivial), hG.call hS hU hW hFc⟩⟩ rfl rfl hl.1 rfl (lv_room (Nat.le_of_ble_eq_true rfl)) dL_promise_4 ⟨Nat.le_of_ble_eq_true rfl, Nat.le_of_ble_eq_true rfl⟩) hP hD hS hFc rfl rfl (by decide) (by decide) (fun E9 ce q9 u2 H locs h3 hz9 hP hD hS hc9 hv9 hcl9 => ?_)
  obtain ⟨_, rfl⟩ := h3
  refine vx_catch (own := "FoundrymarkLaw") (name := "java/lang/IndexOutOfBoundsException") hown [] ⟨0, 16, 19, 24⟩ [⟨0, 16, 22, 26⟩] (by rw [htab]; rfl) (fun z hz => absurd hz List.not_mem_nil) (by decide) (by decide) (hta _ mw270) (va_Nw.use rfl (hG.C ("java/lang/IndexOutOfBoundsException", "java/lang/IndexOutOfBoundsException") (by decide))) hc9 hv9 hcl9 ?_
  refine W.eq (g2 := F0 m 19 ls [.ref q9]) rfl ?_
  refine lv_astore_n (lv' := [(3, .ref q9), (0, .ref h0), (1, .int x0), (2, .ref o)]) hx hb dL_promise_19 rfl hl (by decide) rfl (fun ls hl => ?_)
  refine lv_iconst (v := 1) hx hb dL_promise_20 (by decide) ?_
  have hP9 := hP.sub (ws' := []) [] rfl
  have hD9 := hD.sub (ws' := []) [] (by decide) rfl
  have hK9 := hK.sub (tys' := []) [] rfl
  refine W.widen (k := 1) (n := 6) (Nat.le_of_ble_eq_true rfl) (Nat.le_of_ble_eq_true rfl) ?_
  exact W.iret (v := 1) hx hb hr (fun t ht hWm => ⟨⟨_, (), rfl, rfl, ⟨by rw [ht]; exact hP9, va_K.moved hWm.alike hK9, hD9⟩⟩, hS.F ht⟩) hS.2.2 dL_promise_21

set_option maxHeartbeats 4000000 in
set_option maxRecDepth 100000 in
theorem c_L_withdraw (l : Launch) (hl0 : l.stackTraces = false) {D : va_G} {tE sz : Nat} {h0 a1 a2 a3 a4 a5 h6 s0 s1 s2 s3 : Nat} {t1 t2 t3 t4 t5 : ClassId} {o : Nat} {x0 : Int32} : Met l ⟨"FoundrymarkLaw", "withdraw", "(LFoundrymark;I[J)I"⟩ (wsW ⟨"FoundrymarkLaw", "withdraw", "(LFoundrymark;I[J)I"⟩ cL_withdraw 4 (some .int) [(0, 9, 12, 24), (0, 9, 15, 26)]) ({ frames := 8, cells := 1, slots := 6, locals := 142 }) (va_Pc [.ref h0, .int x0, .ref o] (gS tE D (wX h0 a1 a2 a3 a4 a5 h6 s0 s1 s2 s3 t1 t2 t3 t4 t5) (tX t1 t2 t3 t4 t5) sz)) (va_Qi (fun (r : Int32) (_ : Unit) => r = 1) (gO D (fun _ => []) (fun _ => []) (va_A (wX h0 a1 a2 a3 a4 a5 h6 s0 s1 s2 s3 t1 t2 t3 t4 t5) sz)) (va_A (wX h0 a1 a2 a3 a4 a5 h6 s0 s1 s2 s3 t1 t2 t3 t4 t5) sz)) 1 6 (va_A (wX h0 a1 a2 a3 a4 a5 h6 s0 s1 s2 s3 t1 t2 t3 t4 t5) sz) := by
  refine va_MetW (cc := cL_withdraw) (maxL := 4) (ret := (some .int)) (hh := [(0, 9, 12, 24), (0, 9, 15, 26)]) (by decide) rfl ?_
  intro p e s m args below meth c s₁ B hml hv
  obtain ⟨rfl, hsz, hP, hK, hD0, hG⟩ := hv
  have hx := B.exec
  have hb := B.bytes
  have hr := B.returns
  have hlocks := B.notSynchronized
  have hts := atoms_spec (ws := wsW ⟨"FoundrymarkLaw", "withdraw", "(LFoundrymark;I[J)I"⟩ cL_withdraw 4 (some .int) [(0, 9, 12, 24), (0, 9, 15, 26)]) B.pre
  have hta : ∀ w ∈ WA, w.before _ s = true := fun w h => hts w (List.mem_cons_of_mem _ h)
  have hown : s.vm.findClass "FoundrymarkLaw" = some m.cls := findClass_of_methodNamed B.named
  have htab := vx_table (x := ⟨"FoundrymarkLaw", "withdraw", "(LFoundrymark;I[J)I"⟩) B (hts _ List.mem_cons_self)
  subst hsz
  have hD : va_D (va_A (wX h0 a1 a2 a3 a4 a5 h6 s0 s1 s2 s3 t1 t2 t3 t4 t5) s.heap.size) (wX h0 a1 a2 a3 a4 a5 h6 s0 s1 s2 s3 t1 t2 t3 t4 t5) := hD0.self (sz := s.heap.size)
  generalize hAe : va_A (wX h0 a1 a2 a3 a4 a5 h6 s0 s1 s2 s3 t1 t2 t3 t4 t5) s.heap.size = A at hD hG ⊢
  have hA : ∀ q : Nat, s.heap.size ≤ q → A q := fun q h => by rw [← hAe]; exact Or.inr h
  have hS : va_S A s.heap s.heap [] := va_S.rf
  have hP : va_P D vwCl (wX h0 a1 a2 a3 a4 a5 h6 s0 s1 s2 s3 t1 t2 t3 t4 t5) s.heap := hP
  have hl := lv_entry ([.ref h0, .int x0, .ref o]) (n := 4) (Nat.le_of_ble_eq_true rfl)
  rw [lg_entry_eq]
  generalize (lg_sl ([.ref h0, .int x0, .ref o]) ++ List.replicate (4 - (lg_sl ([.ref h0, .int x0, .ref o])).length) Slot.unset).toArray = ls at hl ⊢
  have hl : lv_has ls 4 [(0, .ref h0), (1, .int x0), (2, .ref o)] := hl
  refine lv_aload_n hx hb dL_withdraw_0 rfl (lv_at hl 2 rfl) ?_
  refine lv_iconst (v := 0) hx hb dL_withdraw_1 (by decide) ?_
  refine lv_aload_n hx hb dL_withdraw_2 rfl (lv_at hl 0 rfl) ?_
  refine lv_iload_n hx hb dL_withdraw_3 rfl (lv_at hl 1 rfl) ?_
  have hPc := hP.sub (ws' := (wX h0 a1 a2 a3 a4 a5 h6 s0 s1 s2 s3 t1 t2 t3 t4 t5)) [0, 1, 2, 3, 4, 5, 6, 7, 8, 9, 10] rfl
  have hKc := hK.sub (tys' := (tX t1 t2 t3 t4 t5)) [0, 1, 2, 3, 4] rfl
  have hDc := hD.sub (ws' := (wX h0 a1 a2 a3 a4 a5 h6 s0 s1 s2 s3 t1 t2 t3 t4 t5)) [0, 1, 2, 3, 4, 5, 6, 7, 8, 9, 10] (by decide) rfl
  have hFc := va_free (wc := (wX h0 a1 a2 a3 a4 a5 h6 s0 s1 s2 s3 t1 t2 t3 t4 t5)) hD hS hA [0, 1, 2, 3, 4, 5, 6, 7, 8, 9, 10] rfl
  refine gX0 (isC := [0, 1, 2, 3, 4, 5, 6, 7, 8, 9, 10]) (isR := []) (wr := []) (vx_runV (As := [.int x0]) (rest := [.int 0, .ref o]) ⟨hx, hb, hml, hown, hta⟩ (c_X10_withdraw l hl0) (cwV 1 hta (gWV mw320 mw321 mw322 mw10 mw319) rfl rfl rfl (by decide +kernel) ⟨Nat.le_of_ble_eq_true rfl, Nat.le_of_ble_eq_true rfl⟩) ⟨gS_blind, va_recv hKc hPc (ci := 15) (q0 := 0) rfl rfl, fun U hU hW => ⟨rfl, by rw [hU], by rw [hU]; exact hPc, va_K.moved hW.alike hKc, hDc.weaken (fun _ _ _ _ => trivial), hG.call hS hU hW hFc⟩⟩ rfl rfl hl.1 rfl (lv_room (Nat.le_of_ble_eq_true rfl)) dL_withdraw_4 ⟨Nat.le_of_ble_eq_true rfl, Nat.le_of_ble_eq_true rfl⟩) hP hD hS hFc rfl rfl (by decide) (by decide) (fun E9 ce q9 u2 H locs h3 hz9 hP hD hS hc9 hv9 hcl9 => ?_)
  obtain ⟨_, rfl⟩ := h3
  refine vx_catch (own := "FoundrymarkLaw") (name := "java/lang/IndexOutOfBoundsException") hown [] ⟨0, 9, 12, 24⟩ [⟨0, 9, 15, 26⟩] (by rw [htab]; rfl) (fun z hz => absurd hz List.not_mem_nil) (by decide) (by decide) (hta _ mw270) (va_Nw.use rfl (hG.C ("java/lang/IndexOutOfBoundsException", "java/lang/IndexOutOfBoundsException") (by decide))) hc9 hv9 hcl9 ?_
  refine W.eq (g2 := F0 m 12 ls [.ref q9]) rfl ?_
  refine lv_astore_n (lv' := [(3, .ref q9), (0, .ref h0), (1, .int x0), (2, .ref o)]) hx hb dL_withdraw_12 rfl hl (by decide) rfl (fun ls hl => ?_)
  refine lv_iconst (v := 1) hx hb dL_withdraw_13 (by decide) ?_
  have hP9 := hP.sub (ws' := []) [] rfl
  have hD9 := hD.sub (ws' := []) [] (by decide) rfl
  have hK9 := hK.sub (tys' := []) [] rfl
  refine W.widen (k := 1) (n := 6) (Nat.le_of_ble_eq_true rfl) (Nat.le_of_ble_eq_true rfl) ?_
  exact W.iret (v := 1) hx hb hr (fun t ht hWm => ⟨⟨_, (), rfl, rfl, ⟨by rw [ht]; exact hP9, va_K.moved hWm.alike hK9, hD9⟩⟩, hS.F ht⟩) hS.2.2 dL_withdraw_14

set_option maxHeartbeats 4000000 in
set_option maxRecDepth 100000 in
theorem c_L_release (l : Launch) (hl0 : l.stackTraces = false) {D : va_G} {tE sz : Nat} {h0 a1 a2 a3 a4 a5 h6 s0 s1 s2 s3 : Nat} {t1 t2 t3 t4 t5 : ClassId} {o : Nat} {x0 : Int32} : Met l ⟨"FoundrymarkLaw", "release", "(LFoundrymark;I[J)I"⟩ (wsW ⟨"FoundrymarkLaw", "release", "(LFoundrymark;I[J)I"⟩ cL_release 4 (some .int) [(0, 16, 19, 24), (0, 16, 22, 26)]) ({ frames := 8, cells := 1, slots := 6, locals := 143 }) (va_Pc [.ref h0, .int x0, .ref o] (gS tE D (wX h0 a1 a2 a3 a4 a5 h6 s0 s1 s2 s3 t1 t2 t3 t4 t5) (tX t1 t2 t3 t4 t5) sz)) (va_Qi (fun (r : Int32) (_ : Unit) => r = 1) (gO D (fun _ => []) (fun _ => []) (va_A (wX h0 a1 a2 a3 a4 a5 h6 s0 s1 s2 s3 t1 t2 t3 t4 t5) sz)) (va_A (wX h0 a1 a2 a3 a4 a5 h6 s0 s1 s2 s3 t1 t2 t3 t4 t5) sz)) 1 6 (va_A (wX h0 a1 a2 a3 a4 a5 h6 s0 s1 s2 s3 t1 t2 t3 t4 t5) sz) := by
  refine va_MetW (cc := cL_release) (maxL := 4) (ret := (some .int)) (hh := [(0, 16, 19, 24), (0, 16, 22, 26)]) (by decide) rfl ?_
  intro p e s m args below meth c s₁ B hml hv
  obtain ⟨rfl, hsz, hP, hK, hD0, hG⟩ := hv
  have hx := B.exec
  have hb := B.bytes
  have hr := B.returns
  have hlocks := B.notSynchronized
  have hts := atoms_spec (ws := wsW ⟨"FoundrymarkLaw", "release", "(LFoundrymark;I[J)I"⟩ cL_release 4 (some .int) [(0, 16, 19, 24), (0, 16, 22, 26)]) B.pre
  have hta : ∀ w ∈ WA, w.before _ s = true := fun w h => hts w (List.mem_cons_of_mem _ h)
  have hown : s.vm.findClass "FoundrymarkLaw" = some m.cls := findClass_of_methodNamed B.named
  have htab := vx_table (x := ⟨"FoundrymarkLaw", "release", "(LFoundrymark;I[J)I"⟩) B (hts _ List.mem_cons_self)
  subst hsz
  have hD : va_D (va_A (wX h0 a1 a2 a3 a4 a5 h6 s0 s1 s2 s3 t1 t2 t3 t4 t5) s.heap.size) (wX h0 a1 a2 a3 a4 a5 h6 s0 s1 s2 s3 t1 t2 t3 t4 t5) := hD0.self (sz := s.heap.size)
  generalize hAe : va_A (wX h0 a1 a2 a3 a4 a5 h6 s0 s1 s2 s3 t1 t2 t3 t4 t5) s.heap.size = A at hD hG ⊢
  have hA : ∀ q : Nat, s.heap.size ≤ q → A q := fun q h => by rw [← hAe]; exact Or.inr h
  have hS : va_S A s.heap s.heap [] := va_S.rf
  have hP : va_P D vwCl (wX h0 a1 a2 a3 a4 a5 h6 s0 s1 s2 s3 t1 t2 t3 t4 t5) s.heap := hP
  have hl := lv_entry ([.ref h0, .int x0, .ref o]) (n := 4) (Nat.le_of_ble_eq_true rfl)
  rw [lg_entry_eq]
  generalize (lg_sl ([.ref h0, .int x0, .ref o]) ++ List.replicate (4 - (lg_sl ([.ref h0, .int x0, .ref o])).length) Slot.unset).toArray = ls at hl ⊢
  have hl : lv_has ls 4 [(0, .ref h0), (1, .int x0), (2, .ref o)] := hl
  refine lv_aload_n hx hb dL_release_0 rfl (lv_at hl 2 rfl) ?_
  refine lv_iconst (v := 0) hx hb dL_release_1 (by decide) ?_
  refine lv_aload_n hx hb dL_release_2 rfl (lv_at hl 0 rfl) ?_
  refine lv_iload_n hx hb dL_release_3 rfl (lv_at hl 1 rfl) ?_
  have hPc := hP.sub (ws' := (wX h0 a1 a2 a3 a4 a5 h6 s0 s1 s2 s3 t1 t2 t3 t4 t5)) [0, 1, 2, 3, 4, 5, 6, 7, 8, 9, 10] rfl
  have hKc := hK.sub (tys' := (tX t1 t2 t3 t4 t5)) [0, 1, 2, 3, 4] rfl
  have hDc := hD.sub (ws' := (wX h0 a1 a2 a3 a4 a5 h6 s0 s1 s2 s3 t1 t2 t3 t4 t5)) [0, 1, 2, 3, 4, 5, 6, 7, 8, 9, 10] (by decide) rfl
  have hFc := va_free (wc := (wX h0 a1 a2 a3 a4 a5 h6 s0 s1 s2 s3 t1 t2 t3 t4 t5)) hD hS hA [0, 1, 2, 3, 4, 5, 6, 7, 8, 9, 10] rfl
  refine gX0 (isC := [0, 1, 2, 3, 4, 5, 6, 7, 8, 9, 10]) (isR := []) (wr := []) (vx_runV (As := [.int x0]) (rest := [.int 0, .ref o]) ⟨hx, hb, hml, hown, hta⟩ (c_X10_release l hl0) (cwV 1 hta (gWV mw324 mw325 mw326 mw10 mw323) rfl rfl rfl (by decide +kernel) ⟨Nat.le_of_ble_eq_true rfl, Nat.le_of_ble_eq_true rfl⟩) ⟨gS_blind, va_recv hKc hPc (ci := 15) (q0 := 0) rfl rfl, fun U hU hW => ⟨rfl, by rw [hU], by rw [hU]; exact hPc, va_K.moved hW.alike hKc, hDc.weaken (fun _ _ _ _ => trivial), hG.call hS hU hW hFc⟩⟩ rfl rfl hl.1 rfl (lv_room (Nat.le_of_ble_eq_true rfl)) dL_release_4 ⟨Nat.le_of_ble_eq_true rfl, Nat.le_of_ble_eq_true rfl⟩) hP hD hS hFc rfl rfl (by decide) (by decide) (fun E9 ce q9 u2 H locs h3 hz9 hP hD hS hc9 hv9 hcl9 => ?_)
  obtain ⟨_, rfl⟩ := h3
  refine vx_catch (own := "FoundrymarkLaw") (name := "java/lang/IndexOutOfBoundsException") hown [] ⟨0, 16, 19, 24⟩ [⟨0, 16, 22, 26⟩] (by rw [htab]; rfl) (fun z hz => absurd hz List.not_mem_nil) (by decide) (by decide) (hta _ mw270) (va_Nw.use rfl (hG.C ("java/lang/IndexOutOfBoundsException", "java/lang/IndexOutOfBoundsException") (by decide))) hc9 hv9 hcl9 ?_
  refine W.eq (g2 := F0 m 19 ls [.ref q9]) rfl ?_
  refine lv_astore_n (lv' := [(3, .ref q9), (0, .ref h0), (1, .int x0), (2, .ref o)]) hx hb dL_release_19 rfl hl (by decide) rfl (fun ls hl => ?_)
  refine lv_iconst (v := 1) hx hb dL_release_20 (by decide) ?_
  have hP9 := hP.sub (ws' := []) [] rfl
  have hD9 := hD.sub (ws' := []) [] (by decide) rfl
  have hK9 := hK.sub (tys' := []) [] rfl
  refine W.widen (k := 1) (n := 6) (Nat.le_of_ble_eq_true rfl) (Nat.le_of_ble_eq_true rfl) ?_
  exact W.iret (v := 1) hx hb hr (fun t ht hWm => ⟨⟨_, (), rfl, rfl, ⟨by rw [ht]; exact hP9, va_K.moved hWm.alike hK9, hD9⟩⟩, hS.F ht⟩) hS.2.2 dL_release_21

set_option maxHeartbeats 4000000 in
set_option maxRecDepth 100000 in
theorem c_L_scrap (l : Launch) (hl0 : l.stackTraces = false) {D : va_G} {tE sz : Nat} {h0 a1 a2 a3 a4 a5 h6 s0 s1 s2 s3 : Nat} {t1 t2 t3 t4 t5 : ClassId} {o : Nat} {x0 x1 : Int32} : Met l ⟨"FoundrymarkLaw", "scrap", "(LFoundrymark;II[J)I"⟩ (wsW ⟨"FoundrymarkLaw", "scrap", "(LFoundrymark;II[J)I"⟩ cL_scrap 5 (some .int) [(0, 10, 13, 24), (0, 10, 17, 26), (0, 10, 21, 13)]) ({ frames := 8, cells := 1, slots := 6, locals := 144 }) (va_Pc [.ref h0, .int x0, .int x1, .ref o] (gS tE D (wX h0 a1 a2 a3 a4 a5 h6 s0 s1 s2 s3 t1 t2 t3 t4 t5) (tX t1 t2 t3 t4 t5) sz)) (va_Qi (fun (r : Int32) (_ : Unit) => r = 1) (gO D (fun _ => []) (fun _ => []) (va_A (wX h0 a1 a2 a3 a4 a5 h6 s0 s1 s2 s3 t1 t2 t3 t4 t5) sz)) (va_A (wX h0 a1 a2 a3 a4 a5 h6 s0 s1 s2 s3 t1 t2 t3 t4 t5) sz)) 1 6 (va_A (wX h0 a1 a2 a3 a4 a5 h6 s0 s1 s2 s3 t1 t2 t3 t4 t5) sz) := by
  refine va_MetW (cc := cL_scrap) (maxL := 5) (ret := (some .int)) (hh := [(0, 10, 13, 24), (0, 10, 17, 26), (0, 10, 21, 13)]) (by decide) rfl ?_
  intro p e s m args below meth c s₁ B hml hv
  obtain ⟨rfl, hsz, hP, hK, hD0, hG⟩ := hv
  have hx := B.exec
  have hb := B.bytes
  have hr := B.returns
  have hlocks := B.notSynchronized
  have hts := atoms_spec (ws := wsW ⟨"FoundrymarkLaw", "scrap", "(LFoundrymark;II[J)I"⟩ cL_scrap 5 (some .int) [(0, 10, 13, 24), (0, 10, 17, 26), (0, 10, 21, 13)]) B.pre
  have hta : ∀ w ∈ WA, w.before _ s = true := fun w h => hts w (List.mem_cons_of_mem _ h)
  have hown : s.vm.findClass "FoundrymarkLaw" = some m.cls := findClass_of_methodNamed B.named
  have htab := vx_table (x := ⟨"FoundrymarkLaw", "scrap", "(LFoundrymark;II[J)I"⟩) B (hts _ List.mem_cons_self)
  subst hsz
  have hD : va_D (va_A (wX h0 a1 a2 a3 a4 a5 h6 s0 s1 s2 s3 t1 t2 t3 t4 t5) s.heap.size) (wX h0 a1 a2 a3 a4 a5 h6 s0 s1 s2 s3 t1 t2 t3 t4 t5) := hD0.self (sz := s.heap.size)
  generalize hAe : va_A (wX h0 a1 a2 a3 a4 a5 h6 s0 s1 s2 s3 t1 t2 t3 t4 t5) s.heap.size = A at hD hG ⊢
  have hA : ∀ q : Nat, s.heap.size ≤ q → A q := fun q h => by rw [← hAe]; exact Or.inr h
  have hS : va_S A s.heap s.heap [] := va_S.rf
  have hP : va_P D vwCl (wX h0 a1 a2 a3 a4 a5 h6 s0 s1 s2 s3 t1 t2 t3 t4 t5) s.heap := hP
  have hl := lv_entry ([.ref h0, .int x0, .int x1, .ref o]) (n := 5) (Nat.le_of_ble_eq_true rfl)
  rw [lg_entry_eq]
  generalize (lg_sl ([.ref h0, .int x0, .int x1, .ref o]) ++ List.replicate (5 - (lg_sl ([.ref h0, .int x0, .int x1, .ref o])).length) Slot.unset).toArray = ls at hl ⊢
  have hl : lv_has ls 5 [(0, .ref h0), (1, .int x0), (2, .int x1), (3, .ref o)] := hl
  refine lv_aload_n hx hb dL_scrap_0 rfl (lv_at hl 3 rfl) ?_
  refine lv_iconst (v := 0) hx hb dL_scrap_1 (by decide) ?_
  refine lv_aload_n hx hb dL_scrap_2 rfl (lv_at hl 0 rfl) ?_
  refine lv_iload_n hx hb dL_scrap_3 rfl (lv_at hl 1 rfl) ?_
  refine lv_iload_n hx hb dL_scrap_4 rfl (lv_at hl 2 rfl) ?_
  have hPc := hP.sub (ws' := (wX h0 a1 a2 a3 a4 a5 h6 s0 s1 s2 s3 t1 t2 t3 t4 t5)) [0, 1, 2, 3, 4, 5, 6, 7, 8, 9, 10] rfl
  have hKc := hK.sub (tys' := (tX t1 t2 t3 t4 t5)) [0, 1, 2, 3, 4] rfl
  have hDc := hD.sub (ws' := (wX h0 a1 a2 a3 a4 a5 h6 s0 s1 s2 s3 t1 t2 t3 t4 t5)) [0, 1, 2, 3, 4, 5, 6, 7, 8, 9, 10] (by decide) rfl
  have hFc := va_free (wc := (wX h0 a1 a2 a3 a4 a5 h6 s0 s1 s2 s3 t1 t2 t3 t4 t5)) hD hS hA [0, 1, 2, 3, 4, 5, 6, 7, 8, 9, 10] rfl
  refine gX0 (isC := [0, 1, 2, 3, 4, 5, 6, 7, 8, 9, 10]) (isR := []) (wr := []) (vx_runV (As := [.int x0, .int x1]) (rest := [.int 0, .ref o]) ⟨hx, hb, hml, hown, hta⟩ (c_X10_scrap l hl0) (cwV 2 hta (gWV mw328 mw329 mw330 mw10 mw327) rfl rfl rfl (by decide +kernel) ⟨Nat.le_of_ble_eq_true rfl, Nat.le_of_ble_eq_true rfl⟩) ⟨gS_blind, va_recv hKc hPc (ci := 15) (q0 := 0) rfl rfl, fun U hU hW => ⟨rfl, by rw [hU], by rw [hU]; exact hPc, va_K.moved hW.alike hKc, hDc.weaken (fun _ _ _ _ => trivial), hG.call hS hU hW hFc⟩⟩ rfl rfl hl.1 rfl (lv_room (Nat.le_of_ble_eq_true rfl)) dL_scrap_5 ⟨Nat.le_of_ble_eq_true rfl, Nat.le_of_ble_eq_true rfl⟩) hP hD hS hFc rfl rfl (by decide) (by decide) (fun E9 ce q9 u2 H locs h3 hz9 hP hD hS hc9 hv9 hcl9 => ?_)
  obtain ⟨_, rfl⟩ := h3
  refine vx_catch (own := "FoundrymarkLaw") (name := "java/lang/IndexOutOfBoundsException") hown [] ⟨0, 10, 13, 24⟩ [⟨0, 10, 17, 26⟩, ⟨0, 10, 21, 13⟩] (by rw [htab]; rfl) (fun z hz => absurd hz List.not_mem_nil) (by decide) (by decide) (hta _ mw270) (va_Nw.use rfl (hG.C ("java/lang/IndexOutOfBoundsException", "java/lang/IndexOutOfBoundsException") (by decide))) hc9 hv9 hcl9 ?_
  refine W.eq (g2 := F0 m 13 ls [.ref q9]) rfl ?_
  refine lv_astore (lv' := [(4, .ref q9), (0, .ref h0), (1, .int x0), (2, .int x1), (3, .ref o)]) hx hb dL_scrap_13 hl (by decide) rfl (fun ls hl => ?_)
  refine lv_iconst (v := 1) hx hb dL_scrap_15 (by decide) ?_
  have hP9 := hP.sub (ws' := []) [] rfl
  have hD9 := hD.sub (ws' := []) [] (by decide) rfl
  have hK9 := hK.sub (tys' := []) [] rfl
  refine W.widen (k := 1) (n := 6) (Nat.le_of_ble_eq_true rfl) (Nat.le_of_ble_eq_true rfl) ?_
  exact W.iret (v := 1) hx hb hr (fun t ht hWm => ⟨⟨_, (), rfl, rfl, ⟨by rw [ht]; exact hP9, va_K.moved hWm.alike hK9, hD9⟩⟩, hS.F ht⟩) hS.2.2 dL_scrap_16

set_option maxHeartbeats 4000000 in
set_option maxRecDepth 100000 in
theorem c_L_deliver (l : Launch) (hl0 : l.stackTraces = false) {D : va_G} {tE sz : Nat} {h0 a1 a2 a3 a4 a5 h6 s0 s1 s2 s3 : Nat} {t1 t2 t3 t4 t5 : ClassId} {o : Nat} {x0 : Int32} : Met l ⟨"FoundrymarkLaw", "deliver", "(LFoundrymark;I[J)I"⟩ (wsW ⟨"FoundrymarkLaw", "deliver", "(LFoundrymark;I[J)I"⟩ cL_deliver 4 (some .int) [(0, 16, 19, 24), (0, 16, 22, 26)]) ({ frames := 8, cells := 1, slots := 6, locals := 142 }) (va_Pc [.ref h0, .int x0, .ref o] (gS tE D (wX h0 a1 a2 a3 a4 a5 h6 s0 s1 s2 s3 t1 t2 t3 t4 t5) (tX t1 t2 t3 t4 t5) sz)) (va_Qi (fun (r : Int32) (_ : Unit) => r = 1) (gO D (fun _ => []) (fun _ => []) (va_A (wX h0 a1 a2 a3 a4 a5 h6 s0 s1 s2 s3 t1 t2 t3 t4 t5) sz)) (va_A (wX h0 a1 a2 a3 a4 a5 h6 s0 s1 s2 s3 t1 t2 t3 t4 t5) sz)) 1 6 (va_A (wX h0 a1 a2 a3 a4 a5 h6 s0 s1 s2 s3 t1 t2 t3 t4 t5) sz) := by
  refine va_MetW (cc := cL_deliver) (maxL := 4) (ret := (some .int)) (hh := [(0, 16, 19, 24), (0, 16, 22, 26)]) (by decide) rfl ?_
  intro p e s m args below meth c s₁ B hml hv
  obtain ⟨rfl, hsz, hP, hK, hD0, hG⟩ := hv
  have hx := B.exec
  have hb := B.bytes
  have hr := B.returns
  have hlocks := B.notSynchronized
  have hts := atoms_spec (ws := wsW ⟨"FoundrymarkLaw", "deliver", "(LFoundrymark;I[J)I"⟩ cL_deliver 4 (some .int) [(0, 16, 19, 24), (0, 16, 22, 26)]) B.pre
  have hta : ∀ w ∈ WA, w.before _ s = true := fun w h => hts w (List.mem_cons_of_mem _ h)
  have hown : s.vm.findClass "FoundrymarkLaw" = some m.cls := findClass_of_methodNamed B.named
  have htab := vx_table (x := ⟨"FoundrymarkLaw", "deliver", "(LFoundrymark;I[J)I"⟩) B (hts _ List.mem_cons_self)
  subst hsz
  have hD : va_D (va_A (wX h0 a1 a2 a3 a4 a5 h6 s0 s1 s2 s3 t1 t2 t3 t4 t5) s.heap.size) (wX h0 a1 a2 a3 a4 a5 h6 s0 s1 s2 s3 t1 t2 t3 t4 t5) := hD0.self (sz := s.heap.size)
  generalize hAe : va_A (wX h0 a1 a2 a3 a4 a5 h6 s0 s1 s2 s3 t1 t2 t3 t4 t5) s.heap.size = A at hD hG ⊢
  have hA : ∀ q : Nat, s.heap.size ≤ q → A q := fun q h => by rw [← hAe]; exact Or.inr h
  have hS : va_S A s.heap s.heap [] := va_S.rf
  have hP : va_P D vwCl (wX h0 a1 a2 a3 a4 a5 h6 s0 s1 s2 s3 t1 t2 t3 t4 t5) s.heap := hP
  have hl := lv_entry ([.ref h0, .int x0, .ref o]) (n := 4) (Nat.le_of_ble_eq_true rfl)
  rw [lg_entry_eq]
  generalize (lg_sl ([.ref h0, .int x0, .ref o]) ++ List.replicate (4 - (lg_sl ([.ref h0, .int x0, .ref o])).length) Slot.unset).toArray = ls at hl ⊢
  have hl : lv_has ls 4 [(0, .ref h0), (1, .int x0), (2, .ref o)] := hl
  refine lv_aload_n hx hb dL_deliver_0 rfl (lv_at hl 2 rfl) ?_
  refine lv_iconst (v := 0) hx hb dL_deliver_1 (by decide) ?_
  refine lv_aload_n hx hb dL_deliver_2 rfl (lv_at hl 0 rfl) ?_
  refine lv_iload_n hx hb dL_deliver_3 rfl (lv_at hl 1 rfl) ?_
  have hPc := hP.sub (ws' := (wX h0 a1 a2 a3 a4 a5 h6 s0 s1 s2 s3 t1 t2 t3 t4 t5)) [0, 1, 2, 3, 4, 5, 6, 7, 8, 9, 10] rfl
  have hKc := hK.sub (tys' := (tX t1 t2 t3 t4 t5)) [0, 1, 2, 3, 4] rfl
  have hDc := hD.sub (ws' := (wX h0 a1 a2 a3 a4 a5 h6 s0 s1 s2 s3 t1 t2 t3 t4 t5)) [0, 1, 2, 3, 4, 5, 6, 7, 8, 9, 10] (by decide) rfl
  have hFc := va_free (wc := (wX h0 a1 a2 a3 a4 a5 h6 s0 s1 s2 s3 t1 t2 t3 t4 t5)) hD hS hA [0, 1, 2, 3, 4, 5, 6, 7, 8, 9, 10] rfl
  refine gX0 (isC := [0, 1, 2, 3, 4, 5, 6, 7, 8, 9, 10]) (isR := []) (wr := []) (vx_runV (As := [.int x0]) (rest := [.int 0, .ref o]) ⟨hx, hb, hml, hown, hta⟩ (c_X10_deliver l hl0) (cwV 1 hta (gWV mw332 mw333 mw334 mw10 mw331) rfl rfl rfl (by decide +kernel) ⟨Nat.le_of_ble_eq_true rfl, Nat.le_of_ble_eq_true rfl⟩) ⟨gS_blind, va_recv hKc hPc (ci := 15) (q0 := 0) rfl rfl, fun U hU hW => ⟨rfl, by rw [hU], by rw [hU]; exact hPc, va_K.moved hW.alike hKc, hDc.weaken (fun _ _ _ _ => trivial), hG.call hS hU hW hFc⟩⟩ rfl rfl hl.1 rfl (lv_room (Nat.le_of_ble_eq_true rfl)) dL_deliver_4 ⟨Nat.le_of_ble_eq_true rfl, Nat.le_of_ble_eq_true rfl⟩) hP hD hS hFc rfl rfl (by decide) (by decide) (fun E9 ce q9 u2 H locs h3 hz9 hP hD hS hc9 hv9 hcl9 => ?_)
  obtain ⟨_, rfl⟩ := h3
  refine vx_catch (own := "FoundrymarkLaw") (name := "java/lang/IndexOutOfBoundsException") hown [] ⟨0, 16, 19, 24⟩ [⟨0, 16, 22, 26⟩] (by rw [htab]; rfl) (fun z hz => absurd hz List.not_mem_nil) (by decide) (by decide) (hta _ mw270) (va_Nw.use rfl (hG.C ("java/lang/IndexOutOfBoundsException", "java/lang/IndexOutOfBoundsException") (by decide))) hc9 hv9 hcl9 ?_
  refine W.eq (g2 := F0 m 19 ls [.ref q9]) rfl ?_
  refine lv_astore_n (lv' := [(3, .ref q9), (0, .ref h0), (1, .int x0), (2, .ref o)]) hx hb dL_deliver_19 rfl hl (by decide) rfl (fun ls hl => ?_)
  refine lv_iconst (v := 1) hx hb dL_deliver_20 (by decide) ?_
  have hP9 := hP.sub (ws' := []) [] rfl
  have hD9 := hD.sub (ws' := []) [] (by decide) rfl
  have hK9 := hK.sub (tys' := []) [] rfl
  refine W.widen (k := 1) (n := 6) (Nat.le_of_ble_eq_true rfl) (Nat.le_of_ble_eq_true rfl) ?_
  exact W.iret (v := 1) hx hb hr (fun t ht hWm => ⟨⟨_, (), rfl, rfl, ⟨by rw [ht]; exact hP9, va_K.moved hWm.alike hK9, hD9⟩⟩, hS.F ht⟩) hS.2.2 dL_deliver_21

set_option maxHeartbeats 4000000 in
set_option maxRecDepth 100000 in
theorem c_L_stateOf (l : Launch) (hl0 : l.stackTraces = false) {D : va_G} {tE sz : Nat} {h0 a1 a2 a3 a4 a5 h6 s0 s1 s2 s3 : Nat} {t1 t2 t3 t4 t5 : ClassId} {o : Nat} {x0 : Int32} : Met l ⟨"FoundrymarkLaw", "stateOf", "(LFoundrymark;I[J)I"⟩ (wsW ⟨"FoundrymarkLaw", "stateOf", "(LFoundrymark;I[J)I"⟩ cL_stateOf 4 (some .int) [(0, 9, 12, 24)]) ({ frames := 8, cells := 1, slots := 6, locals := 141 }) (va_Pc [.ref h0, .int x0, .ref o] (gS tE D (wX h0 a1 a2 a3 a4 a5 h6 s0 s1 s2 s3 t1 t2 t3 t4 t5) (tX t1 t2 t3 t4 t5) sz)) (va_Qi (fun (r : Int32) (_ : Unit) => r = 1) (gO D (fun _ => []) (fun _ => []) (va_A (wX h0 a1 a2 a3 a4 a5 h6 s0 s1 s2 s3 t1 t2 t3 t4 t5) sz)) (va_A (wX h0 a1 a2 a3 a4 a5 h6 s0 s1 s2 s3 t1 t2 t3 t4 t5) sz)) 1 6 (va_A (wX h0 a1 a2 a3 a4 a5 h6 s0 s1 s2 s3 t1 t2 t3 t4 t5) sz) := by
  refine va_MetW (cc := cL_stateOf) (maxL := 4) (ret := (some .int)) (hh := [(0, 9, 12, 24)]) (by decide) rfl ?_
  intro p e s m args below meth c s₁ B hml hv
  obtain ⟨rfl, hsz, hP, hK, hD0, hG⟩ := hv
  have hx := B.exec
  have hb := B.bytes
  have hr := B.returns
  have hlocks := B.notSynchronized
  have hts := atoms_spec (ws := wsW ⟨"FoundrymarkLaw", "stateOf", "(LFoundrymark;I[J)I"⟩ cL_stateOf 4 (some .int) [(0, 9, 12, 24)]) B.pre
  have hta : ∀ w ∈ WA, w.before _ s = true := fun w h => hts w (List.mem_cons_of_mem _ h)
  have hown : s.vm.findClass "FoundrymarkLaw" = some m.cls := findClass_of_methodNamed B.named
  have htab := vx_table (x := ⟨"FoundrymarkLaw", "stateOf", "(LFoundrymark;I[J)I"⟩) B (hts _ List.mem_cons_self)
  subst hsz
  have hD : va_D (va_A (wX h0 a1 a2 a3 a4 a5 h6 s0 s1 s2 s3 t1 t2 t3 t4 t5) s.heap.size) (wX h0 a1 a2 a3 a4 a5 h6 s0 s1 s2 s3 t1 t2 t3 t4 t5) := hD0.self (sz := s.heap.size)
  generalize hAe : va_A (wX h0 a1 a2 a3 a4 a5 h6 s0 s1 s2 s3 t1 t2 t3 t4 t5) s.heap.size = A at hD hG ⊢
  have hA : ∀ q : Nat, s.heap.size ≤ q → A q := fun q h => by rw [← hAe]; exact Or.inr h
  have hS : va_S A s.heap s.heap [] := va_S.rf
  have hP : va_P D vwCl (wX h0 a1 a2 a3 a4 a5 h6 s0 s1 s2 s3 t1 t2 t3 t4 t5) s.heap := hP
  have hl := lv_entry ([.ref h0, .int x0, .ref o]) (n := 4) (Nat.le_of_ble_eq_true rfl)
  rw [lg_entry_eq]
  generalize (lg_sl ([.ref h0, .int x0, .ref o]) ++ List.replicate (4 - (lg_sl ([.ref h0, .int x0, .ref o])).length) Slot.unset).toArray = ls at hl ⊢
  have hl : lv_has ls 4 [(0, .ref h0), (1, .int x0), (2, .ref o)] := hl
  refine lv_aload_n hx hb dL_stateOf_0 rfl (lv_at hl 2 rfl) ?_
  refine lv_iconst (v := 0) hx hb dL_stateOf_1 (by decide) ?_
  refine lv_aload_n hx hb dL_stateOf_2 rfl (lv_at hl 0 rfl) ?_
  refine lv_iload_n hx hb dL_stateOf_3 rfl (lv_at hl 1 rfl) ?_
  have hPc := hP.sub (ws' := (wX h0 a1 a2 a3 a4 a5 h6 s0 s1 s2 s3 t1 t2 t3 t4 t5)) [0, 1, 2, 3, 4, 5, 6, 7, 8, 9, 10] rfl
  have hKc := hK.sub (tys' := (tX t1 t2 t3 t4 t5)) [0, 1, 2, 3, 4] rfl
  have hDc := hD.sub (ws' := (wX h0 a1 a2 a3 a4 a5 h6 s0 s1 s2 s3 t1 t2 t3 t4 t5)) [0, 1, 2, 3, 4, 5, 6, 7, 8, 9, 10] (by decide) rfl
  have hFc := va_free (wc := (wX h0 a1 a2 a3 a4 a5 h6 s0 s1 s2 s3 t1 t2 t3 t4 t5)) hD hS hA [0, 1, 2, 3, 4, 5, 6, 7, 8, 9, 10] rfl
  refine gX0 (isC := [0, 1, 2, 3, 4, 5, 6, 7, 8, 9, 10]) (isR := []) (wr := []) (vx_runV (As := [.int x0]) (rest := [.int 0, .ref o]) ⟨hx, hb, hml, hown, hta⟩ (c_X10_stateOf l hl0) (cwV 1 hta (gWV mw336 mw337 mw338 mw10 mw335) rfl rfl rfl (by decide +kernel) ⟨Nat.le_of_ble_eq_true rfl, Nat.le_of_ble_eq_true rfl⟩) ⟨gS_blind, va_recv hKc hPc (ci := 15) (q0 := 0) rfl rfl, fun U hU hW => ⟨rfl, by rw [hU], by rw [hU]; exact hPc, va_K.moved hW.alike hKc, hDc.weaken (fun _ _ _ _ => trivial), hG.call hS hU hW hFc⟩⟩ rfl rfl hl.1 rfl (lv_room (Nat.le_of_ble_eq_true rfl)) dL_stateOf_4 ⟨Nat.le_of_ble_eq_true rfl, Nat.le_of_ble_eq_true rfl⟩) hP hD hS hFc rfl rfl (by decide) (by decide) (fun E9 ce q9 u2 H locs h3 hz9 hP hD hS hc9 hv9 hcl9 => ?_)
  obtain ⟨_, rfl⟩ := h3
  refine vx_catch (own := "FoundrymarkLaw") (name := "java/lang/IndexOutOfBoundsException") hown [] ⟨0, 9, 12, 24⟩ [] (by rw [htab]; rfl) (fun z hz => absurd hz List.not_mem_nil) (by decide) (by decide) (hta _ mw270) (va_Nw.use rfl (hG.C ("java/lang/IndexOutOfBoundsException", "java/lang/IndexOutOfBoundsException") (by decide))) hc9 hv9 hcl9 ?_
  refine W.eq (g2 := F0 m 12 ls [.ref q9]) rfl ?_
  refine lv_astore_n (lv' := [(3, .ref q9), (0, .ref h0), (1, .int x0), (2, .ref o)]) hx hb dL_stateOf_12 rfl hl (by decide) rfl (fun ls hl => ?_)
  refine lv_iconst (v := 1) hx hb dL_stateOf_13 (by decide) ?_
  have hP9 := hP.sub (ws' := []) [] rfl
  have hD9 := hD.sub (ws' := []) [] (by decide) rfl
  have hK9 := hK.sub (tys' := []) [] rfl
  refine W.widen (k := 1) (n := 6) (Nat.le_of_ble_eq_true rfl) (Nat.le_of_ble_eq_true rfl) ?_
  exact W.iret (v := 1) hx hb hr (fun t ht hWm => ⟨⟨_, (), rfl, rfl, ⟨by rw [ht]; exact hP9, va_K.moved hWm.alike hK9, hD9⟩⟩, hS.F ht⟩) hS.2.2 dL_stateOf_14

set_option maxHeartbeats 4000000 in
set_option maxRecDepth 100000 in
theorem c_L_lotOf (l : Launch) (hl0 : l.stackTraces = false) {D : va_G} {tE sz : Nat} {h0 a1 a2 a3 a4 a5 h6 s0 s1 s2 s3 : Nat} {t1 t2 t3 t4 t5 : ClassId} {o : Nat} {x0 : Int32} : Met l ⟨"FoundrymarkLaw", "lotOf", "(LFoundrymark;I[J)I"⟩ (wsW ⟨"FoundrymarkLaw", "lotOf", "(LFoundrymark;I[J)I"⟩ cL_lotOf 4 (some .int) [(0, 9, 12, 24), (0, 9, 15, 97)]) ({ frames := 8, cells := 1, slots := 6, locals := 143 }) (va_Pc [.ref h0, .int x0, .ref o] (gS tE D (wX h0 a1 a2 a3 a4 a5 h6 s0 s1 s2 s3 t1 t2 t3 t4 t5) (tX t1 t2 t3 t4 t5) sz)) (va_Qi (fun (r : Int32) (_ : Unit) => r = 1) (gO D (fun _ => []) (fun _ => []) (va_A (wX h0 a1 a2 a3 a4 a5 h6 s0 s1 s2 s3 t1 t2 t3 t4 t5) sz)) (va_A (wX h0 a1 a2 a3 a4 a5 h6 s0 s1 s2 s3 t1 t2 t3 t4 t5) sz)) 1 6 (va_A (wX h0 a1 a2 a3 a4 a5 h6 s0 s1 s2 s3 t1 t2 t3 t4 t5) sz) := by
  refine va_MetW (cc := cL_lotOf) (maxL := 4) (ret := (some .int)) (hh := [(0, 9, 12, 24), (0, 9, 15, 97)]) (by decide) rfl ?_
  intro p e s m args below meth c s₁ B hml hv
  obtain ⟨rfl, hsz, hP, hK, hD0, hG⟩ := hv
  have hx := B.exec
  have hb := B.bytes
  have hr := B.returns
  have hlocks := B.notSynchronized
  have hts := atoms_spec (ws := wsW ⟨"FoundrymarkLaw", "lotOf", "(LFoundrymark;I[J)I"⟩ cL_lotOf 4 (some .int) [(0, 9, 12, 24), (0, 9, 15, 97)]) B.pre
  have hta : ∀ w ∈ WA, w.before _ s = true := fun w h => hts w (List.mem_cons_of_mem _ h)
  have hown : s.vm.findClass "FoundrymarkLaw" = some m.cls := findClass_of_methodNamed B.named
  have htab := vx_table (x := ⟨"FoundrymarkLaw", "lotOf", "(LFoundrymark;I[J)I"⟩) B (hts _ List.mem_cons_self)
  subst hsz
  have hD : va_D (va_A (wX h0 a1 a2 a3 a4 a5 h6 s0 s1 s2 s3 t1 t2 t3 t4 t5) s.heap.size) (wX h0 a1 a2 a3 a4 a5 h6 s0 s1 s2 s3 t1 t2 t3 t4 t5) := hD0.self (sz := s.heap.size)
  generalize hAe : va_A (wX h0 a1 a2 a3 a4 a5 h6 s0 s1 s2 s3 t1 t2 t3 t4 t5) s.heap.size = A at hD hG ⊢
  have hA : ∀ q : Nat, s.heap.size ≤ q → A q := fun q h => by rw [← hAe]; exact Or.inr h
  have hS : va_S A s.heap s.heap [] := va_S.rf
  have hP : va_P D vwCl (wX h0 a1 a2 a3 a4 a5 h6 s0 s1 s2 s3 t1 t2 t3 t4 t5) s.heap := hP
  have hl := lv_entry ([.ref h0, .int x0, .ref o]) (n := 4) (Nat.le_of_ble_eq_true rfl)
  rw [lg_entry_eq]
  generalize (lg_sl ([.ref h0, .int x0, .ref o]) ++ List.replicate (4 - (lg_sl ([.ref h0, .int x0, .ref o])).length) Slot.unset).toArray = ls at hl ⊢
  have hl : lv_has ls 4 [(0, .ref h0), (1, .int x0), (2, .ref o)] := hl
  refine lv_aload_n hx hb dL_lotOf_0 rfl (lv_at hl 2 rfl) ?_
  refine lv_iconst (v := 0) hx hb dL_lotOf_1 (by decide) ?_
  refine lv_aload_n hx hb dL_lotOf_2 rfl (lv_at hl 0 rfl) ?_
  refine lv_iload_n hx hb dL_lotOf_3 rfl (lv_at hl 1 rfl) ?_
  have hPc := hP.sub (ws' := (wX h0 a1 a2 a3 a4 a5 h6 s0 s1 s2 s3 t1 t2 t3 t4 t5)) [0, 1, 2, 3, 4, 5, 6, 7, 8, 9, 10] rfl
  have hKc := hK.sub (tys' := (tX t1 t2 t3 t4 t5)) [0, 1, 2, 3, 4] rfl
  have hDc := hD.sub (ws' := (wX h0 a1 a2 a3 a4 a5 h6 s0 s1 s2 s3 t1 t2 t3 t4 t5)) [0, 1, 2, 3, 4, 5, 6, 7, 8, 9, 10] (by decide) rfl
  have hFc := va_free (wc := (wX h0 a1 a2 a3 a4 a5 h6 s0 s1 s2 s3 t1 t2 t3 t4 t5)) hD hS hA [0, 1, 2, 3, 4, 5, 6, 7, 8, 9, 10] rfl
  refine gX0 (isC := [0, 1, 2, 3, 4, 5, 6, 7, 8, 9, 10]) (isR := []) (wr := []) (vx_runV (As := [.int x0]) (rest := [.int 0, .ref o]) ⟨hx, hb, hml, hown, hta⟩ (c_X10_lotOf l hl0) (cwV 1 hta (gWV mw340 mw341 mw342 mw10 mw339) rfl rfl rfl (by decide +kernel) ⟨Nat.le_of_ble_eq_true rfl, Nat.le_of_ble_eq_true rfl⟩) ⟨gS_blind, va_recv hKc hPc (ci := 15) (q0 := 0) rfl rfl, fun U hU hW => ⟨rfl, by rw [hU], by rw [hU]; exact hPc, va_K.moved hW.alike hKc, hDc.weaken (fun _ _ _ _ => trivial), hG.call hS hU hW hFc⟩⟩ rfl rfl hl.1 rfl (lv_room (Nat.le_of_ble_eq_true rfl)) dL_lotOf_4 ⟨Nat.le_of_ble_eq_true rfl, Nat.le_of_ble_eq_true rfl⟩) hP hD hS hFc rfl rfl (by decide) (by decide) (fun E9 ce q9 u2 H locs h3 hz9 hP hD hS hc9 hv9 hcl9 => ?_)
  obtain ⟨_, rfl⟩ := h3
  refine vx_catch (own := "FoundrymarkLaw") (name := "java/lang/IndexOutOfBoundsException") hown [] ⟨0, 9, 12, 24⟩ [⟨0, 9, 15, 97⟩] (by rw [htab]; rfl) (fun z hz => absurd hz List.not_mem_nil) (by decide) (by decide) (hta _ mw270) (va_Nw.use rfl (hG.C ("java/lang/IndexOutOfBoundsException", "java/lang/IndexOutOfBoundsException") (by decide))) hc9 hv9 hcl9 ?_
  refine W.eq (g2 := F0 m 12 ls [.ref q9]) rfl ?_
  refine lv_astore_n (lv' := [(3, .ref q9), (0, .ref h0), (1, .int x0), (2, .ref o)]) hx hb dL_lotOf_12 rfl hl (by decide) rfl (fun ls hl => ?_)
  refine lv_iconst (v := 1) hx hb dL_lotOf_13 (by decide) ?_
  have hP9 := hP.sub (ws' := []) [] rfl
  have hD9 := hD.sub (ws' := []) [] (by decide) rfl
  have hK9 := hK.sub (tys' := []) [] rfl
  refine W.widen (k := 1) (n := 6) (Nat.le_of_ble_eq_true rfl) (Nat.le_of_ble_eq_true rfl) ?_
  exact W.iret (v := 1) hx hb hr (fun t ht hWm => ⟨⟨_, (), rfl, rfl, ⟨by rw [ht]; exact hP9, va_K.moved hWm.alike hK9, hD9⟩⟩, hS.F ht⟩) hS.2.2 dL_lotOf_14

set_option maxHeartbeats 4000000 in
set_option maxRecDepth 100000 in
theorem c_L_finishedAt (l : Launch) (hl0 : l.stackTraces = false) {D : va_G} {tE sz : Nat} {h0 a1 a2 a3 a4 a5 h6 s0 s1 s2 s3 : Nat} {t1 t2 t3 t4 t5 : ClassId} {o : Nat} {x0 : Int32} : Met l ⟨"FoundrymarkLaw", "finishedAt", "(LFoundrymark;I[J)I"⟩ (wsW ⟨"FoundrymarkLaw", "finishedAt", "(LFoundrymark;I[J)I"⟩ cL_finishedAt 4 (some .int) [(0, 9, 12, 24), (0, 9, 15, 97)]) ({ frames := 8, cells := 1, slots := 6, locals := 142 }) (va_Pc [.ref h0, .int x0, .ref o] (gS tE D (wX h0 a1 a2 a3 a4 a5 h6 s0 s1 s2 s3 t1 t2 t3 t4 t5) (tX t1 t2 t3 t4 t5) sz)) (va_Qi (fun (r : Int32) (_ : Unit) => r = 1) (gO D (fun _ => []) (fun _ => []) (va_A (wX h0 a1 a2 a3 a4 a5 h6 s0 s1 s2 s3 t1 t2 t3 t4 t5) sz)) (va_A (wX h0 a1 a2 a3 a4 a5 h6 s0 s1 s2 s3 t1 t2 t3 t4 t5) sz)) 1 6 (va_A (wX h0 a1 a2 a3 a4 a5 h6 s0 s1 s2 s3 t1 t2 t3 t4 t5) sz) := by
  refine va_MetW (cc := cL_finishedAt) (maxL := 4) (ret := (some .int)) (hh := [(0, 9, 12, 24), (0, 9, 15, 97)]) (by decide) rfl ?_
  intro p e s m args below meth c s₁ B hml hv
  obtain ⟨rfl, hsz, hP, hK, hD0, hG⟩ := hv
  have hx := B.exec
  have hb := B.bytes
  have hr := B.returns
  have hlocks := B.notSynchronized
  have hts := atoms_spec (ws := wsW ⟨"FoundrymarkLaw", "finishedAt", "(LFoundrymark;I[J)I"⟩ cL_finishedAt 4 (some .int) [(0, 9, 12, 24), (0, 9, 15, 97)]) B.pre
  have hta : ∀ w ∈ WA, w.before _ s = true := fun w h => hts w (List.mem_cons_of_mem _ h)
  have hown : s.vm.findClass "FoundrymarkLaw" = some m.cls := findClass_of_methodNamed B.named
  have htab := vx_table (x := ⟨"FoundrymarkLaw", "finishedAt", "(LFoundrymark;I[J)I"⟩) B (hts _ List.mem_cons_self)
  subst hsz
  have hD : va_D (va_A (wX h0 a1 a2 a3 a4 a5 h6 s0 s1 s2 s3 t1 t2 t3 t4 t5) s.heap.size) (wX h0 a1 a2 a3 a4 a5 h6 s0 s1 s2 s3 t1 t2 t3 t4 t5) := hD0.self (sz := s.heap.size)
  generalize hAe : va_A (wX h0 a1 a2 a3 a4 a5 h6 s0 s1 s2 s3 t1 t2 t3 t4 t5) s.heap.size = A at hD hG ⊢
  have hA : ∀ q : Nat, s.heap.size ≤ q → A q := fun q h => by rw [← hAe]; exact Or.inr h
  have hS : va_S A s.heap s.heap [] := va_S.rf
  have hP : va_P D vwCl (wX h0 a1 a2 a3 a4 a5 h6 s0 s1 s2 s3 t1 t2 t3 t4 t5) s.heap := hP
  have hl := lv_entry ([.ref h0, .int x0, .ref o]) (n := 4) (Nat.le_of_ble_eq_true rfl)
  rw [lg_entry_eq]
  generalize (lg_sl ([.ref h0, .int x0, .ref o]) ++ List.replicate (4 - (lg_sl ([.ref h0, .int x0, .ref o])).length) Slot.unset).toArray = ls at hl ⊢
  have hl : lv_has ls 4 [(0, .ref h0), (1, .int x0), (2, .ref o)] := hl
  refine lv_aload_n hx hb dL_finishedAt_0 rfl (lv_at hl 2 rfl) ?_
  refine lv_iconst (v := 0) hx hb dL_finishedAt_1 (by decide) ?_
  refine lv_aload_n hx hb dL_finishedAt_2 rfl (lv_at hl 0 rfl) ?_
  refine lv_iload_n hx hb dL_finishedAt_3 rfl (lv_at hl 1 rfl) ?_
  have hPc := hP.sub (ws' := (wX h0 a1 a2 a3 a4 a5 h6 s0 s1 s2 s3 t1 t2 t3 t4 t5)) [0, 1, 2, 3, 4, 5, 6, 7, 8, 9, 10] rfl
  have hKc := hK.sub (tys' := (tX t1 t2 t3 t4 t5)) [0, 1, 2, 3, 4] rfl
  have hDc := hD.sub (ws' := (wX h0 a1 a2 a3 a4 a5 h6 s0 s1 s2 s3 t1 t2 t3 t4 t5)) [0, 1, 2, 3, 4, 5, 6, 7, 8, 9, 10] (by decide) rfl
  have hFc := va_free (wc := (wX h0 a1 a2 a3 a4 a5 h6 s0 s1 s2 s3 t1 t2 t3 t4 t5)) hD hS hA [0, 1, 2, 3, 4, 5, 6, 7, 8, 9, 10] rfl
  refine gX0 (isC := [0, 1, 2, 3, 4, 5, 6, 7, 8, 9, 10]) (isR := []) (wr := []) (vx_runV (As := [.int x0]) (rest := [.int 0, .ref o]) ⟨hx, hb, hml, hown, hta⟩ (c_X10_finishedAt l hl0) (cwV 1 hta (gWV mw344 mw345 mw346 mw10 mw343) rfl rfl rfl (by decide +kernel) ⟨Nat.le_of_ble_eq_true rfl, Nat.le_of_ble_eq_true rfl⟩) ⟨gS_blind, va_recv hKc hPc (ci := 15) (q0 := 0) rfl rfl, fun U hU hW => ⟨rfl, by rw [hU], by rw [hU]; exact hPc, va_K.moved hW.alike hKc, hDc.weaken (fun _ _ _ _ => trivial), hG.call hS hU hW hFc⟩⟩ rfl rfl hl.1 rfl (lv_room (Nat.le_of_ble_eq_true rfl)) dL_finishedAt_4 ⟨Nat.le_of_ble_eq_true rfl, Nat.le_of_ble_eq_true rfl⟩) hP hD hS hFc rfl rfl (by decide) (by decide) (fun E9 ce q9 u2 H locs h3 hz9 hP hD hS hc9 hv9 hcl9 => ?_)
  obtain ⟨_, rfl⟩ := h3
  refine vx_catch (own := "FoundrymarkLaw") (name := "java/lang/IndexOutOfBoundsException") hown [] ⟨0, 9, 12, 24⟩ [⟨0, 9, 15, 97⟩] (by rw [htab]; rfl) (fun z hz => absurd hz List.not_mem_nil) (by decide) (by decide) (hta _ mw270) (va_Nw.use rfl (hG.C ("java/lang/IndexOutOfBoundsException", "java/lang/IndexOutOfBoundsException") (by decide))) hc9 hv9 hcl9 ?_
  refine W.eq (g2 := F0 m 12 ls [.ref q9]) rfl ?_
  refine lv_astore_n (lv' := [(3, .ref q9), (0, .ref h0), (1, .int x0), (2, .ref o)]) hx hb dL_finishedAt_12 rfl hl (by decide) rfl (fun ls hl => ?_)
  refine lv_iconst (v := 1) hx hb dL_finishedAt_13 (by decide) ?_
  have hP9 := hP.sub (ws' := []) [] rfl
  have hD9 := hD.sub (ws' := []) [] (by decide) rfl
  have hK9 := hK.sub (tys' := []) [] rfl
  refine W.widen (k := 1) (n := 6) (Nat.le_of_ble_eq_true rfl) (Nat.le_of_ble_eq_true rfl) ?_
  exact W.iret (v := 1) hx hb hr (fun t ht hWm => ⟨⟨_, (), rfl, rfl, ⟨by rw [ht]; exact hP9, va_K.moved hWm.alike hK9, hD9⟩⟩, hS.F ht⟩) hS.2.2 dL_finishedAt_14

set_option maxHeartbeats 4000000 in
set_option maxRecDepth 100000 in
theorem c_L_machineIs (l : Launch) (hl0 : l.stackTraces = false) {D : va_G} {tE sz : Nat} {h0 a1 a2 a3 a4 a5 h6 s0 s1 s2 s3 : Nat} {t1 t2 t3 t4 t5 : ClassId} {o : Nat} {x0 : Int32} : Met l ⟨"FoundrymarkLaw", "machineIs", "(LFoundrymark;I[J)I"⟩ (wsW ⟨"FoundrymarkLaw", "machineIs", "(LFoundrymark;I[J)I"⟩ cL_machineIs 4 (some .int) [(0, 9, 12, 24)]) ({ frames := 8, cells := 1, slots := 6, locals := 141 }) (va_Pc [.ref h0, .int x0, .ref o] (gS tE D (wX h0 a1 a2 a3 a4 a5 h6 s0 s1 s2 s3 t1 t2 t3 t4 t5) (tX t1 t2 t3 t4 t5) sz)) (va_Qi (fun (r : Int32) (_ : Unit) => r = 1) (gO D (fun _ => []) (fun _ => []) (va_A (wX h0 a1 a2 a3 a4 a5 h6 s0 s1 s2 s3 t1 t2 t3 t4 t5) sz)) (va_A (wX h0 a1 a2 a3 a4 a5 h6 s0 s1 s2 s3 t1 t2 t3 t4 t5) sz)) 1 6 (va_A (wX h0 a1 a2 a3 a4 a5 h6 s0 s1 s2 s3 t1 t2 t3 t4 t5) sz) := by
  refine va_MetW (cc := cL_machineIs) (maxL := 4) (ret := (some .int)) (hh := [(0, 9, 12, 24)]) (by decide) rfl ?_
  intro p e s m args below meth c s₁ B hml hv
  obtain ⟨rfl, hsz, hP, hK, hD0, hG⟩ := hv
  have hx := B.exec
  have hb := B.bytes
  have hr := B.returns
  have hlocks := B.notSynchronized
  have hts := atoms_spec (ws := wsW ⟨"FoundrymarkLaw", "machineIs", "(LFoundrymark;I[J)I"⟩ cL_machineIs 4 (some .int) [(0, 9, 12, 24)]) B.pre
  have hta : ∀ w ∈ WA, w.before _ s = true := fun w h => hts w (List.mem_cons_of_mem _ h)
  have hown : s.vm.findClass "FoundrymarkLaw" = some m.cls := findClass_of_methodNamed B.named
  have htab := vx_table (x := ⟨"FoundrymarkLaw", "machineIs", "(LFoundrymark;I[J)I"⟩) B (hts _ List.mem_cons_self)
  subst hsz
  have hD : va_D (va_A (wX h0 a1 a2 a3 a4 a5 h6 s0 s1 s2 s3 t1 t2 t3 t4 t5) s.heap.size) (wX h0 a1 a2 a3 a4 a5 h6 s0 s1 s2 s3 t1 t2 t3 t4 t5) := hD0.self (sz := s.heap.size)
  generalize hAe : va_A (wX h0 a1 a2 a3 a4 a5 h6 s0 s1 s2 s3 t1 t2 t3 t4 t5) s.heap.size = A at hD hG ⊢
  have hA : ∀ q : Nat, s.heap.size ≤ q → A q := fun q h => by rw [← hAe]; exact Or.inr h
  have hS : va_S A s.heap s.heap [] := va_S.rf
  have hP : va_P D vwCl (wX h0 a1 a2 a3 a4 a5 h6 s0 s1 s2 s3 t1 t2 t3 t4 t5) s.heap := hP
  have hl := lv_entry ([.ref h0, .int x0, .ref o]) (n := 4) (Nat.le_of_ble_eq_true rfl)
  rw [lg_entry_eq]
  generalize (lg_sl ([.ref h0, .int x0, .ref o]) ++ List.replicate (4 - (lg_sl ([.ref h0, .int x0, .ref o])).length) Slot.unset).toArray = ls at hl ⊢
  have hl : lv_has ls 4 [(0, .ref h0), (1, .int x0), (2, .ref o)] := hl
  refine lv_aload_n hx hb dL_machineIs_0 rfl (lv_at hl 2 rfl) ?_
  refine lv_iconst (v := 0) hx hb dL_machineIs_1 (by decide) ?_
  refine lv_aload_n hx hb dL_machineIs_2 rfl (lv_at hl 0 rfl) ?_
  refine lv_iload_n hx hb dL_machineIs_3 rfl (lv_at hl 1 rfl) ?_
  have hPc := hP.sub (ws' := (wX h0 a1 a2 a3 a4 a5 h6 s0 s1 s2 s3 t1 t2 t3 t4 t5)) [0, 1, 2, 3, 4, 5, 6, 7, 8, 9, 10] rfl
  have hKc := hK.sub (tys' := (tX t1 t2 t3 t4 t5)) [0, 1, 2, 3, 4] rfl
  have hDc := hD.sub (ws' := (wX h0 a1 a2 a3 a4 a5 h6 s0 s1 s2 s3 t1 t2 t3 t4 t5)) [0, 1, 2, 3, 4, 5, 6, 7, 8, 9, 10] (by decide) rfl
  have hFc := va_free (wc := (wX h0 a1 a2 a3 a4 a5 h6 s0 s1 s2 s3 t1 t2 t3 t4 t5)) hD hS hA [0, 1, 2, 3, 4, 5, 6, 7, 8, 9, 10] rfl
  refine gX0 (isC := [0, 1, 2, 3, 4, 5, 6, 7, 8, 9, 10]) (isR := []) (wr := []) (vx_runV (As := [.int x0]) (rest := [.int 0, .ref o]) ⟨hx, hb, hml, hown, hta⟩ (c_X10_machineIs l hl0) (cwV 1 hta (gWV mw348 mw349 mw350 mw10 mw347) rfl rfl rfl (by decide +kernel) ⟨Nat.le_of_ble_eq_true rfl, Nat.le_of_ble_eq_true rfl⟩) ⟨gS_blind, va_recv hKc hPc (ci := 15) (q0 := 0) rfl rfl, fun U hU hW => ⟨rfl, by rw [hU], by rw [hU]; exact hPc, va_K.moved hW.alike hKc, hDc.weaken (fun _ _ _ _ => trivial), hG.call hS hU hW hFc⟩⟩ rfl rfl hl.1 rfl (lv_room (Nat.le_of_ble_eq_true rfl)) dL_machineIs_4 ⟨Nat.le_of_ble_eq_true rfl, Nat.le_of_ble_eq_true rfl⟩) hP hD hS hFc rfl rfl (by decide) (by decide) (fun E9 ce q9 u2 H locs h3 hz9 hP hD hS hc9 hv9 hcl9 => ?_)
  obtain ⟨_, rfl⟩ := h3
  refine vx_catch (own := "FoundrymarkLaw") (name := "java/lang/IndexOutOfBoundsException") hown [] ⟨0, 9, 12, 24⟩ [] (by rw [htab]; rfl) (fun z hz => absurd hz List.not_mem_nil) (by decide) (by decide) (hta _ mw270) (va_Nw.use rfl (hG.C ("java/lang/IndexOutOfBoundsException", "java/lang/IndexOutOfBoundsException") (by decide))) hc9 hv9 hcl9 ?_
  refine W.eq (g2 := F0 m 12 ls [.ref q9]) rfl ?_
  refine lv_astore_n (lv' := [(3, .ref q9), (0, .ref h0), (1, .int x0), (2, .ref o)]) hx hb dL_machineIs_12 rfl hl (by decide) rfl (fun ls hl => ?_)
  refine lv_iconst (v := 1) hx hb dL_machineIs_13 (by decide) ?_
  have hP9 := hP.sub (ws' := []) [] rfl
  have hD9 := hD.sub (ws' := []) [] (by decide) rfl
  have hK9 := hK.sub (tys' := []) [] rfl
  refine W.widen (k := 1) (n := 6) (Nat.le_of_ble_eq_true rfl) (Nat.le_of_ble_eq_true rfl) ?_
  exact W.iret (v := 1) hx hb hr (fun t ht hWm => ⟨⟨_, (), rfl, rfl, ⟨by rw [ht]; exact hP9, va_K.moved hWm.alike hK9, hD9⟩⟩, hS.F ht⟩) hS.2.2 dL_machineIs_14

set_option maxHeartbeats 4000000 in
set_option maxRecDepth 100000 in
theorem c_L_wear (l : Launch) (hl0 : l.stackTraces = false) {D : va_G} {tE sz : Nat} {h0 a1 a2 a3 a4 a5 h6 s0 s1 s2 s3 : Nat} {t1 t2 t3 t4 t5 : ClassId} {o : Nat} {x0 : Int32} : Met l ⟨"FoundrymarkLaw", "wear", "(LFoundrymark;I[J)I"⟩ (wsW ⟨"FoundrymarkLaw", "wear", "(LFoundrymark;I[J)I"⟩ cL_wear 4 (some .int) [(0, 9, 12, 24)]) ({ frames := 8, cells := 1, slots := 6, locals := 141 }) (va_Pc [.ref h0, .int x0, .ref o] (gS tE D (wX h0 a1 a2 a3 a4 a5 h6 s0 s1 s2 s3 t1 t2 t3 t4 t5) (tX t1 t2 t3 t4 t5) sz)) (va_Qi (fun (r : Int32) (_ : Unit) => r = 1) (gO D (fun _ => []) (fun _ => []) (va_A (wX h0 a1 a2 a3 a4 a5 h6 s0 s1 s2 s3 t1 t2 t3 t4 t5) sz)) (va_A (wX h0 a1 a2 a3 a4 a5 h6 s0 s1 s2 s3 t1 t2 t3 t4 t5) sz)) 1 6 (va_A (wX h0 a1 a2 a3 a4 a5 h6 s0 s1 s2 s3 t1 t2 t3 t4 t5) sz) := by
  refine va_MetW (cc := cL_wear) (maxL := 4) (ret := (some .int)) (hh := [(0, 9, 12, 24)]) (by decide) rfl ?_
  intro p e s m args below meth c s₁ B hml hv
  obtain ⟨rfl, hsz, hP, hK, hD0, hG⟩ := hv
  have hx := B.exec
  have hb := B.bytes
  have hr := B.returns
  have hlocks := B.notSynchronized
  have hts := atoms_spec (ws := wsW ⟨"FoundrymarkLaw", "wear", "(LFoundrymark;I[J)I"⟩ cL_wear 4 (some .int) [(0, 9, 12, 24)]) B.pre
  have hta : ∀ w ∈ WA, w.before _ s = true := fun w h => hts w (List.mem_cons_of_mem _ h)
  have hown : s.vm.findClass "FoundrymarkLaw" = some m.cls := findClass_of_methodNamed B.named
  have htab := vx_table (x := ⟨"FoundrymarkLaw", "wear", "(LFoundrymark;I[J)I"⟩) B (hts _ List.mem_cons_self)
  subst hsz
  have hD : va_D (va_A (wX h0 a1 a2 a3 a4 a5 h6 s0 s1 s2 s3 t1 t2 t3 t4 t5) s.heap.size) (wX h0 a1 a2 a3 a4 a5 h6 s0 s1 s2 s3 t1 t2 t3 t4 t5) := hD0.self (sz := s.heap.size)
  generalize hAe : va_A (wX h0 a1 a2 a3 a4 a5 h6 s0 s1 s2 s3 t1 t2 t3 t4 t5) s.heap.size = A at hD hG ⊢
  have hA : ∀ q : Nat, s.heap.size ≤ q → A q := fun q h => by rw [← hAe]; exact Or.inr h
  have hS : va_S A s.heap s.heap [] := va_S.rf
  have hP : va_P D vwCl (wX h0 a1 a2 a3 a4 a5 h6 s0 s1 s2 s3 t1 t2 t3 t4 t5) s.heap := hP
  have hl := lv_entry ([.ref h0, .int x0, .ref o]) (n := 4) (Nat.le_of_ble_eq_true rfl)
  rw [lg_entry_eq]
  generalize (lg_sl ([.ref h0, .int x0, .ref o]) ++ List.replicate (4 - (lg_sl ([.ref h0, .int x0, .ref o])).length) Slot.unset).toArray = ls at hl ⊢
  have hl : lv_has ls 4 [(0, .ref h0), (1, .int x0), (2, .ref o)] := hl
  refine lv_aload_n hx hb dL_wear_0 rfl (lv_at hl 2 rfl) ?_
  refine lv_iconst (v := 0) hx hb dL_wear_1 (by decide) ?_
  refine lv_aload_n hx hb dL_wear_2 rfl (lv_at hl 0 rfl) ?_
  refine lv_iload_n hx hb dL_wear_3 rfl (lv_at hl 1 rfl) ?_
  have hPc := hP.sub (ws' := (wX h0 a1 a2 a3 a4 a5 h6 s0 s1 s2 s3 t1 t2 t3 t4 t5)) [0, 1, 2, 3, 4, 5, 6, 7, 8, 9, 10] rfl
  have hKc := hK.sub (tys' := (tX t1 t2 t3 t4 t5)) [0, 1, 2, 3, 4] rfl
  have hDc := hD.sub (ws' := (wX h0 a1 a2 a3 a4 a5 h6 s0 s1 s2 s3 t1 t2 t3 t4 t5)) [0, 1, 2, 3, 4, 5, 6, 7, 8, 9, 10] (by decide) rfl
  have hFc := va_free (wc := (wX h0 a1 a2 a3 a4 a5 h6 s0 s1 s2 s3 t1 t2 t3 t4 t5)) hD hS hA [0, 1, 2, 3, 4, 5, 6, 7, 8, 9, 10] rfl
  refine gX0 (isC := [0, 1, 2, 3, 4, 5, 6, 7, 8, 9, 10]) (isR := []) (wr := []) (vx_runV (As := [.int x0]) (rest := [.int 0, .ref o]) ⟨hx, hb, hml, hown, hta⟩ (c_X10_wear l hl0) (cwV 1 hta (gWV mw352 mw353 mw354 mw10 mw351) rfl rfl rfl (by decide +kernel) ⟨Nat.le_of_ble_eq_true rfl, Nat.le_of_ble_eq_true rfl⟩) ⟨gS_blind, va_recv hKc hPc (ci := 15) (q0 := 0) rfl rfl, fun U hU hW => ⟨rfl, by rw [hU], by rw [hU]; exact hPc, va_K.moved hW.alike hKc, hDc.weaken (fun _ _ _ _ => trivial), hG.call hS hU hW hFc⟩⟩ rfl rfl hl.1 rfl (lv_room (Nat.le_of_ble_eq_true rfl)) dL_wear_4 ⟨Nat.le_of_ble_eq_true rfl, Nat.le_of_ble_eq_true rfl⟩) hP hD hS hFc rfl rfl (by decide) (by decide) (fun E9 ce q9 u2 H locs h3 hz9 hP hD hS hc9 hv9 hcl9 => ?_)
  obtain ⟨_, rfl⟩ := h3
  refine vx_catch (own := "FoundrymarkLaw") (name := "java/lang/IndexOutOfBoundsException") hown [] ⟨0, 9, 12, 24⟩ [] (by rw [htab]; rfl) (fun z hz => absurd hz List.not_mem_nil) (by decide) (by decide) (hta _ mw270) (va_Nw.use rfl (hG.C ("java/lang/IndexOutOfBoundsException", "java/lang/IndexOutOfBoundsException") (by decide))) hc9 hv9 hcl9 ?_
  refine W.eq (g2 := F0 m 12 ls [.ref q9]) rfl ?_
  refine lv_astore_n (lv' := [(3, .ref q9), (0, .ref h0), (1, .int x0), (2, .ref o)]) hx hb dL_wear_12 rfl hl (by decide) rfl (fun ls hl => ?_)
  refine lv_iconst (v := 1) hx hb dL_wear_13 (by decide) ?_
  have hP9 := hP.sub (ws' := []) [] rfl
  have hD9 := hD.sub (ws' := []) [] (by decide) rfl
  have hK9 := hK.sub (tys' := []) [] rfl
  refine W.widen (k := 1) (n := 6) (Nat.le_of_ble_eq_true rfl) (Nat.le_of_ble_eq_true rfl) ?_
  exact W.iret (v := 1) hx hb hr (fun t ht hWm => ⟨⟨_, (), rfl, rfl, ⟨by rw [ht]; exact hP9, va_K.moved hWm.alike hK9, hD9⟩⟩, hS.F ht⟩) hS.2.2 dL_wear_14

set_option maxHeartbeats 4000000 in
set_option maxRecDepth 100000 in
theorem c_L_waiting (l : Launch) (hl0 : l.stackTraces = false) {D : va_G} {tE sz : Nat} {h0 a1 a2 a3 a4 a5 h6 s0 s1 s2 s3 : Nat} {t1 t2 t3 t4 t5 : ClassId} {o : Nat} {x0 : Int32} : Met l ⟨"FoundrymarkLaw", "waiting", "(LFoundrymark;I[J)I"⟩ (wsW ⟨"FoundrymarkLaw", "waiting", "(LFoundrymark;I[J)I"⟩ cL_waiting 4 (some .int) [(0, 9, 12, 24)]) ({ frames := 8, cells := 1, slots := 6, locals := 141 }) (va_Pc [.ref h0, .int x0, .ref o] (gS tE D (wX h0 a1 a2 a3 a4 a5 h6 s0 s1 s2 s3 t1 t2 t3 t4 t5) (tX t1 t2 t3 t4 t5) sz)) (va_Qi (fun (r : Int32) (_ : Unit) => r = 1) (gO D (fun _ => []) (fun _ => []) (va_A (wX h0 a1 a2 a3 a4 a5 h6 s0 s1 s2 s3 t1 t2 t3 t4 t5) sz)) (va_A (wX h0 a1 a2 a3 a4 a5 h6 s0 s1 s2 s3 t1 t2 t3 t4 t5) sz)) 1 6 (va_A (wX h0 a1 a2 a3 a4 a5 h6 s0 s1 s2 s3 t1 t2 t3 t4 t5) sz) := by
  refine va_MetW (cc := cL_waiting) (maxL := 4) (ret := (some .int)) (hh := [(0, 9, 12, 24)]) (by decide) rfl ?_
  intro p e s m args below meth c s₁ B hml hv
  obtain ⟨rfl, hsz, hP, hK, hD0, hG⟩ := hv
  have hx := B.exec
  have hb := B.bytes
  have hr := B.returns
  have hlocks := B.notSynchronized
  have hts := atoms_spec (ws := wsW ⟨"FoundrymarkLaw", "waiting", "(LFoundrymark;I[J)I"⟩ cL_waiting 4 (some .int) [(0, 9, 12, 24)]) B.pre
  have hta : ∀ w ∈ WA, w.before _ s = true := fun w h => hts w (List.mem_cons_of_mem _ h)
  have hown : s.vm.findClass "FoundrymarkLaw" = some m.cls := findClass_of_methodNamed B.named
  have htab := vx_table (x := ⟨"FoundrymarkLaw", "waiting", "(LFoundrymark;I[J)I"⟩) B (hts _ List.mem_cons_self)
  subst hsz
  have hD : va_D (va_A (wX h0 a1 a2 a3 a4 a5 h6 s0 s1 s2 s3 t1 t2 t3 t4 t5) s.heap.size) (wX h0 a1 a2 a3 a4 a5 h6 s0 s1 s2 s3 t1 t2 t3 t4 t5) := hD0.self (sz := s.heap.size)
  generalize hAe : va_A (wX h0 a1 a2 a3 a4 a5 h6 s0 s1 s2 s3 t1 t2 t3 t4 t5) s.heap.size = A at hD hG ⊢
  have hA : ∀ q : Nat, s.heap.size ≤ q → A q := fun q h => by rw [← hAe]; exact Or.inr h
  have hS : va_S A s.heap s.heap [] := va_S.rf
  have hP : va_P D vwCl (wX h0 a1 a2 a3 a4 a5 h6 s0 s1 s2 s3 t1 t2 t3 t4 t5) s.heap := hP
  have hl := lv_entry ([.ref h0, .int x0, .ref o]) (n := 4) (Nat.le_of_ble_eq_true rfl)
  rw [lg_entry_eq]
  generalize (lg_sl ([.ref h0, .int x0, .ref o]) ++ List.replicate (4 - (lg_sl ([.ref h0, .int x0, .ref o])).length) Slot.unset).toArray = ls at hl ⊢
  have hl : lv_has ls 4 [(0, .ref h0), (1, .int x0), (2, .ref o)] := hl
  refine lv_aload_n hx hb dL_waiting_0 rfl (lv_at hl 2 rfl) ?_
  refine lv_iconst (v := 0) hx hb dL_waiting_1 (by decide) ?_
  refine lv_aload_n hx hb dL_waiting_2 rfl (lv_at hl 0 rfl) ?_
  refine lv_iload_n hx hb dL_waiting_3 rfl (lv_at hl 1 rfl) ?_
  have hPc := hP.sub (ws' := (wX h0 a1 a2 a3 a4 a5 h6 s0 s1 s2 s3 t1 t2 t3 t4 t5)) [0, 1, 2, 3, 4, 5, 6, 7, 8, 9, 10] rfl
  have hKc := hK.sub (tys' := (tX t1 t2 t3 t4 t5)) [0, 1, 2, 3, 4] rfl
  have hDc := hD.sub (ws' := (wX h0 a1 a2 a3 a4 a5 h6 s0 s1 s2 s3 t1 t2 t3 t4 t5)) [0, 1, 2, 3, 4, 5, 6, 7, 8, 9, 10] (by decide) rfl
  have hFc := va_free (wc := (wX h0 a1 a2 a3 a4 a5 h6 s0 s1 s2 s3 t1 t2 t3 t4 t5)) hD hS hA [0, 1, 2, 3, 4, 5, 6, 7, 8, 9, 10] rfl
  refine gX0 (isC := [0, 1, 2, 3, 4, 5, 6, 7, 8, 9, 10]) (isR := []) (wr := []) (vx_runV (As := [.int x0]) (rest := [.int 0, .ref o]) ⟨hx, hb, hml, hown, hta⟩ (c_X10_waiting l hl0) (cwV 1 hta (gWV mw356 mw357 mw358 mw10 mw355) rfl rfl rfl (by decide +kernel) ⟨Nat.le_of_ble_eq_true rfl, Nat.le_of_ble_eq_true rfl⟩) ⟨gS_blind, va_recv hKc hPc (ci := 15) (q0 := 0) rfl rfl, fun U hU hW => ⟨rfl, by rw [hU], by rw [hU]; exact hPc, va_K.moved hW.alike hKc, hDc.weaken (fun _ _ _ _ => trivial), hG.call hS hU hW hFc⟩⟩ rfl rfl hl.1 rfl (lv_room (Nat.le_of_ble_eq_true rfl)) dL_waiting_4 ⟨Nat.le_of_ble_eq_true rfl, Nat.le_of_ble_eq_true rfl⟩) hP hD hS hFc rfl rfl (by decide) (by decide) (fun E9 ce q9 u2 H locs h3 hz9 hP hD hS hc9 hv9 hcl9 => ?_)
  obtain ⟨_, rfl⟩ := h3
  refine vx_catch (own := "FoundrymarkLaw") (name := "java/lang/IndexOutOfBoundsException") hown [] ⟨0, 9, 12, 24⟩ [] (by rw [htab]; rfl) (fun z hz => absurd hz List.not_mem_nil) (by decide) (by decide) (hta _ mw270) (va_Nw.use rfl (hG.C ("java/lang/IndexOutOfBoundsException", "java/lang/IndexOutOfBoundsException") (by decide))) hc9 hv9 hcl9 ?_
  refine W.eq (g2 := F0 m 12 ls [.ref q9]) rfl ?_
  refine lv_astore_n (lv' := [(3, .ref q9), (0, .ref h0), (1, .int x0), (2, .ref o)]) hx hb dL_waiting_12 rfl hl (by decide) rfl (fun ls hl => ?_)
  refine lv_iconst (v := 1) hx hb dL_waiting_13 (by decide) ?_
  have hP9 := hP.sub (ws' := []) [] rfl
  have hD9 := hD.sub (ws' := []) [] (by decide) rfl
  have hK9 := hK.sub (tys' := []) [] rfl
  refine W.widen (k := 1) (n := 6) (Nat.le_of_ble_eq_true rfl) (Nat.le_of_ble_eq_true rfl) ?_
  exact W.iret (v := 1) hx hb hr (fun t ht hWm => ⟨⟨_, (), rfl, rfl, ⟨by rw [ht]; exact hP9, va_K.moved hWm.alike hK9, hD9⟩⟩, hS.F ht⟩) hS.2.2 dL_waiting_14

set_option maxHeartbeats 4000000 in
set_option maxRecDepth 100000 in
theorem c_L_isIn (l : Launch) (hl0 : l.stackTraces = false) {D : va_G} {tE sz : Nat} {h0 a1 a2 a3 a4 a5 h6 s0 s1 s2 s3 : Nat} {t1 t2 t3 t4 t5 : ClassId} {o : Nat} {x0 x1 : Int32} : Met l ⟨"FoundrymarkLaw", "isIn", "(LFoundrymark;II[J)I"⟩ (wsW ⟨"FoundrymarkLaw", "isIn", "(LFoundrymark;II[J)I"⟩ cL_isIn 5 (some .int) [(0, 17, 20, 24)]) ({ frames := 8, cells := 1, slots := 6, locals := 144 }) (va_Pc [.ref h0, .int x0, .int x1, .ref o] (gS tE D (wX h0 a1 a2 a3 a4 a5 h6 s0 s1 s2 s3 t1 t2 t3 t4 t5) (tX t1 t2 t3 t4 t5) sz)) (va_Qi (fun (r : Int32) (_ : Unit) => r = 1) (gO D (fun _ => []) (fun _ => []) (va_A (wX h0 a1 a2 a3 a4 a5 h6 s0 s1 s2 s3 t1 t2 t3 t4 t5) sz)) (va_A (wX h0 a1 a2 a3 a4 a5 h6 s0 s1 s2 s3 t1 t2 t3 t4 t5) sz)) 1 6 (va_A (wX h0 a1 a2 a3 a4 a5 h6 s0 s1 s2 s3 t1 t2 t3 t4 t5) sz) := by
  refine va_MetW (cc := cL_isIn) (maxL := 5) (ret := (some .int)) (hh := [(0, 17, 20, 24)]) (by decide) rfl ?_
  intro p e s m args below meth c s₁ B hml hv
  obtain ⟨rfl, hsz, hP, hK, hD0, hG⟩ := hv
  have hx := B.exec
  have hb := B.bytes
  have hr := B.returns
  have hlocks := B.notSynchronized
  have hts := atoms_spec (ws := wsW ⟨"FoundrymarkLaw", "isIn", "(LFoundrymark;II[J)I"⟩ cL_isIn 5 (some .int) [(0, 17, 20, 24)]) B.pre
  have hta : ∀ w ∈ WA, w.before _ s = true := fun w h => hts w (List.mem_cons_of_mem _ h)
  have hown : s.vm.findClass "FoundrymarkLaw" = some m.cls := findClass_of_methodNamed B.named
  have htab := vx_table (x := ⟨"FoundrymarkLaw", "isIn", "(LFoundrymark;II[J)I"⟩) B (hts _ List.mem_cons_self)
  subst hsz
  have hD : va_D (va_A (wX h0 a1 a2 a3 a4 a5 h6 s0 s1 s2 s3 t1 t2 t3 t4 t5) s.heap.size) (wX h0 a1 a2 a3 a4 a5 h6 s0 s1 s2 s3 t1 t2 t3 t4 t5) := hD0.self (sz := s.heap.size)
  generalize hAe : va_A (wX h0 a1 a2 a3 a4 a5 h6 s0 s1 s2 s3 t1 t2 t3 t4 t5) s.heap.size = A at hD hG ⊢
  have hA : ∀ q : Nat, s.heap.size ≤ q → A q := fun q h => by rw [← hAe]; exact Or.inr h
  have hS : va_S A s.heap s.heap [] := va_S.rf
  have hP : va_P D vwCl (wX h0 a1 a2 a3 a4 a5 h6 s0 s1 s2 s3 t1 t2 t3 t4 t5) s.heap := hP
  have hl := lv_entry ([.ref h0, .int x0, .int x1, .ref o]) (n := 5) (Nat.le_of_ble_eq_true rfl)
  rw [lg_entry_eq]
  generalize (lg_sl ([.ref h0, .int x0, .int x1, .ref o]) ++ List.replicate (5 - (lg_sl ([.ref h0, .int x0, .int x1, .ref o])).length) Slot.unset).toArray = ls at hl ⊢
  have hl : lv_has ls 5 [(0, .ref h0), (1, .int x0), (2, .int x1), (3, .ref o)] := hl
  refine lv_aload_n hx hb dL_isIn_0 rfl (lv_at hl 3 rfl) ?_
  refine lv_iconst (v := 0) hx hb dL_isIn_1 (by decide) ?_
  refine lv_aload_n hx hb dL_isIn_2 rfl (lv_at hl 0 rfl) ?_
  refine lv_iload_n hx hb dL_isIn_3 rfl (lv_at hl 1 rfl) ?_
  refine lv_iload_n hx hb dL_isIn_4 rfl (lv_at hl 2 rfl) ?_
  have hPc := hP.sub (ws' := (wX h0 a1 a2 a3 a4 a5 h6 s0 s1 s2 s3 t1 t2 t3 t4 t5)) [0, 1, 2, 3, 4, 5, 6, 7, 8, 9, 10] rfl
  have hKc := hK.sub (tys' := (tX t1 t2 t3 t4 t5)) [0, 1, 2, 3, 4] rfl
  have hDc := hD.sub (ws' := (wX h0 a1 a2 a3 a4 a5 h6 s0 s1 s2 s3 t1 t2 t3 t4 t5)) [0, 1, 2, 3, 4, 5, 6, 7, 8, 9, 10] (by decide) rfl
  have hFc := va_free (wc := (wX h0 a1 a2 a3 a4 a5 h6 s0 s1 s2 s3 t1 t2 t3 t4 t5)) hD hS hA [0, 1, 2, 3, 4, 5, 6, 7, 8, 9, 10] rfl
  refine gX0 (isC := [0, 1, 2, 3, 4, 5, 6, 7, 8, 9, 10]) (isR := []) (wr := []) (vx_runV (As := [.int x0, .int x1]) (rest := [.int 0, .ref o]) ⟨hx, hb, hml, hown, hta⟩ (c_X10_isIn l hl0) (cwV 2 hta (gWV mw360 mw361 mw362 mw10 mw359) rfl rfl rfl (by decide +kernel) ⟨Nat.le_of_ble_eq_true rfl, Nat.le_of_ble_eq_true rfl⟩) ⟨gS_blind, va_recv hKc hPc (ci := 15) (q0 := 0) rfl rfl, fun U hU hW => ⟨rfl, by rw [hU], by rw [hU]; exact hPc, va_K.moved hW.alike hKc, hDc.weaken (fun _ _ _ _ => trivial), hG.call hS hU hW hFc⟩⟩ rfl rfl hl.1 rfl (lv_room (Nat.le_of_ble_eq_true rfl)) dL_isIn_5 ⟨Nat.le_of_ble_eq_true rfl, Nat.le_of_ble_eq_true rfl⟩) hP hD hS hFc rfl rfl (by decide) (by decide) (fun E9 ce q9 u2 H locs h3 hz9 hP hD hS hc9 hv9 hcl9 => ?_)
  obtain ⟨_, rfl⟩ := h3
  refine vx_catch (own := "FoundrymarkLaw") (name := "java/lang/IndexOutOfBoundsException") hown [] ⟨0, 17, 20, 24⟩ [] (by rw [htab]; rfl) (fun z hz => absurd hz List.not_mem_nil) (by decide) (by decide) (hta _ mw270) (va_Nw.use rfl (hG.C ("java/lang/IndexOutOfBoundsException", "java/lang/IndexOutOfBoundsException") (by decide))) hc9 hv9 hcl9 ?_
  refine W.eq (g2 := F0 m 20 ls [.ref q9]) rfl ?_
  refine lv_astore (lv' := [(4, .ref q9), (0, .ref h0), (1, .int x0), (2, .int x1), (3, .ref o)]) hx hb dL_isIn_20 hl (by decide) rfl (fun ls hl => ?_)
  refine lv_iconst (v := 1) hx hb dL_isIn_22 (by decide) ?_
  have hP9 := hP.sub (ws' := []) [] rfl
  have hD9 := hD.sub (ws' := []) [] (by decide) rfl
  have hK9 := hK.sub (tys' := []) [] rfl
  refine W.widen (k := 1) (n := 6) (Nat.le_of_ble_eq_true rfl) (Nat.le_of_ble_eq_true rfl) ?_
  exact W.iret (v := 1) hx hb hr (fun t ht hWm => ⟨⟨_, (), rfl, rfl, ⟨by rw [ht]; exact hP9, va_K.moved hWm.alike hK9, hD9⟩⟩, hS.F ht⟩) hS.2.2 dL_isIn_23

set_option maxHeartbeats 4000000 in
set_option maxRecDepth 100000 in
theorem c_L_touched (l : Launch) (hl0 : l.stackTraces = false) {D : va_G} {tE sz : Nat} {h0 a1 a2 a3 a4 a5 h6 s0 s1 s2 s3 : Nat} {t1 t2 t3 t4 t5 : ClassId} {o : Nat} {x0 : Int32} : Met l ⟨"FoundrymarkLaw", "touched", "(LFoundrymark;I[J)I"⟩ (wsW ⟨"FoundrymarkLaw", "touched", "(LFoundrymark;I[J)I"⟩ cL_touched 4 (some .int) [(0, 9, 12, 24)]) ({ frames := 8, cells := 1, slots := 6, locals := 141 }) (va_Pc [.ref h0, .int x0, .ref o] (gS tE D (wX h0 a1 a2 a3 a4 a5 h6 s0 s1 s2 s3 t1 t2 t3 t4 t5) (tX t1 t2 t3 t4 t5) sz)) (va_Qi (fun (r : Int32) (_ : Unit) => r = 1) (gO D (fun _ => []) (fun _ => []) (va_A (wX h0 a1 a2 a3 a4 a5 h6 s0 s1 s2 s3 t1 t2 t3 t4 t5) sz)) (va_A (wX h0 a1 a2 a3 a4 a5 h6 s0 s1 s2 s3 t1 t2 t3 t4 t5) sz)) 1 6 (va_A (wX h0 a1 a2 a3 a4 a5 h6 s0 s1 s2 s3 t1 t2 t3 t4 t5) sz) := by
  refine va_MetW (cc := cL_touched) (maxL := 4) (ret := (some .int)) (hh := [(0, 9, 12, 24)]) (by decide) rfl ?_
  intro p e s m args below meth c s₁ B hml hv
  obtain ⟨rfl, hsz, hP, hK, hD0, hG⟩ := hv
  have hx := B.exec
  have hb := B.bytes
  have hr := B.returns
  have hlocks := B.notSynchronized
  have hts := atoms_spec (ws := wsW ⟨"FoundrymarkLaw", "touched", "(LFoundrymark;I[J)I"⟩ cL_touched 4 (some .int) [(0, 9, 12, 24)]) B.pre
  have hta : ∀ w ∈ WA, w.before _ s = true := fun w h => hts w (List.mem_cons_of_mem _ h)
  have hown : s.vm.findClass "FoundrymarkLaw" = some m.cls := findClass_of_methodNamed B.named
  have htab := vx_table (x := ⟨"FoundrymarkLaw", "touched", "(LFoundrymark;I[J)I"⟩) B (hts _ List.mem_cons_self)
  subst hsz
  have hD : va_D (va_A (wX h0 a1 a2 a3 a4 a5 h6 s0 s1 s2 s3 t1 t2 t3 t4 t5) s.heap.size) (wX h0 a1 a2 a3 a4 a5 h6 s0 s1 s2 s3 t1 t2 t3 t4 t5) := hD0.self (sz := s.heap.size)
  generalize hAe : va_A (wX h0 a1 a2 a3 a4 a5 h6 s0 s1 s2 s3 t1 t2 t3 t4 t5) s.heap.size = A at hD hG ⊢
  have hA : ∀ q : Nat, s.heap.size ≤ q → A q := fun q h => by rw [← hAe]; exact Or.inr h
  have hS : va_S A s.heap s.heap [] := va_S.rf
  have hP : va_P D vwCl (wX h0 a1 a2 a3 a4 a5 h6 s0 s1 s2 s3 t1 t2 t3 t4 t5) s.heap := hP
  have hl := lv_entry ([.ref h0, .int x0, .ref o]) (n := 4) (Nat.le_of_ble_eq_true rfl)
  rw [lg_entry_eq]
  generalize (lg_sl ([.ref h0, .int x0, .ref o]) ++ List.replicate (4 - (lg_sl ([.ref h0, .int x0, .ref o])).length) Slot.unset).toArray = ls at hl ⊢
  have hl : lv_has ls 4 [(0, .ref h0), (1, .int x0), (2, .ref o)] := hl
  refine lv_aload_n hx hb dL_touched_0 rfl (lv_at hl 2 rfl) ?_
  refine lv_iconst (v := 0) hx hb dL_touched_1 (by decide) ?_
  refine lv_aload_n hx hb dL_touched_2 rfl (lv_at hl 0 rfl) ?_
  refine lv_iload_n hx hb dL_touched_3 rfl (lv_at hl 1 rfl) ?_
  have hPc := hP.sub (ws' := (wX h0 a1 a2 a3 a4 a5 h6 s0 s1 s2 s3 t1 t2 t3 t4 t5)) [0, 1, 2, 3, 4, 5, 6, 7, 8, 9, 10] rfl
  have hKc := hK.sub (tys' := (tX t1 t2 t3 t4 t5)) [0, 1, 2, 3, 4] rfl
  have hDc := hD.sub (ws' := (wX h0 a1 a2 a3 a4 a5 h6 s0 s1 s2 s3 t1 t2 t3 t4 t5)) [0, 1, 2, 3, 4, 5, 6, 7, 8, 9, 10] (by decide) rfl
  have hFc := va_free (wc := (wX h0 a1 a2 a3 a4 a5 h6 s0 s1 s2 s3 t1 t2 t3 t4 t5)) hD hS hA [0, 1, 2, 3, 4, 5, 6, 7, 8, 9, 10] rfl
  refine gX0 (isC := [0, 1, 2, 3, 4, 5, 6, 7, 8, 9, 10]) (isR := []) (wr := []) (vx_runV (As := [.int x0]) (rest := [.int 0, .ref o]) ⟨hx, hb, hml, hown, hta⟩ (c_X10_touched l hl0) (cwV 1 hta (gWV mw364 mw365 mw366 mw10 mw363) rfl rfl rfl (by decide +kernel) ⟨Nat.le_of_ble_eq_true rfl, Nat.le_of_ble_eq_true rfl⟩) ⟨gS_blind, va_recv hKc hPc (ci := 15) (q0 := 0) rfl rfl, fun U hU hW => ⟨rfl, by rw [hU], by rw [hU]; exact hPc, va_K.moved hW.alike hKc, hDc.weaken (fun _ _ _ _ => trivial), hG.call hS hU hW hFc⟩⟩ rfl rfl hl.1 rfl (lv_room (Nat.le_of_ble_eq_true rfl)) dL_touched_4 ⟨Nat.le_of_ble_eq_true rfl, Nat.le_of_ble_eq_true rfl⟩) hP hD hS hFc rfl rfl (by decide) (by decide) (fun E9 ce q9 u2 H locs h3 hz9 hP hD hS hc9 hv9 hcl9 => ?_)
  obtain ⟨_, rfl⟩ := h3
  refine vx_catch (own := "FoundrymarkLaw") (name := "java/lang/IndexOutOfBoundsException") hown [] ⟨0, 9, 12, 24⟩ [] (by rw [htab]; rfl) (fun z hz => absurd hz List.not_mem_nil) (by decide) (by decide) (hta _ mw270) (va_Nw.use rfl (hG.C ("java/lang/IndexOutOfBoundsException", "java/lang/IndexOutOfBoundsException") (by decide))) hc9 hv9 hcl9 ?_
  refine W.eq (g2 := F0 m 12 ls [.ref q9]) rfl ?_
  refine lv_astore_n (lv' := [(3, .ref q9), (0, .ref h0), (1, .int x0), (2, .ref o)]) hx hb dL_touched_12 rfl hl (by decide) rfl (fun ls hl => ?_)
  refine lv_iconst (v := 1) hx hb dL_touched_13 (by decide) ?_
  have hP9 := hP.sub (ws' := []) [] rfl
  have hD9 := hD.sub (ws' := []) [] (by decide) rfl
  have hK9 := hK.sub (tys' := []) [] rfl
  refine W.widen (k := 1) (n := 6) (Nat.le_of_ble_eq_true rfl) (Nat.le_of_ble_eq_true rfl) ?_
  exact W.iret (v := 1) hx hb hr (fun t ht hWm => ⟨⟨_, (), rfl, rfl, ⟨by rw [ht]; exact hP9, va_K.moved hWm.alike hK9, hD9⟩⟩, hS.F ht⟩) hS.2.2 dL_touched_14

set_option maxHeartbeats 4000000 in
set_option maxRecDepth 100000 in
theorem c_L_lotsIn (l : Launch) (hl0 : l.stackTraces = false) {D : va_G} {tE sz : Nat} {h0 a1 a2 a3 a4 a5 h6 s0 s1 s2 s3 : Nat} {t1 t2 t3 t4 t5 : ClassId} {o : Nat} {x0 : Int32} : Met l ⟨"FoundrymarkLaw", "lotsIn", "(LFoundrymark;I[J)I"⟩ (wsW ⟨"FoundrymarkLaw", "lotsIn", "(LFoundrymark;I[J)I"⟩ cL_lotsIn 4 (some .int) [(0, 9, 12, 24)]) ({ frames := 8, cells := 1, slots := 6, locals := 141 }) (va_Pc [.ref h0, .int x0, .ref o] (gS tE D (wX h0 a1 a2 a3 a4 a5 h6 s0 s1 s2 s3 t1 t2 t3 t4 t5) (tX t1 t2 t3 t4 t5) sz)) (va_Qi (fun (r : Int32) (_ : Unit) => r = 1) (gO D (fun _ => []) (fun _ => []) (va_A (wX h0 a1 a2 a3 a4 a5 h6 s0 s1 s2 s3 t1 t2 t3 t4 t5) sz)) (va_A (wX h0 a1 a2 a3 a4 a5 h6 s0 s1 s2 s3 t1 t2 t3 t4 t5) sz)) 1 6 (va_A (wX h0 a1 a2 a3 a4 a5 h6 s0 s1 s2 s3 t1 t2 t3 t4 t5) sz) := by
  refine va_MetW (cc := cL_lotsIn) (maxL := 4) (ret := (some .int)) (hh := [(0, 9, 12, 24)]) (by decide) rfl ?_
  intro p e s m args below meth c s₁ B hml hv
  obtain ⟨rfl, hsz, hP, hK, hD0, hG⟩ := hv
  have hx := B.exec
  have hb := B.bytes
  have hr := B.returns
  have hlocks := B.notSynchronized
  have hts := atoms_spec (ws := wsW ⟨"FoundrymarkLaw", "lotsIn", "(LFoundrymark;I[J)I"⟩ cL_lotsIn 4 (some .int) [(0, 9, 12, 24)]) B.pre
  have hta : ∀ w ∈ WA, w.before _ s = true := fun w h => hts w (List.mem_cons_of_mem _ h)
  have hown : s.vm.findClass "FoundrymarkLaw" = some m.cls := findClass_of_methodNamed B.named
  have htab := vx_table (x := ⟨"FoundrymarkLaw", "lotsIn", "(LFoundrymark;I[J)I"⟩) B (hts _ List.mem_cons_self)
  subst hsz
  have hD : va_D (va_A (wX h0 a1 a2 a3 a4 a5 h6 s0 s1 s2 s3 t1 t2 t3 t4 t5) s.heap.size) (wX h0 a1 a2 a3 a4 a5 h6 s0 s1 s2 s3 t1 t2 t3 t4 t5) := hD0.self (sz := s.heap.size)
  generalize hAe : va_A (wX h0 a1 a2 a3 a4 a5 h6 s0 s1 s2 s3 t1 t2 t3 t4 t5) s.heap.size = A at hD hG ⊢
  have hA : ∀ q : Nat, s.heap.size ≤ q → A q := fun q h => by rw [← hAe]; exact Or.inr h
  have hS : va_S A s.heap s.heap [] := va_S.rf
  have hP : va_P D vwCl (wX h0 a1 a2 a3 a4 a5 h6 s0 s1 s2 s3 t1 t2 t3 t4 t5) s.heap := hP
  have hl := lv_entry ([.ref h0, .int x0, .ref o]) (n := 4) (Nat.le_of_ble_eq_true rfl)
  rw [lg_entry_eq]
  generalize (lg_sl ([.ref h0, .int x0, .ref o]) ++ List.replicate (4 - (lg_sl ([.ref h0, .int x0, .ref o])).length) Slot.unset).toArray = ls at hl ⊢
  have hl : lv_has ls 4 [(0, .ref h0), (1, .int x0), (2, .ref o)] := hl
  refine lv_aload_n hx hb dL_lotsIn_0 rfl (lv_at hl 2 rfl) ?_
  refine lv_iconst (v := 0) hx hb dL_lotsIn_1 (by decide) ?_
  refine lv_aload_n hx hb dL_lotsIn_2 rfl (lv_at hl 0 rfl) ?_
  refine lv_iload_n hx hb dL_lotsIn_3 rfl (lv_at hl 1 rfl) ?_
  have hPc := hP.sub (ws' := (wX h0 a1 a2 a3 a4 a5 h6 s0 s1 s2 s3 t1 t2 t3 t4 t5)) [0, 1, 2, 3, 4, 5, 6, 7, 8, 9, 10] rfl
  have hKc := hK.sub (tys' := (tX t1 t2 t3 t4 t5)) [0, 1, 2, 3, 4] rfl
  have hDc := hD.sub (ws' := (wX h0 a1 a2 a3 a4 a5 h6 s0 s1 s2 s3 t1 t2 t3 t4 t5)) [0, 1, 2, 3, 4, 5, 6, 7, 8, 9, 10] (by decide) rfl
  have hFc := va_free (wc := (wX h0 a1 a2 a3 a4 a5 h6 s0 s1 s2 s3 t1 t2 t3 t4 t5)) hD hS hA [0, 1, 2, 3, 4, 5, 6, 7, 8, 9, 10] rfl
  refine gX0 (isC := [0, 1, 2, 3, 4, 5, 6, 7, 8, 9, 10]) (isR := []) (wr := []) (vx_runV (As := [.int x0]) (rest := [.int 0, .ref o]) ⟨hx, hb, hml, hown, hta⟩ (c_X10_lotsIn l hl0) (cwV 1 hta (gWV mw368 mw369 mw370 mw10 mw367) rfl rfl rfl (by decide +kernel) ⟨Nat.le_of_ble_eq_true rfl, Nat.le_of_ble_eq_true rfl⟩) ⟨gS_blind, va_recv hKc hPc (ci := 15) (q0 := 0) rfl rfl, fun U hU hW => ⟨rfl, by rw [hU], by rw [hU]; exact hPc, va_K.moved hW.alike hKc, hDc.weaken (fun _ _ _ _ => trivial), hG.call hS hU hW hFc⟩⟩ rfl rfl hl.1 rfl (lv_room (Nat.le_of_ble_eq_true rfl)) dL_lotsIn_4 ⟨Nat.le_of_ble_eq_true rfl, Nat.le_of_ble_eq_true rfl⟩) hP hD hS hFc rfl rfl (by decide) (by decide) (fun E9 ce q9 u2 H locs h3 hz9 hP hD hS hc9 hv9 hcl9 => ?_)
  obtain ⟨_, rfl⟩ := h3
  refine vx_catch (own := "FoundrymarkLaw") (name := "java/lang/IndexOutOfBoundsException") hown [] ⟨0, 9, 12, 24⟩ [] (by rw [htab]; rfl) (fun z hz => absurd hz List.not_mem_nil) (by decide) (by decide) (hta _ mw270) (va_Nw.use rfl (hG.C ("java/lang/IndexOutOfBoundsException", "java/lang/IndexOutOfBoundsException") (by decide))) hc9 hv9 hcl9 ?_
  refine W.eq (g2 := F0 m 12 ls [.ref q9]) rfl ?_
  refine lv_astore_n (lv' := [(3, .ref q9), (0, .ref h0), (1, .int x0), (2, .ref o)]) hx hb dL_lotsIn_12 rfl hl (by decide) rfl (fun ls hl => ?_)
  refine lv_iconst (v := 1) hx hb dL_lotsIn_13 (by decide) ?_
  have hP9 := hP.sub (ws' := []) [] rfl
  have hD9 := hD.sub (ws' := []) [] (by decide) rfl
  have hK9 := hK.sub (tys' := []) [] rfl
  refine W.widen (k := 1) (n := 6) (Nat.le_of_ble_eq_true rfl) (Nat.le_of_ble_eq_true rfl) ?_
  exact W.iret (v := 1) hx hb hr (fun t ht hWm => ⟨⟨_, (), rfl, rfl, ⟨by rw [ht]; exact hP9, va_K.moved hWm.alike hK9, hD9⟩⟩, hS.F ht⟩) hS.2.2 dL_lotsIn_14

set_option maxHeartbeats 4000000 in
set_option maxRecDepth 100000 in
theorem c_L_deliveredCost (l : Launch) (hl0 : l.stackTraces = false) {D : va_G} {tE sz : Nat} {h0 a1 a2 a3 a4 a5 h6 s0 s1 s2 s3 : Nat} {t1 t2 t3 t4 t5 : ClassId} {o : Nat} {x0 : Int32} : Met l ⟨"FoundrymarkLaw", "deliveredCost", "(LFoundrymark;I[J)I"⟩ (wsW ⟨"FoundrymarkLaw", "deliveredCost", "(LFoundrymark;I[J)I"⟩ cL_deliveredCost 4 (some .int) [(0, 8, 11, 24), (0, 8, 14, 97)]) ({ frames := 8, cells := 1, slots := 6, locals := 142 }) (va_Pc [.ref h0, .int x0, .ref o] (gS tE D (wX h0 a1 a2 a3 a4 a5 h6 s0 s1 s2 s3 t1 t2 t3 t4 t5) (tX t1 t2 t3 t4 t5) sz)) (va_Qi (fun (r : Int32) (_ : Unit) => r = 1) (gO D (fun _ => []) (fun _ => []) (va_A (wX h0 a1 a2 a3 a4 a5 h6 s0 s1 s2 s3 t1 t2 t3 t4 t5) sz)) (va_A (wX h0 a1 a2 a3 a4 a5 h6 s0 s1 s2 s3 t1 t2 t3 t4 t5) sz)) 1 6 (va_A (wX h0 a1 a2 a3 a4 a5 h6 s0 s1 s2 s3 t1 t2 t3 t4 t5) sz) := by
  refine va_MetW (cc := cL_deliveredCost) (maxL := 4) (ret := (some .int)) (hh := [(0, 8, 11, 24), (0, 8, 14, 97)]) (by decide) rfl ?_
  intro p e s m args below meth c s₁ B hml hv
  obtain ⟨rfl, hsz, hP, hK, hD0, hG⟩ := hv
  have hx := B.exec
  have hb := B.bytes
  have hr := B.returns
  have hlocks := B.notSynchronized
  have hts := atoms_spec (ws := wsW ⟨"FoundrymarkLaw", "deliveredCost", "(LFoundrymark;I[J)I"⟩ cL_deliveredCost 4 (some .int) [(0, 8, 11, 24), (0, 8, 14, 97)]) B.pre
  have hta : ∀ w ∈ WA, w.before _ s = true := fun w h => hts w (List.mem_cons_of_mem _ h)
  have hown : s.vm.findClass "FoundrymarkLaw" = some m.cls := findClass_of_methodNamed B.named
  have htab := vx_table (x := ⟨"FoundrymarkLaw", "deliveredCost", "(LFoundrymark;I[J)I"⟩) B (hts _ List.mem_cons_self)
  subst hsz
  have hD : va_D (va_A (wX h0 a1 a2 a3 a4 a5 h6 s0 s1 s2 s3 t1 t2 t3 t4 t5) s.heap.size) (wX h0 a1 a2 a3 a4 a5 h6 s0 s1 s2 s3 t1 t2 t3 t4 t5) := hD0.self (sz := s.heap.size)
  generalize hAe : va_A (wX h0 a1 a2 a3 a4 a5 h6 s0 s1 s2 s3 t1 t2 t3 t4 t5) s.heap.size = A at hD hG ⊢
  have hA : ∀ q : Nat, s.heap.size ≤ q → A q := fun q h => by rw [← hAe]; exact Or.inr h
  have hS : va_S A s.heap s.heap [] := va_S.rf
  have hP : va_P D vwCl (wX h0 a1 a2 a3 a4 a5 h6 s0 s1 s2 s3 t1 t2 t3 t4 t5) s.heap := hP
  have hl := lv_entry ([.ref h0, .int x0, .ref o]) (n := 4) (Nat.le_of_ble_eq_true rfl)
  rw [lg_entry_eq]
  generalize (lg_sl ([.ref h0, .int x0, .ref o]) ++ List.replicate (4 - (lg_sl ([.ref h0, .int x0, .ref o])).length) Slot.unset).toArray = ls at hl ⊢
  have hl : lv_has ls 4 [(0, .ref h0), (1, .int x0), (2, .ref o)] := hl
  refine lv_aload_n hx hb dL_deliveredCost_0 rfl (lv_at hl 2 rfl) ?_
  refine lv_iconst (v := 0) hx hb dL_deliveredCost_1 (by decide) ?_
  refine lv_aload_n hx hb dL_deliveredCost_2 rfl (lv_at hl 0 rfl) ?_
  refine lv_iload_n hx hb dL_deliveredCost_3 rfl (lv_at hl 1 rfl) ?_
  have hPc := hP.sub (ws' := (wX h0 a1 a2 a3 a4 a5 h6 s0 s1 s2 s3 t1 t2 t3 t4 t5)) [0, 1, 2, 3, 4, 5, 6, 7, 8, 9, 10] rfl
  have hKc := hK.sub (tys' := (tX t1 t2 t3 t4 t5)) [0, 1, 2, 3, 4] rfl
  have hDc := hD.sub (ws' := (wX h0 a1 a2 a3 a4 a5 h6 s0 s1 s2 s3 t1 t2 t3 t4 t5)) [0, 1, 2, 3, 4, 5, 6, 7, 8, 9, 10] (by decide) rfl
  have hFc := va_free (wc := (wX h0 a1 a2 a3 a4 a5 h6 s0 s1 s2 s3 t1 t2 t3 t4 t5)) hD hS hA [0, 1, 2, 3, 4, 5, 6, 7, 8, 9, 10] rfl
  refine gX0 (isC := [0, 1, 2, 3, 4, 5, 6, 7, 8, 9, 10]) (isR := []) (wr := []) (vx_runV (As := [.int x0]) (rest := [.int 0, .ref o]) ⟨hx, hb, hml, hown, hta⟩ (c_X10_deliveredCost l hl0) (cwV 1 hta (gWV mw372 mw373 mw374 mw10 mw371) rfl rfl rfl (by decide +kernel) ⟨Nat.le_of_ble_eq_true rfl, Nat.le_of_ble_eq_true rfl⟩) ⟨gS_blind, va_recv hKc hPc (ci := 15) (q0 := 0) rfl rfl, fun U hU hW => ⟨rfl, by rw [hU], by rw [hU]; exact hPc, va_K.moved hW.alike hKc, hDc.weaken (fun _ _ _ _ => trivial), hG.call hS hU hW hFc⟩⟩ rfl rfl hl.1 rfl (lv_room (Nat.le_of_ble_eq_true rfl)) dL_deliveredCost_4 ⟨Nat.le_of_ble_eq_true rfl, Nat.le_of_ble_eq_true rfl⟩) hP hD hS hFc rfl rfl (by decide) (by decide) (fun E9 ce q9 u2 H locs h3 hz9 hP hD hS hc9 hv9 hcl9 => ?_)
  obtain ⟨_, rfl⟩ := h3
  refine vx_catch (own := "FoundrymarkLaw") (name := "java/lang/IndexOutOfBoundsException") hown [] ⟨0, 8, 11, 24⟩ [⟨0, 8, 14, 97⟩] (by rw [htab]; rfl) (fun z hz => absurd hz List.not_mem_nil) (by decide) (by decide) (hta _ mw270) (va_Nw.use rfl (hG.C ("java/lang/IndexOutOfBoundsException", "java/lang/IndexOutOfBoundsException") (by decide))) hc9 hv9 hcl9 ?_
  refine W.eq (g2 := F0 m 11 ls [.ref q9]) rfl ?_
  refine lv_astore_n (lv' := [(3, .ref q9), (0, .ref h0), (1, .int x0), (2, .ref o)]) hx hb dL_deliveredCost_11 rfl hl (by decide) rfl (fun ls hl => ?_)
  refine lv_iconst (v := 1) hx hb dL_deliveredCost_12 (by decide) ?_
  have hP9 := hP.sub (ws' := []) [] rfl
  have hD9 := hD.sub (ws' := []) [] (by decide) rfl
  have hK9 := hK.sub (tys' := []) [] rfl
  refine W.widen (k := 1) (n := 6) (Nat.le_of_ble_eq_true rfl) (Nat.le_of_ble_eq_true rfl) ?_
  exact W.iret (v := 1) hx hb hr (fun t ht hWm => ⟨⟨_, (), rfl, rfl, ⟨by rw [ht]; exact hP9, va_K.moved hWm.alike hK9, hD9⟩⟩, hS.F ht⟩) hS.2.2 dL_deliveredCost_13

set_option maxHeartbeats 4000000 in
set_option maxRecDepth 100000 in
theorem c_L_inTimeShare (l : Launch) (hl0 : l.stackTraces = false) {D : va_G} {tE sz : Nat} {h0 a1 a2 a3 a4 a5 h6 s0 s1 s2 s3 : Nat} {t1 t2 t3 t4 t5 : ClassId} {oD : Nat}  : Met l ⟨"FoundrymarkLaw", "inTimeShare", "(LFoundrymark;[D)I"⟩ (wsW ⟨"FoundrymarkLaw", "inTimeShare", "(LFoundrymark;[D)I"⟩ cL_inTimeShare 3 (some .int) [(0, 8, 11, 127)]) ({ frames := 7, cells := 1, slots := 6, locals := 124 }) (va_Pc [.ref h0, .ref oD] (gS tE D (wX h0 a1 a2 a3 a4 a5 h6 s0 s1 s2 s3 t1 t2 t3 t4 t5) (tX t1 t2 t3 t4 t5) sz)) (va_Qi (fun (r : Int32) (_ : Unit) => r = 1) (gO D (fun _ => []) (fun _ => []) (va_A (wX h0 a1 a2 a3 a4 a5 h6 s0 s1 s2 s3 t1 t2 t3 t4 t5) sz)) (va_A (wX h0 a1 a2 a3 a4 a5 h6 s0 s1 s2 s3 t1 t2 t3 t4 t5) sz)) 1 6 (va_A (wX h0 a1 a2 a3 a4 a5 h6 s0 s1 s2 s3 t1 t2 t3 t4 t5) sz) := by
  refine va_MetW (cc := cL_inTimeShare) (maxL := 3) (ret := (some .int)) (hh := [(0, 8, 11, 127)]) (by decide) rfl ?_
  intro p e s m args below meth c s₁ B hml hv
  obtain ⟨rfl, hsz, hP, hK, hD0, hG⟩ := hv
  have hx := B.exec
  have hb := B.bytes
  have hr := B.returns
  have hlocks := B.notSynchronized
  have hts := atoms_spec (ws := wsW ⟨"FoundrymarkLaw", "inTimeShare", "(LFoundrymark;[D)I"⟩ cL_inTimeShare 3 (some .int) [(0, 8, 11, 127)]) B.pre
  have hta : ∀ w ∈ WA, w.before _ s = true := fun w h => hts w (List.mem_cons_of_mem _ h)
  have hown : s.vm.findClass "FoundrymarkLaw" = some m.cls := findClass_of_methodNamed B.named
  have htab := vx_table (x := ⟨"FoundrymarkLaw", "inTimeShare", "(LFoundrymark;[D)I"⟩) B (hts _ List.mem_cons_self)
  subst hsz
  have hD : va_D (va_A (wX h0 a1 a2 a3 a4 a5 h6 s0 s1 s2 s3 t1 t2 t3 t4 t5) s.heap.size) (wX h0 a1 a2 a3 a4 a5 h6 s0 s1 s2 s3 t1 t2 t3 t4 t5) := hD0.self (sz := s.heap.size)
  generalize hAe : va_A (wX h0 a1 a2 a3 a4 a5 h6 s0 s1 s2 s3 t1 t2 t3 t4 t5) s.heap.size = A at hD hG ⊢
  have hA : ∀ q : Nat, s.heap.size ≤ q → A q := fun q h => by rw [← hAe]; exact Or.inr h
  have hS : va_S A s.heap s.heap [] := va_S.rf
  have hP : va_P D vwCl (wX h0 a1 a2 a3 a4 a5 h6 s0 s1 s2 s3 t1 t2 t3 t4 t5) s.heap := hP
  have hl := lv_entry ([.ref h0, .ref oD]) (n := 3) (Nat.le_of_ble_eq_true rfl)
  rw [lg_entry_eq]
  generalize (lg_sl ([.ref h0, .ref oD]) ++ List.replicate (3 - (lg_sl ([.ref h0, .ref oD])).length) Slot.unset).toArray = ls at hl ⊢
  have hl : lv_has ls 3 [(0, .ref h0), (1, .ref oD)] := hl
  refine lv_aload_n hx hb dL_inTimeShare_0 rfl (lv_at hl 1 rfl) ?_
  refine lv_iconst (v := 0) hx hb dL_inTimeShare_1 (by decide) ?_
  refine lv_aload_n hx hb dL_inTimeShare_2 rfl (lv_at hl 0 rfl) ?_
  have hPc := hP.sub (ws' := (wX h0 a1 a2 a3 a4 a5 h6 s0 s1 s2 s3 t1 t2 t3 t4 t5)) [0, 1, 2, 3, 4, 5, 6, 7, 8, 9, 10] rfl
  have hKc := hK.sub (tys' := (tX t1 t2 t3 t4 t5)) [0, 1, 2, 3, 4] rfl
  have hDc := hD.sub (ws' := (wX h0 a1 a2 a3 a4 a5 h6 s0 s1 s2 s3 t1 t2 t3 t4 t5)) [0, 1, 2, 3, 4, 5, 6, 7, 8, 9, 10] (by decide) rfl
  have hFc := va_free (wc := (wX h0 a1 a2 a3 a4 a5 h6 s0 s1 s2 s3 t1 t2 t3 t4 t5)) hD hS hA [0, 1, 2, 3, 4, 5, 6, 7, 8, 9, 10] rfl
  refine gX0 (isC := [0, 1, 2, 3, 4, 5, 6, 7, 8, 9, 10]) (isR := []) (wr := []) (vx_runV (As := []) (rest := [.int 0, .ref oD]) ⟨hx, hb, hml, hown, hta⟩ (c_X10_inTimeShare l hl0) (cwV 0 hta (gWV mw376 mw377 mw378 mw10 mw375) rfl rfl rfl (by decide +kernel) ⟨Nat.le_of_ble_eq_true rfl, Nat.le_of_ble_eq_true rfl⟩) ⟨gS_blind, va_recv hKc hPc (ci := 15) (q0 := 0) rfl rfl, fun U hU hW => ⟨rfl, by rw [hU], by rw [hU]; exact hPc, va_K.moved hW.alike hKc, hDc.weaken (fun _ _ _ _ => trivial), hG.call hS hU hW hFc⟩⟩ rfl rfl hl.1 rfl (lv_room (Nat.le_of_ble_eq_true rfl)) dL_inTimeShare_3 ⟨Nat.le_of_ble_eq_true rfl, Nat.le_of_ble_eq_true rfl⟩) hP hD hS hFc rfl rfl (by decide) (by decide) (fun E9 ce q9 u2 H locs h3 hz9 hP hD hS hc9 hv9 hcl9 => ?_)
  obtain ⟨_, rfl⟩ := h3
  refine vx_catch (own := "FoundrymarkLaw") (name := "java/lang/ArithmeticException") hown [] ⟨0, 8, 11, 127⟩ [] (by rw [htab]; rfl) (fun z hz => absurd hz List.not_mem_nil) (by decide) (by decide) (hta _ mw379) (va_Nw.use rfl (hG.C ("java/lang/ArithmeticException", "java/lang/ArithmeticException") (by decide))) hc9 hv9 hcl9 ?_
  refine W.eq (g2 := F0 m 11 ls [.ref q9]) rfl ?_
  refine lv_astore_n (lv' := [(2, .ref q9), (0, .ref h0), (1, .ref oD)]) hx hb dL_inTimeShare_11 rfl hl (by decide) rfl (fun ls hl => ?_)
  refine lv_iconst (v := 1) hx hb dL_inTimeShare_12 (by decide) ?_
  have hP9 := hP.sub (ws' := []) [] rfl
  have hD9 := hD.sub (ws' := []) [] (by decide) rfl
  have hK9 := hK.sub (tys' := []) [] rfl
  refine W.widen (k := 1) (n := 6) (Nat.le_of_ble_eq_true rfl) (Nat.le_of_ble_eq_true rfl) ?_
  exact W.iret (v := 1) hx hb hr (fun t ht hWm => ⟨⟨_, (), rfl, rfl, ⟨by rw [ht]; exact hP9, va_K.moved hWm.alike hK9, hD9⟩⟩, hS.F ht⟩) hS.2.2 dL_inTimeShare_13

set_option maxHeartbeats 4000000 in
set_option maxRecDepth 100000 in
theorem c_L_meanBusy (l : Launch) (hl0 : l.stackTraces = false) {D : va_G} {tE sz : Nat} {h0 a1 a2 a3 a4 a5 h6 s0 s1 s2 s3 : Nat} {t1 t2 t3 t4 t5 : ClassId} {oD : Nat}  : Met l ⟨"FoundrymarkLaw", "meanBusy", "(LFoundrymark;[D)I"⟩ (wsW ⟨"FoundrymarkLaw", "meanBusy", "(LFoundrymark;[D)I"⟩ cL_meanBusy 3 (some .int) [(0, 7, 10, 127)]) ({ frames := 7, cells := 1, slots := 6, locals := 124 }) (va_Pc [.ref h0, .ref oD] (gS tE D (wX h0 a1 a2 a3 a4 a5 h6 s0 s1 s2 s3 t1 t2 t3 t4 t5) (tX t1 t2 t3 t4 t5) sz)) (va_Qi (fun (r : Int32) (_ : Unit) => r = 1) (gO D (fun _ => []) (fun _ => []) (va_A (wX h0 a1 a2 a3 a4 a5 h6 s0 s1 s2 s3 t1 t2 t3 t4 t5) sz)) (va_A (wX h0 a1 a2 a3 a4 a5 h6 s0 s1 s2 s3 t1 t2 t3 t4 t5) sz)) 1 6 (va_A (wX h0 a1 a2 a3 a4 a5 h6 s0 s1 s2 s3 t1 t2 t3 t4 t5) sz) := by
  refine va_MetW (cc := cL_meanBusy) (maxL := 3) (ret := (some .int)) (hh := [(0, 7, 10, 127)]) (by decide) rfl ?_
  intro p e s m args below meth c s₁ B hml hv
  obtain ⟨rfl, hsz, hP, hK, hD0, hG⟩ := hv
  have hx := B.exec
  have hb := B.bytes
  have hr := B.returns
  have hlocks := B.notSynchronized
  have hts := atoms_spec (ws := wsW ⟨"FoundrymarkLaw", "meanBusy", "(LFoundrymark;[D)I"⟩ cL_meanBusy 3 (some .int) [(0, 7, 10, 127)]) B.pre
  have hta : ∀ w ∈ WA, w.before _ s = true := fun w h => hts w (List.mem_cons_of_mem _ h)
  have hown : s.vm.findClass "FoundrymarkLaw" = some m.cls := findClass_of_methodNamed B.named
  have htab := vx_table (x := ⟨"FoundrymarkLaw", "meanBusy", "(LFoundrymark;[D)I"⟩) B (hts _ List.mem_cons_self)
  subst hsz
  have hD : va_D (va_A (wX h0 a1 a2 a3 a4 a5 h6 s0 s1 s2 s3 t1 t2 t3 t4 t5) s.heap.size) (wX h0 a1 a2 a3 a4 a5 h6 s0 s1 s2 s3 t1 t2 t3 t4 t5) := hD0.self (sz := s.heap.size)
  generalize hAe : va_A (wX h0 a1 a2 a3 a4 a5 h6 s0 s1 s2 s3 t1 t2 t3 t4 t5) s.heap.size = A at hD hG ⊢
  have hA : ∀ q : Nat, s.heap.size ≤ q → A q := fun q h => by rw [← hAe]; exact Or.inr h
  have hS : va_S A s.heap s.heap [] := va_S.rf
  have hP : va_P D vwCl (wX h0 a1 a2 a3 a4 a5 h6 s0 s1 s2 s3 t1 t2 t3 t4 t5) s.heap := hP
  have hl := lv_entry ([.ref h0, .ref oD]) (n := 3) (Nat.le_of_ble_eq_true rfl)
  rw [lg_entry_eq]
  generalize (lg_sl ([.ref h0, .ref oD]) ++ List.replicate (3 - (lg_sl ([.ref h0, .ref oD])).length) Slot.unset).toArray = ls at hl ⊢
  have hl : lv_has ls 3 [(0, .ref h0), (1, .ref oD)] := hl
  refine lv_aload_n hx hb dL_meanBusy_0 rfl (lv_at hl 1 rfl) ?_
  refine lv_iconst (v := 0) hx hb dL_meanBusy_1 (by decide) ?_
  refine lv_aload_n hx hb dL_meanBusy_2 rfl (lv_at hl 0 rfl) ?_
  have hPc := hP.sub (ws' := (wX h0 a1 a2 a3 a4 a5 h6 s0 s1 s2 s3 t1 t2 t3 t4 t5)) [0, 1, 2, 3, 4, 5, 6, 7, 8, 9, 10] rfl
  have hKc := hK.sub (tys' := (tX t1 t2 t3 t4 t5)) [0, 1, 2, 3, 4] rfl
  have hDc := hD.sub (ws' := (wX h0 a1 a2 a3 a4 a5 h6 s0 s1 s2 s3 t1 t2 t3 t4 t5)) [0, 1, 2, 3, 4, 5, 6, 7, 8, 9, 10] (by decide) rfl
  have hFc := va_free (wc := (wX h0 a1 a2 a3 a4 a5 h6 s0 s1 s2 s3 t1 t2 t3 t4 t5)) hD hS hA [0, 1, 2, 3, 4, 5, 6, 7, 8, 9, 10] rfl
  refine gX0 (isC := [0, 1, 2, 3, 4, 5, 6, 7, 8, 9, 10]) (isR := []) (wr := []) (vx_runV (As := []) (rest := [.int 0, .ref oD]) ⟨hx, hb, hml, hown, hta⟩ (c_X10_meanBusy l hl0) (cwV 0 hta (gWV mw381 mw382 mw383 mw10 mw380) rfl rfl rfl (by decide +kernel) ⟨Nat.le_of_ble_eq_true rfl, Nat.le_of_ble_eq_true rfl⟩) ⟨gS_blind, va_recv hKc hPc (ci := 15) (q0 := 0) rfl rfl, fun U hU hW => ⟨rfl, by rw [hU], by rw [hU]; exact hPc, va_K.moved hW.alike hKc, hDc.weaken (fun _ _ _ _ => trivial), hG.call hS hU hW hFc⟩⟩ rfl rfl hl.1 rfl (lv_room (Nat.le_of_ble_eq_true rfl)) dL_meanBusy_3 ⟨Nat.le_of_ble_eq_true rfl, Nat.le_of_ble_eq_true rfl⟩) hP hD hS hFc rfl rfl (by decide) (by decide) (fun E9 ce q9 u2 H locs h3 hz9 hP hD hS hc9 hv9 hcl9 => ?_)
  obtain ⟨_, rfl⟩ := h3
  refine vx_catch (own := "FoundrymarkLaw") (name := "java/lang/ArithmeticException") hown [] ⟨0, 7, 10, 127⟩ [] (by rw [htab]; rfl) (fun z hz => absurd hz List.not_mem_nil) (by decide) (by decide) (hta _ mw379) (va_Nw.use rfl (hG.C ("java/lang/ArithmeticException", "java/lang/ArithmeticException") (by decide))) hc9 hv9 hcl9 ?_
  refine W.eq (g2 := F0 m 10 ls [.ref q9]) rfl ?_
  refine lv_astore_n (lv' := [(2, .ref q9), (0, .ref h0), (1, .ref oD)]) hx hb dL_meanBusy_10 rfl hl (by decide) rfl (fun ls hl => ?_)
  refine lv_iconst (v := 1) hx hb dL_meanBusy_11 (by decide) ?_
  have hP9 := hP.sub (ws' := []) [] rfl
  have hD9 := hD.sub (ws' := []) [] (by decide) rfl
  have hK9 := hK.sub (tys' := []) [] rfl
  refine W.widen (k := 1) (n := 6) (Nat.le_of_ble_eq_true rfl) (Nat.le_of_ble_eq_true rfl) ?_
  exact W.iret (v := 1) hx hb hr (fun t ht hWm => ⟨⟨_, (), rfl, rfl, ⟨by rw [ht]; exact hP9, va_K.moved hWm.alike hK9, hD9⟩⟩, hS.F ht⟩) hS.2.2 dL_meanBusy_12

set_option maxHeartbeats 4000000 in
set_option maxRecDepth 100000 in
theorem c_L_addMachine_t (l : Launch) (hl0 : l.stackTraces = false) {D : va_G} {tE sz : Nat} {h0 a1 a2 a3 a4 a5 h6 s0 s1 s2 s3 : Nat} {t1 t2 t3 t4 t5 : ClassId} {o : Nat} {tj : ClassId} {x1 x2 x3 x4 : Int32} (g91 : inR x1 0 20 = true) (g92 : inR x2 0 50 = true) (g93 : inR x3 5 500 = true) (g94 : inR x4 1 99 = true) : Met l ⟨"FoundrymarkLaw", "addMachine", "(LFoundrymark;IIII[J)I"⟩ (wsW ⟨"FoundrymarkLaw", "addMachine", "(LFoundrymark;IIII[J)I"⟩ cL_addMachine 7 (some .int) [(0, 14, 17, 13), (0, 14, 21, 15)]) ({ frames := 3, cells := 1, slots := 11, locals := 68 }) (va_Pc [.ref h0, .int x1, .int x2, .int x3, .int x4, .ref o] (gS tE D [(h0, .inr (15, [.ref a1, .ref a2, .ref a3, .ref a4, .ref a5, .ref h6, .int 0, .int 0, .int 0, .int 0, .int 0, .int 0, .long 0, .long 0])), (a1, .inl (t1, 5, .inr (.inr (.inr (.inr (fun _ => none)))))), (a2, .inl (t2, 12, .inr (.inr (.inr (.inr (fun _ => none)))))), (a3, .inl (t3, 4, .inr (.inr (.inr (.inr (va_up (va_up (va_up (va_up (fun _ => none) 0 (some s0)) 1 (some s1)) 2 (some s2)) 3 (some s3))))))), (a4, .inl (t4, 90, .inr (.inr (.inr (.inr (fun _ => none)))))), (a5, .inl (t5, 30, .inr (.inr (.inr (.inr (fun _ => none)))))), (h6, .inr (10, [.long 0, .long 0])), (s0, .inr (14, [.int 110, .int 0, .int 0])), (s1, .inr (14, [.int 110, .int 0, .int 0])), (s2, .inr (14, [.int 110, .int 0, .int 0])), (s3, .inr (14, [.int 110, .int 0, .int 0])), (o, .inl (tj, 1, .inr (.inl (fun _ => 0))))] [(t1, .object "Foundrymark$Machine"), (t2, .object "Foundrymark$Part"), (t3, .object "Foundrymark$Supplier"), (t4, .object "Foundrymark$Lot"), (t5, .object "Foundrymark$Order"), (tj, .long)] sz)) (va_Qi (fun (r : Int32) (_ : Unit) => r = 0) (gO D (fun _ => [(o, .inl (tj, 1, .inr (.inl (vp_updL (fun _ => 0) 0 0))))]) (fun _ => []) (va_A [(h0, .inr (15, [.ref a1, .ref a2, .ref a3, .ref a4, .ref a5, .ref h6, .int 0, .int 0, .int 0, .int 0, .int 0, .int 0, .long 0, .long 0])), (a1, .inl (t1, 5, .inr (.inr (.inr (.inr (fun _ => none)))))), (a2, .inl (t2, 12, .inr (.inr (.inr (.inr (fun _ => none)))))), (a3, .inl (t3, 4, .inr (.inr (.inr (.inr (va_up (va_up (va_up (va_up (fun _ => none) 0 (some s0)) 1 (some s1)) 2 (some s2)) 3 (some s3))))))), (a4, .inl (t4, 90, .inr (.inr (.inr (.inr (fun _ => none)))))), (a5, .inl (t5, 30, .inr (.inr (.inr (.inr (fun _ => none)))))), (h6, .inr (10, [.long 0, .long 0])), (s0, .inr (14, [.int 110, .int 0, .int 0])), (s1, .inr (14, [.int 110, .int 0, .int 0])), (s2, .inr (14, [.int 110, .int 0, .int 0])), (s3, .inr (14, [.int 110, .int 0, .int 0])), (o, .inl (tj, 1, .inr (.inl (fun _ => 0))))] sz)) (va_A [(h0, .inr (15, [.ref a1, .ref a2, .ref a3, .ref a4, .ref a5, .ref h6, .int 0, .int 0, .int 0, .int 0, .int 0, .int 0, .long 0, .long 0])), (a1, .inl (t1, 5, .inr (.inr (.inr (.inr (fun _ => none)))))), (a2, .inl (t2, 12, .inr (.inr (.inr (.inr (fun _ => none)))))), (a3, .inl (t3, 4, .inr (.inr (.inr (.inr (va_up (va_up (va_up (va_up (fun _ => none) 0 (some s0)) 1 (some s1)) 2 (some s2)) 3 (some s3))))))), (a4, .inl (t4, 90, .inr (.inr (.inr (.inr (fun _ => none)))))), (a5, .inl (t5, 30, .inr (.inr (.inr (.inr (fun _ => none)))))), (h6, .inr (10, [.long 0, .long 0])), (s0, .inr (14, [.int 110, .int 0, .int 0])), (s1, .inr (14, [.int 110, .int 0, .int 0])), (s2, .inr (14, [.int 110, .int 0, .int 0])), (s3, .inr (14, [.int 110, .int 0, .int 0])), (o, .inl (tj, 1, .inr (.inl (fun _ => 0))))] sz)) 1 11 (va_A [(h0, .inr (15, [.ref a1, .ref a2, .ref a3, .ref a4, .ref a5, .ref h6, .int 0, .int 0, .int 0, .int 0, .int 0, .int 0, .long 0, .long 0])), (a1, .inl (t1, 5, .inr (.inr (.inr (.inr (fun _ => none)))))), (a2, .inl (t2, 12, .inr (.inr (.inr (.inr (fun _ => none)))))), (a3, .inl (t3, 4, .inr (.inr (.inr (.inr (va_up (va_up (va_up (va_up (fun _ => none) 0 (some s0)) 1 (some s1)) 2 (some s2)) 3 (some s3))))))), (a4, .inl (t4, 90, .inr (.inr (.inr (.inr (fun _ => none)))))), (a5, .inl (t5, 30, .inr (.inr (.inr (.inr (fun _ => none)))))), (h6, .inr (10, [.long 0, .long 0])), (s0, .inr (14, [.int 110, .int 0, .int 0])), (s1, .inr (14, [.int 110, .int 0, .int 0])), (s2, .inr (14, [.int 110, .int 0, .int 0])), (s3, .inr (14, [.int 110, .int 0, .int 0])), (o, .inl (tj, 1, .inr (.inl (fun _ => 0))))] sz) := by
  refine va_MetW (cc := cL_addMachine) (maxL := 7) (ret := (some .int)) (hh := [(0, 14, 17, 13), (0, 14, 21, 15)]) (by decide) rfl ?_
  intro p e s m args below meth c s₁ B hml hv
  obtain ⟨rfl, hsz, hP, hK, hD0, hG⟩ := hv
  have hx := B.exec
  have hb := B.bytes
  have hr := B.returns
  have hlocks := B.notSynchronized
  have hts := atoms_spec (ws := wsW ⟨"FoundrymarkLaw", "addMachine", "(LFoundrymark;IIII[J)I"⟩ cL_addMachine 7 (some .int) [(0, 14, 17, 13), (0, 14, 21, 15)]) B.pre
  have hta : ∀ w ∈ WA, w.before _ s = true := fun w h => hts w (List.mem_cons_of_mem _ h)
  have hown : s.vm.findClass "FoundrymarkLaw" = some m.cls := findClass_of_methodNamed B.named
  have htab := vx_table (x := ⟨"FoundrymarkLaw", "addMachine", "(LFoundrymark;IIII[J)I"⟩) B (hts _ List.mem_cons_self)
  subst hsz
  have hD : va_D (va_A [(h0, .inr (15, [.ref a1, .ref a2, .ref a3, .ref a4, .ref a5, .ref h6, .int 0, .int 0, .int 0, .int 0, .int 0, .int 0, .long 0, .long 0])), (a1, .inl (t1, 5, .inr (.inr (.inr (.inr (fun _ => none)))))), (a2, .inl (t2, 12, .inr (.inr (.inr (.inr (fun _ => none)))))), (a3, .inl (t3, 4, .inr (.inr (.inr (.inr (va_up (va_up (va_up (va_up (fun _ => none) 0 (some s0)) 1 (some s1)) 2 (some s2)) 3 (some s3))))))), (a4, .inl (t4, 90, .inr (.inr (.inr (.inr (fun _ => none)))))), (a5, .inl (t5, 30, .inr (.inr (.inr (.inr (fun _ => none)))))), (h6, .inr (10, [.long 0, .long 0])), (s0, .inr (14, [.int 110, .int 0, .int 0])), (s1, .inr (14, [.int 110, .int 0, .int 0])), (s2, .inr (14, [.int 110, .int 0, .int 0])), (s3, .inr (14, [.int 110, .int 0, .int 0])), (o, .inl (tj, 1, .inr (.inl (fun _ => 0))))] s.heap.size) [(h0, .inr (15, [.ref a1, .ref a2, .ref a3, .ref a4, .ref a5, .ref h6, .int 0, .int 0, .int 0, .int 0, .int 0, .int 0, .long 0, .long 0])), (a1, .inl (t1, 5, .inr (.inr (.inr (.inr (fun _ => none)))))), (a2, .inl (t2, 12, .inr (.inr (.inr (.inr (fun _ => none)))))), (a3, .inl (t3, 4, .inr (.inr (.inr (.inr (va_up (va_up (va_up (va_up (fun _ => none) 0 (some s0)) 1 (some s1)) 2 (some s2)) 3 (some s3))))))), (a4, .inl (t4, 90, .inr (.inr (.inr (.inr (fun _ => none)))))), (a5, .inl (t5, 30, .inr (.inr (.inr (.inr (fun _ => none)))))), (h6, .inr (10, [.long 0, .long 0])), (s0, .inr (14, [.int 110, .int 0, .int 0])), (s1, .inr (14, [.int 110, .int 0, .int 0])), (s2, .inr (14, [.int 110, .int 0, .int 0])), (s3, .inr (14, [.int 110, .int 0, .int 0])), (o, .inl (tj, 1, .inr (.inl (fun _ => 0))))] := hD0.self (sz := s.heap.size)
  generalize hAe : va_A [(h0, .inr (15, [.ref a1, .ref a2, .ref a3, .ref a4, .ref a5, .ref h6, .int 0, .int 0, .int 0, .int 0, .int 0, .int 0, .long 0, .long 0])), (a1, .inl (t1, 5, .inr (.inr (.inr (.inr (fun _ => none)))))), (a2, .inl (t2, 12, .inr (.inr (.inr (.inr (fun _ => none)))))), (a3, .inl (t3, 4, .inr (.inr (.inr (.inr (va_up (va_up (va_up (va_up (fun _ => none) 0 (some s0)) 1 (some s1)) 2 (some s2)) 3 (some s3))))))), (a4, .inl (t4, 90, .inr (.inr (.inr (.inr (fun _ => none)))))), (a5, .inl (t5, 30, .inr (.inr (.inr (.inr (fun _ => none)))))), (h6, .inr (10, [.long 0, .long 0])), (s0, .inr (14, [.int 110, .int 0, .int 0])), (s1, .inr (14, [.int 110, .int 0, .int 0])), (s2, .inr (14, [.int 110, .int 0, .int 0])), (s3, .inr (14, [.int 110, .int 0, .int 0])), (o, .inl (tj, 1, .inr (.inl (fun _ => 0))))] s.heap.size = A at hD hG ⊢
  have hA : ∀ q : Nat, s.heap.size ≤ q → A q := fun q h => by rw [← hAe]; exact Or.inr h
  have hS : va_S A s.heap s.heap [] := va_S.rf
  have hP : va_P D vwCl [(h0, .inr (15, [.ref a1, .ref a2, .ref a3, .ref a4, .ref a5, .ref h6, .int 0, .int 0, .int 0, .int 0, .int 0, .int 0, .long 0, .long 0])), (a1, .inl (t1, 5, .inr (.inr (.inr (.inr (fun _ => none)))))), (a2, .inl (t2, 12, .inr (.inr (.inr (.inr (fun _ => none)))))), (a3, .inl (t3, 4, .inr (.inr (.inr (.inr (va_up (va_up (va_up (va_up (fun _ => none) 0 (some s0)) 1 (some s1)) 2 (some s2)) 3 (some s3))))))), (a4, .inl (t4, 90, .inr (.inr (.inr (.inr (fun _ => none)))))), (a5, .inl (t5, 30, .inr (.inr (.inr (.inr (fun _ => none)))))), (h6, .inr (10, [.long 0, .long 0])), (s0, .inr (14, [.int 110, .int 0, .int 0])), (s1, .inr (14, [.int 110, .int 0, .int 0])), (s2, .inr (14, [.int 110, .int 0, .int 0])), (s3, .inr (14, [.int 110, .int 0, .int 0])), (o, .inl (tj, 1, .inr (.inl (fun _ => 0))))] s.heap := hP
  have hl := lv_entry ([.ref h0, .int x1, .int x2, .int x3, .int x4, .ref o]) (n := 7) (Nat.le_of_ble_eq_true rfl)
  rw [lg_entry_eq]
  generalize (lg_sl ([.ref h0, .int x1, .int x2, .int x3, .int x4, .ref o]) ++ List.replicate (7 - (lg_sl ([.ref h0, .int x1, .int x2, .int x3, .int x4, .ref o])).length) Slot.unset).toArray = ls at hl ⊢
  have hl : lv_has ls 7 [(0, .ref h0), (1, .int x1), (2, .int x2), (3, .int x3), (4, .int x4), (5, .ref o)] := hl
  refine lv_aload hx hb dL_addMachine_0 (lv_at hl 5 rfl) ?_
  refine lv_iconst (v := 0) hx hb dL_addMachine_2 (by decide) ?_
  refine lv_aload_n hx hb dL_addMachine_3 rfl (lv_at hl 0 rfl) ?_
  refine lv_iload_n hx hb dL_addMachine_4 rfl (lv_at hl 1 rfl) ?_
  refine lv_iload_n hx hb dL_addMachine_5 rfl (lv_at hl 2 rfl) ?_
  refine lv_iload_n hx hb dL_addMachine_6 rfl (lv_at hl 3 rfl) ?_
  refine lv_iload hx hb dL_addMachine_7 (lv_at hl 4 rfl) ?_
  have hPc := hP.sub (ws' := (wX h0 a1 a2 a3 a4 a5 h6 s0 s1 s2 s3 t1 t2 t3 t4 t5)) [0, 1, 2, 3, 4, 5, 6, 7, 8, 9, 10] rfl
  have hKc := hK.sub (tys' := (tX t1 t2 t3 t4 t5)) [0, 1, 2, 3, 4] rfl
  have hDc := hD.sub (ws' := (wX h0 a1 a2 a3 a4 a5 h6 s0 s1 s2 s3 t1 t2 t3 t4 t5)) [0, 1, 2, 3, 4, 5, 6, 7, 8, 9, 10] (by decide) rfl
  have hFc := va_free (wc := (wX h0 a1 a2 a3 a4 a5 h6 s0 s1 s2 s3 t1 t2 t3 t4 t5)) hD hS hA [0, 1, 2, 3, 4, 5, 6, 7, 8, 9, 10] rfl
  refine gJ_i (isC := [0, 1, 2, 3, 4, 5, 6, 7, 8, 9, 10]) (isR := [11]) (wr := [(o, .inl (tj, 1, .inr (.inl (fun _ => 0))))]) (va_runV (As := [.int x1, .int x2, .int x3, .int x4]) (rest := [.int 0, .ref o]) ⟨hx, hb, hml, hown, hta⟩ (c_X10_addMachine_t l g91 g92 g93 g94) (cwV 4 hta (gWV mw385 mw386 mw387 mw10 mw384) rfl rfl rfl (by decide +kernel) ⟨Nat.le_of_ble_eq_true rfl, Nat.le_of_ble_eq_true rfl⟩) ⟨gS_blind, va_recv hKc hPc (ci := 15) (q0 := 0) rfl rfl, fun U hU hW => ⟨rfl, by rw [hU], by rw [hU]; exact hPc, va_K.moved hW.alike hKc, hDc.weaken (fun _ _ _ _ => trivial), hG.call hS hU hW hFc⟩⟩ rfl rfl hl.1 rfl (lv_room (Nat.le_of_ble_eq_true rfl)) dL_addMachine_9 ⟨Nat.le_of_ble_eq_true rfl, Nat.le_of_ble_eq_true rfl⟩) hP hD hS hK hFc rfl rfl (by decide) (by decide) (fun r1 u2 H locs h3 hP hD hS hK => ?_)
  obtain rfl : r1 = 0 := h3
  have hK : va_K D vwCl [(t1, .object "Foundrymark$Machine"), (t2, .object "Foundrymark$Part"), (t3, .object "Foundrymark$Supplier"), (t4, .object "Foundrymark$Lot"), (t5, .object "Foundrymark$Order"), (tj, .long)] s := hK
  have hP : va_P D vwCl [(o, .inl (tj, 1, .inr (.inl (fun _ => 0))))] H := hP
  have hD : va_D A [(o, .inl (tj, 1, .inr (.inl (fun _ => 0))))] := hD
  refine lv_i2l (v := 0) hx hb dL_addMachine_12 (by decide) ?_
  refine va_last hx hb hK hP hD hS 0 5 rfl rfl (i := 0) (x := 0) (by unfold vp_in; decide) dL_addMachine_13 (fun H locs hP hD hS => ?_)
  have hP : va_P D vwCl [(o, .inl (tj, 1, .inr (.inl (vp_updL (fun _ => 0) 0 0))))] H := hP
  have hD : va_D A [(o, .inl (tj, 1, .inr (.inl (vp_updL (fun _ => 0) 0 0))))] := hD
  refine lv_goto (tgt := 25) hx hb dL_addMachine_14 (by decide) ?_
  refine lv_iconst (v := 0) hx hb dL_addMachine_25 (by decide) ?_
  have hP9 := hP.sub (ws' := [(o, .inl (tj, 1, .inr (.inl (vp_updL (fun _ => 0) 0 0))))]) [0] rfl
  have hD9 := hD.sub (ws' := [(o, .inl (tj, 1, .inr (.inl (vp_updL (fun _ => 0) 0 0))))]) [0] (by decide) rfl
  have hK9 := hK.sub (tys' := []) [] rfl
  refine W.widen (k := 1) (n := 11) (Nat.le_of_ble_eq_true rfl) (Nat.le_of_ble_eq_true rfl) ?_
  exact W.iret (v := 0) hx hb hr (fun t ht hWm => ⟨⟨_, (), rfl, rfl, ⟨by rw [ht]; exact hP9, va_K.moved hWm.alike hK9, hD9⟩⟩, hS.F ht⟩) hS.2.2 dL_addMachine_26

set_option maxHeartbeats 4000000 in
set_option maxRecDepth 100000 in
theorem c_L_addMachine_f (l : Launch) (hl0 : l.stackTraces = false) {D : va_G} {tE sz : Nat} {h0 a1 a2 a3 a4 a5 h6 s0 s1 s2 s3 : Nat} {t1 t2 t3 t4 t5 : ClassId} {o : Nat} {x1 x2 x3 x4 : Int32} (hf : fitM x1 x2 x3 x4 = false) : Met l ⟨"FoundrymarkLaw", "addMachine", "(LFoundrymark;IIII[J)I"⟩ (wsW ⟨"FoundrymarkLaw", "addMachine", "(LFoundrymark;IIII[J)I"⟩ cL_addMachine 7 (some .int) [(0, 14, 17, 13), (0, 14, 21, 15)]) ({ frames := 7, cells := 1, slots := 6, locals := 122 }) (va_Pc [.ref h0, .int x1, .int x2, .int x3, .int x4, .ref o] (gS tE D (wX h0 a1 a2 a3 a4 a5 h6 s0 s1 s2 s3 t1 t2 t3 t4 t5) (tX t1 t2 t3 t4 t5) sz)) (va_Qi (fun (r : Int32) (_ : Unit) => r = 1) (gO D (fun _ => []) (fun _ => []) (va_A (wX h0 a1 a2 a3 a4 a5 h6 s0 s1 s2 s3 t1 t2 t3 t4 t5) sz)) (va_A (wX h0 a1 a2 a3 a4 a5 h6 s0 s1 s2 s3 t1 t2 t3 t4 t5) sz)) 1 6 (va_A (wX h0 a1 a2 a3 a4 a5 h6 s0 s1 s2 s3 t1 t2 t3 t4 t5) sz) := by
  refine va_MetW (cc := cL_addMachine) (maxL := 7) (ret := (some .int)) (hh := [(0, 14, 17, 13), (0, 14, 21, 15)]) (by decide) rfl ?_
  intro p e s m args below meth c s₁ B hml hv
  obtain ⟨rfl, hsz, hP, hK, hD0, hG⟩ := hv
  have hx := B.exec
  have hb := B.bytes
  have hr := B.returns
  have hlocks := B.notSynchronized
  have hts := atoms_spec (ws := wsW ⟨"FoundrymarkLaw", "addMachine", "(LFoundrymark;IIII[J)I"⟩ cL_addMachine 7 (some .int) [(0, 14, 17, 13), (0, 14, 21, 15)]) B.pre
  have hta : ∀ w ∈ WA, w.before _ s = true := fun w h => hts w (List.mem_cons_of_mem _ h)
  have hown : s.vm.findClass "FoundrymarkLaw" = some m.cls := findClass_of_methodNamed B.named
  have htab := vx_table (x := ⟨"FoundrymarkLaw", "addMachine", "(LFoundrymark;IIII[J)I"⟩) B (hts _ List.mem_cons_self)
  subst hsz
  have hD : va_D (va_A (wX h0 a1 a2 a3 a4 a5 h6 s0 s1 s2 s3 t1 t2 t3 t4 t5) s.heap.size) (wX h0 a1 a2 a3 a4 a5 h6 s0 s1 s2 s3 t1 t2 t3 t4 t5) := hD0.self (sz := s.heap.size)
  generalize hAe : va_A (wX h0 a1 a2 a3 a4 a5 h6 s0 s1 s2 s3 t1 t2 t3 t4 t5) s.heap.size = A at hD hG ⊢
  have hA : ∀ q : Nat, s.heap.size ≤ q → A q := fun q h => by rw [← hAe]; exact Or.inr h
  have hS : va_S A s.heap s.heap [] := va_S.rf
  have hP : va_P D vwCl (wX h0 a1 a2 a3 a4 a5 h6 s0 s1 s2 s3 t1 t2 t3 t4 t5) s.heap := hP
  have hl := lv_entry ([.ref h0, .int x1, .int x2, .int x3, .int x4, .ref o]) (n := 7) (Nat.le_of_ble_eq_true rfl)
  rw [lg_entry_eq]
  generalize (lg_sl ([.ref h0, .int x1, .int x2, .int x3, .int x4, .ref o]) ++ List.replicate (7 - (lg_sl ([.ref h0, .int x1, .int x2, .int x3, .int x4, .ref o])).length) Slot.unset).toArray = ls at hl ⊢
  have hl : lv_has ls 7 [(0, .ref h0), (1, .int x1), (2, .int x2), (3, .int x3), (4, .int x4), (5, .ref o)] := hl
  refine lv_aload hx hb dL_addMachine_0 (lv_at hl 5 rfl) ?_
  refine lv_iconst (v := 0) hx hb dL_addMachine_2 (by decide) ?_
  refine lv_aload_n hx hb dL_addMachine_3 rfl (lv_at hl 0 rfl) ?_
  refine lv_iload_n hx hb dL_addMachine_4 rfl (lv_at hl 1 rfl) ?_
  refine lv_iload_n hx hb dL_addMachine_5 rfl (lv_at hl 2 rfl) ?_
  refine lv_iload_n hx hb dL_addMachine_6 rfl (lv_at hl 3 rfl) ?_
  refine lv_iload hx hb dL_addMachine_7 (lv_at hl 4 rfl) ?_
  have hPc := hP.sub (ws' := (wX h0 a1 a2 a3 a4 a5 h6 s0 s1 s2 s3 t1 t2 t3 t4 t5)) [0, 1, 2, 3, 4, 5, 6, 7, 8, 9, 10] rfl
  have hKc := hK.sub (tys' := (tX t1 t2 t3 t4 t5)) [0, 1, 2, 3, 4] rfl
  have hDc := hD.sub (ws' := (wX h0 a1 a2 a3 a4 a5 h6 s0 s1 s2 s3 t1 t2 t3 t4 t5)) [0, 1, 2, 3, 4, 5, 6, 7, 8, 9, 10] (by decide) rfl
  have hFc := va_free (wc := (wX h0 a1 a2 a3 a4 a5 h6 s0 s1 s2 s3 t1 t2 t3 t4 t5)) hD hS hA [0, 1, 2, 3, 4, 5, 6, 7, 8, 9, 10] rfl
  refine gX0 (isC := [0, 1, 2, 3, 4, 5, 6, 7, 8, 9, 10]) (isR := []) (wr := []) (vx_runV (As := [.int x1, .int x2, .int x3, .int x4]) (rest := [.int 0, .ref o]) ⟨hx, hb, hml, hown, hta⟩ (c_X10_addMachine_f l hl0 hf) (cwV 4 hta (gWV mw385 mw386 mw387 mw10 mw384) rfl rfl rfl (by decide +kernel) ⟨Nat.le_of_ble_eq_true rfl, Nat.le_of_ble_eq_true rfl⟩) ⟨gS_blind, va_recv hKc hPc (ci := 15) (q0 := 0) rfl rfl, fun U hU hW => ⟨rfl, by rw [hU], by rw [hU]; exact hPc, va_K.moved hW.alike hKc, hDc.weaken (fun _ _ _ _ => trivial), hG.call hS hU hW hFc⟩⟩ rfl rfl hl.1 rfl (lv_room (Nat.le_of_ble_eq_true rfl)) dL_addMachine_9 ⟨Nat.le_of_ble_eq_true rfl, Nat.le_of_ble_eq_true rfl⟩) hP hD hS hFc rfl rfl (by decide) (by decide) (fun E9 ce q9 u2 H locs h3 hz9 hP hD hS hc9 hv9 hcl9 => ?_)
  obtain ⟨_, rfl⟩ := h3
  refine vx_catch (own := "FoundrymarkLaw") (name := "java/lang/IllegalArgumentException") hown [] ⟨0, 14, 17, 13⟩ [⟨0, 14, 21, 15⟩] (by rw [htab]; rfl) (fun z hz => absurd hz List.not_mem_nil) (by decide) (by decide) (hta _ mw388) (va_Nw.use rfl (hG.C ("java/lang/IllegalArgumentException", "java/lang/IllegalArgumentException") (by decide))) hc9 hv9 hcl9 ?_
  refine W.eq (g2 := F0 m 17 ls [.ref q9]) rfl ?_
  refine lv_astore (lv' := [(6, .ref q9), (0, .ref h0), (1, .int x1), (2, .int x2), (3, .int x3), (4, .int x4), (5, .ref o)]) hx hb dL_addMachine_17 hl (by decide) rfl (fun ls hl => ?_)
  refine lv_iconst (v := 1) hx hb dL_addMachine_19 (by decide) ?_
  have hP9 := hP.sub (ws' := []) [] rfl
  have hD9 := hD.sub (ws' := []) [] (by decide) rfl
  have hK9 := hK.sub (tys' := []) [] rfl
  refine W.widen (k := 1) (n := 6) (Nat.le_of_ble_eq_true rfl) (Nat.le_of_ble_eq_true rfl) ?_
  exact W.iret (v := 1) hx hb hr (fun t ht hWm => ⟨⟨_, (), rfl, rfl, ⟨by rw [ht]; exact hP9, va_K.moved hWm.alike hK9, hD9⟩⟩, hS.F ht⟩) hS.2.2 dL_addMachine_20

set_option maxHeartbeats 4000000 in
set_option maxRecDepth 100000 in
theorem c_L_addPart_t0 (l : Launch) (hl0 : l.stackTraces = false) {D : va_G} {tE sz : Nat} {h0 a1 a2 a3 a4 a5 h6 s0 s1 s2 s3 : Nat} {t1 t2 t3 t4 t5 : ClassId} {o : Nat} {tj : ClassId} {f : Int32} (g91 : inR f 0 3 = true) : Met l ⟨"FoundrymarkLaw", "addPart", "(LFoundrymark;ZI[J)I"⟩ (wsW ⟨"FoundrymarkLaw", "addPart", "(LFoundrymark;ZI[J)I"⟩ cL_addPart 5 (some .int) [(0, 10, 13, 13), (0, 10, 17, 15)]) ({ frames := 4, cells := 4, slots := 20, locals := 85 }) (va_Pc [.ref h0, .int 0, .int f, .ref o] (gS tE D [(h0, .inr (15, [.ref a1, .ref a2, .ref a3, .ref a4, .ref a5, .ref h6, .int 0, .int 0, .int 0, .int 0, .int 0, .int 0, .long 0, .long 0])), (a1, .inl (t1, 5, .inr (.inr (.inr (.inr (fun _ => none)))))), (a2, .inl (t2, 12, .inr (.inr (.inr (.inr (fun _ => none)))))), (a3, .inl (t3, 4, .inr (.inr (.inr (.inr (va_up (va_up (va_up (va_up (fun _ => none) 0 (some s0)) 1 (some s1)) 2 (some s2)) 3 (some s3))))))), (a4, .inl (t4, 90, .inr (.inr (.inr (.inr (fun _ => none)))))), (a5, .inl (t5, 30, .inr (.inr (.inr (.inr (fun _ => none)))))), (h6, .inr (10, [.long 0, .long 0])), (s0, .inr (14, [.int 110, .int 0, .int 0])), (s1, .inr (14, [.int 110, .int 0, .int 0])), (s2, .inr (14, [.int 110, .int 0, .int 0])), (s3, .inr (14, [.int 110, .int 0, .int 0])), (o, .inl (tj, 1, .inr (.inl (fun _ => 0))))] [(t1, .object "Foundrymark$Machine"), (t2, .object "Foundrymark$Part"), (t3, .object "Foundrymark$Supplier"), (t4, .object "Foundrymark$Lot"), (t5, .object "Foundrymark$Order"), (tj, .long)] sz)) (va_Qi (fun (r : Int32) (_ : Unit) => r = 0) (gO D (fun _ => [(o, .inl (tj, 1, .inr (.inl (vp_updL (fun _ => 0) 0 0))))]) (fun _ => []) (va_A [(h0, .inr (15, [.ref a1, .ref a2, .ref a3, .ref a4, .ref a5, .ref h6, .int 0, .int 0, .int 0, .int 0, .int 0, .int 0, .long 0, .long 0])), (a1, .inl (t1, 5, .inr (.inr (.inr (.inr (fun _ => none)))))), (a2, .inl (t2, 12, .inr (.inr (.inr (.inr (fun _ => none)))))), (a3, .inl (t3, 4, .inr (.inr (.inr (.inr (va_up (va_up (va_up (va_up (fun _ => none) 0 (some s0)) 1 (some s1)) 2 (some s2)) 3 (some s3))))))), (a4, .inl (t4, 90, .inr (.inr (.inr (.inr (fun _ => none)))))), (a5, .inl (t5, 30, .inr (.inr (.inr (.inr (fun _ => none)))))), (h6, .inr (10, [.long 0, .long 0])), (s0, .inr (14, [.int 110, .int 0, .int 0])), (s1, .inr (14, [.int 110, .int 0, .int 0])), (s2, .inr (14, [.int 110, .int 0, .int 0])), (s3, .inr (14, [.int 110, .int 0, .int 0])), (o, .inl (tj, 1, .inr (.inl (fun _ => 0))))] sz)) (va_A [(h0, .inr (15, [.ref a1, .ref a2, .ref a3, .ref a4, .ref a5, .ref h6, .int 0, .int 0, .int 0, .int 0, .int 0, .int 0, .long 0, .long 0])), (a1, .inl (t1, 5, .inr (.inr (.inr (.inr (fun _ => none)))))), (a2, .inl (t2, 12, .inr (.inr (.inr (.inr (fun _ => none)))))), (a3, .inl (t3, 4, .inr (.inr (.inr (.inr (va_up (va_up (va_up (va_up (fun _ => none) 0 (some s0)) 1 (some s1)) 2 (some s2)) 3 (some s3))))))), (a4, .inl (t4, 90, .inr (.inr (.inr (.inr (fun _ => none)))))), (a5, .inl (t5, 30, .inr (.inr (.inr (.inr (fun _ => none)))))), (h6, .inr (10, [.long 0, .long 0])), (s0, .inr (14, [.int 110, .int 0, .int 0])), (s1, .inr (14, [.int 110, .int 0, .int 0])), (s2, .inr (14, [.int 110, .int 0, .int 0])), (s3, .inr (14, [.int 110, .int 0, .int 0])), (o, .inl (tj, 1, .inr (.inl (fun _ => 0))))] sz)) 4 20 (va_A [(h0, .inr (15, [.ref a1, .ref a2, .ref a3, .ref a4, .ref a5, .ref h6, .int 0, .int 0, .int 0, .int 0, .int 0, .int 0, .long 0, .long 0])), (a1, .inl (t1, 5, .inr (.inr (.inr (.inr (fun _ => none)))))), (a2, .inl (t2, 12, .inr (.inr (.inr (.inr (fun _ => none)))))), (a3, .inl (t3, 4, .inr (.inr (.inr (.inr (va_up (va_up (va_up (va_up (fun _ => none) 0 (some s0)) 1 (some s1)) 2 (some s2)) 3 (some s3))))))), (a4, .inl (t4, 90, .inr (.inr (.inr (.inr (fun _ => none)))))), (a5, .inl (t5, 30, .inr (.inr (.inr (.inr (fun _ => none)))))), (h6, .inr (10, [.long 0, .long 0])), (s0, .inr (14, [.int 110, .int 0, .int 0])), (s1, .inr (14, [.int 110, .int 0, .int 0])), (s2, .inr (14, [.int 110, .int 0, .int 0])), (s3, .inr (14, [.int 110, .int 0, .int 0])), (o, .inl (tj, 1, .inr (.inl (fun _ => 0))))] sz) := by
  refine va_MetW (cc := cL_addPart) (maxL := 5) (ret := (some .int)) (hh := [(0, 10, 13, 13), (0, 10, 17, 15)]) (by decide) rfl ?_
  intro p e s m args below meth c s₁ B hml hv
  obtain ⟨rfl, hsz, hP, hK, hD0, hG⟩ := hv
  have hx := B.exec
  have hb := B.bytes
  have hr := B.returns
  have hlocks := B.notSynchronized
  have hts := atoms_spec (ws := wsW ⟨"FoundrymarkLaw", "addPart", "(LFoundrymark;ZI[J)I"⟩ cL_addPart 5 (some .int) [(0, 10, 13, 13), (0, 10, 17, 15)]) B.pre
  have hta : ∀ w ∈ WA, w.before _ s = true := fun w h => hts w (List.mem_cons_of_mem _ h)
  have hown : s.vm.findClass "FoundrymarkLaw" = some m.cls := findClass_of_methodNamed B.named
  have htab := vx_table (x := ⟨"FoundrymarkLaw", "addPart", "(LFoundrymark;ZI[J)I"⟩) B (hts _ List.mem_cons_self)
  subst hsz
  have hD : va_D (va_A [(h0, .inr (15, [.ref a1, .ref a2, .ref a3, .ref a4, .ref a5, .ref h6, .int 0, .int 0, .int 0, .int 0, .int 0, .int 0, .long 0, .long 0])), (a1, .inl (t1, 5, .inr (.inr (.inr (.inr (fun _ => none)))))), (a2, .inl (t2, 12, .inr (.inr (.inr (.inr (fun _ => none)))))), (a3, .inl (t3, 4, .inr (.inr (.inr (.inr (va_up (va_up (va_up (va_up (fun _ => none) 0 (some s0)) 1 (some s1)) 2 (some s2)) 3 (some s3))))))), (a4, .inl (t4, 90, .inr (.inr (.inr (.inr (fun _ => none)))))), (a5, .inl (t5, 30, .inr (.inr (.inr (.inr (fun _ => none)))))), (h6, .inr (10, [.long 0, .long 0])), (s0, .inr (14, [.int 110, .int 0, .int 0])), (s1, .inr (14, [.int 110, .int 0, .int 0])), (s2, .inr (14, [.int 110, .int 0, .int 0])), (s3, .inr (14, [.int 110, .int 0, .int 0])), (o, .inl (tj, 1, .inr (.inl (fun _ => 0))))] s.heap.size) [(h0, .inr (15, [.ref a1, .ref a2, .ref a3, .ref a4, .ref a5, .ref h6, .int 0, .int 0, .int 0, .int 0, .int 0, .int 0, .long 0, .long 0])), (a1, .inl (t1, 5, .inr (.inr (.inr (.inr (fun _ => none)))))), (a2, .inl (t2, 12, .inr (.inr (.inr (.inr (fun _ => none)))))), (a3, .inl (t3, 4, .inr (.inr (.inr (.inr (va_up (va_up (va_up (va_up (fun _ => none) 0 (some s0)) 1 (some s1)) 2 (some s2)) 3 (some s3))))))), (a4, .inl (t4, 90, .inr (.inr (.inr (.inr (fun _ => none)))))), (a5, .inl (t5, 30, .inr (.inr (.inr (.inr (fun _ => none)))))), (h6, .inr (10, [.long 0, .long 0])), (s0, .inr (14, [.int 110, .int 0, .int 0])), (s1, .inr (14, [.int 110, .int 0, .int 0])), (s2, .inr (14, [.int 110, .int 0, .int 0])), (s3, .inr (14, [.int 110, .int 0, .int 0])), (o, .inl (tj, 1, .inr (.inl (fun _ => 0))))] := hD0.self (sz := s.heap.size)
  generalize hAe : va_A [(h0, .inr (15, [.ref a1, .ref a2, .ref a3, .ref a4, .ref a5, .ref h6, .int 0, .int 0, .int 0, .int 0, .int 0, .int 0, .long 0, .long 0])), (a1, .inl (t1, 5, .inr (.inr (.inr (.inr (fun _ => none)))))), (a2, .inl (t2, 12, .inr (.inr (.inr (.inr (fun _ => none)))))), (a3, .inl (t3, 4, .inr (.inr (.inr (.inr (va_up (va_up (va_up (va_up (fun _ => none) 0 (some s0)) 1 (some s1)) 2 (some s2)) 3 (some s3))))))), (a4, .inl (t4, 90, .inr (.inr (.inr (.inr (fun _ => none)))))), (a5, .inl (t5, 30, .inr (.inr (.inr (.inr (fun _ => none)))))), (h6, .inr (10, [.long 0, .long 0])), (s0, .inr (14, [.int 110, .int 0, .int 0])), (s1, .inr (14, [.int 110, .int 0, .int 0])), (s2, .inr (14, [.int 110, .int 0, .int 0])), (s3, .inr (14, [.int 110, .int 0, .int 0])), (o, .inl (tj, 1, .inr (.inl (fun _ => 0))))] s.heap.size = A at hD hG ⊢
  have hA : ∀ q : Nat, s.heap.size ≤ q → A q := fun q h => by rw [← hAe]; exact Or.inr h
  have hS : va_S A s.heap s.heap [] := va_S.rf
  have hP : va_P D vwCl [(h0, .inr (15, [.ref a1, .ref a2, .ref a3, .ref a4, .ref a5, .ref h6, .int 0, .int 0, .int 0, .int 0, .int 0, .int 0, .long 0, .long 0])), (a1, .inl (t1, 5, .inr (.inr (.inr (.inr (fun _ => none)))))), (a2, .inl (t2, 12, .inr (.inr (.inr (.inr (fun _ => none)))))), (a3, .inl (t3, 4, .inr (.inr (.inr (.inr (va_up (va_up (va_up (va_up (fun _ => none) 0 (some s0)) 1 (some s1)) 2 (some s2)) 3 (some s3))))))), (a4, .inl (t4, 90, .inr (.inr (.inr (.inr (fun _ => none)))))), (a5, .inl (t5, 30, .inr (.inr (.inr (.inr (fun _ => none)))))), (h6, .inr (10, [.long 0, .long 0])), (s0, .inr (14, [.int 110, .int 0, .int 0])), (s1, .inr (14, [.int 110, .int 0, .int 0])), (s2, .inr (14, [.int 110, .int 0, .int 0])), (s3, .inr (14, [.int 110, .int 0, .int 0])), (o, .inl (tj, 1, .inr (.inl (fun _ => 0))))] s.heap := hP
  have hl := lv_entry ([.ref h0, .int 0, .int f, .ref o]) (n := 5) (Nat.le_of_ble_eq_true rfl)
  rw [lg_entry_eq]
  generalize (lg_sl ([.ref h0, .int 0, .int f, .ref o]) ++ List.replicate (5 - (lg_sl ([.ref h0, .int 0, .int f, .ref o])).length) Slot.unset).toArray = ls at hl ⊢
  have hl : lv_has ls 5 [(0, .ref h0), (1, .int 0), (2, .int f), (3, .ref o)] := hl
  refine lv_aload_n hx hb dL_addPart_0 rfl (lv_at hl 3 rfl) ?_
  refine lv_iconst (v := 0) hx hb dL_addPart_1 (by decide) ?_
  refine lv_aload_n hx hb dL_addPart_2 rfl (lv_at hl 0 rfl) ?_
  refine lv_iload_n hx hb dL_addPart_3 rfl (lv_at hl 1 rfl) ?_
  refine lv_iload_n hx hb dL_addPart_4 rfl (lv_at hl 2 rfl) ?_
  have hPc := hP.sub (ws' := (wX h0 a1 a2 a3 a4 a5 h6 s0 s1 s2 s3 t1 t2 t3 t4 t5)) [0, 1, 2, 3, 4, 5, 6, 7, 8, 9, 10] rfl
  have hKc := hK.sub (tys' := (tX t1 t2 t3 t4 t5)) [0, 1, 2, 3, 4] rfl
  have hDc := hD.sub (ws' := (wX h0 a1 a2 a3 a4 a5 h6 s0 s1 s2 s3 t1 t2 t3 t4 t5)) [0, 1, 2, 3, 4, 5, 6, 7, 8, 9, 10] (by decide) rfl
  have hFc := va_free (wc := (wX h0 a1 a2 a3 a4 a5 h6 s0 s1 s2 s3 t1 t2 t3 t4 t5)) hD hS hA [0, 1, 2, 3, 4, 5, 6, 7, 8, 9, 10] rfl
  refine gJ_i (isC := [0, 1, 2, 3, 4, 5, 6, 7, 8, 9, 10]) (isR := [11]) (wr := [(o, .inl (tj, 1, .inr (.inl (fun _ => 0))))]) (va_runV (As := [.int 0, .int f]) (rest := [.int 0, .ref o]) ⟨hx, hb, hml, hown, hta⟩ (c_X10_addPart_t0 l g91) (cwV 2 hta (gWV mw390 mw391 mw392 mw10 mw389) rfl rfl rfl (by decide +kernel) ⟨Nat.le_of_ble_eq_true rfl, Nat.le_of_ble_eq_true rfl⟩) ⟨gS_blind, va_recv hKc hPc (ci := 15) (q0 := 0) rfl rfl, fun U hU hW => ⟨rfl, by rw [hU], by rw [hU]; exact hPc, va_K.moved hW.alike hKc, hDc.weaken (fun _ _ _ _ => trivial), hG.call hS hU hW hFc⟩⟩ rfl rfl hl.1 rfl (lv_room (Nat.le_of_ble_eq_true rfl)) dL_addPart_5 ⟨Nat.le_of_ble_eq_true rfl, Nat.le_of_ble_eq_true rfl⟩) hP hD hS hK hFc rfl rfl (by decide) (by decide) (fun r1 u2 H locs h3 hP hD hS hK => ?_)
  obtain rfl : r1 = 0 := h3
  have hK : va_K D vwCl [(t1, .object "Foundrymark$Machine"), (t2, .object "Foundrymark$Part"), (t3, .object "Foundrymark$Supplier"), (t4, .object "Foundrymark$Lot"), (t5, .object "Foundrymark$Order"), (tj, .long)] s := hK
  have hP : va_P D vwCl [(o, .inl (tj, 1, .inr (.inl (fun _ => 0))))] H := hP
  have hD : va_D A [(o, .inl (tj, 1, .inr (.inl (fun _ => 0))))] := hD
  refine lv_i2l (v := 0) hx hb dL_addPart_8 (by decide) ?_
  refine va_last hx hb hK hP hD hS 0 5 rfl rfl (i := 0) (x := 0) (by unfold vp_in; decide) dL_addPart_9 (fun H locs hP hD hS => ?_)
  have hP : va_P D vwCl [(o, .inl (tj, 1, .inr (.inl (vp_updL (fun _ => 0) 0 0))))] H := hP
  have hD : va_D A [(o, .inl (tj, 1, .inr (.inl (vp_updL (fun _ => 0) 0 0))))] := hD
  refine lv_goto (tgt := 21) hx hb dL_addPart_10 (by decide) ?_
  refine lv_iconst (v := 0) hx hb dL_addPart_21 (by decide) ?_
  have hP9 := hP.sub (ws' := [(o, .inl (tj, 1, .inr (.inl (vp_updL (fun _ => 0) 0 0))))]) [0] rfl
  have hD9 := hD.sub (ws' := [(o, .inl (tj, 1, .inr (.inl (vp_updL (fun _ => 0) 0 0))))]) [0] (by decide) rfl
  have hK9 := hK.sub (tys' := []) [] rfl
  refine W.widen (k := 4) (n := 20) (Nat.le_of_ble_eq_true rfl) (Nat.le_of_ble_eq_true rfl) ?_
  exact W.iret (v := 0) hx hb hr (fun t ht hWm => ⟨⟨_, (), rfl, rfl, ⟨by rw [ht]; exact hP9, va_K.moved hWm.alike hK9, hD9⟩⟩, hS.F ht⟩) hS.2.2 dL_addPart_22

set_option maxHeartbeats 4000000 in
set_option maxRecDepth 100000 in
theorem c_L_addPart_t1 (l : Launch) (hl0 : l.stackTraces = false) {D : va_G} {tE sz : Nat} {h0 a1 a2 a3 a4 a5 h6 s0 s1 s2 s3 : Nat} {t1 t2 t3 t4 t5 : ClassId} {o : Nat} {tj : ClassId} {f : Int32} (g91 : inR f 0 3 = true) : Met l ⟨"FoundrymarkLaw", "addPart", "(LFoundrymark;ZI[J)I"⟩ (wsW ⟨"FoundrymarkLaw", "addPart", "(LFoundrymark;ZI[J)I"⟩ cL_addPart 5 (some .int) [(0, 10, 13, 13), (0, 10, 17, 15)]) ({ frames := 4, cells := 4, slots := 20, locals := 85 }) (va_Pc [.ref h0, .int 1, .int f, .ref o] (gS tE D [(h0, .inr (15, [.ref a1, .ref a2, .ref a3, .ref a4, .ref a5, .ref h6, .int 0, .int 0, .int 0, .int 0, .int 0, .int 0, .long 0, .long 0])), (a1, .inl (t1, 5, .inr (.inr (.inr (.inr (fun _ => none)))))), (a2, .inl (t2, 12, .inr (.inr (.inr (.inr (fun _ => none)))))), (a3, .inl (t3, 4, .inr (.inr (.inr (.inr (va_up (va_up (va_up (va_up (fun _ => none) 0 (some s0)) 1 (some s1)) 2 (some s2)) 3 (some s3))))))), (a4, .inl (t4, 90, .inr (.inr (.inr (.inr (fun _ => none)))))), (a5, .inl (t5, 30, .inr (.inr (.inr (.inr (fun _ => none)))))), (h6, .inr (10, [.long 0, .long 0])), (s0, .inr (14, [.int 110, .int 0, .int 0])), (s1, .inr (14, [.int 110, .int 0, .int 0])), (s2, .inr (14, [.int 110, .int 0, .int 0])), (s3, .inr (14, [.int 110, .int 0, .int 0])), (o, .inl (tj, 1, .inr (.inl (fun _ => 0))))] [(t1, .object "Foundrymark$Machine"), (t2, .object "Foundrymark$Part"), (t3, .object "Foundrymark$Supplier"), (t4, .object "Foundrymark$Lot"), (t5, .object "Foundrymark$Order"), (tj, .long)] sz)) (va_Qi (fun (r : Int32) (_ : Unit) => r = 0) (gO D (fun _ => [(o, .inl (tj, 1, .inr (.inl (vp_updL (fun _ => 0) 0 0))))]) (fun _ => []) (va_A [(h0, .inr (15, [.ref a1, .ref a2, .ref a3, .ref a4, .ref a5, .ref h6, .int 0, .int 0, .int 0, .int 0, .int 0, .int 0, .long 0, .long 0])), (a1, .inl (t1, 5, .inr (.inr (.inr (.inr (fun _ => none)))))), (a2, .inl (t2, 12, .inr (.inr (.inr (.inr (fun _ => none)))))), (a3, .inl (t3, 4, .inr (.inr (.inr (.inr (va_up (va_up (va_up (va_up (fun _ => none) 0 (some s0)) 1 (some s1)) 2 (some s2)) 3 (some s3))))))), (a4, .inl (t4, 90, .inr (.inr (.inr (.inr (fun _ => none)))))), (a5, .inl (t5, 30, .inr (.inr (.inr (.inr (fun _ => none)))))), (h6, .inr (10, [.long 0, .long 0])), (s0, .inr (14, [.int 110, .int 0, .int 0])), (s1, .inr (14, [.int 110, .int 0, .int 0])), (s2, .inr (14, [.int 110, .int 0, .int 0])), (s3, .inr (14, [.int 110, .int 0, .int 0])), (o, .inl (tj, 1, .inr (.inl (fun _ => 0))))] sz)) (va_A [(h0, .inr (15, [.ref a1, .ref a2, .ref a3, .ref a4, .ref a5, .ref h6, .int 0, .int 0, .int 0, .int 0, .int 0, .int 0, .long 0, .long 0])), (a1, .inl (t1, 5, .inr (.inr (.inr (.inr (fun _ => none)))))), (a2, .inl (t2, 12, .inr (.inr (.inr (.inr (fun _ => none)))))), (a3, .inl (t3, 4, .inr (.inr (.inr (.inr (va_up (va_up (va_up (va_up (fun _ => none) 0 (some s0)) 1 (some s1)) 2 (some s2)) 3 (some s3))))))), (a4, .inl (t4, 90, .inr (.inr (.inr (.inr (fun _ => none)))))), (a5, .inl (t5, 30, .inr (.inr (.inr (.inr (fun _ => none)))))), (h6, .inr (10, [.long 0, .long 0])), (s0, .inr (14, [.int 110, .int 0, .int 0])), (s1, .inr (14, [.int 110, .int 0, .int 0])), (s2, .inr (14, [.int 110, .int 0, .int 0])), (s3, .inr (14, [.int 110, .int 0, .int 0])), (o, .inl (tj, 1, .inr (.inl (fun _ => 0))))] sz)) 4 20 (va_A [(h0, .inr (15, [.ref a1, .ref a2, .ref a3, .ref a4, .ref a5, .ref h6, .int 0, .int 0, .int 0, .int 0, .int 0, .int 0, .long 0, .long 0])), (a1, .inl (t1, 5, .inr (.inr (.inr (.inr (fun _ => none)))))), (a2, .inl (t2, 12, .inr (.inr (.inr (.inr (fun _ => none)))))), (a3, .inl (t3, 4, .inr (.inr (.inr (.inr (va_up (va_up (va_up (va_up (fun _ => none) 0 (some s0)) 1 (some s1)) 2 (some s2)) 3 (some s3))))))), (a4, .inl (t4, 90, .inr (.inr (.inr (.inr (fun _ => none)))))), (a5, .inl (t5, 30, .inr (.inr (.inr (.inr (fun _ => none)))))), (h6, .inr (10, [.long 0, .long 0])), (s0, .inr (14, [.int 110, .int 0, .int 0])), (s1, .inr (14, [.int 110, .int 0, .int 0])), (s2, .inr (14, [.int 110, .int 0, .int 0])), (s3, .inr (14, [.int 110, .int 0, .int 0])), (o, .inl (tj, 1, .inr (.inl (fun _ => 0))))] sz) := by
  refine va_MetW (cc := cL_addPart) (maxL := 5) (ret := (some .int)) (hh := [(0, 10, 13, 13), (0, 10, 17, 15)]) (by decide) rfl ?_
  intro p e s m args below meth c s₁ B hml hv
  obtain ⟨rfl, hsz, hP, hK, hD0, hG⟩ := hv
  have hx := B.exec
  have hb := B.bytes
  have hr := B.returns
  have hlocks := B.notSynchronized
  have hts := atoms_spec (ws := wsW ⟨"FoundrymarkLaw", "addPart", "(LFoundrymark;ZI[J)I"⟩ cL_addPart 5 (some .int) [(0, 10, 13, 13), (0, 10, 17, 15)]) B.pre
  have hta : ∀ w ∈ WA, w.before _ s = true := fun w h => hts w (List.mem_cons_of_mem _ h)
  have hown : s.vm.findClass "FoundrymarkLaw" = some m.cls := findClass_of_methodNamed B.named
  have htab := vx_table (x := ⟨"FoundrymarkLaw", "addPart", "(LFoundrymark;ZI[J)I"⟩) B (hts _ List.mem_cons_self)
  subst hsz
  have hD : va_D (va_A [(h0, .inr (15, [.ref a1, .ref a2, .ref a3, .ref a4, .ref a5, .ref h6, .int 0, .int 0, .int 0, .int 0, .int 0, .int 0, .long 0, .long 0])), (a1, .inl (t1, 5, .inr (.inr (.inr (.inr (fun _ => none)))))), (a2, .inl (t2, 12, .inr (.inr (.inr (.inr (fun _ => none)))))), (a3, .inl (t3, 4, .inr (.inr (.inr (.inr (va_up (va_up (va_up (va_up (fun _ => none) 0 (some s0)) 1 (some s1)) 2 (some s2)) 3 (some s3))))))), (a4, .inl (t4, 90, .inr (.inr (.inr (.inr (fun _ => none)))))), (a5, .inl (t5, 30, .inr (.inr (.inr (.inr (fun _ => none)))))), (h6, .inr (10, [.long 0, .long 0])), (s0, .inr (14, [.int 110, .int 0, .int 0])), (s1, .inr (14, [.int 110, .int 0, .int 0])), (s2, .inr (14, [.int 110, .int 0, .int 0])), (s3, .inr (14, [.int 110, .int 0, .int 0])), (o, .inl (tj, 1, .inr (.inl (fun _ => 0))))] s.heap.size) [(h0, .inr (15, [.ref a1, .ref a2, .ref a3, .ref a4, .ref a5, .ref h6, .int 0, .int 0, .int 0, .int 0, .int 0, .int 0, .long 0, .long 0])), (a1, .inl (t1, 5, .inr (.inr (.inr (.inr (fun _ => none)))))), (a2, .inl (t2, 12, .inr (.inr (.inr (.inr (fun _ => none)))))), (a3, .inl (t3, 4, .inr (.inr (.inr (.inr (va_up (va_up (va_up (va_up (fun _ => none) 0 (some s0)) 1 (some s1)) 2 (some s2)) 3 (some s3))))))), (a4, .inl (t4, 90, .inr (.inr (.inr (.inr (fun _ => none)))))), (a5, .inl (t5, 30, .inr (.inr (.inr (.inr (fun _ => none)))))), (h6, .inr (10, [.long 0, .long 0])), (s0, .inr (14, [.int 110, .int 0, .int 0])), (s1, .inr (14, [.int 110, .int 0, .int 0])), (s2, .inr (14, [.int 110, .int 0, .int 0])), (s3, .inr (14, [.int 110, .int 0, .int 0])), (o, .inl (tj, 1, .inr (.inl (fun _ => 0))))] := hD0.self (sz := s.heap.size)
  generalize hAe : va_A [(h0, .inr (15, [.ref a1, .ref a2, .ref a3, .ref a4, .ref a5, .ref h6, .int 0, .int 0, .int 0, .int 0, .int 0, .int 0, .long 0, .long 0])), (a1, .inl (t1, 5, .inr (.inr (.inr (.inr (fun _ => none)))))), (a2, .inl (t2, 12, .inr (.inr (.inr (.inr (fun _ => none)))))), (a3, .inl (t3, 4, .inr (.inr (.inr (.inr (va_up (va_up (va_up (va_up (fun _ => none) 0 (some s0)) 1 (some s1)) 2 (some s2)) 3 (some s3))))))), (a4, .inl (t4, 90, .inr (.inr (.inr (.inr (fun _ => none)))))), (a5, .inl (t5, 30, .inr (.inr (.inr (.inr (fun _ => none)))))), (h6, .inr (10, [.long 0, .long 0])), (s0, .inr (14, [.int 110, .int 0, .int 0])), (s1, .inr (14, [.int 110, .int 0, .int 0])), (s2, .inr (14, [.int 110, .int 0, .int 0])), (s3, .inr (14, [.int 110, .int 0, .int 0])), (o, .inl (tj, 1, .inr (.inl (fun _ => 0))))] s.heap.size = A at hD hG ⊢
  have hA : ∀ q : Nat, s.heap.size ≤ q → A q := fun q h => by rw [← hAe]; exact Or.inr h
  have hS : va_S A s.heap s.heap [] := va_S.rf
  have hP : va_P D vwCl [(h0, .inr (15, [.ref a1, .ref a2, .ref a3, .ref a4, .ref a5, .ref h6, .int 0, .int 0, .int 0, .int 0, .int 0, .int 0, .long 0, .long 0])), (a1, .inl (t1, 5, .inr (.inr (.inr (.inr (fun _ => none)))))), (a2, .inl (t2, 12, .inr (.inr (.inr (.inr (fun _ => none)))))), (a3, .inl (t3, 4, .inr (.inr (.inr (.inr (va_up (va_up (va_up (va_up (fun _ => none) 0 (some s0)) 1 (some s1)) 2 (some s2)) 3 (some s3))))))), (a4, .inl (t4, 90, .inr (.inr (.inr (.inr (fun _ => none)))))), (a5, .inl (t5, 30, .inr (.inr (.inr (.inr (fun _ => none)))))), (h6, .inr (10, [.long 0, .long 0])), (s0, .inr (14, [.int 110, .int 0, .int 0])), (s1, .inr (14, [.int 110, .int 0, .int 0])), (s2, .inr (14, [.int 110, .int 0, .int 0])), (s3, .inr (14, [.int 110, .int 0, .int 0])), (o, .inl (tj, 1, .inr (.inl (fun _ => 0))))] s.heap := hP
  have hl := lv_entry ([.ref h0, .int 1, .int f, .ref o]) (n := 5) (Nat.le_of_ble_eq_true rfl)
  rw [lg_entry_eq]
  generalize (lg_sl ([.ref h0, .int 1, .int f, .ref o]) ++ List.replicate (5 - (lg_sl ([.ref h0, .int 1, .int f, .ref o])).length) Slot.unset).toArray = ls at hl ⊢
  have hl : lv_has ls 5 [(0, .ref h0), (1, .int 1), (2, .int f), (3, .ref o)] := hl
  refine lv_aload_n hx hb dL_addPart_0 rfl (lv_at hl 3 rfl) ?_
  refine lv_iconst (v := 0) hx hb dL_addPart_1 (by decide) ?_
  refine lv_aload_n hx hb dL_addPart_2 rfl (lv_at hl 0 rfl) ?_
  refine lv_iload_n hx hb dL_addPart_3 rfl (lv_at hl 1 rfl) ?_
  refine lv_iload_n hx hb dL_addPart_4 rfl (lv_at hl 2 rfl) ?_
  have hPc := hP.sub (ws' := (wX h0 a1 a2 a3 a4 a5 h6 s0 s1 s2 s3 t1 t2 t3 t4 t5)) [0, 1, 2, 3, 4, 5, 6, 7, 8, 9, 10] rfl
  have hKc := hK.sub (tys' := (tX t1 t2 t3 t4 t5)) [0, 1, 2, 3, 4] rfl
  have hDc := hD.sub (ws' := (wX h0 a1 a2 a3 a4 a5 h6 s0 s1 s2 s3 t1 t2 t3 t4 t5)) [0, 1, 2, 3, 4, 5, 6, 7, 8, 9, 10] (by decide) rfl
  have hFc := va_free (wc := (wX h0 a1 a2 a3 a4 a5 h6 s0 s1 s2 s3 t1 t2 t3 t4 t5)) hD hS hA [0, 1, 2, 3, 4, 5, 6, 7, 8, 9, 10] rfl
  refine gJ_i (isC := [0, 1, 2, 3, 4, 5, 6, 7, 8, 9, 10]) (isR := [11]) (wr := [(o, .inl (tj, 1, .inr (.inl (fun _ => 0))))]) (va_runV (As := [.int 1, .int f]) (rest := [.int 0, .ref o]) ⟨hx, hb, hml, hown, hta⟩ (c_X10_addPart_t1 l g91) (cwV 2 hta (gWV mw390 mw391 mw392 mw10 mw389) rfl rfl rfl (by decide +kernel) ⟨Nat.le_of_ble_eq_true rfl, Nat.le_of_ble_eq_true rfl⟩) ⟨gS_blind, va_recv hKc hPc (ci := 15) (q0 := 0) rfl rfl, fun U hU hW => ⟨rfl, by rw [hU], by rw [hU]; exact hPc, va_K.moved hW.alike hKc, hDc.weaken (fun _ _ _ _ => trivial), hG.call hS hU hW hFc⟩⟩ rfl rfl hl.1 rfl (lv_room (Nat.le_of_ble_eq_true rfl)) dL_addPart_5 ⟨Nat.le_of_ble_eq_true rfl, Nat.le_of_ble_eq_true rfl⟩) hP hD hS hK hFc rfl rfl (by decide) (by decide) (fun r1 u2 H locs h3 hP hD hS hK => ?_)
  obtain rfl : r1 = 0 := h3
  have hK : va_K D vwCl [(t1, .object "Foundrymark$Machine"), (t2, .object "Foundrymark$Part"), (t3, .object "Foundrymark$Supplier"), (t4, .object "Foundrymark$Lot"), (t5, .object "Foundrymark$Order"), (tj, .long)] s := hK
  have hP : va_P D vwCl [(o, .inl (tj, 1, .inr (.inl (fun _ => 0))))] H := hP
  have hD : va_D A [(o, .inl (tj, 1, .inr (.inl (fun _ => 0))))] := hD
  refine lv_i2l (v := 0) hx hb dL_addPart_8 (by decide) ?_
  refine va_last hx hb hK hP hD hS 0 5 rfl rfl (i := 0) (x := 0) (by unfold vp_in; decide) dL_addPart_9 (fun H locs hP hD hS => ?_)
  have hP : va_P D vwCl [(o, .inl (tj, 1, .inr (.inl (vp_updL (fun _ => 0) 0 0))))] H := hP
  have hD : va_D A [(o, .inl (tj, 1, .inr (.inl (vp_updL (fun _ => 0) 0 0))))] := hD
  refine lv_goto (tgt := 21) hx hb dL_addPart_10 (by decide) ?_
  refine lv_iconst (v := 0) hx hb dL_addPart_21 (by decide) ?_
  have hP9 := hP.sub (ws' := [(o, .inl (tj, 1, .inr (.inl (vp_updL (fun _ => 0) 0 0))))]) [0] rfl
  have hD9 := hD.sub (ws' := [(o, .inl (tj, 1, .inr (.inl (vp_updL (fun _ => 0) 0 0))))]) [0] (by decide) rfl
  have hK9 := hK.sub (tys' := []) [] rfl
  refine W.widen (k := 4) (n := 20) (Nat.le_of_ble_eq_true rfl) (Nat.le_of_ble_eq_true rfl) ?_
  exact W.iret (v := 0) hx hb hr (fun t ht hWm => ⟨⟨_, (), rfl, rfl, ⟨by rw [ht]; exact hP9, va_K.moved hWm.alike hK9, hD9⟩⟩, hS.F ht⟩) hS.2.2 dL_addPart_22

set_option maxHeartbeats 4000000 in
set_option maxRecDepth 100000 in
theorem c_L_addPart_f (l : Launch) (hl0 : l.stackTraces = false) {D : va_G} {tE sz : Nat} {h0 a1 a2 a3 a4 a5 h6 s0 s1 s2 s3 : Nat} {t1 t2 t3 t4 t5 : ClassId} {o : Nat} {z f : Int32} (hf : inR f 0 3 = false) : Met l ⟨"FoundrymarkLaw", "addPart", "(LFoundrymark;ZI[J)I"⟩ (wsW ⟨"FoundrymarkLaw", "addPart", "(LFoundrymark;ZI[J)I"⟩ cL_addPart 5 (some .int) [(0, 10, 13, 13), (0, 10, 17, 15)]) ({ frames := 7, cells := 1, slots := 6, locals := 120 }) (va_Pc [.ref h0, .int z, .int f, .ref o] (gS tE D (wX h0 a1 a2 a3 a4 a5 h6 s0 s1 s2 s3 t1 t2 t3 t4 t5) (tX t1 t2 t3 t4 t5) sz)) (va_Qi (fun (r : Int32) (_ : Unit) => r = 1) (gO D (fun _ => []) (fun _ => []) (va_A (wX h0 a1 a2 a3 a4 a5 h6 s0 s1 s2 s3 t1 t2 t3 t4 t5) sz)) (va_A (wX h0 a1 a2 a3 a4 a5 h6 s0 s1 s2 s3 t1 t2 t3 t4 t5) sz)) 1 6 (va_A (wX h0 a1 a2 a3 a4 a5 h6 s0 s1 s2 s3 t1 t2 t3 t4 t5) sz) := by
  refine va_MetW (cc := cL_addPart) (maxL := 5) (ret := (some .int)) (hh := [(0, 10, 13, 13), (0, 10, 17, 15)]) (by decide) rfl ?_
  intro p e s m args below meth c s₁ B hml hv
  obtain ⟨rfl, hsz, hP, hK, hD0, hG⟩ := hv
  have hx := B.exec
  have hb := B.bytes
  have hr := B.returns
  have hlocks := B.notSynchronized
  have hts := atoms_spec (ws := wsW ⟨"FoundrymarkLaw", "addPart", "(LFoundrymark;ZI[J)I"⟩ cL_addPart 5 (some .int) [(0, 10, 13, 13), (0, 10, 17, 15)]) B.pre
  have hta : ∀ w ∈ WA, w.before _ s = true := fun w h => hts w (List.mem_cons_of_mem _ h)
  have hown : s.vm.findClass "FoundrymarkLaw" = some m.cls := findClass_of_methodNamed B.named
  have htab := vx_table (x := ⟨"FoundrymarkLaw", "addPart", "(LFoundrymark;ZI[J)I"⟩) B (hts _ List.mem_cons_self)
  subst hsz
  have hD : va_D (va_A (wX h0 a1 a2 a3 a4 a5 h6 s0 s1 s2 s3 t1 t2 t3 t4 t5) s.heap.size) (wX h0 a1 a2 a3 a4 a5 h6 s0 s1 s2 s3 t1 t2 t3 t4 t5) := hD0.self (sz := s.heap.size)
  generalize hAe : va_A (wX h0 a1 a2 a3 a4 a5 h6 s0 s1 s2 s3 t1 t2 t3 t4 t5) s.heap.size = A at hD hG ⊢
  have hA : ∀ q : Nat, s.heap.size ≤ q → A q := fun q h => by rw [← hAe]; exact Or.inr h
  have hS : va_S A s.heap s.heap [] := va_S.rf
  have hP : va_P D vwCl (wX h0 a1 a2 a3 a4 a5 h6 s0 s1 s2 s3 t1 t2 t3 t4 t5) s.heap := hP
  have hl := lv_entry ([.ref h0, .int z, .int f, .ref o]) (n := 5) (Nat.le_of_ble_eq_true rfl)
  rw [lg_entry_eq]
  generalize (lg_sl ([.ref h0, .int z, .int f, .ref o]) ++ List.replicate (5 - (lg_sl ([.ref h0, .int z, .int f, .ref o])).length) Slot.unset).toArray = ls at hl ⊢
  have hl : lv_has ls 5 [(0, .ref h0), (1, .int z), (2, .int f), (3, .ref o)] := hl
  refine lv_aload_n hx hb dL_addPart_0 rfl (lv_at hl 3 rfl) ?_
  refine lv_iconst (v := 0) hx hb dL_addPart_1 (by decide) ?_
  refine lv_aload_n hx hb dL_addPart_2 rfl (lv_at hl 0 rfl) ?_
  refine lv_iload_n hx hb dL_addPart_3 rfl (lv_at hl 1 rfl) ?_
  refine lv_iload_n hx hb dL_addPart_4 rfl (lv_at hl 2 rfl) ?_
  have hPc := hP.sub (ws' := (wX h0 a1 a2 a3 a4 a5 h6 s0 s1 s2 s3 t1 t2 t3 t4 t5)) [0, 1, 2, 3, 4, 5, 6, 7, 8, 9, 10] rfl
  have hKc := hK.sub (tys' := (tX t1 t2 t3 t4 t5)) [0, 1, 2, 3, 4] rfl
  have hDc := hD.sub (ws' := (wX h0 a1 a2 a3 a4 a5 h6 s0 s1 s2 s3 t1 t2 t3 t4 t5)) [0, 1, 2, 3, 4, 5, 6, 7, 8, 9, 10] (by decide) rfl
  have hFc := va_free (wc := (wX h0 a1 a2 a3 a4 a5 h6 s0 s1 s2 s3 t1 t2 t3 t4 t5)) hD hS hA [0, 1, 2, 3, 4, 5, 6, 7, 8, 9, 10] rfl
  refine gX0 (isC := [0, 1, 2, 3, 4, 5, 6, 7, 8, 9, 10]) (isR := []) (wr := []) (vx_runV (As := [.int z, .int f]) (rest := [.int 0, .ref o]) ⟨hx, hb, hml, hown, hta⟩ (c_X10_addPart_f l hl0 hf) (cwV 2 hta (gWV mw390 mw391 mw392 mw10 mw389) rfl rfl rfl (by decide +kernel) ⟨Nat.le_of_ble_eq_true rfl, Nat.le_of_ble_eq_true rfl⟩) ⟨gS_blind, va_recv hKc hPc (ci := 15) (q0 := 0) rfl rfl, fun U hU hW => ⟨rfl, by rw [hU], by rw [hU]; exact hPc, va_K.moved hW.alike hKc, hDc.weaken (fun _ _ _ _ => trivial), hG.call hS hU hW hFc⟩⟩ rfl rfl hl.1 rfl (lv_room (Nat.le_of_ble_eq_true rfl)) dL_addPart_5 ⟨Nat.le_of_ble_eq_true rfl, Nat.le_of_ble_eq_true rfl⟩) hP hD hS hFc rfl rfl (by decide) (by decide) (fun E9 ce q9 u2 H locs h3 hz9 hP hD hS hc9 hv9 hcl9 => ?_)
  obtain ⟨_, rfl⟩ := h3
  refine vx_catch (own := "FoundrymarkLaw") (name := "java/lang/IllegalArgumentException") hown [] ⟨0, 10, 13, 13⟩ [⟨0, 10, 17, 15⟩] (by rw [htab]; rfl) (fun z hz => absurd hz List.not_mem_nil) (by decide) (by decide) (hta _ mw388) (va_Nw.use rfl (hG.C ("java/lang/IllegalArgumentException", "java/lang/IllegalArgumentException") (by decide))) hc9 hv9 hcl9 ?_
  refine W.eq (g2 := F0 m 13 ls [.ref q9]) rfl ?_
  refine lv_astore (lv' := [(4, .ref q9), (0, .ref h0), (1, .int z), (2, .int f), (3, .ref o)]) hx hb dL_addPart_13 hl (by decide) rfl (fun ls hl => ?_)
  refine lv_iconst (v := 1) hx hb dL_addPart_15 (by decide) ?_
  have hP9 := hP.sub (ws' := []) [] rfl
  have hD9 := hD.sub (ws' := []) [] (by decide) rfl
  have hK9 := hK.sub (tys' := []) [] rfl
  refine W.widen (k := 1) (n := 6) (Nat.le_of_ble_eq_true rfl) (Nat.le_of_ble_eq_true rfl) ?_
  exact W.iret (v := 1) hx hb hr (fun t ht hWm => ⟨⟨_, (), rfl, rfl, ⟨by rw [ht]; exact hP9, va_K.moved hWm.alike hK9, hD9⟩⟩, hS.F ht⟩) hS.2.2 dL_addPart_16

set_option maxHeartbeats 4000000 in
set_option maxRecDepth 100000 in
theorem c_L_rule_0 (l : Launch) (hl0 : l.stackTraces = false) {D : va_G} {tE sz : Nat} {h0 a1 a2 a3 a4 a5 h6 s0 s1 s2 s3 : Nat} {t1 t2 t3 t4 t5 : ClassId} {o : Nat} {tj : ClassId}  : Met l ⟨"FoundrymarkLaw", "rule", "(LFoundrymark;I[J)I"⟩ (wsW ⟨"FoundrymarkLaw", "rule", "(LFoundrymark;I[J)I"⟩ cL_rule 4 (some .int) [(0, 9, 12, 24)]) ({ frames := 2, cells := 0, slots := 0, locals := 43 }) (va_Pc [.ref h0, .int 0, .ref o] (gS tE D [(h0, .inr (15, [.ref a1, .ref a2, .ref a3, .ref a4, .ref a5, .ref h6, .int 0, .int 0, .int 0, .int 0, .int 0, .int 0, .long 0, .long 0])), (a1, .inl (t1, 5, .inr (.inr (.inr (.inr (fun _ => none)))))), (a2, .inl (t2, 12, .inr (.inr (.inr (.inr (fun _ => none)))))), (a3, .inl (t3, 4, .inr (.inr (.inr (.inr (va_up (va_up (va_up (va_up (fun _ => none) 0 (some s0)) 1 (some s1)) 2 (some s2)) 3 (some s3))))))), (a4, .inl (t4, 90, .inr (.inr (.inr (.inr (fun _ => none)))))), (a5, .inl (t5, 30, .inr (.inr (.inr (.inr (fun _ => none)))))), (h6, .inr (10, [.long 0, .long 0])), (s0, .inr (14, [.int 110, .int 0, .int 0])), (s1, .inr (14, [.int 110, .int 0, .int 0])), (s2, .inr (14, [.int 110, .int 0, .int 0])), (s3, .inr (14, [.int 110, .int 0, .int 0])), (o, .inl (tj, 1, .inr (.inl (fun _ => 0))))] [(t1, .object "Foundrymark$Machine"), (t2, .object "Foundrymark$Part"), (t3, .object "Foundrymark$Supplier"), (t4, .object "Foundrymark$Lot"), (t5, .object "Foundrymark$Order"), (tj, .long)] sz)) (va_Qi (fun (r : Int32) (_ : Unit) => r = 0) (gO D (fun _ => [(o, .inl (tj, 1, .inr (.inl (vp_updL (fun _ => 0) 0 110))))]) (fun _ => []) (va_A [(h0, .inr (15, [.ref a1, .ref a2, .ref a3, .ref a4, .ref a5, .ref h6, .int 0, .int 0, .int 0, .int 0, .int 0, .int 0, .long 0, .long 0])), (a1, .inl (t1, 5, .inr (.inr (.inr (.inr (fun _ => none)))))), (a2, .inl (t2, 12, .inr (.inr (.inr (.inr (fun _ => none)))))), (a3, .inl (t3, 4, .inr (.inr (.inr (.inr (va_up (va_up (va_up (va_up (fun _ => none) 0 (some s0)) 1 (some s1)) 2 (some s2)) 3 (some s3))))))), (a4, .inl (t4, 90, .inr (.inr (.inr (.inr (fun _ => none)))))), (a5, .inl (t5, 30, .inr (.inr (.inr (.inr (fun _ => none)))))), (h6, .inr (10, [.long 0, .long 0])), (s0, .inr (14, [.int 110, .int 0, .int 0])), (s1, .inr (14, [.int 110, .int 0, .int 0])), (s2, .inr (14, [.int 110, .int 0, .int 0])), (s3, .inr (14, [.int 110, .int 0, .int 0])), (o, .inl (tj, 1, .inr (.inl (fun _ => 0))))] sz)) (va_A [(h0, .inr (15, [.ref a1, .ref a2, .ref a3, .ref a4, .ref a5, .ref h6, .int 0, .int 0, .int 0, .int 0, .int 0, .int 0, .long 0, .long 0])), (a1, .inl (t1, 5, .inr (.inr (.inr (.inr (fun _ => none)))))), (a2, .inl (t2, 12, .inr (.inr (.inr (.inr (fun _ => none)))))), (a3, .inl (t3, 4, .inr (.inr (.inr (.inr (va_up (va_up (va_up (va_up (fun _ => none) 0 (some s0)) 1 (some s1)) 2 (some s2)) 3 (some s3))))))), (a4, .inl (t4, 90, .inr (.inr (.inr (.inr (fun _ => none)))))), (a5, .inl (t5, 30, .inr (.inr (.inr (.inr (fun _ => none)))))), (h6, .inr (10, [.long 0, .long 0])), (s0, .inr (14, [.int 110, .int 0, .int 0])), (s1, .inr (14, [.int 110, .int 0, .int 0])), (s2, .inr (14, [.int 110, .int 0, .int 0])), (s3, .inr (14, [.int 110, .int 0, .int 0])), (o, .inl (tj, 1, .inr (.inl (fun _ => 0))))] sz)) 0 0 (va_A [(h0, .inr (15, [.ref a1, .ref a2, .ref a3, .ref a4, .ref a5, .ref h6, .int 0, .int 0, .int 0, .int 0, .int 0, .int 0, .long 0, .long 0])), (a1, .inl (t1, 5, .inr (.inr (.inr (.inr (fun _ => none)))))), (a2, .inl (t2, 12, .inr (.inr (.inr (.inr (fun _ => none)))))), (a3, .inl (t3, 4, .inr (.inr (.inr (.inr (va_up (va_up (va_up (va_up (fun _ => none) 0 (some s0)) 1 (some s1)) 2 (some s2)) 3 (some s3))))))), (a4, .inl (t4, 90, .inr (.inr (.inr (.inr (fun _ => none)))))), (a5, .inl (t5, 30, .inr (.inr (.inr (.inr (fun _ => none)))))), (h6, .inr (10, [.long 0, .long 0])), (s0, .inr (14, [.int 110, .int 0, .int 0])), (s1, .inr (14, [.int 110, .int 0, .int 0])), (s2, .inr (14, [.int 110, .int 0, .int 0])), (s3, .inr (14, [.int 110, .int 0, .int 0])), (o, .inl (tj, 1, .inr (.inl (fun _ => 0))))] sz) := by
  refine va_MetW (cc := cL_rule) (maxL := 4) (ret := (some .int)) (hh := [(0, 9, 12, 24)]) (by decide) rfl ?_
  intro p e s m args below meth c s₁ B hml hv
  obtain ⟨rfl, hsz, hP, hK, hD0, hG⟩ := hv
  have hx := B.exec
  have hb := B.bytes
  have hr := B.returns
  have hlocks := B.notSynchronized
  have hts := atoms_spec (ws := wsW ⟨"FoundrymarkLaw", "rule", "(LFoundrymark;I[J)I"⟩ cL_rule 4 (some .int) [(0, 9, 12, 24)]) B.pre
  have hta : ∀ w ∈ WA, w.before _ s = true := fun w h => hts w (List.mem_cons_of_mem _ h)
  have hown : s.vm.findClass "FoundrymarkLaw" = some m.cls := findClass_of_methodNamed B.named
  have htab := vx_table (x := ⟨"FoundrymarkLaw", "rule", "(LFoundrymark;I[J)I"⟩) B (hts _ List.mem_cons_self)
  subst hsz
  have hD : va_D (va_A [(h0, .inr (15, [.ref a1, .ref a2, .ref a3, .ref a4, .ref a5, .ref h6, .int 0, .int 0, .int 0, .int 0, .int 0, .int 0, .long 0, .long 0])), (a1, .inl (t1, 5, .inr (.inr (.inr (.inr (fun _ => none)))))), (a2, .inl (t2, 12, .inr (.inr (.inr (.inr (fun _ => none)))))), (a3, .inl (t3, 4, .inr (.inr (.inr (.inr (va_up (va_up (va_up (va_up (fun _ => none) 0 (some s0)) 1 (some s1)) 2 (some s2)) 3 (some s3))))))), (a4, .inl (t4, 90, .inr (.inr (.inr (.inr (fun _ => none)))))), (a5, .inl (t5, 30, .inr (.inr (.inr (.inr (fun _ => none)))))), (h6, .inr (10, [.long 0, .long 0])), (s0, .inr (14, [.int 110, .int 0, .int 0])), (s1, .inr (14, [.int 110, .int 0, .int 0])), (s2, .inr (14, [.int 110, .int 0, .int 0])), (s3, .inr (14, [.int 110, .int 0, .int 0])), (o, .inl (tj, 1, .inr (.inl (fun _ => 0))))] s.heap.size) [(h0, .inr (15, [.ref a1, .ref a2, .ref a3, .ref a4, .ref a5, .ref h6, .int 0, .int 0, .int 0, .int 0, .int 0, .int 0, .long 0, .long 0])), (a1, .inl (t1, 5, .inr (.inr (.inr (.inr (fun _ => none)))))), (a2, .inl (t2, 12, .inr (.inr (.inr (.inr (fun _ => none)))))), (a3, .inl (t3, 4, .inr (.inr (.inr (.inr (va_up (va_up (va_up (va_up (fun _ => none) 0 (some s0)) 1 (some s1)) 2 (some s2)) 3 (some s3))))))), (a4, .inl (t4, 90, .inr (.inr (.inr (.inr (fun _ => none)))))), (a5, .inl (t5, 30, .inr (.inr (.inr (.inr (fun _ => none)))))), (h6, .inr (10, [.long 0, .long 0])), (s0, .inr (14, [.int 110, .int 0, .int 0])), (s1, .inr (14, [.int 110, .int 0, .int 0])), (s2, .inr (14, [.int 110, .int 0, .int 0])), (s3, .inr (14, [.int 110, .int 0, .int 0])), (o, .inl (tj, 1, .inr (.inl (fun _ => 0))))] := hD0.self (sz := s.heap.size)
  generalize hAe : va_A [(h0, .inr (15, [.ref a1, .ref a2, .ref a3, .ref a4, .ref a5, .ref h6, .int 0, .int 0, .int 0, .int 0, .int 0, .int 0, .long 0, .long 0])), (a1, .inl (t1, 5, .inr (.inr (.inr (.inr (fun _ => none)))))), (a2, .inl (t2, 12, .inr (.inr (.inr (.inr (fun _ => none)))))), (a3, .inl (t3, 4, .inr (.inr (.inr (.inr (va_up (va_up (va_up (va_up (fun _ => none) 0 (some s0)) 1 (some s1)) 2 (some s2)) 3 (some s3))))))), (a4, .inl (t4, 90, .inr (.inr (.inr (.inr (fun _ => none)))))), (a5, .inl (t5, 30, .inr (.inr (.inr (.inr (fun _ => none)))))), (h6, .inr (10, [.long 0, .long 0])), (s0, .inr (14, [.int 110, .int 0, .int 0])), (s1, .inr (14, [.int 110, .int 0, .int 0])), (s2, .inr (14, [.int 110, .int 0, .int 0])), (s3, .inr (14, [.int 110, .int 0, .int 0])), (o, .inl (tj, 1, .inr (.inl (fun _ => 0))))] s.heap.size = A at hD hG ⊢
  have hA : ∀ q : Nat, s.heap.size ≤ q → A q := fun q h => by rw [← hAe]; exact Or.inr h
  have hS : va_S A s.heap s.heap [] := va_S.rf
  have hP : va_P D vwCl [(h0, .inr (15, [.ref a1, .ref a2, .ref a3, .ref a4, .ref a5, .ref h6, .int 0, .int 0, .int 0, .int 0, .int 0, .int 0, .long 0, .long 0])), (a1, .inl (t1, 5, .inr (.inr (.inr (.inr (fun _ => none)))))), (a2, .inl (t2, 12, .inr (.inr (.inr (.inr (fun _ => none)))))), (a3, .inl (t3, 4, .inr (.inr (.inr (.inr (va_up (va_up (va_up (va_up (fun _ => none) 0 (some s0)) 1 (some s1)) 2 (some s2)) 3 (some s3))))))), (a4, .inl (t4, 90, .inr (.inr (.inr (.inr (fun _ => none)))))), (a5, .inl (t5, 30, .inr (.inr (.inr (.inr (fun _ => none)))))), (h6, .inr (10, [.long 0, .long 0])), (s0, .inr (14, [.int 110, .int 0, .int 0])), (s1, .inr (14, [.int 110, .int 0, .int 0])), (s2, .inr (14, [.int 110, .int 0, .int 0])), (s3, .inr (14, [.int 110, .int 0, .int 0])), (o, .inl (tj, 1, .inr (.inl (fun _ => 0))))] s.heap := hP
  have hl := lv_entry ([.ref h0, .int 0, .ref o]) (n := 4) (Nat.le_of_ble_eq_true rfl)
  rw [lg_entry_eq]
  generalize (lg_sl ([.ref h0, .int 0, .ref o]) ++ List.replicate (4 - (lg_sl ([.ref h0, .int 0, .ref o])).length) Slot.unset).toArray = ls at hl ⊢
  have hl : lv_has ls 4 [(0, .ref h0), (1, .int 0), (2, .ref o)] := hl
  refine lv_aload_n hx hb dL_rule_0 rfl (lv_at hl 2 rfl) ?_
  refine lv_iconst (v := 0) hx hb dL_rule_1 (by decide) ?_
  refine lv_aload_n hx hb dL_rule_2 rfl (lv_at hl 0 rfl) ?_
  refine lv_iload_n hx hb dL_rule_3 rfl (lv_at hl 1 rfl) ?_
  have hPc := hP.sub (ws' := (wX h0 a1 a2 a3 a4 a5 h6 s0 s1 s2 s3 t1 t2 t3 t4 t5)) [0, 1, 2, 3, 4, 5, 6, 7, 8, 9, 10] rfl
  have hKc := hK.sub (tys' := (tX t1 t2 t3 t4 t5)) [0, 1, 2, 3, 4] rfl
  refine vp_callSi (W.runV (As := [.int 0]) (rest := [.int 0, .ref o]) ⟨hx, hb, hml, hown, hta⟩ (c_X10_rule_0 l ) (cwV 1 hta (gWV mw394 mw395 mw396 mw10 mw393) rfl rfl rfl (by decide +kernel) ⟨Nat.le_of_ble_eq_true rfl, Nat.le_of_ble_eq_true rfl⟩) ⟨gR_blind, va_recv hKc hPc (ci := 15) (q0 := 0) rfl rfl, fun U hU hW => ⟨rfl, by rw [hU]; exact hPc, va_K.moved hW.alike hKc⟩⟩ rfl rfl hl.1 rfl (lv_room (Nat.le_of_ble_eq_true rfl)) dL_rule_4 ⟨Nat.le_of_ble_eq_true rfl, Nat.le_of_ble_eq_true rfl⟩) (fun r1 h2 => ?_)
  obtain rfl : r1 = 110 := h2
  refine lv_i2l (v := 110) hx hb dL_rule_7 (by decide) ?_
  refine va_last hx hb hK hP hD hS 11 5 rfl rfl (i := 0) (x := 110) (by unfold vp_in; decide) dL_rule_8 (fun H locs hP hD hS => ?_)
  have hP : va_P D vwCl [(h0, .inr (15, [.ref a1, .ref a2, .ref a3, .ref a4, .ref a5, .ref h6, .int 0, .int 0, .int 0, .int 0, .int 0, .int 0, .long 0, .long 0])), (a1, .inl (t1, 5, .inr (.inr (.inr (.inr (fun _ => none)))))), (a2, .inl (t2, 12, .inr (.inr (.inr (.inr (fun _ => none)))))), (a3, .inl (t3, 4, .inr (.inr (.inr (.inr (va_up (va_up (va_up (va_up (fun _ => none) 0 (some s0)) 1 (some s1)) 2 (some s2)) 3 (some s3))))))), (a4, .inl (t4, 90, .inr (.inr (.inr (.inr (fun _ => none)))))), (a5, .inl (t5, 30, .inr (.inr (.inr (.inr (fun _ => none)))))), (h6, .inr (10, [.long 0, .long 0])), (s0, .inr (14, [.int 110, .int 0, .int 0])), (s1, .inr (14, [.int 110, .int 0, .int 0])), (s2, .inr (14, [.int 110, .int 0, .int 0])), (s3, .inr (14, [.int 110, .int 0, .int 0])), (o, .inl (tj, 1, .inr (.inl (vp_updL (fun _ => 0) 0 110))))] H := hP
  have hD : va_D A [(h0, .inr (15, [.ref a1, .ref a2, .ref a3, .ref a4, .ref a5, .ref h6, .int 0, .int 0, .int 0, .int 0, .int 0, .int 0, .long 0, .long 0])), (a1, .inl (t1, 5, .inr (.inr (.inr (.inr (fun _ => none)))))), (a2, .inl (t2, 12, .inr (.inr (.inr (.inr (fun _ => none)))))), (a3, .inl (t3, 4, .inr (.inr (.inr (.inr (va_up (va_up (va_up (va_up (fun _ => none) 0 (some s0)) 1 (some s1)) 2 (some s2)) 3 (some s3))))))), (a4, .inl (t4, 90, .inr (.inr (.inr (.inr (fun _ => none)))))), (a5, .inl (t5, 30, .inr (.inr (.inr (.inr (fun _ => none)))))), (h6, .inr (10, [.long 0, .long 0])), (s0, .inr (14, [.int 110, .int 0, .int 0])), (s1, .inr (14, [.int 110, .int 0, .int 0])), (s2, .inr (14, [.int 110, .int 0, .int 0])), (s3, .inr (14, [.int 110, .int 0, .int 0])), (o, .inl (tj, 1, .inr (.inl (vp_updL (fun _ => 0) 0 110))))] := hD
  refine lv_goto (tgt := 15) hx hb dL_rule_9 (by decide) ?_
  refine lv_iconst (v := 0) hx hb dL_rule_15 (by decide) ?_
  have hP9 := hP.sub (ws' := [(o, .inl (tj, 1, .inr (.inl (vp_updL (fun _ => 0) 0 110))))]) [11] rfl
  have hD9 := hD.sub (ws' := [(o, .inl (tj, 1, .inr (.inl (vp_updL (fun _ => 0) 0 110))))]) [11] (by decide) rfl
  have hK9 := hK.sub (tys' := []) [] rfl
  refine W.widen (k := 0) (n := 0) (Nat.le_of_ble_eq_true rfl) (Nat.le_of_ble_eq_true rfl) ?_
  exact W.iret (v := 0) hx hb hr (fun t ht hWm => ⟨⟨_, (), rfl, rfl, ⟨by rw [ht]; exact hP9, va_K.moved hWm.alike hK9, hD9⟩⟩, hS.F ht⟩) hS.2.2 dL_rule_16

set_option maxHeartbeats 4000000 in
set_option maxRecDepth 100000 in
theorem c_L_rule_1 (l : Launch) (hl0 : l.stackTraces = false) {D : va_G} {tE sz : Nat} {h0 a1 a2 a3 a4 a5 h6 s0 s1 s2 s3 : Nat} {t1 t2 t3 t4 t5 : ClassId} {o : Nat} {tj : ClassId}  : Met l ⟨"FoundrymarkLaw", "rule", "(LFoundrymark;I[J)I"⟩ (wsW ⟨"FoundrymarkLaw", "rule", "(LFoundrymark;I[J)I"⟩ cL_rule 4 (some .int) [(0, 9, 12, 24)]) ({ frames := 2, cells := 0, slots := 0, locals := 43 }) (va_Pc [.ref h0, .int 1, .ref o] (gS tE D [(h0, .inr (15, [.ref a1, .ref a2, .ref a3, .ref a4, .ref a5, .ref h6, .int 0, .int 0, .int 0, .int 0, .int 0, .int 0, .long 0, .long 0])), (a1, .inl (t1, 5, .inr (.inr (.inr (.inr (fun _ => none)))))), (a2, .inl (t2, 12, .inr (.inr (.inr (.inr (fun _ => none)))))), (a3, .inl (t3, 4, .inr (.inr (.inr (.inr (va_up (va_up (va_up (va_up (fun _ => none) 0 (some s0)) 1 (some s1)) 2 (some s2)) 3 (some s3))))))), (a4, .inl (t4, 90, .inr (.inr (.inr (.inr (fun _ => none)))))), (a5, .inl (t5, 30, .inr (.inr (.inr (.inr (fun _ => none)))))), (h6, .inr (10, [.long 0, .long 0])), (s0, .inr (14, [.int 110, .int 0, .int 0])), (s1, .inr (14, [.int 110, .int 0, .int 0])), (s2, .inr (14, [.int 110, .int 0, .int 0])), (s3, .inr (14, [.int 110, .int 0, .int 0])), (o, .inl (tj, 1, .inr (.inl (fun _ => 0))))] [(t1, .object "Foundrymark$Machine"), (t2, .object "Foundrymark$Part"), (t3, .object "Foundrymark$Supplier"), (t4, .object "Foundrymark$Lot"), (t5, .object "Foundrymark$Order"), (tj, .long)] sz)) (va_Qi (fun (r : Int32) (_ : Unit) => r = 0) (gO D (fun _ => [(o, .inl (tj, 1, .inr (.inl (vp_updL (fun _ => 0) 0 110))))]) (fun _ => []) (va_A [(h0, .inr (15, [.ref a1, .ref a2, .ref a3, .ref a4, .ref a5, .ref h6, .int 0, .int 0, .int 0, .int 0, .int 0, .int 0, .long 0, .long 0])), (a1, .inl (t1, 5, .inr (.inr (.inr (.inr (fun _ => none)))))), (a2, .inl (t2, 12, .inr (.inr (.inr (.inr (fun _ => none)))))), (a3, .inl (t3, 4, .inr (.inr (.inr (.inr (va_up (va_up (va_up (va_up (fun _ => none) 0 (some s0)) 1 (some s1)) 2 (some s2)) 3 (some s3))))))), (a4, .inl (t4, 90, .inr (.inr (.inr (.inr (fun _ => none)))))), (a5, .inl (t5, 30, .inr (.inr (.inr (.inr (fun _ => none)))))), (h6, .inr (10, [.long 0, .long 0])), (s0, .inr (14, [.int 110, .int 0, .int 0])), (s1, .inr (14, [.int 110, .int 0, .int 0])), (s2, .inr (14, [.int 110, .int 0, .int 0])), (s3, .inr (14, [.int 110, .int 0, .int 0])), (o, .inl (tj, 1, .inr (.inl (fun _ => 0))))] sz)) (va_A [(h0, .inr (15, [.ref a1, .ref a2, .ref a3, .ref a4, .ref a5, .ref h6, .int 0, .int 0, .int 0, .int 0, .int 0, .int 0, .long 0, .long 0])), (a1, .inl (t1, 5, .inr (.inr (.inr (.inr (fun _ => none)))))), (a2, .inl (t2, 12, .inr (.inr (.inr (.inr (fun _ => none)))))), (a3, .inl (t3, 4, .inr (.inr (.inr (.inr (va_up (va_up (va_up (va_up (fun _ => none) 0 (some s0)) 1 (some s1)) 2 (some s2)) 3 (some s3))))))), (a4, .inl (t4, 90, .inr (.inr (.inr (.inr (fun _ => none)))))), (a5, .inl (t5, 30, .inr (.inr (.inr (.inr (fun _ => none)))))), (h6, .inr (10, [.long 0, .long 0])), (s0, .inr (14, [.int 110, .int 0, .int 0])), (s1, .inr (14, [.int 110, .int 0, .int 0])), (s2, .inr (14, [.int 110, .int 0, .int 0])), (s3, .inr (14, [.int 110, .int 0, .int 0])), (o, .inl (tj, 1, .inr (.inl (fun _ => 0))))] sz)) 0 0 (va_A [(h0, .inr (15, [.ref a1, .ref a2, .ref a3, .ref a4, .ref a5, .ref h6, .int 0, .int 0, .int 0, .int 0, .int 0, .int 0, .long 0, .long 0])), (a1, .inl (t1, 5, .inr (.inr (.inr (.inr (fun _ => none)))))), (a2, .inl (t2, 12, .inr (.inr (.inr (.inr (fun _ => none)))))), (a3, .inl (t3, 4, .inr (.inr (.inr (.inr (va_up (va_up (va_up (va_up (fun _ => none) 0 (some s0)) 1 (some s1)) 2 (some s2)) 3 (some s3))))))), (a4, .inl (t4, 90, .inr (.inr (.inr (.inr (fun _ => none)))))), (a5, .inl (t5, 30, .inr (.inr (.inr (.inr (fun _ => none)))))), (h6, .inr (10, [.long 0, .long 0])), (s0, .inr (14, [.int 110, .int 0, .int 0])), (s1, .inr (14, [.int 110, .int 0, .int 0])), (s2, .inr (14, [.int 110, .int 0, .int 0])), (s3, .inr (14, [.int 110, .int 0, .int 0])), (o, .inl (tj, 1, .inr (.inl (fun _ => 0))))] sz) := by
  refine va_MetW (cc := cL_rule) (maxL := 4) (ret := (some .int)) (hh := [(0, 9, 12, 24)]) (by decide) rfl ?_
  intro p e s m args below meth c s₁ B hml hv
  obtain ⟨rfl, hsz, hP, hK, hD0, hG⟩ := hv
  have hx := B.exec
  have hb := B.bytes
  have hr := B.returns
  have hlocks := B.notSynchronized
  have hts := atoms_spec (ws := wsW ⟨"FoundrymarkLaw", "rule", "(LFoundrymark;I[J)I"⟩ cL_rule 4 (some .int) [(0, 9, 12, 24)]) B.pre
  have hta : ∀ w ∈ WA, w.before _ s = true := fun w h => hts w (List.mem_cons_of_mem _ h)
  have hown : s.vm.findClass "FoundrymarkLaw" = some m.cls := findClass_of_methodNamed B.named
  have htab := vx_table (x := ⟨"FoundrymarkLaw", "rule", "(LFoundrymark;I[J)I"⟩) B (hts _ List.mem_cons_self)
  subst hsz
  have hD : va_D (va_A [(h0, .inr (15, [.ref a1, .ref a2, .ref a3, .ref a4, .ref a5, .ref h6, .int 0, .int 0, .int 0, .int 0, .int 0, .int 0, .long 0, .long 0])), (a1, .inl (t1, 5, .inr (.inr (.inr (.inr (fun _ => none)))))), (a2, .inl (t2, 12, .inr (.inr (.inr (.inr (fun _ => none)))))), (a3, .inl (t3, 4, .inr (.inr (.inr (.inr (va_up (va_up (va_up (va_up (fun _ => none) 0 (some s0)) 1 (some s1)) 2 (some s2)) 3 (some s3))))))), (a4, .inl (t4, 90, .inr (.inr (.inr (.inr (fun _ => none)))))), (a5, .inl (t5, 30, .inr (.inr (.inr (.inr (fun _ => none)))))), (h6, .inr (10, [.long 0, .long 0])), (s0, .inr (14, [.int 110, .int 0, .int 0])), (s1, .inr (14, [.int 110, .int 0, .int 0])), (s2, .inr (14, [.int 110, .int 0, .int 0])), (s3, .inr (14, [.int 110, .int 0, .int 0])), (o, .inl (tj, 1, .inr (.inl (fun _ => 0))))] s.heap.size) [(h0, .inr (15, [.ref a1, .ref a2, .ref a3, .ref a4, .ref a5, .ref h6, .int 0, .int 0, .int 0, .int 0, .int 0, .int 0, .long 0, .long 0])), (a1, .inl (t1, 5, .inr (.inr (.inr (.inr (fun _ => none)))))), (a2, .inl (t2, 12, .inr (.inr (.inr (.inr (fun _ => none)))))), (a3, .inl (t3, 4, .inr (.inr (.inr (.inr (va_up (va_up (va_up (va_up (fun _ => none) 0 (some s0)) 1 (some s1)) 2 (some s2)) 3 (some s3))))))), (a4, .inl (t4, 90, .inr (.inr (.inr (.inr (fun _ => none)))))), (a5, .inl (t5, 30, .inr (.inr (.inr (.inr (fun _ => none)))))), (h6, .inr (10, [.long 0, .long 0])), (s0, .inr (14, [.int 110, .int 0, .int 0])), (s1, .inr (14, [.int 110, .int 0, .int 0])), (s2, .inr (14, [.int 110, .int 0, .int 0])), (s3, .inr (14, [.int 110, .int 0, .int 0])), (o, .inl (tj, 1, .inr (.inl (fun _ => 0))))] := hD0.self (sz := s.heap.size)
  generalize hAe : va_A [(h0, .inr (15, [.ref a1, .ref a2, .ref a3, .ref a4, .ref a5, .ref h6, .int 0, .int 0, .int 0, .int 0, .int 0, .int 0, .long 0, .long 0])), (a1, .inl (t1, 5, .inr (.inr (.inr (.inr (fun _ => none)))))), (a2, .inl (t2, 12, .inr (.inr (.inr (.inr (fun _ => none)))))), (a3, .inl (t3, 4, .inr (.inr (.inr (.inr (va_up (va_up (va_up (va_up (fun _ => none) 0 (some s0)) 1 (some s1)) 2 (some s2)) 3 (some s3))))))), (a4, .inl (t4, 90, .inr (.inr (.inr (.inr (fun _ => none)))))), (a5, .inl (t5, 30, .inr (.inr (.inr (.inr (fun _ => none)))))), (h6, .inr (10, [.long 0, .long 0])), (s0, .inr (14, [.int 110, .int 0, .int 0])), (s1, .inr (14, [.int 110, .int 0, .int 0])), (s2, .inr (14, [.int 110, .int 0, .int 0])), (s3, .inr (14, [.int 110, .int 0, .int 0])), (o, .inl (tj, 1, .inr (.inl (fun _ => 0))))] s.heap.size = A at hD hG ⊢
  have hA : ∀ q : Nat, s.heap.size ≤ q → A q := fun q h => by rw [← hAe]; exact Or.inr h
  have hS : va_S A s.heap s.heap [] := va_S.rf
  have hP : va_P D vwCl [(h0, .inr (15, [.ref a1, .ref a2, .ref a3, .ref a4, .ref a5, .ref h6, .int 0, .int 0, .int 0, .int 0, .int 0, .int 0, .long 0, .long 0])), (a1, .inl (t1, 5, .inr (.inr (.inr (.inr (fun _ => none)))))), (a2, .inl (t2, 12, .inr (.inr (.inr (.inr (fun _ => none)))))), (a3, .inl (t3, 4, .inr (.inr (.inr (.inr (va_up (va_up (va_up (va_up (fun _ => none) 0 (some s0)) 1 (some s1)) 2 (some s2)) 3 (some s3))))))), (a4, .inl (t4, 90, .inr (.inr (.inr (.inr (fun _ => none)))))), (a5, .inl (t5, 30, .inr (.inr (.inr (.inr (fun _ => none)))))), (h6, .inr (10, [.long 0, .long 0])), (s0, .inr (14, [.int 110, .int 0, .int 0])), (s1, .inr (14, [.int 110, .int 0, .int 0])), (s2, .inr (14, [.int 110, .int 0, .int 0])), (s3, .inr (14, [.int 110, .int 0, .int 0])), (o, .inl (tj, 1, .inr (.inl (fun _ => 0))))] s.heap := hP
  have hl := lv_entry ([.ref h0, .int 1, .ref o]) (n := 4) (Nat.le_of_ble_eq_true rfl)
  rw [lg_entry_eq]
  generalize (lg_sl ([.ref h0, .int 1, .ref o]) ++ List.replicate (4 - (lg_sl ([.ref h0, .int 1, .ref o])).length) Slot.unset).toArray = ls at hl ⊢
  have hl : lv_has ls 4 [(0, .ref h0), (1, .int 1), (2, .ref o)] := hl
  refine lv_aload_n hx hb dL_rule_0 rfl (lv_at hl 2 rfl) ?_
  refine lv_iconst (v := 0) hx hb dL_rule_1 (by decide) ?_
  refine lv_aload_n hx hb dL_rule_2 rfl (lv_at hl 0 rfl) ?_
  refine lv_iload_n hx hb dL_rule_3 rfl (lv_at hl 1 rfl) ?_
  have hPc := hP.sub (ws' := (wX h0 a1 a2 a3 a4 a5 h6 s0 s1 s2 s3 t1 t2 t3 t4 t5)) [0, 1, 2, 3, 4, 5, 6, 7, 8, 9, 10] rfl
  have hKc := hK.sub (tys' := (tX t1 t2 t3 t4 t5)) [0, 1, 2, 3, 4] rfl
  refine vp_callSi (W.runV (As := [.int 1]) (rest := [.int 0, .ref o]) ⟨hx, hb, hml, hown, hta⟩ (c_X10_rule_1 l ) (cwV 1 hta (gWV mw394 mw395 mw396 mw10 mw393) rfl rfl rfl (by decide +kernel) ⟨Nat.le_of_ble_eq_true rfl, Nat.le_of_ble_eq_true rfl⟩) ⟨gR_blind, va_recv hKc hPc (ci := 15) (q0 := 0) rfl rfl, fun U hU hW => ⟨rfl, by rw [hU]; exact hPc, va_K.moved hW.alike hKc⟩⟩ rfl rfl hl.1 rfl (lv_room (Nat.le_of_ble_eq_true rfl)) dL_rule_4 ⟨Nat.le_of_ble_eq_true rfl, Nat.le_of_ble_eq_true rfl⟩) (fun r1 h2 => ?_)
  obtain rfl : r1 = 110 := h2
  refine lv_i2l (v := 110) hx hb dL_rule_7 (by decide) ?_
  refine va_last hx hb hK hP hD hS 11 5 rfl rfl (i := 0) (x := 110) (by unfold vp_in; decide) dL_rule_8 (fun H locs hP hD hS => ?_)
  have hP : va_P D vwCl [(h0, .inr (15, [.ref a1, .ref a2, .ref a3, .ref a4, .ref a5, .ref h6, .int 0, .int 0, .int 0, .int 0, .int 0, .int 0, .long 0, .long 0])), (a1, .inl (t1, 5, .inr (.inr (.inr (.inr (fun _ => none)))))), (a2, .inl (t2, 12, .inr (.inr (.inr (.inr (fun _ => none)))))), (a3, .inl (t3, 4, .inr (.inr (.inr (.inr (va_up (va_up (va_up (va_up (fun _ => none) 0 (some s0)) 1 (some s1)) 2 (some s2)) 3 (some s3))))))), (a4, .inl (t4, 90, .inr (.inr (.inr (.inr (fun _ => none)))))), (a5, .inl (t5, 30, .inr (.inr (.inr (.inr (fun _ => none)))))), (h6, .inr (10, [.long 0, .long 0])), (s0, .inr (14, [.int 110, .int 0, .int 0])), (s1, .inr (14, [.int 110, .int 0, .int 0])), (s2, .inr (14, [.int 110, .int 0, .int 0])), (s3, .inr (14, [.int 110, .int 0, .int 0])), (o, .inl (tj, 1, .inr (.inl (vp_updL (fun _ => 0) 0 110))))] H := hP
  have hD : va_D A [(h0, .inr (15, [.ref a1, .ref a2, .ref a3, .ref a4, .ref a5, .ref h6, .int 0, .int 0, .int 0, .int 0, .int 0, .int 0, .long 0, .long 0])), (a1, .inl (t1, 5, .inr (.inr (.inr (.inr (fun _ => none)))))), (a2, .inl (t2, 12, .inr (.inr (.inr (.inr (fun _ => none)))))), (a3, .inl (t3, 4, .inr (.inr (.inr (.inr (va_up (va_up (va_up (va_up (fun _ => none) 0 (some s0)) 1 (some s1)) 2 (some s2)) 3 (some s3))))))), (a4, .inl (t4, 90, .inr (.inr (.inr (.inr (fun _ => none)))))), (a5, .inl (t5, 30, .inr (.inr (.inr (.inr (fun _ => none)))))), (h6, .inr (10, [.long 0, .long 0])), (s0, .inr (14, [.int 110, .int 0, .int 0])), (s1, .inr (14, [.int 110, .int 0, .int 0])), (s2, .inr (14, [.int 110, .int 0, .int 0])), (s3, .inr (14, [.int 110, .int 0, .int 0])), (o, .inl (tj, 1, .inr (.inl (vp_updL (fun _ => 0) 0 110))))] := hD
  refine lv_goto (tgt := 15) hx hb dL_rule_9 (by decide) ?_
  refine lv_iconst (v := 0) hx hb dL_rule_15 (by decide) ?_
  have hP9 := hP.sub (ws' := [(o, .inl (tj, 1, .inr (.inl (vp_updL (fun _ => 0) 0 110))))]) [11] rfl
  have hD9 := hD.sub (ws' := [(o, .inl (tj, 1, .inr (.inl (vp_updL (fun _ => 0) 0 110))))]) [11] (by decide) rfl
  have hK9 := hK.sub (tys' := []) [] rfl
  refine W.widen (k := 0) (n := 0) (Nat.le_of_ble_eq_true rfl) (Nat.le_of_ble_eq_true rfl) ?_
  exact W.iret (v := 0) hx hb hr (fun t ht hWm => ⟨⟨_, (), rfl, rfl, ⟨by rw [ht]; exact hP9, va_K.moved hWm.alike hK9, hD9⟩⟩, hS.F ht⟩) hS.2.2 dL_rule_16

set_option maxHeartbeats 4000000 in
set_option maxRecDepth 100000 in
theorem c_L_rule_2 (l : Launch) (hl0 : l.stackTraces = false) {D : va_G} {tE sz : Nat} {h0 a1 a2 a3 a4 a5 h6 s0 s1 s2 s3 : Nat} {t1 t2 t3 t4 t5 : ClassId} {o : Nat} {tj : ClassId}  : Met l ⟨"FoundrymarkLaw", "rule", "(LFoundrymark;I[J)I"⟩ (wsW ⟨"FoundrymarkLaw", "rule", "(LFoundrymark;I[J)I"⟩ cL_rule 4 (some .int) [(0, 9, 12, 24)]) ({ frames := 2, cells := 0, slots := 0, locals := 43 }) (va_Pc [.ref h0, .int 2, .ref o] (gS tE D [(h0, .inr (15, [.ref a1, .ref a2, .ref a3, .ref a4, .ref a5, .ref h6, .int 0, .int 0, .int 0, .int 0, .int 0, .int 0, .long 0, .long 0])), (a1, .inl (t1, 5, .inr (.inr (.inr (.inr (fun _ => none)))))), (a2, .inl (t2, 12, .inr (.inr (.inr (.inr (fun _ => none)))))), (a3, .inl (t3, 4, .inr (.inr (.inr (.inr (va_up (va_up (va_up (va_up (fun _ => none) 0 (some s0)) 1 (some s1)) 2 (some s2)) 3 (some s3))))))), (a4, .inl (t4, 90, .inr (.inr (.inr (.inr (fun _ => none)))))), (a5, .inl (t5, 30, .inr (.inr (.inr (.inr (fun _ => none)))))), (h6, .inr (10, [.long 0, .long 0])), (s0, .inr (14, [.int 110, .int 0, .int 0])), (s1, .inr (14, [.int 110, .int 0, .int 0])), (s2, .inr (14, [.int 110, .int 0, .int 0])), (s3, .inr (14, [.int 110, .int 0, .int 0])), (o, .inl (tj, 1, .inr (.inl (fun _ => 0))))] [(t1, .object "Foundrymark$Machine"), (t2, .object "Foundrymark$Part"), (t3, .object "Foundrymark$Supplier"), (t4, .object "Foundrymark$Lot"), (t5, .object "Foundrymark$Order"), (tj, .long)] sz)) (va_Qi (fun (r : Int32) (_ : Unit) => r = 0) (gO D (fun _ => [(o, .inl (tj, 1, .inr (.inl (vp_updL (fun _ => 0) 0 110))))]) (fun _ => []) (va_A [(h0, .inr (15, [.ref a1, .ref a2, .ref a3, .ref a4, .ref a5, .ref h6, .int 0, .int 0, .int 0, .int 0, .int 0, .int 0, .long 0, .long 0])), (a1, .inl (t1, 5, .inr (.inr (.inr (.inr (fun _ => none)))))), (a2, .inl (t2, 12, .inr (.inr (.inr (.inr (fun _ => none)))))), (a3, .inl (t3, 4, .inr (.inr (.inr (.inr (va_up (va_up (va_up (va_up (fun _ => none) 0 (some s0)) 1 (some s1)) 2 (some s2)) 3 (some s3))))))), (a4, .inl (t4, 90, .inr (.inr (.inr (.inr (fun _ => none)))))), (a5, .inl (t5, 30, .inr (.inr (.inr (.inr (fun _ => none)))))), (h6, .inr (10, [.long 0, .long 0])), (s0, .inr (14, [.int 110, .int 0, .int 0])), (s1, .inr (14, [.int 110, .int 0, .int 0])), (s2, .inr (14, [.int 110, .int 0, .int 0])), (s3, .inr (14, [.int 110, .int 0, .int 0])), (o, .inl (tj, 1, .inr (.inl (fun _ => 0))))] sz)) (va_A [(h0, .inr (15, [.ref a1, .ref a2, .ref a3, .ref a4, .ref a5, .ref h6, .int 0, .int 0, .int 0, .int 0, .int 0, .int 0, .long 0, .long 0])), (a1, .inl (t1, 5, .inr (.inr (.inr (.inr (fun _ => none)))))), (a2, .inl (t2, 12, .inr (.inr (.inr (.inr (fun _ => none)))))), (a3, .inl (t3, 4, .inr (.inr (.inr (.inr (va_up (va_up (va_up (va_up (fun _ => none) 0 (some s0)) 1 (some s1)) 2 (some s2)) 3 (some s3))))))), (a4, .inl (t4, 90, .inr (.inr (.inr (.inr (fun _ => none)))))), (a5, .inl (t5, 30, .inr (.inr (.inr (.inr (fun _ => none)))))), (h6, .inr (10, [.long 0, .long 0])), (s0, .inr (14, [.int 110, .int 0, .int 0])), (s1, .inr (14, [.int 110, .int 0, .int 0])), (s2, .inr (14, [.int 110, .int 0, .int 0])), (s3, .inr (14, [.int 110, .int 0, .int 0])), (o, .inl (tj, 1, .inr (.inl (fun _ => 0))))] sz)) 0 0 (va_A [(h0, .inr (15, [.ref a1, .ref a2, .ref a3, .ref a4, .ref a5, .ref h6, .int 0, .int 0, .int 0, .int 0, .int 0, .int 0, .long 0, .long 0])), (a1, .inl (t1, 5, .inr (.inr (.inr (.inr (fun _ => none)))))), (a2, .inl (t2, 12, .inr (.inr (.inr (.inr (fun _ => none)))))), (a3, .inl (t3, 4, .inr (.inr (.inr (.inr (va_up (va_up (va_up (va_up (fun _ => none) 0 (some s0)) 1 (some s1)) 2 (some s2)) 3 (some s3))))))), (a4, .inl (t4, 90, .inr (.inr (.inr (.inr (fun _ => none)))))), (a5, .inl (t5, 30, .inr (.inr (.inr (.inr (fun _ => none)))))), (h6, .inr (10, [.long 0, .long 0])), (s0, .inr (14, [.int 110, .int 0, .int 0])), (s1, .inr (14, [.int 110, .int 0, .int 0])), (s2, .inr (14, [.int 110, .int 0, .int 0])), (s3, .inr (14, [.int 110, .int 0, .int 0])), (o, .inl (tj, 1, .inr (.inl (fun _ => 0))))] sz) := by
  refine va_MetW (cc := cL_rule) (maxL := 4) (ret := (some .int)) (hh := [(0, 9, 12, 24)]) (by decide) rfl ?_
  intro p e s m args below meth c s₁ B hml hv
  obtain ⟨rfl, hsz, hP, hK, hD0, hG⟩ := hv
  have hx := B.exec
  have hb := B.bytes
  have hr := B.returns
  have hlocks := B.notSynchronized
  have hts := atoms_spec (ws := wsW ⟨"FoundrymarkLaw", "rule", "(LFoundrymark;I[J)I"⟩ cL_rule 4 (some .int) [(0, 9, 12, 24)]) B.pre
  have hta : ∀ w ∈ WA, w.before _ s = true := fun w h => hts w (List.mem_cons_of_mem _ h)
  have hown : s.vm.findClass "FoundrymarkLaw" = some m.cls := findClass_of_methodNamed B.named
  have htab := vx_table (x := ⟨"FoundrymarkLaw", "rule", "(LFoundrymark;I[J)I"⟩) B (hts _ List.mem_cons_self)
  subst hsz
  have hD : va_D (va_A [(h0, .inr (15, [.ref a1, .ref a2, .ref a3, .ref a4, .ref a5, .ref h6, .int 0, .int 0, .int 0, .int 0, .int 0, .int 0, .long 0, .long 0])), (a1, .inl (t1, 5, .inr (.inr (.inr (.inr (fun _ => none)))))), (a2, .inl (t2, 12, .inr (.inr (.inr (.inr (fun _ => none)))))), (a3, .inl (t3, 4, .inr (.inr (.inr (.inr (va_up (va_up (va_up (va_up (fun _ => none) 0 (some s0)) 1 (some s1)) 2 (some s2)) 3 (some s3))))))), (a4, .inl (t4, 90, .inr (.inr (.inr (.inr (fun _ => none)))))), (a5, .inl (t5, 30, .inr (.inr (.inr (.inr (fun _ => none)))))), (h6, .inr (10, [.long 0, .long 0])), (s0, .inr (14, [.int 110, .int 0, .int 0])), (s1, .inr (14, [.int 110, .int 0, .int 0])), (s2, .inr (14, [.int 110, .int 0, .int 0])), (s3, .inr (14, [.int 110, .int 0, .int 0])), (o, .inl (tj, 1, .inr (.inl (fun _ => 0))))] s.heap.size) [(h0, .inr (15, [.ref a1, .ref a2, .ref a3, .ref a4, .ref a5, .ref h6, .int 0, .int 0, .int 0, .int 0, .int 0, .int 0, .long 0, .long 0])), (a1, .inl (t1, 5, .inr (.inr (.inr (.inr (fun _ => none)))))), (a2, .inl (t2, 12, .inr (.inr (.inr (.inr (fun _ => none)))))), (a3, .inl (t3, 4, .inr (.inr (.inr (.inr (va_up (va_up (va_up (va_up (fun _ => none) 0 (some s0)) 1 (some s1)) 2 (some s2)) 3 (some s3))))))), (a4, .inl (t4, 90, .inr (.inr (.inr (.inr (fun _ => none)))))), (a5, .inl (t5, 30, .inr (.inr (.inr (.inr (fun _ => none)))))), (h6, .inr (10, [.long 0, .long 0])), (s0, .inr (14, [.int 110, .int 0, .int 0])), (s1, .inr (14, [.int 110, .int 0, .int 0])), (s2, .inr (14, [.int 110, .int 0, .int 0])), (s3, .inr (14, [.int 110, .int 0, .int 0])), (o, .inl (tj, 1, .inr (.inl (fun _ => 0))))] := hD0.self (sz := s.heap.size)
  generalize hAe : va_A [(h0, .inr (15, [.ref a1, .ref a2, .ref a3, .ref a4, .ref a5, .ref h6, .int 0, .int 0, .int 0, .int 0, .int 0, .int 0, .long 0, .long 0])), (a1, .inl (t1, 5, .inr (.inr (.inr (.inr (fun _ => none)))))), (a2, .inl (t2, 12, .inr (.inr (.inr (.inr (fun _ => none)))))), (a3, .inl (t3, 4, .inr (.inr (.inr (.inr (va_up (va_up (va_up (va_up (fun _ => none) 0 (some s0)) 1 (some s1)) 2 (some s2)) 3 (some s3))))))), (a4, .inl (t4, 90, .inr (.inr (.inr (.inr (fun _ => none)))))), (a5, .inl (t5, 30, .inr (.inr (.inr (.inr (fun _ => none)))))), (h6, .inr (10, [.long 0, .long 0])), (s0, .inr (14, [.int 110, .int 0, .int 0])), (s1, .inr (14, [.int 110, .int 0, .int 0])), (s2, .inr (14, [.int 110, .int 0, .int 0])), (s3, .inr (14, [.int 110, .int 0, .int 0])), (o, .inl (tj, 1, .inr (.inl (fun _ => 0))))] s.heap.size = A at hD hG ⊢
  have hA : ∀ q : Nat, s.heap.size ≤ q → A q := fun q h => by rw [← hAe]; exact Or.inr h
  have hS : va_S A s.heap s.heap [] := va_S.rf
  have hP : va_P D vwCl [(h0, .inr (15, [.ref a1, .ref a2, .ref a3, .ref a4, .ref a5, .ref h6, .int 0, .int 0, .int 0, .int 0, .int 0, .int 0, .long 0, .long 0])), (a1, .inl (t1, 5, .inr (.inr (.inr (.inr (fun _ => none)))))), (a2, .inl (t2, 12, .inr (.inr (.inr (.inr (fun _ => none)))))), (a3, .inl (t3, 4, .inr (.inr (.inr (.inr (va_up (va_up (va_up (va_up (fun _ => none) 0 (some s0)) 1 (some s1)) 2 (some s2)) 3 (some s3))))))), (a4, .inl (t4, 90, .inr (.inr (.inr (.inr (fun _ => none)))))), (a5, .inl (t5, 30, .inr (.inr (.inr (.inr (fun _ => none)))))), (h6, .inr (10, [.long 0, .long 0])), (s0, .inr (14, [.int 110, .int 0, .int 0])), (s1, .inr (14, [.int 110, .int 0, .int 0])), (s2, .inr (14, [.int 110, .int 0, .int 0])), (s3, .inr (14, [.int 110, .int 0, .int 0])), (o, .inl (tj, 1, .inr (.inl (fun _ => 0))))] s.heap := hP
  have hl := lv_entry ([.ref h0, .int 2, .ref o]) (n := 4) (Nat.le_of_ble_eq_true rfl)
  rw [lg_entry_eq]
  generalize (lg_sl ([.ref h0, .int 2, .ref o]) ++ List.replicate (4 - (lg_sl ([.ref h0, .int 2, .ref o])).length) Slot.unset).toArray = ls at hl ⊢
  have hl : lv_has ls 4 [(0, .ref h0), (1, .int 2), (2, .ref o)] := hl
  refine lv_aload_n hx hb dL_rule_0 rfl (lv_at hl 2 rfl) ?_
  refine lv_iconst (v := 0) hx hb dL_rule_1 (by decide) ?_
  refine lv_aload_n hx hb dL_rule_2 rfl (lv_at hl 0 rfl) ?_
  refine lv_iload_n hx hb dL_rule_3 rfl (lv_at hl 1 rfl) ?_
  have hPc := hP.sub (ws' := (wX h0 a1 a2 a3 a4 a5 h6 s0 s1 s2 s3 t1 t2 t3 t4 t5)) [0, 1, 2, 3, 4, 5, 6, 7, 8, 9, 10] rfl
  have hKc := hK.sub (tys' := (tX t1 t2 t3 t4 t5)) [0, 1, 2, 3, 4] rfl
  refine vp_callSi (W.runV (As := [.int 2]) (rest := [.int 0, .ref o]) ⟨hx, hb, hml, hown, hta⟩ (c_X10_rule_2 l ) (cwV 1 hta (gWV mw394 mw395 mw396 mw10 mw393) rfl rfl rfl (by decide +kernel) ⟨Nat.le_of_ble_eq_true rfl, Nat.le_of_ble_eq_true rfl⟩) ⟨gR_blind, va_recv hKc hPc (ci := 15) (q0 := 0) rfl rfl, fun U hU hW => ⟨rfl, by rw [hU]; exact hPc, va_K.moved hW.alike hKc⟩⟩ rfl rfl hl.1 rfl (lv_room (Nat.le_of_ble_eq_true rfl)) dL_rule_4 ⟨Nat.le_of_ble_eq_true rfl, Nat.le_of_ble_eq_true rfl⟩) (fun r1 h2 => ?_)
  obtain rfl : r1 = 110 := h2
  refine lv_i2l (v := 110) hx hb dL_rule_7 (by decide) ?_
  refine va_last hx hb hK hP hD hS 11 5 rfl rfl (i := 0) (x := 110) (by unfold vp_in; decide) dL_rule_8 (fun H locs hP hD hS => ?_)
  have hP : va_P D vwCl [(h0, .inr (15, [.ref a1, .ref a2, .ref a3, .ref a4, .ref a5, .ref h6, .int 0, .int 0, .int 0, .int 0, .int 0, .int 0, .long 0, .long 0])), (a1, .inl (t1, 5, .inr (.inr (.inr (.inr (fun _ => none)))))), (a2, .inl (t2, 12, .inr (.inr (.inr (.inr (fun _ => none)))))), (a3, .inl (t3, 4, .inr (.inr (.inr (.inr (va_up (va_up (va_up (va_up (fun _ => none) 0 (some s0)) 1 (some s1)) 2 (some s2)) 3 (some s3))))))), (a4, .inl (t4, 90, .inr (.inr (.inr (.inr (fun _ => none)))))), (a5, .inl (t5, 30, .inr (.inr (.inr (.inr (fun _ => none)))))), (h6, .inr (10, [.long 0, .long 0])), (s0, .inr (14, [.int 110, .int 0, .int 0])), (s1, .inr (14, [.int 110, .int 0, .int 0])), (s2, .inr (14, [.int 110, .int 0, .int 0])), (s3, .inr (14, [.int 110, .int 0, .int 0])), (o, .inl (tj, 1, .inr (.inl (vp_updL (fun _ => 0) 0 110))))] H := hP
  have hD : va_D A [(h0, .inr (15, [.ref a1, .ref a2, .ref a3, .ref a4, .ref a5, .ref h6, .int 0, .int 0, .int 0, .int 0, .int 0, .int 0, .long 0, .long 0])), (a1, .inl (t1, 5, .inr (.inr (.inr (.inr (fun _ => none)))))), (a2, .inl (t2, 12, .inr (.inr (.inr (.inr (fun _ => none)))))), (a3, .inl (t3, 4, .inr (.inr (.inr (.inr (va_up (va_up (va_up (va_up (fun _ => none) 0 (some s0)) 1 (some s1)) 2 (some s2)) 3 (some s3))))))), (a4, .inl (t4, 90, .inr (.inr (.inr (.inr (fun _ => none)))))), (a5, .inl (t5, 30, .inr (.inr (.inr (.inr (fun _ => none)))))), (h6, .inr (10, [.long 0, .long 0])), (s0, .inr (14, [.int 110, .int 0, .int 0])), (s1, .inr (14, [.int 110, .int 0, .int 0])), (s2, .inr (14, [.int 110, .int 0, .int 0])), (s3, .inr (14, [.int 110, .int 0, .int 0])), (o, .inl (tj, 1, .inr (.inl (vp_updL (fun _ => 0) 0 110))))] := hD
  refine lv_goto (tgt := 15) hx hb dL_rule_9 (by decide) ?_
  refine lv_iconst (v := 0) hx hb dL_rule_15 (by decide) ?_
  have hP9 := hP.sub (ws' := [(o, .inl (tj, 1, .inr (.inl (vp_updL (fun _ => 0) 0 110))))]) [11] rfl
  have hD9 := hD.sub (ws' := [(o, .inl (tj, 1, .inr (.inl (vp_updL (fun _ => 0) 0 110))))]) [11] (by decide) rfl
  have hK9 := hK.sub (tys' := []) [] rfl
  refine W.widen (k := 0) (n := 0) (Nat.le_of_ble_eq_true rfl) (Nat.le_of_ble_eq_true rfl) ?_
  exact W.iret (v := 0) hx hb hr (fun t ht hWm => ⟨⟨_, (), rfl, rfl, ⟨by rw [ht]; exact hP9, va_K.moved hWm.alike hK9, hD9⟩⟩, hS.F ht⟩) hS.2.2 dL_rule_16

set_option maxHeartbeats 4000000 in
set_option maxRecDepth 100000 in
theorem c_L_rule_3 (l : Launch) (hl0 : l.stackTraces = false) {D : va_G} {tE sz : Nat} {h0 a1 a2 a3 a4 a5 h6 s0 s1 s2 s3 : Nat} {t1 t2 t3 t4 t5 : ClassId} {o : Nat} {tj : ClassId}  : Met l ⟨"FoundrymarkLaw", "rule", "(LFoundrymark;I[J)I"⟩ (wsW ⟨"FoundrymarkLaw", "rule", "(LFoundrymark;I[J)I"⟩ cL_rule 4 (some .int) [(0, 9, 12, 24)]) ({ frames := 2, cells := 0, slots := 0, locals := 43 }) (va_Pc [.ref h0, .int 3, .ref o] (gS tE D [(h0, .inr (15, [.ref a1, .ref a2, .ref a3, .ref a4, .ref a5, .ref h6, .int 0, .int 0, .int 0, .int 0, .int 0, .int 0, .long 0, .long 0])), (a1, .inl (t1, 5, .inr (.inr (.inr (.inr (fun _ => none)))))), (a2, .inl (t2, 12, .inr (.inr (.inr (.inr (fun _ => none)))))), (a3, .inl (t3, 4, .inr (.inr (.inr (.inr (va_up (va_up (va_up (va_up (fun _ => none) 0 (some s0)) 1 (some s1)) 2 (some s2)) 3 (some s3))))))), (a4, .inl (t4, 90, .inr (.inr (.inr (.inr (fun _ => none)))))), (a5, .inl (t5, 30, .inr (.inr (.inr (.inr (fun _ => none)))))), (h6, .inr (10, [.long 0, .long 0])), (s0, .inr (14, [.int 110, .int 0, .int 0])), (s1, .inr (14, [.int 110, .int 0, .int 0])), (s2, .inr (14, [.int 110, .int 0, .int 0])), (s3, .inr (14, [.int 110, .int 0, .int 0])), (o, .inl (tj, 1, .inr (.inl (fun _ => 0))))] [(t1, .object "Foundrymark$Machine"), (t2, .object "Foundrymark$Part"), (t3, .object "Foundrymark$Supplier"), (t4, .object "Foundrymark$Lot"), (t5, .object "Foundrymark$Order"), (tj, .long)] sz)) (va_Qi (fun (r : Int32) (_ : Unit) => r = 0) (gO D (fun _ => [(o, .inl (tj, 1, .inr (.inl (vp_updL (fun _ => 0) 0 110))))]) (fun _ => []) (va_A [(h0, .inr (15, [.ref a1, .ref a2, .ref a3, .ref a4, .ref a5, .ref h6, .int 0, .int 0, .int 0, .int 0, .int 0, .int 0, .long 0, .long 0])), (a1, .inl (t1, 5, .inr (.inr (.inr (.inr (fun _ => none)))))), (a2, .inl (t2, 12, .inr (.inr (.inr (.inr (fun _ => none)))))), (a3, .inl (t3, 4, .inr (.inr (.inr (.inr (va_up (va_up (va_up (va_up (fun _ => none) 0 (some s0)) 1 (some s1)) 2 (some s2)) 3 (some s3))))))), (a4, .inl (t4, 90, .inr (.inr (.inr (.inr (fun _ => none)))))), (a5, .inl (t5, 30, .inr (.inr (.inr (.inr (fun _ => none)))))), (h6, .inr (10, [.long 0, .long 0])), (s0, .inr (14, [.int 110, .int 0, .int 0])), (s1, .inr (14, [.int 110, .int 0, .int 0])), (s2, .inr (14, [.int 110, .int 0, .int 0])), (s3, .inr (14, [.int 110, .int 0, .int 0])), (o, .inl (tj, 1, .inr (.inl (fun _ => 0))))] sz)) (va_A [(h0, .inr (15, [.ref a1, .ref a2, .ref a3, .ref a4, .ref a5, .ref h6, .int 0, .int 0, .int 0, .int 0, .int 0, .int 0, .long 0, .long 0])), (a1, .inl (t1, 5, .inr (.inr (.inr (.inr (fun _ => none)))))), (a2, .inl (t2, 12, .inr (.inr (.inr (.inr (fun _ => none)))))), (a3, .inl (t3, 4, .inr (.inr (.inr (.inr (va_up (va_up (va_up (va_up (fun _ => none) 0 (some s0)) 1 (some s1)) 2 (some s2)) 3 (some s3))))))), (a4, .inl (t4, 90, .inr (.inr (.inr (.inr (fun _ => none)))))), (a5, .inl (t5, 30, .inr (.inr (.inr (.inr (fun _ => none)))))), (h6, .inr (10, [.long 0, .long 0])), (s0, .inr (14, [.int 110, .int 0, .int 0])), (s1, .inr (14, [.int 110, .int 0, .int 0])), (s2, .inr (14, [.int 110, .int 0, .int 0])), (s3, .inr (14, [.int 110, .int 0, .int 0])), (o, .inl (tj, 1, .inr (.inl (fun _ => 0))))] sz)) 0 0 (va_A [(h0, .inr (15, [.ref a1, .ref a2, .ref a3, .ref a4, .ref a5, .ref h6, .int 0, .int 0, .int 0, .int 0, .int 0, .int 0, .long 0, .long 0])), (a1, .inl (t1, 5, .inr (.inr (.inr (.inr (fun _ => none)))))), (a2, .inl (t2, 12, .inr (.inr (.inr (.inr (fun _ => none)))))), (a3, .inl (t3, 4, .inr (.inr (.inr (.inr (va_up (va_up (va_up (va_up (fun _ => none) 0 (some s0)) 1 (some s1)) 2 (some s2)) 3 (some s3))))))), (a4, .inl (t4, 90, .inr (.inr (.inr (.inr (fun _ => none)))))), (a5, .inl (t5, 30, .inr (.inr (.inr (.inr (fun _ => none)))))), (h6, .inr (10, [.long 0, .long 0])), (s0, .inr (14, [.int 110, .int 0, .int 0])), (s1, .inr (14, [.int 110, .int 0, .int 0])), (s2, .inr (14, [.int 110, .int 0, .int 0])), (s3, .inr (14, [.int 110, .int 0, .int 0])), (o, .inl (tj, 1, .inr (.inl (fun _ => 0))))] sz) := by
  refine va_MetW (cc := cL_rule) (maxL := 4) (ret := (some .int)) (hh := [(0, 9, 12, 24)]) (by decide) rfl ?_
  intro p e s m args below meth c s₁ B hml hv
  obtain ⟨rfl, hsz, hP, hK, hD0, hG⟩ := hv
  have hx := B.exec
  have hb := B.bytes
  have hr := B.returns
  have hlocks := B.notSynchronized
  have hts := atoms_spec (ws := wsW ⟨"FoundrymarkLaw", "rule", "(LFoundrymark;I[J)I"⟩ cL_rule 4 (some .int) [(0, 9, 12, 24)]) B.pre
  have hta : ∀ w ∈ WA, w.before _ s = true := fun w h => hts w (List.mem_cons_of_mem _ h)
  have hown : s.vm.findClass "FoundrymarkLaw" = some m.cls := findClass_of_methodNamed B.named
  have htab := vx_table (x := ⟨"FoundrymarkLaw", "rule", "(LFoundrymark;I[J)I"⟩) B (hts _ List.mem_cons_self)
  subst hsz
  have hD : va_D (va_A [(h0, .inr (15, [.ref a1, .ref a2, .ref a3, .ref a4, .ref a5, .ref h6, .int 0, .int 0, .int 0, .int 0, .int 0, .int 0, .long 0, .long 0])), (a1, .inl (t1, 5, .inr (.inr (.inr (.inr (fun _ => none)))))), (a2, .inl (t2, 12, .inr (.inr (.inr (.inr (fun _ => none)))))), (a3, .inl (t3, 4, .inr (.inr (.inr (.inr (va_up (va_up (va_up (va_up (fun _ => none) 0 (some s0)) 1 (some s1)) 2 (some s2)) 3 (some s3))))))), (a4, .inl (t4, 90, .inr (.inr (.inr (.inr (fun _ => none)))))), (a5, .inl (t5, 30, .inr (.inr (.inr (.inr (fun _ => none)))))), (h6, .inr (10, [.long 0, .long 0])), (s0, .inr (14, [.int 110, .int 0, .int 0])), (s1, .inr (14, [.int 110, .int 0, .int 0])), (s2, .inr (14, [.int 110, .int 0, .int 0])), (s3, .inr (14, [.int 110, .int 0, .int 0])), (o, .inl (tj, 1, .inr (.inl (fun _ => 0))))] s.heap.size) [(h0, .inr (15, [.ref a1, .ref a2, .ref a3, .ref a4, .ref a5, .ref h6, .int 0, .int 0, .int 0, .int 0, .int 0, .int 0, .long 0, .long 0])), (a1, .inl (t1, 5, .inr (.inr (.inr (.inr (fun _ => none)))))), (a2, .inl (t2, 12, .inr (.inr (.inr (.inr (fun _ => none)))))), (a3, .inl (t3, 4, .inr (.inr (.inr (.inr (va_up (va_up (va_up (va_up (fun _ => none) 0 (some s0)) 1 (some s1)) 2 (some s2)) 3 (some s3))))))), (a4, .inl (t4, 90, .inr (.inr (.inr (.inr (fun _ => none)))))), (a5, .inl (t5, 30, .inr (.inr (.inr (.inr (fun _ => none)))))), (h6, .inr (10, [.long 0, .long 0])), (s0, .inr (14, [.int 110, .int 0, .int 0])), (s1, .inr (14, [.int 110, .int 0, .int 0])), (s2, .inr (14, [.int 110, .int 0, .int 0])), (s3, .inr (14, [.int 110, .int 0, .int 0])), (o, .inl (tj, 1, .inr (.inl (fun _ => 0))))] := hD0.self (sz := s.heap.size)
  generalize hAe : va_A [(h0, .inr (15, [.ref a1, .ref a2, .ref a3, .ref a4, .ref a5, .ref h6, .int 0, .int 0, .int 0, .int 0, .int 0, .int 0, .long 0, .long 0])), (a1, .inl (t1, 5, .inr (.inr (.inr (.inr (fun _ => none)))))), (a2, .inl (t2, 12, .inr (.inr (.inr (.inr (fun _ => none)))))), (a3, .inl (t3, 4, .inr (.inr (.inr (.inr (va_up (va_up (va_up (va_up (fun _ => none) 0 (some s0)) 1 (some s1)) 2 (some s2)) 3 (some s3))))))), (a4, .inl (t4, 90, .inr (.inr (.inr (.inr (fun _ => none)))))), (a5, .inl (t5, 30, .inr (.inr (.inr (.inr (fun _ => none)))))), (h6, .inr (10, [.long 0, .long 0])), (s0, .inr (14, [.int 110, .int 0, .int 0])), (s1, .inr (14, [.int 110, .int 0, .int 0])), (s2, .inr (14, [.int 110, .int 0, .int 0])), (s3, .inr (14, [.int 110, .int 0, .int 0])), (o, .inl (tj, 1, .inr (.inl (fun _ => 0))))] s.heap.size = A at hD hG ⊢
  have hA : ∀ q : Nat, s.heap.size ≤ q → A q := fun q h => by rw [← hAe]; exact Or.inr h
  have hS : va_S A s.heap s.heap [] := va_S.rf
  have hP : va_P D vwCl [(h0, .inr (15, [.ref a1, .ref a2, .ref a3, .ref a4, .ref a5, .ref h6, .int 0, .int 0, .int 0, .int 0, .int 0, .int 0, .long 0, .long 0])), (a1, .inl (t1, 5, .inr (.inr (.inr (.inr (fun _ => none)))))), (a2, .inl (t2, 12, .inr (.inr (.inr (.inr (fun _ => none)))))), (a3, .inl (t3, 4, .inr (.inr (.inr (.inr (va_up (va_up (va_up (va_up (fun _ => none) 0 (some s0)) 1 (some s1)) 2 (some s2)) 3 (some s3))))))), (a4, .inl (t4, 90, .inr (.inr (.inr (.inr (fun _ => none)))))), (a5, .inl (t5, 30, .inr (.inr (.inr (.inr (fun _ => none)))))), (h6, .inr (10, [.long 0, .long 0])), (s0, .inr (14, [.int 110, .int 0, .int 0])), (s1, .inr (14, [.int 110, .int 0, .int 0])), (s2, .inr (14, [.int 110, .int 0, .int 0])), (s3, .inr (14, [.int 110, .int 0, .int 0])), (o, .inl (tj, 1, .inr (.inl (fun _ => 0))))] s.heap := hP
  have hl := lv_entry ([.ref h0, .int 3, .ref o]) (n := 4) (Nat.le_of_ble_eq_true rfl)
  rw [lg_entry_eq]
  generalize (lg_sl ([.ref h0, .int 3, .ref o]) ++ List.replicate (4 - (lg_sl ([.ref h0, .int 3, .ref o])).length) Slot.unset).toArray = ls at hl ⊢
  have hl : lv_has ls 4 [(0, .ref h0), (1, .int 3), (2, .ref o)] := hl
  refine lv_aload_n hx hb dL_rule_0 rfl (lv_at hl 2 rfl) ?_
  refine lv_iconst (v := 0) hx hb dL_rule_1 (by decide) ?_
  refine lv_aload_n hx hb dL_rule_2 rfl (lv_at hl 0 rfl) ?_
  refine lv_iload_n hx hb dL_rule_3 rfl (lv_at hl 1 rfl) ?_
  have hPc := hP.sub (ws' := (wX h0 a1 a2 a3 a4 a5 h6 s0 s1 s2 s3 t1 t2 t3 t4 t5)) [0, 1, 2, 3, 4, 5, 6, 7, 8, 9, 10] rfl
  have hKc := hK.sub (tys' := (tX t1 t2 t3 t4 t5)) [0, 1, 2, 3, 4] rfl
  refine vp_callSi (W.runV (As := [.int 3]) (rest := [.int 0, .ref o]) ⟨hx, hb, hml, hown, hta⟩ (c_X10_rule_3 l ) (cwV 1 hta (gWV mw394 mw395 mw396 mw10 mw393) rfl rfl rfl (by decide +kernel) ⟨Nat.le_of_ble_eq_true rfl, Nat.le_of_ble_eq_true rfl⟩) ⟨gR_blind, va_recv hKc hPc (ci := 15) (q0 := 0) rfl rfl, fun U hU hW => ⟨rfl, by rw [hU]; exact hPc, va_K.moved hW.alike hKc⟩⟩ rfl rfl hl.1 rfl (lv_room (Nat.le_of_ble_eq_true rfl)) dL_rule_4 ⟨Nat.le_of_ble_eq_true rfl, Nat.le_of_ble_eq_true rfl⟩) (fun r1 h2 => ?_)
  obtain rfl : r1 = 110 := h2
  refine lv_i2l (v := 110) hx hb dL_rule_7 (by decide) ?_
  refine va_last hx hb hK hP hD hS 11 5 rfl rfl (i := 0) (x := 110) (by unfold vp_in; decide) dL_rule_8 (fun H locs hP hD hS => ?_)
  have hP : va_P D vwCl [(h0, .inr (15, [.ref a1, .ref a2, .ref a3, .ref a4, .ref a5, .ref h6, .int 0, .int 0, .int 0, .int 0, .int 0, .int 0, .long 0, .long 0])), (a1, .inl (t1, 5, .inr (.inr (.inr (.inr (fun _ => none)))))), (a2, .inl (t2, 12, .inr (.inr (.inr (.inr (fun _ => none)))))), (a3, .inl (t3, 4, .inr (.inr (.inr (.inr (va_up (va_up (va_up (va_up (fun _ => none) 0 (some s0)) 1 (some s1)) 2 (some s2)) 3 (some s3))))))), (a4, .inl (t4, 90, .inr (.inr (.inr (.inr (fun _ => none)))))), (a5, .inl (t5, 30, .inr (.inr (.inr (.inr (fun _ => none)))))), (h6, .inr (10, [.long 0, .long 0])), (s0, .inr (14, [.int 110, .int 0, .int 0])), (s1, .inr (14, [.int 110, .int 0, .int 0])), (s2, .inr (14, [.int 110, .int 0, .int 0])), (s3, .inr (14, [.int 110, .int 0, .int 0])), (o, .inl (tj, 1, .inr (.inl (vp_updL (fun _ => 0) 0 110))))] H := hP
  have hD : va_D A [(h0, .inr (15, [.ref a1, .ref a2, .ref a3, .ref a4, .ref a5, .ref h6, .int 0, .int 0, .int 0, .int 0, .int 0, .int 0, .long 0, .long 0])), (a1, .inl (t1, 5, .inr (.inr (.inr (.inr (fun _ => none)))))), (a2, .inl (t2, 12, .inr (.inr (.inr (.inr (fun _ => none)))))), (a3, .inl (t3, 4, .inr (.inr (.inr (.inr (va_up (va_up (va_up (va_up (fun _ => none) 0 (some s0)) 1 (some s1)) 2 (some s2)) 3 (some s3))))))), (a4, .inl (t4, 90, .inr (.inr (.inr (.inr (fun _ => none)))))), (a5, .inl (t5, 30, .inr (.inr (.inr (.inr (fun _ => none)))))), (h6, .inr (10, [.long 0, .long 0])), (s0, .inr (14, [.int 110, .int 0, .int 0])), (s1, .inr (14, [.int 110, .int 0, .int 0])), (s2, .inr (14, [.int 110, .int 0, .int 0])), (s3, .inr (14, [.int 110, .int 0, .int 0])), (o, .inl (tj, 1, .inr (.inl (vp_updL (fun _ => 0) 0 110))))] := hD
  refine lv_goto (tgt := 15) hx hb dL_rule_9 (by decide) ?_
  refine lv_iconst (v := 0) hx hb dL_rule_15 (by decide) ?_
  have hP9 := hP.sub (ws' := [(o, .inl (tj, 1, .inr (.inl (vp_updL (fun _ => 0) 0 110))))]) [11] rfl
  have hD9 := hD.sub (ws' := [(o, .inl (tj, 1, .inr (.inl (vp_updL (fun _ => 0) 0 110))))]) [11] (by decide) rfl
  have hK9 := hK.sub (tys' := []) [] rfl
  refine W.widen (k := 0) (n := 0) (Nat.le_of_ble_eq_true rfl) (Nat.le_of_ble_eq_true rfl) ?_
  exact W.iret (v := 0) hx hb hr (fun t ht hWm => ⟨⟨_, (), rfl, rfl, ⟨by rw [ht]; exact hP9, va_K.moved hWm.alike hK9, hD9⟩⟩, hS.F ht⟩) hS.2.2 dL_rule_16

set_option maxHeartbeats 4000000 in
set_option maxRecDepth 100000 in
theorem c_L_rule_f (l : Launch) (hl0 : l.stackTraces = false) {D : va_G} {tE sz : Nat} {h0 a1 a2 a3 a4 a5 h6 s0 s1 s2 s3 : Nat} {t1 t2 t3 t4 t5 : ClassId} {o : Nat} {n : Int32} (hf : inR n 0 3 = false) : Met l ⟨"FoundrymarkLaw", "rule", "(LFoundrymark;I[J)I"⟩ (wsW ⟨"FoundrymarkLaw", "rule", "(LFoundrymark;I[J)I"⟩ cL_rule 4 (some .int) [(0, 9, 12, 24)]) ({ frames := 7, cells := 1, slots := 6, locals := 120 }) (va_Pc [.ref h0, .int n, .ref o] (gS tE D (wX h0 a1 a2 a3 a4 a5 h6 s0 s1 s2 s3 t1 t2 t3 t4 t5) (tX t1 t2 t3 t4 t5) sz)) (va_Qi (fun (r : Int32) (_ : Unit) => r = 1) (gO D (fun _ => []) (fun _ => []) (va_A (wX h0 a1 a2 a3 a4 a5 h6 s0 s1 s2 s3 t1 t2 t3 t4 t5) sz)) (va_A (wX h0 a1 a2 a3 a4 a5 h6 s0 s1 s2 s3 t1 t2 t3 t4 t5) sz)) 1 6 (va_A (wX h0 a1 a2 a3 a4 a5 h6 s0 s1 s2 s3 t1 t2 t3 t4 t5) sz) := by
  refine va_MetW (cc := cL_rule) (maxL := 4) (ret := (some .int)) (hh := [(0, 9, 12, 24)]) (by decide) rfl ?_
  intro p e s m args below meth c s₁ B hml hv
  obtain ⟨rfl, hsz, hP, hK, hD0, hG⟩ := hv
  have hx := B.exec
  have hb := B.bytes
  have hr := B.returns
  have hlocks := B.notSynchronized
  have hts := atoms_spec (ws := wsW ⟨"FoundrymarkLaw", "rule", "(LFoundrymark;I[J)I"⟩ cL_rule 4 (some .int) [(0, 9, 12, 24)]) B.pre
  have hta : ∀ w ∈ WA, w.before _ s = true := fun w h => hts w (List.mem_cons_of_mem _ h)
  have hown : s.vm.findClass "FoundrymarkLaw" = some m.cls := findClass_of_methodNamed B.named
  have htab := vx_table (x := ⟨"FoundrymarkLaw", "rule", "(LFoundrymark;I[J)I"⟩) B (hts _ List.mem_cons_self)
  subst hsz
  have hD : va_D (va_A (wX h0 a1 a2 a3 a4 a5 h6 s0 s1 s2 s3 t1 t2 t3 t4 t5) s.heap.size) (wX h0 a1 a2 a3 a4 a5 h6 s0 s1 s2 s3 t1 t2 t3 t4 t5) := hD0.self (sz := s.heap.size)
  generalize hAe : va_A (wX h0 a1 a2 a3 a4 a5 h6 s0 s1 s2 s3 t1 t2 t3 t4 t5) s.heap.size = A at hD hG ⊢
  have hA : ∀ q : Nat, s.heap.size ≤ q → A q := fun q h => by rw [← hAe]; exact Or.inr h
  have hS : va_S A s.heap s.heap [] := va_S.rf
  have hP : va_P D vwCl (wX h0 a1 a2 a3 a4 a5 h6 s0 s1 s2 s3 t1 t2 t3 t4 t5) s.heap := hP
  have hl := lv_entry ([.ref h0, .int n, .ref o]) (n := 4) (Nat.le_of_ble_eq_true rfl)
  rw [lg_entry_eq]
  generalize (lg_sl ([.ref h0, .int n, .ref o]) ++ List.replicate (4 - (lg_sl ([.ref h0, .int n, .ref o])).length) Slot.unset).toArray = ls at hl ⊢
  have hl : lv_has ls 4 [(0, .ref h0), (1, .int n), (2, .ref o)] := hl
  refine lv_aload_n hx hb dL_rule_0 rfl (lv_at hl 2 rfl) ?_
  refine lv_iconst (v := 0) hx hb dL_rule_1 (by decide) ?_
  refine lv_aload_n hx hb dL_rule_2 rfl (lv_at hl 0 rfl) ?_
  refine lv_iload_n hx hb dL_rule_3 rfl (lv_at hl 1 rfl) ?_
  have hPc := hP.sub (ws' := (wX h0 a1 a2 a3 a4 a5 h6 s0 s1 s2 s3 t1 t2 t3 t4 t5)) [0, 1, 2, 3, 4, 5, 6, 7, 8, 9, 10] rfl
  have hKc := hK.sub (tys' := (tX t1 t2 t3 t4 t5)) [0, 1, 2, 3, 4] rfl
  have hDc := hD.sub (ws' := (wX h0 a1 a2 a3 a4 a5 h6 s0 s1 s2 s3 t1 t2 t3 t4 t5)) [0, 1, 2, 3, 4, 5, 6, 7, 8, 9, 10] (by decide) rfl
  have hFc := va_free (wc := (wX h0 a1 a2 a3 a4 a5 h6 s0 s1 s2 s3 t1 t2 t3 t4 t5)) hD hS hA [0, 1, 2, 3, 4, 5, 6, 7, 8, 9, 10] rfl
  refine gX0 (isC := [0, 1, 2, 3, 4, 5, 6, 7, 8, 9, 10]) (isR := []) (wr := []) (vx_runV (As := [.int n]) (rest := [.int 0, .ref o]) ⟨hx, hb, hml, hown, hta⟩ (c_X10_rule_f l hl0 hf) (cwV 1 hta (gWV mw394 mw395 mw396 mw10 mw393) rfl rfl rfl (by decide +kernel) ⟨Nat.le_of_ble_eq_true rfl, Nat.le_of_ble_eq_true rfl⟩) ⟨gS_blind, va_recv hKc hPc (ci := 15) (q0 := 0) rfl rfl, fun U hU hW => ⟨rfl, by rw [hU], by rw [hU]; exact hPc, va_K.moved hW.alike hKc, hDc.weaken (fun _ _ _ _ => trivial), hG.call hS hU hW hFc⟩⟩ rfl rfl hl.1 rfl (lv_room (Nat.le_of_ble_eq_true rfl)) dL_rule_4 ⟨Nat.le_of_ble_eq_true rfl, Nat.le_of_ble_eq_true rfl⟩) hP hD hS hFc rfl rfl (by decide) (by decide) (fun E9 ce q9 u2 H locs h3 hz9 hP hD hS hc9 hv9 hcl9 => ?_)
  obtain ⟨_, rfl⟩ := h3
  refine vx_catch (own := "FoundrymarkLaw") (name := "java/lang/IndexOutOfBoundsException") hown [] ⟨0, 9, 12, 24⟩ [] (by rw [htab]; rfl) (fun z hz => absurd hz List.not_mem_nil) (by decide) (by decide) (hta _ mw270) (va_Nw.use rfl (hG.C ("java/lang/IndexOutOfBoundsException", "java/lang/IndexOutOfBoundsException") (by decide))) hc9 hv9 hcl9 ?_
  refine W.eq (g2 := F0 m 12 ls [.ref q9]) rfl ?_
  refine lv_astore_n (lv' := [(3, .ref q9), (0, .ref h0), (1, .int n), (2, .ref o)]) hx hb dL_rule_12 rfl hl (by decide) rfl (fun ls hl => ?_)
  refine lv_iconst (v := 1) hx hb dL_rule_13 (by decide) ?_
  have hP9 := hP.sub (ws' := []) [] rfl
  have hD9 := hD.sub (ws' := []) [] (by decide) rfl
  have hK9 := hK.sub (tys' := []) [] rfl
  refine W.widen (k := 1) (n := 6) (Nat.le_of_ble_eq_true rfl) (Nat.le_of_ble_eq_true rfl) ?_
  exact W.iret (v := 1) hx hb hr (fun t ht hWm => ⟨⟨_, (), rfl, rfl, ⟨by rw [ht]; exact hP9, va_K.moved hWm.alike hK9, hD9⟩⟩, hS.F ht⟩) hS.2.2 dL_rule_14

set_option maxHeartbeats 4000000 in
set_option maxRecDepth 100000 in
theorem c_L_advance_t (l : Launch) (hl0 : l.stackTraces = false) {D : va_G} {tE sz : Nat} {h0 a1 a2 a3 a4 a5 h6 s0 s1 s2 s3 : Nat} {t1 t2 t3 t4 t5 : ClassId} {o : Nat} {tj : ClassId} {N : Nat} (hN : N ≤ 500) (ht : inR (nI N) 1 500 = true) : Met l ⟨"FoundrymarkLaw", "advance", "(LFoundrymark;I[J)I"⟩ (wsW ⟨"FoundrymarkLaw", "advance", "(LFoundrymark;I[J)I"⟩ cL_advance 4 (some .int) [(0, 9, 12, 13), (0, 9, 15, 15)]) ({ frames := 2, cells := 0, slots := 0, locals := 46 }) (va_Pc [.ref h0, .int (nI N), .ref o] (gS tE D [(h0, .inr (15, [.ref a1, .ref a2, .ref a3, .ref a4, .ref a5, .ref h6, .int 0, .int 0, .int 0, .int 0, .int 0, .int 0, .long 0, .long 0])), (a1, .inl (t1, 5, .inr (.inr (.inr (.inr (fun _ => none)))))), (a2, .inl (t2, 12, .inr (.inr (.inr (.inr (fun _ => none)))))), (a3, .inl (t3, 4, .inr (.inr (.inr (.inr (va_up (va_up (va_up (va_up (fun _ => none) 0 (some s0)) 1 (some s1)) 2 (some s2)) 3 (some s3))))))), (a4, .inl (t4, 90, .inr (.inr (.inr (.inr (fun _ => none)))))), (a5, .inl (t5, 30, .inr (.inr (.inr (.inr (fun _ => none)))))), (h6, .inr (10, [.long 0, .long 0])), (s0, .inr (14, [.int 110, .int 0, .int 0])), (s1, .inr (14, [.int 110, .int 0, .int 0])), (s2, .inr (14, [.int 110, .int 0, .int 0])), (s3, .inr (14, [.int 110, .int 0, .int 0])), (o, .inl (tj, 1, .inr (.inl (fun _ => 0))))] [(t1, .object "Foundrymark$Machine"), (t2, .object "Foundrymark$Part"), (t3, .object "Foundrymark$Supplier"), (t4, .object "Foundrymark$Lot"), (t5, .object "Foundrymark$Order"), (tj, .long)] sz)) (va_Qi (fun (r : Int32) (_ : Unit) => r = 0) (gO D (fun _ => [(o, .inl (tj, 1, .inr (.inl (vp_updL (fun _ => 0) 0 ((nI N).toInt64)))))]) (fun _ => []) (va_A [(h0, .inr (15, [.ref a1, .ref a2, .ref a3, .ref a4, .ref a5, .ref h6, .int 0, .int 0, .int 0, .int 0, .int 0, .int 0, .long 0, .long 0])), (a1, .inl (t1, 5, .inr (.inr (.inr (.inr (fun _ => none)))))), (a2, .inl (t2, 12, .inr (.inr (.inr (.inr (fun _ => none)))))), (a3, .inl (t3, 4, .inr (.inr (.inr (.inr (va_up (va_up (va_up (va_up (fun _ => none) 0 (some s0)) 1 (some s1)) 2 (some s2)) 3 (some s3))))))), (a4, .inl (t4, 90, .inr (.inr (.inr (.inr (fun _ => none)))))), (a5, .inl (t5, 30, .inr (.inr (.inr (.inr (fun _ => none)))))), (h6, .inr (10, [.long 0, .long 0])), (s0, .inr (14, [.int 110, .int 0, .int 0])), (s1, .inr (14, [.int 110, .int 0, .int 0])), (s2, .inr (14, [.int 110, .int 0, .int 0])), (s3, .inr (14, [.int 110, .int 0, .int 0])), (o, .inl (tj, 1, .inr (.inl (fun _ => 0))))] sz)) (va_A [(h0, .inr (15, [.ref a1, .ref a2, .ref a3, .ref a4, .ref a5, .ref h6, .int 0, .int 0, .int 0, .int 0, .int 0, .int 0, .long 0, .long 0])), (a1, .inl (t1, 5, .inr (.inr (.inr (.inr (fun _ => none)))))), (a2, .inl (t2, 12, .inr (.inr (.inr (.inr (fun _ => none)))))), (a3, .inl (t3, 4, .inr (.inr (.inr (.inr (va_up (va_up (va_up (va_up (fun _ => none) 0 (some s0)) 1 (some s1)) 2 (some s2)) 3 (some s3))))))), (a4, .inl (t4, 90, .inr (.inr (.inr (.inr (fun _ => none)))))), (a5, .inl (t5, 30, .inr (.inr (.inr (.inr (fun _ => none)))))), (h6, .inr (10, [.long 0, .long 0])), (s0, .inr (14, [.int 110, .int 0, .int 0])), (s1, .inr (14, [.int 110, .int 0, .int 0])), (s2, .inr (14, [.int 110, .int 0, .int 0])), (s3, .inr (14, [.int 110, .int 0, .int 0])), (o, .inl (tj, 1, .inr (.inl (fun _ => 0))))] sz)) 0 0 (va_A [(h0, .inr (15, [.ref a1, .ref a2, .ref a3, .ref a4, .ref a5, .ref h6, .int 0, .int 0, .int 0, .int 0, .int 0, .int 0, .long 0, .long 0])), (a1, .inl (t1, 5, .inr (.inr (.inr (.inr (fun _ => none)))))), (a2, .inl (t2, 12, .inr (.inr (.inr (.inr (fun _ => none)))))), (a3, .inl (t3, 4, .inr (.inr (.inr (.inr (va_up (va_up (va_up (va_up (fun _ => none) 0 (some s0)) 1 (some s1)) 2 (some s2)) 3 (some s3))))))), (a4, .inl (t4, 90, .inr (.inr (.inr (.inr (fun _ => none)))))), (a5, .inl (t5, 30, .inr (.inr (.inr (.inr (fun _ => none)))))), (h6, .inr (10, [.long 0, .long 0])), (s0, .inr (14, [.int 110, .int 0, .int 0])), (s1, .inr (14, [.int 110, .int 0, .int 0])), (s2, .inr (14, [.int 110, .int 0, .int 0])), (s3, .inr (14, [.int 110, .int 0, .int 0])), (o, .inl (tj, 1, .inr (.inl (fun _ => 0))))] sz) := by
  refine va_MetW (cc := cL_advance) (maxL := 4) (ret := (some .int)) (hh := [(0, 9, 12, 13), (0, 9, 15, 15)]) (by decide) rfl ?_
  intro p e s m args below meth c s₁ B hml hv
  obtain ⟨rfl, hsz, hP, hK, hD0, hG⟩ := hv
  have hx := B.exec
  have hb := B.bytes
  have hr := B.returns
  have hlocks := B.notSynchronized
  have hts := atoms_spec (ws := wsW ⟨"FoundrymarkLaw", "advance", "(LFoundrymark;I[J)I"⟩ cL_advance 4 (some .int) [(0, 9, 12, 13), (0, 9, 15, 15)]) B.pre
  have hta : ∀ w ∈ WA, w.before _ s = true := fun w h => hts w (List.mem_cons_of_mem _ h)
  have hown : s.vm.findClass "FoundrymarkLaw" = some m.cls := findClass_of_methodNamed B.named
  have htab := vx_table (x := ⟨"FoundrymarkLaw", "advance", "(LFoundrymark;I[J)I"⟩) B (hts _ List.mem_cons_self)
  subst hsz
  have hD : va_D (va_A [(h0, .inr (15, [.ref a1, .ref a2, .ref a3, .ref a4, .ref a5, .ref h6, .int 0, .int 0, .int 0, .int 0, .int 0, .int 0, .long 0, .long 0])), (a1, .inl (t1, 5, .inr (.inr (.inr (.inr (fun _ => none)))))), (a2, .inl (t2, 12, .inr (.inr (.inr (.inr (fun _ => none)))))), (a3, .inl (t3, 4, .inr (.inr (.inr (.inr (va_up (va_up (va_up (va_up (fun _ => none) 0 (some s0)) 1 (some s1)) 2 (some s2)) 3 (some s3))))))), (a4, .inl (t4, 90, .inr (.inr (.inr (.inr (fun _ => none)))))), (a5, .inl (t5, 30, .inr (.inr (.inr (.inr (fun _ => none)))))), (h6, .inr (10, [.long 0, .long 0])), (s0, .inr (14, [.int 110, .int 0, .int 0])), (s1, .inr (14, [.int 110, .int 0, .int 0])), (s2, .inr (14, [.int 110, .int 0, .int 0])), (s3, .inr (14, [.int 110, .int 0, .int 0])), (o, .inl (tj, 1, .inr (.inl (fun _ => 0))))] s.heap.size) [(h0, .inr (15, [.ref a1, .ref a2, .ref a3, .ref a4, .ref a5, .ref h6, .int 0, .int 0, .int 0, .int 0, .int 0, .int 0, .long 0, .long 0])), (a1, .inl (t1, 5, .inr (.inr (.inr (.inr (fun _ => none)))))), (a2, .inl (t2, 12, .inr (.inr (.inr (.inr (fun _ => none)))))), (a3, .inl (t3, 4, .inr (.inr (.inr (.inr (va_up (va_up (va_up (va_up (fun _ => none) 0 (some s0)) 1 (some s1)) 2 (some s2)) 3 (some s3))))))), (a4, .inl (t4, 90, .inr (.inr (.inr (.inr (fun _ => none)))))), (a5, .inl (t5, 30, .inr (.inr (.inr (.inr (fun _ => none)))))), (h6, .inr (10, [.long 0, .long 0])), (s0, .inr (14, [.int 110, .int 0, .int 0])), (s1, .inr (14, [.int 110, .int 0, .int 0])), (s2, .inr (14, [.int 110, .int 0, .int 0])), (s3, .inr (14, [.int 110, .int 0, .int 0])), (o, .inl (tj, 1, .inr (.inl (fun _ => 0))))] := hD0.self (sz := s.heap.size)
  generalize hAe : va_A [(h0, .inr (15, [.ref a1, .ref a2, .ref a3, .ref a4, .ref a5, .ref h6, .int 0, .int 0, .int 0, .int 0, .int 0, .int 0, .long 0, .long 0])), (a1, .inl (t1, 5, .inr (.inr (.inr (.inr (fun _ => none)))))), (a2, .inl (t2, 12, .inr (.inr (.inr (.inr (fun _ => none)))))), (a3, .inl (t3, 4, .inr (.inr (.inr (.inr (va_up (va_up (va_up (va_up (fun _ => none) 0 (some s0)) 1 (some s1)) 2 (some s2)) 3 (some s3))))))), (a4, .inl (t4, 90, .inr (.inr (.inr (.inr (fun _ => none)))))), (a5, .inl (t5, 30, .inr (.inr (.inr (.inr (fun _ => none)))))), (h6, .inr (10, [.long 0, .long 0])), (s0, .inr (14, [.int 110, .int 0, .int 0])), (s1, .inr (14, [.int 110, .int 0, .int 0])), (s2, .inr (14, [.int 110, .int 0, .int 0])), (s3, .inr (14, [.int 110, .int 0, .int 0])), (o, .inl (tj, 1, .inr (.inl (fun _ => 0))))] s.heap.size = A at hD hG ⊢
  have hA : ∀ q : Nat, s.heap.size ≤ q → A q := fun q h => by rw [← hAe]; exact Or.inr h
  have hS : va_S A s.heap s.heap [] := va_S.rf
  have hP : va_P D vwCl [(h0, .inr (15, [.ref a1, .ref a2, .ref a3, .ref a4, .ref a5, .ref h6, .int 0, .int 0, .int 0, .int 0, .int 0, .int 0, .long 0, .long 0])), (a1, .inl (t1, 5, .inr (.inr (.inr (.inr (fun _ => none)))))), (a2, .inl (t2, 12, .inr (.inr (.inr (.inr (fun _ => none)))))), (a3, .inl (t3, 4, .inr (.inr (.inr (.inr (va_up (va_up (va_up (va_up (fun _ => none) 0 (some s0)) 1 (some s1)) 2 (some s2)) 3 (some s3))))))), (a4, .inl (t4, 90, .inr (.inr (.inr (.inr (fun _ => none)))))), (a5, .inl (t5, 30, .inr (.inr (.inr (.inr (fun _ => none)))))), (h6, .inr (10, [.long 0, .long 0])), (s0, .inr (14, [.int 110, .int 0, .int 0])), (s1, .inr (14, [.int 110, .int 0, .int 0])), (s2, .inr (14, [.int 110, .int 0, .int 0])), (s3, .inr (14, [.int 110, .int 0, .int 0])), (o, .inl (tj, 1, .inr (.inl (fun _ => 0))))] s.heap := hP
  have hl := lv_entry ([.ref h0, .int (nI N), .ref o]) (n := 4) (Nat.le_of_ble_eq_true rfl)
  rw [lg_entry_eq]
  generalize (lg_sl ([.ref h0, .int (nI N), .ref o]) ++ List.replicate (4 - (lg_sl ([.ref h0, .int (nI N), .ref o])).length) Slot.unset).toArray = ls at hl ⊢
  have hl : lv_has ls 4 [(0, .ref h0), (1, .int (nI N)), (2, .ref o)] := hl
  refine lv_aload_n hx hb dL_advance_0 rfl (lv_at hl 2 rfl) ?_
  refine lv_iconst (v := 0) hx hb dL_advance_1 (by decide) ?_
  refine lv_aload_n hx hb dL_advance_2 rfl (lv_at hl 0 rfl) ?_
  refine lv_iload_n hx hb dL_advance_3 rfl (lv_at hl 1 rfl) ?_
  have hPc := hP.sub (ws' := (wX h0 a1 a2 a3 a4 a5 h6 s0 s1 s2 s3 t1 t2 t3 t4 t5)) [0, 1, 2, 3, 4, 5, 6, 7, 8, 9, 10] rfl
  have hKc := hK.sub (tys' := (tX t1 t2 t3 t4 t5)) [0, 1, 2, 3, 4] rfl
  have hDc := hD.sub (ws' := (wX h0 a1 a2 a3 a4 a5 h6 s0 s1 s2 s3 t1 t2 t3 t4 t5)) [0, 1, 2, 3, 4, 5, 6, 7, 8, 9, 10] (by decide) rfl
  have hFc := va_free (wc := (wX h0 a1 a2 a3 a4 a5 h6 s0 s1 s2 s3 t1 t2 t3 t4 t5)) hD hS hA [0, 1, 2, 3, 4, 5, 6, 7, 8, 9, 10] rfl
  refine gJ_i (isC := [0, 1, 2, 3, 4, 5, 6, 7, 8, 9, 10]) (isR := [11]) (wr := [(o, .inl (tj, 1, .inr (.inl (fun _ => 0))))]) (va_runV (As := [.int (nI N)]) (rest := [.int 0, .ref o]) ⟨hx, hb, hml, hown, hta⟩ (c_X10_advance_t l hN ht) (cwV 1 hta (gWV mw398 mw399 mw400 mw10 mw397) rfl rfl rfl (by decide +kernel) ⟨Nat.le_of_ble_eq_true rfl, Nat.le_of_ble_eq_true rfl⟩) ⟨gS_blind, va_recv hKc hPc (ci := 15) (q0 := 0) rfl rfl, fun U hU hW => ⟨rfl, by rw [hU], by rw [hU]; exact hPc, va_K.moved hW.alike hKc, hDc.weaken (fun _ _ _ _ => trivial), hG.call hS hU hW hFc⟩⟩ rfl rfl hl.1 rfl (lv_room (Nat.le_of_ble_eq_true rfl)) dL_advance_4 ⟨Nat.le_of_ble_eq_true rfl, Nat.le_of_ble_eq_true rfl⟩) hP hD hS hK hFc rfl rfl (by decide) (by decide) (fun r1 u2 H locs h3 hP hD hS hK => ?_)
  obtain rfl : r1 = nI N := h3
  have hK : va_K D vwCl [(t1, .object "Foundrymark$Machine"), (t2, .object "Foundrymark$Part"), (t3, .object "Foundrymark$Supplier"), (t4, .object "Foundrymark$Lot"), (t5, .object "Foundrymark$Order"), (tj, .long)] s := hK
  have hP : va_P D vwCl [(o, .inl (tj, 1, .inr (.inl (fun _ => 0))))] H := hP
  have hD : va_D A [(o, .inl (tj, 1, .inr (.inl (fun _ => 0))))] := hD
  refine lv_i2l (v := (nI N).toInt64) hx hb dL_advance_7 rfl ?_
  refine va_last hx hb hK hP hD hS 0 5 rfl rfl (i := 0) (x := (nI N).toInt64) (by unfold vp_in; decide) dL_advance_8 (fun H locs hP hD hS => ?_)
  have hP : va_P D vwCl [(o, .inl (tj, 1, .inr (.inl (vp_updL (fun _ => 0) 0 ((nI N).toInt64)))))] H := hP
  have hD : va_D A [(o, .inl (tj, 1, .inr (.inl (vp_updL (fun _ => 0) 0 ((nI N).toInt64)))))] := hD
  refine lv_goto (tgt := 18) hx hb dL_advance_9 (by decide) ?_
  refine lv_iconst (v := 0) hx hb dL_advance_18 (by decide) ?_
  have hP9 := hP.sub (ws' := [(o, .inl (tj, 1, .inr (.inl (vp_updL (fun _ => 0) 0 ((nI N).toInt64)))))]) [0] rfl
  have hD9 := hD.sub (ws' := [(o, .inl (tj, 1, .inr (.inl (vp_updL (fun _ => 0) 0 ((nI N).toInt64)))))]) [0] (by decide) rfl
  have hK9 := hK.sub (tys' := []) [] rfl
  refine W.widen (k := 0) (n := 0) (Nat.le_of_ble_eq_true rfl) (Nat.le_of_ble_eq_true rfl) ?_
  exact W.iret (v := 0) hx hb hr (fun t ht hWm => ⟨⟨_, (), rfl, rfl, ⟨by rw [ht]; exact hP9, va_K.moved hWm.alike hK9, hD9⟩⟩, hS.F ht⟩) hS.2.2 dL_advance_19

set_option maxHeartbeats 4000000 in
set_option maxRecDepth 100000 in
theorem c_L_advance_f (l : Launch) (hl0 : l.stackTraces = false) {D : va_G} {tE sz : Nat} {h0 a1 a2 a3 a4 a5 h6 s0 s1 s2 s3 : Nat} {t1 t2 t3 t4 t5 : ClassId} {o : Nat} {b : Int32} (hf : inR b 1 500 = false) : Met l ⟨"FoundrymarkLaw", "advance", "(LFoundrymark;I[J)I"⟩ (wsW ⟨"FoundrymarkLaw", "advance", "(LFoundrymark;I[J)I"⟩ cL_advance 4 (some .int) [(0, 9, 12, 13), (0, 9, 15, 15)]) ({ frames := 7, cells := 1, slots := 6, locals := 120 }) (va_Pc [.ref h0, .int b, .ref o] (gS tE D (wX h0 a1 a2 a3 a4 a5 h6 s0 s1 s2 s3 t1 t2 t3 t4 t5) (tX t1 t2 t3 t4 t5) sz)) (va_Qi (fun (r : Int32) (_ : Unit) => r = 1) (gO D (fun _ => []) (fun _ => []) (va_A (wX h0 a1 a2 a3 a4 a5 h6 s0 s1 s2 s3 t1 t2 t3 t4 t5) sz)) (va_A (wX h0 a1 a2 a3 a4 a5 h6 s0 s1 s2 s3 t1 t2 t3 t4 t5) sz)) 1 6 (va_A (wX h0 a1 a2 a3 a4 a5 h6 s0 s1 s2 s3 t1 t2 t3 t4 t5) sz) := by
  refine va_MetW (cc := cL_advance) (maxL := 4) (ret := (some .int)) (hh := [(0, 9, 12, 13), (0, 9, 15, 15)]) (by decide) rfl ?_
  intro p e s m args below meth c s₁ B hml hv
  obtain ⟨rfl, hsz, hP, hK, hD0, hG⟩ := hv
  have hx := B.exec
  have hb := B.bytes
  have hr := B.returns
  have hlocks := B.notSynchronized
  have hts := atoms_spec (ws := wsW ⟨"FoundrymarkLaw", "advance", "(LFoundrymark;I[J)I"⟩ cL_advance 4 (some .int) [(0, 9, 12, 13), (0, 9, 15, 15)]) B.pre
  have hta : ∀ w ∈ WA, w.before _ s = true := fun w h => hts w (List.mem_cons_of_mem _ h)
  have hown : s.vm.findClass "FoundrymarkLaw" = some m.cls := findClass_of_methodNamed B.named
  have htab := vx_table (x := ⟨"FoundrymarkLaw", "advance", "(LFoundrymark;I[J)I"⟩) B (hts _ List.mem_cons_self)
  subst hsz
  have hD : va_D (va_A (wX h0 a1 a2 a3 a4 a5 h6 s0 s1 s2 s3 t1 t2 t3 t4 t5) s.heap.size) (wX h0 a1 a2 a3 a4 a5 h6 s0 s1 s2 s3 t1 t2 t3 t4 t5) := hD0.self (sz := s.heap.size)
  generalize hAe : va_A (wX h0 a1 a2 a3 a4 a5 h6 s0 s1 s2 s3 t1 t2 t3 t4 t5) s.heap.size = A at hD hG ⊢
  have hA : ∀ q : Nat, s.heap.size ≤ q → A q := fun q h => by rw [← hAe]; exact Or.inr h
  have hS : va_S A s.heap s.heap [] := va_S.rf
  have hP : va_P D vwCl (wX h0 a1 a2 a3 a4 a5 h6 s0 s1 s2 s3 t1 t2 t3 t4 t5) s.heap := hP
  have hl := lv_entry ([.ref h0, .int b, .ref o]) (n := 4) (Nat.le_of_ble_eq_true rfl)
  rw [lg_entry_eq]
  generalize (lg_sl ([.ref h0, .int b, .ref o]) ++ List.replicate (4 - (lg_sl ([.ref h0, .int b, .ref o])).length) Slot.unset).toArray = ls at hl ⊢
  have hl : lv_has ls 4 [(0, .ref h0), (1, .int b), (2, .ref o)] := hl
  refine lv_aload_n hx hb dL_advance_0 rfl (lv_at hl 2 rfl) ?_
  refine lv_iconst (v := 0) hx hb dL_advance_1 (by decide) ?_
  refine lv_aload_n hx hb dL_advance_2 rfl (lv_at hl 0 rfl) ?_
  refine lv_iload_n hx hb dL_advance_3 rfl (lv_at hl 1 rfl) ?_
  have hPc := hP.sub (ws' := (wX h0 a1 a2 a3 a4 a5 h6 s0 s1 s2 s3 t1 t2 t3 t4 t5)) [0, 1, 2, 3, 4, 5, 6, 7, 8, 9, 10] rfl
  have hKc := hK.sub (tys' := (tX t1 t2 t3 t4 t5)) [0, 1, 2, 3, 4] rfl
  have hDc := hD.sub (ws' := (wX h0 a1 a2 a3 a4 a5 h6 s0 s1 s2 s3 t1 t2 t3 t4 t5)) [0, 1, 2, 3, 4, 5, 6, 7, 8, 9, 10] (by decide) rfl
  have hFc := va_free (wc := (wX h0 a1 a2 a3 a4 a5 h6 s0 s1 s2 s3 t1 t2 t3 t4 t5)) hD hS hA [0, 1, 2, 3, 4, 5, 6, 7, 8, 9, 10] rfl
  refine gX0 (isC := [0, 1, 2, 3, 4, 5, 6, 7, 8, 9, 10]) (isR := []) (wr := []) (vx_runV (As := [.int b]) (rest := [.int 0, .ref o]) ⟨hx, hb, hml, hown, hta⟩ (c_X10_advance_f l hl0 hf) (cwV 1 hta (gWV mw398 mw399 mw400 mw10 mw397) rfl rfl rfl (by decide +kernel) ⟨Nat.le_of_ble_eq_true rfl, Nat.le_of_ble_eq_true rfl⟩) ⟨gS_blind, va_recv hKc hPc (ci := 15) (q0 := 0) rfl rfl, fun U hU hW => ⟨rfl, by rw [hU], by rw [hU]; exact hPc, va_K.moved hW.alike hKc, hDc.weaken (fun _ _ _ _ => trivial), hG.call hS hU hW hFc⟩⟩ rfl rfl hl.1 rfl (lv_room (Nat.le_of_ble_eq_true rfl)) dL_advance_4 ⟨Nat.le_of_ble_eq_true rfl, Nat.le_of_ble_eq_true rfl⟩) hP hD hS hFc rfl rfl (by decide) (by decide) (fun E9 ce q9 u2 H locs h3 hz9 hP hD hS hc9 hv9 hcl9 => ?_)
  obtain ⟨_, rfl⟩ := h3
  refine vx_catch (own := "FoundrymarkLaw") (name := "java/lang/IllegalArgumentException") hown [] ⟨0, 9, 12, 13⟩ [⟨0, 9, 15, 15⟩] (by rw [htab]; rfl) (fun z hz => absurd hz List.not_mem_nil) (by decide) (by decide) (hta _ mw388) (va_Nw.use rfl (hG.C ("java/lang/IllegalArgumentException", "java/lang/IllegalArgumentException") (by decide))) hc9 hv9 hcl9 ?_
  refine W.eq (g2 := F0 m 12 ls [.ref q9]) rfl ?_
  refine lv_astore_n (lv' := [(3, .ref q9), (0, .ref h0), (1, .int b), (2, .ref o)]) hx hb dL_advance_12 rfl hl (by decide) rfl (fun ls hl => ?_)
  refine lv_iconst (v := 1) hx hb dL_advance_13 (by decide) ?_
  have hP9 := hP.sub (ws' := []) [] rfl
  have hD9 := hD.sub (ws' := []) [] (by decide) rfl
  have hK9 := hK.sub (tys' := []) [] rfl
  refine W.widen (k := 1) (n := 6) (Nat.le_of_ble_eq_true rfl) (Nat.le_of_ble_eq_true rfl) ?_
  exact W.iret (v := 1) hx hb hr (fun t ht hWm => ⟨⟨_, (), rfl, rfl, ⟨by rw [ht]; exact hP9, va_K.moved hWm.alike hK9, hD9⟩⟩, hS.F ht⟩) hS.2.2 dL_advance_14
