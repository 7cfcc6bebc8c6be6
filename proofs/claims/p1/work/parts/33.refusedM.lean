set_option maxHeartbeats 4000000 in
set_option maxRecDepth 100000 in
theorem c_X15_addComponent (l : Launch) {D : va_G} {tE sz : Nat} {m0 m1 m2 m3 m4 m5 m6 : Nat} {tc : ClassId} {th tm : Int32}  {x0 x1 x2 x3 : Int32} : Met l ⟨"FoundrymarkModel", "addComponent", "(IIII)I"⟩ (wsC ⟨"FoundrymarkModel", "addComponent", "(IIII)I"⟩ cX15_addComponent 7 (some .int)) ({ frames := 2, cells := 0, slots := 0, locals := 43 }) (va_Pc [.ref m0, .int x0, .int x1, .int x2, .int x3] (gS tE D (wM tE m0 m1 m2 m3 m4 m5 m6 tc th tm) [(tc, .char)] sz)) (va_Qi ((fun (r : Int32) (_ : Unit) => r = 0)) (gO D (fun _ => (wM tE m0 m1 m2 m3 m4 m5 m6 tc 1 tm)) (fun _ => []) (va_A (wM tE m0 m1 m2 m3 m4 m5 m6 tc th tm) sz)) (va_A (wM tE m0 m1 m2 m3 m4 m5 m6 tc th tm) sz)) 0 0 (va_A (wM tE m0 m1 m2 m3 m4 m5 m6 tc th tm) sz) := by
  refine Met.ofW (cc := cX15_addComponent) (maxL := 7) (ret := (some .int)) (by decide) rfl ?_
  intro p e s m args below meth c s₁ B hml hv
  obtain ⟨rfl, hsz, hP, hK, hD0, hG⟩ := hv
  have hx := B.exec
  have hb := B.bytes
  have hr := B.returns
  have hlocks := B.notSynchronized
  have hts := atoms_spec (ws := wsC ⟨"FoundrymarkModel", "addComponent", "(IIII)I"⟩ cX15_addComponent 7 (some .int)) B.pre
  have hta : ∀ w ∈ WA, w.before _ s = true := fun w h => hts w (List.mem_cons_of_mem _ h)
  have hown : s.vm.findClass "FoundrymarkModel" = some m.cls := findClass_of_methodNamed B.named
  subst hsz
  have hD : va_D (va_A (wM tE m0 m1 m2 m3 m4 m5 m6 tc th tm) s.heap.size) (wM tE m0 m1 m2 m3 m4 m5 m6 tc th tm) := hD0.self (sz := s.heap.size)
  generalize hAe : va_A (wM tE m0 m1 m2 m3 m4 m5 m6 tc th tm) s.heap.size = A at hD hG ⊢
  have hA : ∀ q : Nat, s.heap.size ≤ q → A q := fun q h => by rw [← hAe]; exact Or.inr h
  have hS : va_S A s.heap s.heap [] := va_S.rf
  have hP : va_P D vwCl (wM tE m0 m1 m2 m3 m4 m5 m6 tc th tm) s.heap := hP
  have hl := lv_entry ([.ref m0, .int x0, .int x1, .int x2, .int x3]) (n := 7) (Nat.le_of_ble_eq_true rfl)
  rw [lg_entry_eq]
  generalize (lg_sl ([.ref m0, .int x0, .int x1, .int x2, .int x3]) ++ List.replicate (7 - (lg_sl ([.ref m0, .int x0, .int x1, .int x2, .int x3])).length) Slot.unset).toArray = ls at hl ⊢
  have hl : lv_has ls 7 [(0, .ref m0), (1, .int x0), (2, .int x1), (3, .int x2), (4, .int x3)] := hl
  refine lv_aload_n hx hb dX15_addComponent_0 rfl (lv_at hl 0 rfl) ?_
  refine lv_aload_n hx hb dX15_addComponent_1 rfl (lv_at hl 0 rfl) ?_
  refine lv_iload_n hx hb dX15_addComponent_2 rfl (lv_at hl 1 rfl) ?_
  have hPc := hP.sub (ws' := (wM tE m0 m1 m2 m3 m4 m5 m6 tc th tm)) [0, 1, 2, 3, 4, 5] rfl
  have hKc := hK.sub (tys' := [(tc, .char)]) [0] rfl
  refine vp_callSi (W.runV (As := [.int x0]) (rest := [.ref m0]) ⟨hx, hb, hml, hown, hta⟩ (c_X15_isPart l ) (cwV 1 hta (gWV mw189 mw190 mw191 mw176 mw188) rfl rfl rfl (by decide +kernel) ⟨Nat.le_of_ble_eq_true rfl, Nat.le_of_ble_eq_true rfl⟩) ⟨gR_blind, va_recv hKc hPc (ci := 20) (q0 := 0) rfl rfl, fun U hU hW => ⟨rfl, by rw [hU]; exact hPc, va_K.moved hW.alike hKc⟩⟩ rfl rfl hl.1 rfl (lv_room (Nat.le_of_ble_eq_true rfl)) dX15_addComponent_3 ⟨Nat.le_of_ble_eq_true rfl, Nat.le_of_ble_eq_true rfl⟩) (fun r1 h2 => ?_)
  obtain rfl : r1 = 0 := h2
  refine lv_if_eq (tgt := 21) hx hb dX15_addComponent_6 (by decide) (fun c3 => ?_) (fun c3 => ?_)
  · skip
    refine lv_iconst (v := 1) hx hb dX15_addComponent_21 (by decide) ?_
    have hPc := hP.sub (ws' := (wM tE m0 m1 m2 m3 m4 m5 m6 tc th tm)) [0, 1, 2, 3, 4, 5] rfl
    have hKc := hK.sub (tys' := [(tc, .char)]) [0] rfl
    have hDc := hD.sub (ws' := (wM tE m0 m1 m2 m3 m4 m5 m6 tc th tm)) [0, 1, 2, 3, 4, 5] (by decide) rfl
    have hFc := va_free (wc := (wM tE m0 m1 m2 m3 m4 m5 m6 tc th tm)) hD hS hA [0, 1, 2, 3, 4, 5] rfl
    refine gJ_i (isC := [0, 1, 2, 3, 4, 5]) (isR := []) (wr := []) (va_runV (As := [.int 1]) (rest := []) ⟨hx, hb, hml, hown, hta⟩ (c_X15_fails_1 l ) (cwV 1 hta (gWV mw180 mw181 mw182 mw176 mw179) rfl rfl rfl (by decide +kernel) ⟨Nat.le_of_ble_eq_true rfl, Nat.le_of_ble_eq_true rfl⟩) ⟨gS_blind, va_recv hKc hPc (ci := 20) (q0 := 0) rfl rfl, fun U hU hW => ⟨rfl, by rw [hU], by rw [hU]; exact hPc, va_K.moved hW.alike hKc, hDc.weaken (fun _ _ _ _ => trivial), hG.call hS hU hW hFc⟩⟩ rfl rfl hl.1 rfl (lv_room (Nat.le_of_ble_eq_true rfl)) dX15_addComponent_22 ⟨Nat.le_of_ble_eq_true rfl, Nat.le_of_ble_eq_true rfl⟩) hP hD hS hK hFc rfl rfl (by decide) (by decide) (fun r4 u5 H locs h6 hP hD hS hK => ?_)
    obtain rfl : r4 = 1 := h6
    have hK : va_K D vwCl [(tc, .char)] s := hK
    have hP : va_P D vwCl (wM tE m0 m1 m2 m3 m4 m5 m6 tc 1 tm) H := hP
    have hD : va_D A (wM tE m0 m1 m2 m3 m4 m5 m6 tc 1 tm) := hD
    refine lv_if_eq (tgt := 30) hx hb dX15_addComponent_25 (by decide) (fun c7 => ?_) (fun c7 => ?_)
    · exact absurd c7 (by decide)
    · skip
      refine lv_iconst (v := 0) hx hb dX15_addComponent_28 (by decide) ?_
      have hP9 := hP.sub (ws' := (wM tE m0 m1 m2 m3 m4 m5 m6 tc 1 tm)) [0, 1, 2, 3, 4, 5] rfl
      have hD9 := hD.sub (ws' := (wM tE m0 m1 m2 m3 m4 m5 m6 tc 1 tm)) [0, 1, 2, 3, 4, 5] (by decide) rfl
      have hK9 := hK.sub (tys' := []) [] rfl
      refine W.widen (k := 0) (n := 0) (Nat.le_of_ble_eq_true rfl) (Nat.le_of_ble_eq_true rfl) ?_
      exact W.iret (v := 0) hx hb hr (fun t ht hWm => ⟨⟨_, (), rfl, rfl, ⟨by rw [ht]; exact hP9, va_K.moved hWm.alike hK9, hD9⟩⟩, hS.F ht⟩) hS.2.2 dX15_addComponent_29
  · exact absurd (by decide) c3

set_option maxHeartbeats 4000000 in
set_option maxRecDepth 100000 in
theorem c_X15_addOperation (l : Launch) {D : va_G} {tE sz : Nat} {m0 m1 m2 m3 m4 m5 m6 : Nat} {tc : ClassId} {th tm : Int32}  {x0 x1 x2 x3 : Int32} : Met l ⟨"FoundrymarkModel", "addOperation", "(IIII)I"⟩ (wsC ⟨"FoundrymarkModel", "addOperation", "(IIII)I"⟩ cX15_addOperation 7 (some .int)) ({ frames := 2, cells := 0, slots := 0, locals := 43 }) (va_Pc [.ref m0, .int x0, .int x1, .int x2, .int x3] (gS tE D (wM tE m0 m1 m2 m3 m4 m5 m6 tc th tm) [(tc, .char)] sz)) (va_Qi ((fun (r : Int32) (_ : Unit) => r = 0)) (gO D (fun _ => (wM tE m0 m1 m2 m3 m4 m5 m6 tc 1 tm)) (fun _ => []) (va_A (wM tE m0 m1 m2 m3 m4 m5 m6 tc th tm) sz)) (va_A (wM tE m0 m1 m2 m3 m4 m5 m6 tc th tm) sz)) 0 0 (va_A (wM tE m0 m1 m2 m3 m4 m5 m6 tc th tm) sz) := by
  refine Met.ofW (cc := cX15_addOperation) (maxL := 7) (ret := (some .int)) (by decide) rfl ?_
  intro p e s m args below meth c s₁ B hml hv
  obtain ⟨rfl, hsz, hP, hK, hD0, hG⟩ := hv
  have hx := B.exec
  have hb := B.bytes
  have hr := B.returns
  have hlocks := B.notSynchronized
  have hts := atoms_spec (ws := wsC ⟨"FoundrymarkModel", "addOperation", "(IIII)I"⟩ cX15_addOperation 7 (some .int)) B.pre
  have hta : ∀ w ∈ WA, w.before _ s = true := fun w h => hts w (List.mem_cons_of_mem _ h)
  have hown : s.vm.findClass "FoundrymarkModel" = some m.cls := findClass_of_methodNamed B.named
  subst hsz
  have hD : va_D (va_A (wM tE m0 m1 m2 m3 m4 m5 m6 tc th tm) s.heap.size) (wM tE m0 m1 m2 m3 m4 m5 m6 tc th tm) := hD0.self (sz := s.heap.size)
  generalize hAe : va_A (wM tE m0 m1 m2 m3 m4 m5 m6 tc th tm) s.heap.size = A at hD hG ⊢
  have hA : ∀ q : Nat, s.heap.size ≤ q → A q := fun q h => by rw [← hAe]; exact Or.inr h
  have hS : va_S A s.heap s.heap [] := va_S.rf
  have hP : va_P D vwCl (wM tE m0 m1 m2 m3 m4 m5 m6 tc th tm) s.heap := hP
  have hl := lv_entry ([.ref m0, .int x0, .int x1, .int x2, .int x3]) (n := 7) (Nat.le_of_ble_eq_true rfl)
  rw [lg_entry_eq]
  generalize (lg_sl ([.ref m0, .int x0, .int x1, .int x2, .int x3]) ++ List.replicate (7 - (lg_sl ([.ref m0, .int x0, .int x1, .int x2, .int x3])).length) Slot.unset).toArray = ls at hl ⊢
  have hl : lv_has ls 7 [(0, .ref m0), (1, .int x0), (2, .int x1), (3, .int x2), (4, .int x3)] := hl
  refine lv_aload_n hx hb dX15_addOperation_0 rfl (lv_at hl 0 rfl) ?_
  refine lv_aload_n hx hb dX15_addOperation_1 rfl (lv_at hl 0 rfl) ?_
  refine lv_iload_n hx hb dX15_addOperation_2 rfl (lv_at hl 1 rfl) ?_
  have hPc := hP.sub (ws' := (wM tE m0 m1 m2 m3 m4 m5 m6 tc th tm)) [0, 1, 2, 3, 4, 5] rfl
  have hKc := hK.sub (tys' := [(tc, .char)]) [0] rfl
  refine vp_callSi (W.runV (As := [.int x0]) (rest := [.ref m0]) ⟨hx, hb, hml, hown, hta⟩ (c_X15_isPart l ) (cwV 1 hta (gWV mw189 mw190 mw191 mw176 mw188) rfl rfl rfl (by decide +kernel) ⟨Nat.le_of_ble_eq_true rfl, Nat.le_of_ble_eq_true rfl⟩) ⟨gR_blind, va_recv hKc hPc (ci := 20) (q0 := 0) rfl rfl, fun U hU hW => ⟨rfl, by rw [hU]; exact hPc, va_K.moved hW.alike hKc⟩⟩ rfl rfl hl.1 rfl (lv_room (Nat.le_of_ble_eq_true rfl)) dX15_addOperation_3 ⟨Nat.le_of_ble_eq_true rfl, Nat.le_of_ble_eq_true rfl⟩) (fun r1 h2 => ?_)
  obtain rfl : r1 = 0 := h2
  refine lv_if_eq (tgt := 34) hx hb dX15_addOperation_6 (by decide) (fun c3 => ?_) (fun c3 => ?_)
  · skip
    refine lv_iconst (v := 1) hx hb dX15_addOperation_34 (by decide) ?_
    have hPc := hP.sub (ws' := (wM tE m0 m1 m2 m3 m4 m5 m6 tc th tm)) [0, 1, 2, 3, 4, 5] rfl
    have hKc := hK.sub (tys' := [(tc, .char)]) [0] rfl
    have hDc := hD.sub (ws' := (wM tE m0 m1 m2 m3 m4 m5 m6 tc th tm)) [0, 1, 2, 3, 4, 5] (by decide) rfl
    have hFc := va_free (wc := (wM tE m0 m1 m2 m3 m4 m5 m6 tc th tm)) hD hS hA [0, 1, 2, 3, 4, 5] rfl
    refine gJ_i (isC := [0, 1, 2, 3, 4, 5]) (isR := []) (wr := []) (va_runV (As := [.int 1]) (rest := []) ⟨hx, hb, hml, hown, hta⟩ (c_X15_fails_1 l ) (cwV 1 hta (gWV mw180 mw181 mw182 mw176 mw179) rfl rfl rfl (by decide +kernel) ⟨Nat.le_of_ble_eq_true rfl, Nat.le_of_ble_eq_true rfl⟩) ⟨gS_blind, va_recv hKc hPc (ci := 20) (q0 := 0) rfl rfl, fun U hU hW => ⟨rfl, by rw [hU], by rw [hU]; exact hPc, va_K.moved hW.alike hKc, hDc.weaken (fun _ _ _ _ => trivial), hG.call hS hU hW hFc⟩⟩ rfl rfl hl.1 rfl (lv_room (Nat.le_of_ble_eq_true rfl)) dX15_addOperation_35 ⟨Nat.le_of_ble_eq_true rfl, Nat.le_of_ble_eq_true rfl⟩) hP hD hS hK hFc rfl rfl (by decide) (by decide) (fun r4 u5 H locs h6 hP hD hS hK => ?_)
    obtain rfl : r4 = 1 := h6
    have hK : va_K D vwCl [(tc, .char)] s := hK
    have hP : va_P D vwCl (wM tE m0 m1 m2 m3 m4 m5 m6 tc 1 tm) H := hP
    have hD : va_D A (wM tE m0 m1 m2 m3 m4 m5 m6 tc 1 tm) := hD
    refine lv_if_eq (tgt := 43) hx hb dX15_addOperation_38 (by decide) (fun c7 => ?_) (fun c7 => ?_)
    · exact absurd c7 (by decide)
    · skip
      refine lv_iconst (v := 0) hx hb dX15_addOperation_41 (by decide) ?_
      have hP9 := hP.sub (ws' := (wM tE m0 m1 m2 m3 m4 m5 m6 tc 1 tm)) [0, 1, 2, 3, 4, 5] rfl
      have hD9 := hD.sub (ws' := (wM tE m0 m1 m2 m3 m4 m5 m6 tc 1 tm)) [0, 1, 2, 3, 4, 5] (by decide) rfl
      have hK9 := hK.sub (tys' := []) [] rfl
      refine W.widen (k := 0) (n := 0) (Nat.le_of_ble_eq_true rfl) (Nat.le_of_ble_eq_true rfl) ?_
      exact W.iret (v := 0) hx hb hr (fun t ht hWm => ⟨⟨_, (), rfl, rfl, ⟨by rw [ht]; exact hP9, va_K.moved hWm.alike hK9, hD9⟩⟩, hS.F ht⟩) hS.2.2 dX15_addOperation_42
  · exact absurd (by decide) c3

set_option maxHeartbeats 4000000 in
set_option maxRecDepth 100000 in
theorem c_X15_receive (l : Launch) {D : va_G} {tE sz : Nat} {m0 m1 m2 m3 m4 m5 m6 : Nat} {tc : ClassId} {th tm : Int32}  {x0 x1 x2 x3 x4 : Int32} : Met l ⟨"FoundrymarkModel", "receive", "(IIIII)I"⟩ (wsC ⟨"FoundrymarkModel", "receive", "(IIIII)I"⟩ cX15_receive 12 (some .int)) ({ frames := 2, cells := 0, slots := 0, locals := 43 }) (va_Pc [.ref m0, .int x0, .int x1, .int x2, .int x3, .int x4] (gS tE D (wM tE m0 m1 m2 m3 m4 m5 m6 tc th tm) [(tc, .char)] sz)) (va_Qi ((fun (r : Int32) (_ : Unit) => r = 0)) (gO D (fun _ => (wM tE m0 m1 m2 m3 m4 m5 m6 tc 1 tm)) (fun _ => []) (va_A (wM tE m0 m1 m2 m3 m4 m5 m6 tc th tm) sz)) (va_A (wM tE m0 m1 m2 m3 m4 m5 m6 tc th tm) sz)) 0 0 (va_A (wM tE m0 m1 m2 m3 m4 m5 m6 tc th tm) sz) := by
  refine Met.ofW (cc := cX15_receive) (maxL := 12) (ret := (some .int)) (by decide) rfl ?_
  intro p e s m args below meth c s₁ B hml hv
  obtain ⟨rfl, hsz, hP, hK, hD0, hG⟩ := hv
  have hx := B.exec
  have hb := B.bytes
  have hr := B.returns
  have hlocks := B.notSynchronized
  have hts := atoms_spec (ws := wsC ⟨"FoundrymarkModel", "receive", "(IIIII)I"⟩ cX15_receive 12 (some .int)) B.pre
  have hta : ∀ w ∈ WA, w.before _ s = true := fun w h => hts w (List.mem_cons_of_mem _ h)
  have hown : s.vm.findClass "FoundrymarkModel" = some m.cls := findClass_of_methodNamed B.named
  subst hsz
  have hD : va_D (va_A (wM tE m0 m1 m2 m3 m4 m5 m6 tc th tm) s.heap.size) (wM tE m0 m1 m2 m3 m4 m5 m6 tc th tm) := hD0.self (sz := s.heap.size)
  generalize hAe : va_A (wM tE m0 m1 m2 m3 m4 m5 m6 tc th tm) s.heap.size = A at hD hG ⊢
  have hA : ∀ q : Nat, s.heap.size ≤ q → A q := fun q h => by rw [← hAe]; exact Or.inr h
  have hS : va_S A s.heap s.heap [] := va_S.rf
  have hP : va_P D vwCl (wM tE m0 m1 m2 m3 m4 m5 m6 tc th tm) s.heap := hP
  have hl := lv_entry ([.ref m0, .int x0, .int x1, .int x2, .int x3, .int x4]) (n := 12) (Nat.le_of_ble_eq_true rfl)
  rw [lg_entry_eq]
  generalize (lg_sl ([.ref m0, .int x0, .int x1, .int x2, .int x3, .int x4]) ++ List.replicate (12 - (lg_sl ([.ref m0, .int x0, .int x1, .int x2, .int x3, .int x4])).length) Slot.unset).toArray = ls at hl ⊢
  have hl : lv_has ls 12 [(0, .ref m0), (1, .int x0), (2, .int x1), (3, .int x2), (4, .int x3), (5, .int x4)] := hl
  refine lv_aload_n hx hb dX15_receive_0 rfl (lv_at hl 0 rfl) ?_
  refine lv_aload_n hx hb dX15_receive_1 rfl (lv_at hl 0 rfl) ?_
  refine lv_iload_n hx hb dX15_receive_2 rfl (lv_at hl 1 rfl) ?_
  have hPc := hP.sub (ws' := (wM tE m0 m1 m2 m3 m4 m5 m6 tc th tm)) [0, 1, 2, 3, 4, 5] rfl
  have hKc := hK.sub (tys' := [(tc, .char)]) [0] rfl
  refine vp_callSi (W.runV (As := [.int x0]) (rest := [.ref m0]) ⟨hx, hb, hml, hown, hta⟩ (c_X15_isPart l ) (cwV 1 hta (gWV mw189 mw190 mw191 mw176 mw188) rfl rfl rfl (by decide +kernel) ⟨Nat.le_of_ble_eq_true rfl, Nat.le_of_ble_eq_true rfl⟩) ⟨gR_blind, va_recv hKc hPc (ci := 20) (q0 := 0) rfl rfl, fun U hU hW => ⟨rfl, by rw [hU]; exact hPc, va_K.moved hW.alike hKc⟩⟩ rfl rfl hl.1 rfl (lv_room (Nat.le_of_ble_eq_true rfl)) dX15_receive_3 ⟨Nat.le_of_ble_eq_true rfl, Nat.le_of_ble_eq_true rfl⟩) (fun r1 h2 => ?_)
  obtain rfl : r1 = 0 := h2
  refine lv_if_eq (tgt := 13) hx hb dX15_receive_6 (by decide) (fun c3 => ?_) (fun c3 => ?_)
  · skip
    refine lv_iconst (v := 1) hx hb dX15_receive_13 (by decide) ?_
    have hPc := hP.sub (ws' := (wM tE m0 m1 m2 m3 m4 m5 m6 tc th tm)) [0, 1, 2, 3, 4, 5] rfl
    have hKc := hK.sub (tys' := [(tc, .char)]) [0] rfl
    have hDc := hD.sub (ws' := (wM tE m0 m1 m2 m3 m4 m5 m6 tc th tm)) [0, 1, 2, 3, 4, 5] (by decide) rfl
    have hFc := va_free (wc := (wM tE m0 m1 m2 m3 m4 m5 m6 tc th tm)) hD hS hA [0, 1, 2, 3, 4, 5] rfl
    refine gJ_i (isC := [0, 1, 2, 3, 4, 5]) (isR := []) (wr := []) (va_runV (As := [.int 1]) (rest := []) ⟨hx, hb, hml, hown, hta⟩ (c_X15_fails_1 l ) (cwV 1 hta (gWV mw180 mw181 mw182 mw176 mw179) rfl rfl rfl (by decide +kernel) ⟨Nat.le_of_ble_eq_true rfl, Nat.le_of_ble_eq_true rfl⟩) ⟨gS_blind, va_recv hKc hPc (ci := 20) (q0 := 0) rfl rfl, fun U hU hW => ⟨rfl, by rw [hU], by rw [hU]; exact hPc, va_K.moved hW.alike hKc, hDc.weaken (fun _ _ _ _ => trivial), hG.call hS hU hW hFc⟩⟩ rfl rfl hl.1 rfl (lv_room (Nat.le_of_ble_eq_true rfl)) dX15_receive_14 ⟨Nat.le_of_ble_eq_true rfl, Nat.le_of_ble_eq_true rfl⟩) hP hD hS hK hFc rfl rfl (by decide) (by decide) (fun r4 u5 H locs h6 hP hD hS hK => ?_)
    obtain rfl : r4 = 1 := h6
    have hK : va_K D vwCl [(tc, .char)] s := hK
    have hP : va_P D vwCl (wM tE m0 m1 m2 m3 m4 m5 m6 tc 1 tm) H := hP
    have hD : va_D A (wM tE m0 m1 m2 m3 m4 m5 m6 tc 1 tm) := hD
    refine lv_if_ne (tgt := 49) hx hb dX15_receive_17 (by decide) (fun c7 => ?_) (fun c7 => ?_)
    · skip
      refine lv_iconst (v := 0) hx hb dX15_receive_49 (by decide) ?_
      have hP9 := hP.sub (ws' := (wM tE m0 m1 m2 m3 m4 m5 m6 tc 1 tm)) [0, 1, 2, 3, 4, 5] rfl
      have hD9 := hD.sub (ws' := (wM tE m0 m1 m2 m3 m4 m5 m6 tc 1 tm)) [0, 1, 2, 3, 4, 5] (by decide) rfl
      have hK9 := hK.sub (tys' := []) [] rfl
      refine W.widen (k := 0) (n := 0) (Nat.le_of_ble_eq_true rfl) (Nat.le_of_ble_eq_true rfl) ?_
      exact W.iret (v := 0) hx hb hr (fun t ht hWm => ⟨⟨_, (), rfl, rfl, ⟨by rw [ht]; exact hP9, va_K.moved hWm.alike hK9, hD9⟩⟩, hS.F ht⟩) hS.2.2 dX15_receive_50
    · exact absurd c7 (by decide)
  · exact absurd (by decide) c3

set_option maxHeartbeats 4000000 in
set_option maxRecDepth 100000 in
theorem c_X15_hold (l : Launch) {D : va_G} {tE sz : Nat} {m0 m1 m2 m3 m4 m5 m6 : Nat} {tc : ClassId} {th tm : Int32}  {x0 x1 : Int32} : Met l ⟨"FoundrymarkModel", "hold", "(IZ)I"⟩ (wsC ⟨"FoundrymarkModel", "hold", "(IZ)I"⟩ cX15_hold 3 (some .int)) ({ frames := 2, cells := 0, slots := 0, locals := 43 }) (va_Pc [.ref m0, .int x0, .int x1] (gS tE D (wM tE m0 m1 m2 m3 m4 m5 m6 tc th tm) [(tc, .char)] sz)) (va_Qi ((fun (r : Int32) (_ : Unit) => r = 0)) (gO D (fun _ => (wM tE m0 m1 m2 m3 m4 m5 m6 tc 1 tm)) (fun _ => []) (va_A (wM tE m0 m1 m2 m3 m4 m5 m6 tc th tm) sz)) (va_A (wM tE m0 m1 m2 m3 m4 m5 m6 tc th tm) sz)) 0 0 (va_A (wM tE m0 m1 m2 m3 m4 m5 m6 tc th tm) sz) := by
  refine Met.ofW (cc := cX15_hold) (maxL := 3) (ret := (some .int)) (by decide) rfl ?_
  intro p e s m args below meth c s₁ B hml hv
  obtain ⟨rfl, hsz, hP, hK, hD0, hG⟩ := hv
  have hx := B.exec
  have hb := B.bytes
  have hr := B.returns
  have hlocks := B.notSynchronized
  have hts := atoms_spec (ws := wsC ⟨"FoundrymarkModel", "hold", "(IZ)I"⟩ cX15_hold 3 (some .int)) B.pre
  have hta : ∀ w ∈ WA, w.before _ s = true := fun w h => hts w (List.mem_cons_of_mem _ h)
  have hown : s.vm.findClass "FoundrymarkModel" = some m.cls := findClass_of_methodNamed B.named
  subst hsz
  have hD : va_D (va_A (wM tE m0 m1 m2 m3 m4 m5 m6 tc th tm) s.heap.size) (wM tE m0 m1 m2 m3 m4 m5 m6 tc th tm) := hD0.self (sz := s.heap.size)
  generalize hAe : va_A (wM tE m0 m1 m2 m3 m4 m5 m6 tc th tm) s.heap.size = A at hD hG ⊢
  have hA : ∀ q : Nat, s.heap.size ≤ q → A q := fun q h => by rw [← hAe]; exact Or.inr h
  have hS : va_S A s.heap s.heap [] := va_S.rf
  have hP : va_P D vwCl (wM tE m0 m1 m2 m3 m4 m5 m6 tc th tm) s.heap := hP
  have hl := lv_entry ([.ref m0, .int x0, .int x1]) (n := 3) (Nat.le_of_ble_eq_true rfl)
  rw [lg_entry_eq]
  generalize (lg_sl ([.ref m0, .int x0, .int x1]) ++ List.replicate (3 - (lg_sl ([.ref m0, .int x0, .int x1])).length) Slot.unset).toArray = ls at hl ⊢
  have hl : lv_has ls 3 [(0, .ref m0), (1, .int x0), (2, .int x1)] := hl
  refine lv_aload_n hx hb dX15_hold_0 rfl (lv_at hl 0 rfl) ?_
  refine lv_iload_n hx hb dX15_hold_1 rfl (lv_at hl 1 rfl) ?_
  have hPc := hP.sub (ws' := (wM tE m0 m1 m2 m3 m4 m5 m6 tc th tm)) [0, 1, 2, 3, 4, 5] rfl
  have hKc := hK.sub (tys' := [(tc, .char)]) [0] rfl
  have hDc := hD.sub (ws' := (wM tE m0 m1 m2 m3 m4 m5 m6 tc th tm)) [0, 1, 2, 3, 4, 5] (by decide) rfl
  have hFc := va_free (wc := (wM tE m0 m1 m2 m3 m4 m5 m6 tc th tm)) hD hS hA [0, 1, 2, 3, 4, 5] rfl
  refine gJ_i (isC := [0, 1, 2, 3, 4, 5]) (isR := []) (wr := []) (va_runV (As := [.int x0]) (rest := []) ⟨hx, hb, hml, hown, hta⟩ (c_X15_failsLot l ) (cwV 1 hta (gWV mw193 mw194 mw195 mw176 mw192) rfl rfl rfl (by decide +kernel) ⟨Nat.le_of_ble_eq_true rfl, Nat.le_of_ble_eq_true rfl⟩) ⟨gS_blind, va_recv hKc hPc (ci := 20) (q0 := 0) rfl rfl, fun U hU hW => ⟨rfl, by rw [hU], by rw [hU]; exact hPc, va_K.moved hW.alike hKc, hDc.weaken (fun _ _ _ _ => trivial), hG.call hS hU hW hFc⟩⟩ rfl rfl hl.1 rfl (lv_room (Nat.le_of_ble_eq_true rfl)) dX15_hold_2 ⟨Nat.le_of_ble_eq_true rfl, Nat.le_of_ble_eq_true rfl⟩) hP hD hS hK hFc rfl rfl (by decide) (by decide) (fun r1 u2 H locs h3 hP hD hS hK => ?_)
  obtain rfl : r1 = 1 := h3
  have hK : va_K D vwCl [(tc, .char)] s := hK
  have hP : va_P D vwCl (wM tE m0 m1 m2 m3 m4 m5 m6 tc 1 tm) H := hP
  have hD : va_D A (wM tE m0 m1 m2 m3 m4 m5 m6 tc 1 tm) := hD
  refine lv_if_eq (tgt := 10) hx hb dX15_hold_5 (by decide) (fun c4 => ?_) (fun c4 => ?_)
  · exact absurd c4 (by decide)
  · skip
    refine lv_iconst (v := 0) hx hb dX15_hold_8 (by decide) ?_
    have hP9 := hP.sub (ws' := (wM tE m0 m1 m2 m3 m4 m5 m6 tc 1 tm)) [0, 1, 2, 3, 4, 5] rfl
    have hD9 := hD.sub (ws' := (wM tE m0 m1 m2 m3 m4 m5 m6 tc 1 tm)) [0, 1, 2, 3, 4, 5] (by decide) rfl
    have hK9 := hK.sub (tys' := []) [] rfl
    refine W.widen (k := 0) (n := 0) (Nat.le_of_ble_eq_true rfl) (Nat.le_of_ble_eq_true rfl) ?_
    exact W.iret (v := 0) hx hb hr (fun t ht hWm => ⟨⟨_, (), rfl, rfl, ⟨by rw [ht]; exact hP9, va_K.moved hWm.alike hK9, hD9⟩⟩, hS.F ht⟩) hS.2.2 dX15_hold_9

set_option maxHeartbeats 4000000 in
set_option maxRecDepth 100000 in
theorem c_X15_isHeld (l : Launch) {D : va_G} {tE sz : Nat} {m0 m1 m2 m3 m4 m5 m6 : Nat} {tc : ClassId} {th tm : Int32}  {x0 : Int32} : Met l ⟨"FoundrymarkModel", "isHeld", "(I)Z"⟩ (wsC ⟨"FoundrymarkModel", "isHeld", "(I)Z"⟩ cX15_isHeld 2 (some .boolean)) ({ frames := 2, cells := 0, slots := 0, locals := 43 }) (va_Pc [.ref m0, .int x0] (gS tE D (wM tE m0 m1 m2 m3 m4 m5 m6 tc th tm) [(tc, .char)] sz)) (va_Qi ((fun (r : Int32) (_ : Unit) => r = 0)) (gO D (fun _ => (wM tE m0 m1 m2 m3 m4 m5 m6 tc 1 tm)) (fun _ => []) (va_A (wM tE m0 m1 m2 m3 m4 m5 m6 tc th tm) sz)) (va_A (wM tE m0 m1 m2 m3 m4 m5 m6 tc th tm) sz)) 0 0 (va_A (wM tE m0 m1 m2 m3 m4 m5 m6 tc th tm) sz) := by
  refine Met.ofW (cc := cX15_isHeld) (maxL := 2) (ret := (some .boolean)) (by decide) rfl ?_
  intro p e s m args below meth c s₁ B hml hv
  obtain ⟨rfl, hsz, hP, hK, hD0, hG⟩ := hv
  have hx := B.exec
  have hb := B.bytes
  have hr := B.returns
  have hlocks := B.notSynchronized
  have hts := atoms_spec (ws := wsC ⟨"FoundrymarkModel", "isHeld", "(I)Z"⟩ cX15_isHeld 2 (some .boolean)) B.pre
  have hta : ∀ w ∈ WA, w.before _ s = true := fun w h => hts w (List.mem_cons_of_mem _ h)
  have hown : s.vm.findClass "FoundrymarkModel" = some m.cls := findClass_of_methodNamed B.named
  subst hsz
  have hD : va_D (va_A (wM tE m0 m1 m2 m3 m4 m5 m6 tc th tm) s.heap.size) (wM tE m0 m1 m2 m3 m4 m5 m6 tc th tm) := hD0.self (sz := s.heap.size)
  generalize hAe : va_A (wM tE m0 m1 m2 m3 m4 m5 m6 tc th tm) s.heap.size = A at hD hG ⊢
  have hA : ∀ q : Nat, s.heap.size ≤ q → A q := fun q h => by rw [← hAe]; exact Or.inr h
  have hS : va_S A s.heap s.heap [] := va_S.rf
  have hP : va_P D vwCl (wM tE m0 m1 m2 m3 m4 m5 m6 tc th tm) s.heap := hP
  have hl := lv_entry ([.ref m0, .int x0]) (n := 2) (Nat.le_of_ble_eq_true rfl)
  rw [lg_entry_eq]
  generalize (lg_sl ([.ref m0, .int x0]) ++ List.replicate (2 - (lg_sl ([.ref m0, .int x0])).length) Slot.unset).toArray = ls at hl ⊢
  have hl : lv_has ls 2 [(0, .ref m0), (1, .int x0)] := hl
  refine lv_aload_n hx hb dX15_isHeld_0 rfl (lv_at hl 0 rfl) ?_
  refine lv_iload_n hx hb dX15_isHeld_1 rfl (lv_at hl 1 rfl) ?_
  have hPc := hP.sub (ws' := (wM tE m0 m1 m2 m3 m4 m5 m6 tc th tm)) [0, 1, 2, 3, 4, 5] rfl
  have hKc := hK.sub (tys' := [(tc, .char)]) [0] rfl
  have hDc := hD.sub (ws' := (wM tE m0 m1 m2 m3 m4 m5 m6 tc th tm)) [0, 1, 2, 3, 4, 5] (by decide) rfl
  have hFc := va_free (wc := (wM tE m0 m1 m2 m3 m4 m5 m6 tc th tm)) hD hS hA [0, 1, 2, 3, 4, 5] rfl
  refine gJ_i (isC := [0, 1, 2, 3, 4, 5]) (isR := []) (wr := []) (va_runV (As := [.int x0]) (rest := []) ⟨hx, hb, hml, hown, hta⟩ (c_X15_failsLot l ) (cwV 1 hta (gWV mw193 mw194 mw195 mw176 mw192) rfl rfl rfl (by decide +kernel) ⟨Nat.le_of_ble_eq_true rfl, Nat.le_of_ble_eq_true rfl⟩) ⟨gS_blind, va_recv hKc hPc (ci := 20) (q0 := 0) rfl rfl, fun U hU hW => ⟨rfl, by rw [hU], by rw [hU]; exact hPc, va_K.moved hW.alike hKc, hDc.weaken (fun _ _ _ _ => trivial), hG.call hS hU hW hFc⟩⟩ rfl rfl hl.1 rfl (lv_room (Nat.le_of_ble_eq_true rfl)) dX15_isHeld_2 ⟨Nat.le_of_ble_eq_true rfl, Nat.le_of_ble_eq_true rfl⟩) hP hD hS hK hFc rfl rfl (by decide) (by decide) (fun r1 u2 H locs h3 hP hD hS hK => ?_)
  obtain rfl : r1 = 1 := h3
  have hK : va_K D vwCl [(tc, .char)] s := hK
  have hP : va_P D vwCl (wM tE m0 m1 m2 m3 m4 m5 m6 tc 1 tm) H := hP
  have hD : va_D A (wM tE m0 m1 m2 m3 m4 m5 m6 tc 1 tm) := hD
  refine lv_if_ne (tgt := 29) hx hb dX15_isHeld_5 (by decide) (fun c4 => ?_) (fun c4 => ?_)
  · skip
    refine lv_iconst (v := 0) hx hb dX15_isHeld_29 (by decide) ?_
    have hP9 := hP.sub (ws' := (wM tE m0 m1 m2 m3 m4 m5 m6 tc 1 tm)) [0, 1, 2, 3, 4, 5] rfl
    have hD9 := hD.sub (ws' := (wM tE m0 m1 m2 m3 m4 m5 m6 tc 1 tm)) [0, 1, 2, 3, 4, 5] (by decide) rfl
    have hK9 := hK.sub (tys' := []) [] rfl
    refine W.widen (k := 0) (n := 0) (Nat.le_of_ble_eq_true rfl) (Nat.le_of_ble_eq_true rfl) ?_
    exact W.zret (v := 0) (ty := .boolean) hx hb hr (by decide) (fun t ht hWm => ⟨⟨_, (), rfl, rfl, ⟨by rw [ht]; exact hP9, va_K.moved hWm.alike hK9, hD9⟩⟩, hS.F ht⟩) hS.2.2 dX15_isHeld_30
  · exact absurd c4 (by decide)

set_option maxHeartbeats 4000000 in
set_option maxRecDepth 100000 in
theorem c_X15_setChart (l : Launch) {D : va_G} {tE sz : Nat} {m0 m1 m2 m3 m4 m5 m6 : Nat} {tc : ClassId} {th tm : Int32}  {x0 x1 x2 : Int32} : Met l ⟨"FoundrymarkModel", "setChart", "(III)I"⟩ (wsC ⟨"FoundrymarkModel", "setChart", "(III)I"⟩ cX15_setChart 5 (some .int)) ({ frames := 2, cells := 0, slots := 0, locals := 43 }) (va_Pc [.ref m0, .int x0, .int x1, .int x2] (gS tE D (wM tE m0 m1 m2 m3 m4 m5 m6 tc th tm) [(tc, .char)] sz)) (va_Qi ((fun (r : Int32) (_ : Unit) => r = 0)) (gO D (fun _ => (wM tE m0 m1 m2 m3 m4 m5 m6 tc 1 tm)) (fun _ => []) (va_A (wM tE m0 m1 m2 m3 m4 m5 m6 tc th tm) sz)) (va_A (wM tE m0 m1 m2 m3 m4 m5 m6 tc th tm) sz)) 0 0 (va_A (wM tE m0 m1 m2 m3 m4 m5 m6 tc th tm) sz) := by
  refine Met.ofW (cc := cX15_setChart) (maxL := 5) (ret := (some .int)) (by decide) rfl ?_
  intro p e s m args below meth c s₁ B hml hv
  obtain ⟨rfl, hsz, hP, hK, hD0, hG⟩ := hv
  have hx := B.exec
  have hb := B.bytes
  have hr := B.returns
  have hlocks := B.notSynchronized
  have hts := atoms_spec (ws := wsC ⟨"FoundrymarkModel", "setChart", "(III)I"⟩ cX15_setChart 5 (some .int)) B.pre
  have hta : ∀ w ∈ WA, w.before _ s = true := fun w h => hts w (List.mem_cons_of_mem _ h)
  have hown : s.vm.findClass "FoundrymarkModel" = some m.cls := findClass_of_methodNamed B.named
  subst hsz
  have hD : va_D (va_A (wM tE m0 m1 m2 m3 m4 m5 m6 tc th tm) s.heap.size) (wM tE m0 m1 m2 m3 m4 m5 m6 tc th tm) := hD0.self (sz := s.heap.size)
  generalize hAe : va_A (wM tE m0 m1 m2 m3 m4 m5 m6 tc th tm) s.heap.size = A at hD hG ⊢
  have hA : ∀ q : Nat, s.heap.size ≤ q → A q := fun q h => by rw [← hAe]; exact Or.inr h
  have hS : va_S A s.heap s.heap [] := va_S.rf
  have hP : va_P D vwCl (wM tE m0 m1 m2 m3 m4 m5 m6 tc th tm) s.heap := hP
  have hl := lv_entry ([.ref m0, .int x0, .int x1, .int x2]) (n := 5) (Nat.le_of_ble_eq_true rfl)
  rw [lg_entry_eq]
  generalize (lg_sl ([.ref m0, .int x0, .int x1, .int x2]) ++ List.replicate (5 - (lg_sl ([.ref m0, .int x0, .int x1, .int x2])).length) Slot.unset).toArray = ls at hl ⊢
  have hl : lv_has ls 5 [(0, .ref m0), (1, .int x0), (2, .int x1), (3, .int x2)] := hl
  refine lv_aload_n hx hb dX15_setChart_0 rfl (lv_at hl 0 rfl) ?_
  refine lv_aload_n hx hb dX15_setChart_1 rfl (lv_at hl 0 rfl) ?_
  refine lv_iload_n hx hb dX15_setChart_2 rfl (lv_at hl 1 rfl) ?_
  have hPc := hP.sub (ws' := (wM tE m0 m1 m2 m3 m4 m5 m6 tc th tm)) [0, 1, 2, 3, 4, 5] rfl
  have hKc := hK.sub (tys' := [(tc, .char)]) [0] rfl
  refine vp_callSi (W.runV (As := [.int x0]) (rest := [.ref m0]) ⟨hx, hb, hml, hown, hta⟩ (c_X15_isPart l ) (cwV 1 hta (gWV mw189 mw190 mw191 mw176 mw188) rfl rfl rfl (by decide +kernel) ⟨Nat.le_of_ble_eq_true rfl, Nat.le_of_ble_eq_true rfl⟩) ⟨gR_blind, va_recv hKc hPc (ci := 20) (q0 := 0) rfl rfl, fun U hU hW => ⟨rfl, by rw [hU]; exact hPc, va_K.moved hW.alike hKc⟩⟩ rfl rfl hl.1 rfl (lv_room (Nat.le_of_ble_eq_true rfl)) dX15_setChart_3 ⟨Nat.le_of_ble_eq_true rfl, Nat.le_of_ble_eq_true rfl⟩) (fun r1 h2 => ?_)
  obtain rfl : r1 = 0 := h2
  refine lv_if_ne (tgt := 13) hx hb dX15_setChart_6 (by decide) (fun c3 => ?_) (fun c3 => ?_)
  · exact absurd c3 (by decide)
  · skip
    refine lv_iconst (v := 1) hx hb dX15_setChart_9 (by decide) ?_
    refine lv_goto (tgt := 40) hx hb dX15_setChart_10 (by decide) ?_
    have hPc := hP.sub (ws' := (wM tE m0 m1 m2 m3 m4 m5 m6 tc th tm)) [0, 1, 2, 3, 4, 5] rfl
    have hKc := hK.sub (tys' := [(tc, .char)]) [0] rfl
    have hDc := hD.sub (ws' := (wM tE m0 m1 m2 m3 m4 m5 m6 tc th tm)) [0, 1, 2, 3, 4, 5] (by decide) rfl
    have hFc := va_free (wc := (wM tE m0 m1 m2 m3 m4 m5 m6 tc th tm)) hD hS hA [0, 1, 2, 3, 4, 5] rfl
    refine gJ_i (isC := [0, 1, 2, 3, 4, 5]) (isR := []) (wr := []) (va_runV (As := [.int 1]) (rest := []) ⟨hx, hb, hml, hown, hta⟩ (c_X15_fails_1 l ) (cwV 1 hta (gWV mw180 mw181 mw182 mw176 mw179) rfl rfl rfl (by decide +kernel) ⟨Nat.le_of_ble_eq_true rfl, Nat.le_of_ble_eq_true rfl⟩) ⟨gS_blind, va_recv hKc hPc (ci := 20) (q0 := 0) rfl rfl, fun U hU hW => ⟨rfl, by rw [hU], by rw [hU]; exact hPc, va_K.moved hW.alike hKc, hDc.weaken (fun _ _ _ _ => trivial), hG.call hS hU hW hFc⟩⟩ rfl rfl hl.1 rfl (lv_room (Nat.le_of_ble_eq_true rfl)) dX15_setChart_40 ⟨Nat.le_of_ble_eq_true rfl, Nat.le_of_ble_eq_true rfl⟩) hP hD hS hK hFc rfl rfl (by decide) (by decide) (fun r4 u5 H locs h6 hP hD hS hK => ?_)
    obtain rfl : r4 = 1 := h6
    have hK : va_K D vwCl [(tc, .char)] s := hK
    have hP : va_P D vwCl (wM tE m0 m1 m2 m3 m4 m5 m6 tc 1 tm) H := hP
    have hD : va_D A (wM tE m0 m1 m2 m3 m4 m5 m6 tc 1 tm) := hD
    refine lv_if_eq (tgt := 48) hx hb dX15_setChart_43 (by decide) (fun c7 => ?_) (fun c7 => ?_)
    · exact absurd c7 (by decide)
    · skip
      refine lv_iconst (v := 0) hx hb dX15_setChart_46 (by decide) ?_
      have hP9 := hP.sub (ws' := (wM tE m0 m1 m2 m3 m4 m5 m6 tc 1 tm)) [0, 1, 2, 3, 4, 5] rfl
      have hD9 := hD.sub (ws' := (wM tE m0 m1 m2 m3 m4 m5 m6 tc 1 tm)) [0, 1, 2, 3, 4, 5] (by decide) rfl
      have hK9 := hK.sub (tys' := []) [] rfl
      refine W.widen (k := 0) (n := 0) (Nat.le_of_ble_eq_true rfl) (Nat.le_of_ble_eq_true rfl) ?_
      exact W.iret (v := 0) hx hb hr (fun t ht hWm => ⟨⟨_, (), rfl, rfl, ⟨by rw [ht]; exact hP9, va_K.moved hWm.alike hK9, hD9⟩⟩, hS.F ht⟩) hS.2.2 dX15_setChart_47

set_option maxHeartbeats 4000000 in
set_option maxRecDepth 100000 in
theorem c_X15_measure (l : Launch) {D : va_G} {tE sz : Nat} {m0 m1 m2 m3 m4 m5 m6 : Nat} {tc : ClassId} {th tm : Int32}  {x0 x1 : Int32} : Met l ⟨"FoundrymarkModel", "measure", "(II)Z"⟩ (wsC ⟨"FoundrymarkModel", "measure", "(II)Z"⟩ cX15_measure 8 (some .boolean)) ({ frames := 2, cells := 0, slots := 0, locals := 43 }) (va_Pc [.ref m0, .int x0, .int x1] (gS tE D (wM tE m0 m1 m2 m3 m4 m5 m6 tc th tm) [(tc, .char)] sz)) (va_Qi ((fun (r : Int32) (_ : Unit) => r = 0)) (gO D (fun _ => (wM tE m0 m1 m2 m3 m4 m5 m6 tc 1 tm)) (fun _ => []) (va_A (wM tE m0 m1 m2 m3 m4 m5 m6 tc th tm) sz)) (va_A (wM tE m0 m1 m2 m3 m4 m5 m6 tc th tm) sz)) 0 0 (va_A (wM tE m0 m1 m2 m3 m4 m5 m6 tc th tm) sz) := by
  refine Met.ofW (cc := cX15_measure) (maxL := 8) (ret := (some .boolean)) (by decide) rfl ?_
  intro p e s m args below meth c s₁ B hml hv
  obtain ⟨rfl, hsz, hP, hK, hD0, hG⟩ := hv
  have hx := B.exec
  have hb := B.bytes
  have hr := B.returns
  have hlocks := B.notSynchronized
  have hts := atoms_spec (ws := wsC ⟨"FoundrymarkModel", "measure", "(II)Z"⟩ cX15_measure 8 (some .boolean)) B.pre
  have hta : ∀ w ∈ WA, w.before _ s = true := fun w h => hts w (List.mem_cons_of_mem _ h)
  have hown : s.vm.findClass "FoundrymarkModel" = some m.cls := findClass_of_methodNamed B.named
  subst hsz
  have hD : va_D (va_A (wM tE m0 m1 m2 m3 m4 m5 m6 tc th tm) s.heap.size) (wM tE m0 m1 m2 m3 m4 m5 m6 tc th tm) := hD0.self (sz := s.heap.size)
  generalize hAe : va_A (wM tE m0 m1 m2 m3 m4 m5 m6 tc th tm) s.heap.size = A at hD hG ⊢
  have hA : ∀ q : Nat, s.heap.size ≤ q → A q := fun q h => by rw [← hAe]; exact Or.inr h
  have hS : va_S A s.heap s.heap [] := va_S.rf
  have hP : va_P D vwCl (wM tE m0 m1 m2 m3 m4 m5 m6 tc th tm) s.heap := hP
  have hl := lv_entry ([.ref m0, .int x0, .int x1]) (n := 8) (Nat.le_of_ble_eq_true rfl)
  rw [lg_entry_eq]
  generalize (lg_sl ([.ref m0, .int x0, .int x1]) ++ List.replicate (8 - (lg_sl ([.ref m0, .int x0, .int x1])).length) Slot.unset).toArray = ls at hl ⊢
  have hl : lv_has ls 8 [(0, .ref m0), (1, .int x0), (2, .int x1)] := hl
  refine lv_aload_n hx hb dX15_measure_0 rfl (lv_at hl 0 rfl) ?_
  refine lv_iload_n hx hb dX15_measure_1 rfl (lv_at hl 1 rfl) ?_
  have hPc := hP.sub (ws' := (wM tE m0 m1 m2 m3 m4 m5 m6 tc th tm)) [0, 1, 2, 3, 4, 5] rfl
  have hKc := hK.sub (tys' := [(tc, .char)]) [0] rfl
  have hDc := hD.sub (ws' := (wM tE m0 m1 m2 m3 m4 m5 m6 tc th tm)) [0, 1, 2, 3, 4, 5] (by decide) rfl
  have hFc := va_free (wc := (wM tE m0 m1 m2 m3 m4 m5 m6 tc th tm)) hD hS hA [0, 1, 2, 3, 4, 5] rfl
  refine gJ_i (isC := [0, 1, 2, 3, 4, 5]) (isR := []) (wr := []) (va_runV (As := [.int x0]) (rest := []) ⟨hx, hb, hml, hown, hta⟩ (c_X15_failsLot l ) (cwV 1 hta (gWV mw193 mw194 mw195 mw176 mw192) rfl rfl rfl (by decide +kernel) ⟨Nat.le_of_ble_eq_true rfl, Nat.le_of_ble_eq_true rfl⟩) ⟨gS_blind, va_recv hKc hPc (ci := 20) (q0 := 0) rfl rfl, fun U hU hW => ⟨rfl, by rw [hU], by rw [hU]; exact hPc, va_K.moved hW.alike hKc, hDc.weaken (fun _ _ _ _ => trivial), hG.call hS hU hW hFc⟩⟩ rfl rfl hl.1 rfl (lv_room (Nat.le_of_ble_eq_true rfl)) dX15_measure_2 ⟨Nat.le_of_ble_eq_true rfl, Nat.le_of_ble_eq_true rfl⟩) hP hD hS hK hFc rfl rfl (by decide) (by decide) (fun r1 u2 H locs h3 hP hD hS hK => ?_)
  obtain rfl : r1 = 1 := h3
  have hK : va_K D vwCl [(tc, .char)] s := hK
  have hP : va_P D vwCl (wM tE m0 m1 m2 m3 m4 m5 m6 tc 1 tm) H := hP
  have hD : va_D A (wM tE m0 m1 m2 m3 m4 m5 m6 tc 1 tm) := hD
  refine lv_if_ne (tgt := 31) hx hb dX15_measure_5 (by decide) (fun c4 => ?_) (fun c4 => ?_)
  · skip
    refine lv_iconst (v := 0) hx hb dX15_measure_31 (by decide) ?_
    have hP9 := hP.sub (ws' := (wM tE m0 m1 m2 m3 m4 m5 m6 tc 1 tm)) [0, 1, 2, 3, 4, 5] rfl
    have hD9 := hD.sub (ws' := (wM tE m0 m1 m2 m3 m4 m5 m6 tc 1 tm)) [0, 1, 2, 3, 4, 5] (by decide) rfl
    have hK9 := hK.sub (tys' := []) [] rfl
    refine W.widen (k := 0) (n := 0) (Nat.le_of_ble_eq_true rfl) (Nat.le_of_ble_eq_true rfl) ?_
    exact W.zret (v := 0) (ty := .boolean) hx hb hr (by decide) (fun t ht hWm => ⟨⟨_, (), rfl, rfl, ⟨by rw [ht]; exact hP9, va_K.moved hWm.alike hK9, hD9⟩⟩, hS.F ht⟩) hS.2.2 dX15_measure_32
  · exact absurd c4 (by decide)

set_option maxHeartbeats 4000000 in
set_option maxRecDepth 100000 in
theorem c_X15_partOf (l : Launch) {D : va_G} {tE sz : Nat} {m0 m1 m2 m3 m4 m5 m6 : Nat} {tc : ClassId} {th tm : Int32}  {x0 : Int32} : Met l ⟨"FoundrymarkModel", "partOf", "(I)I"⟩ (wsC ⟨"FoundrymarkModel", "partOf", "(I)I"⟩ cX15_partOf 2 (some .int)) ({ frames := 2, cells := 0, slots := 0, locals := 43 }) (va_Pc [.ref m0, .int x0] (gS tE D (wM tE m0 m1 m2 m3 m4 m5 m6 tc th tm) [(tc, .char)] sz)) (va_Qi ((fun (r : Int32) (_ : Unit) => r = 0)) (gO D (fun _ => (wM tE m0 m1 m2 m3 m4 m5 m6 tc 1 tm)) (fun _ => []) (va_A (wM tE m0 m1 m2 m3 m4 m5 m6 tc th tm) sz)) (va_A (wM tE m0 m1 m2 m3 m4 m5 m6 tc th tm) sz)) 0 0 (va_A (wM tE m0 m1 m2 m3 m4 m5 m6 tc th tm) sz) := by
  refine Met.ofW (cc := cX15_partOf) (maxL := 2) (ret := (some .int)) (by decide) rfl ?_
  intro p e s m args below meth c s₁ B hml hv
  obtain ⟨rfl, hsz, hP, hK, hD0, hG⟩ := hv
  have hx := B.exec
  have hb := B.bytes
  have hr := B.returns
  have hlocks := B.notSynchronized
  have hts := atoms_spec (ws := wsC ⟨"FoundrymarkModel", "partOf", "(I)I"⟩ cX15_partOf 2 (some .int)) B.pre
  have hta : ∀ w ∈ WA, w.before _ s = true := fun w h => hts w (List.mem_cons_of_mem _ h)
  have hown : s.vm.findClass "FoundrymarkModel" = some m.cls := findClass_of_methodNamed B.named
  subst hsz
  have hD : va_D (va_A (wM tE m0 m1 m2 m3 m4 m5 m6 tc th tm) s.heap.size) (wM tE m0 m1 m2 m3 m4 m5 m6 tc th tm) := hD0.self (sz := s.heap.size)
  generalize hAe : va_A (wM tE m0 m1 m2 m3 m4 m5 m6 tc th tm) s.heap.size = A at hD hG ⊢
  have hA : ∀ q : Nat, s.heap.size ≤ q → A q := fun q h => by rw [← hAe]; exact Or.inr h
  have hS : va_S A s.heap s.heap [] := va_S.rf
  have hP : va_P D vwCl (wM tE m0 m1 m2 m3 m4 m5 m6 tc th tm) s.heap := hP
  have hl := lv_entry ([.ref m0, .int x0]) (n := 2) (Nat.le_of_ble_eq_true rfl)
  rw [lg_entry_eq]
  generalize (lg_sl ([.ref m0, .int x0]) ++ List.replicate (2 - (lg_sl ([.ref m0, .int x0])).length) Slot.unset).toArray = ls at hl ⊢
  have hl : lv_has ls 2 [(0, .ref m0), (1, .int x0)] := hl
  refine lv_aload_n hx hb dX15_partOf_0 rfl (lv_at hl 0 rfl) ?_
  refine lv_iload_n hx hb dX15_partOf_1 rfl (lv_at hl 1 rfl) ?_
  have hPc := hP.sub (ws' := (wM tE m0 m1 m2 m3 m4 m5 m6 tc th tm)) [0, 1, 2, 3, 4, 5] rfl
  have hKc := hK.sub (tys' := [(tc, .char)]) [0] rfl
  have hDc := hD.sub (ws' := (wM tE m0 m1 m2 m3 m4 m5 m6 tc th tm)) [0, 1, 2, 3, 4, 5] (by decide) rfl
  have hFc := va_free (wc := (wM tE m0 m1 m2 m3 m4 m5 m6 tc th tm)) hD hS hA [0, 1, 2, 3, 4, 5] rfl
  refine gJ_i (isC := [0, 1, 2, 3, 4, 5]) (isR := []) (wr := []) (va_runV (As := [.int x0]) (rest := []) ⟨hx, hb, hml, hown, hta⟩ (c_X15_failsLot l ) (cwV 1 hta (gWV mw193 mw194 mw195 mw176 mw192) rfl rfl rfl (by decide +kernel) ⟨Nat.le_of_ble_eq_true rfl, Nat.le_of_ble_eq_true rfl⟩) ⟨gS_blind, va_recv hKc hPc (ci := 20) (q0 := 0) rfl rfl, fun U hU hW => ⟨rfl, by rw [hU], by rw [hU]; exact hPc, va_K.moved hW.alike hKc, hDc.weaken (fun _ _ _ _ => trivial), hG.call hS hU hW hFc⟩⟩ rfl rfl hl.1 rfl (lv_room (Nat.le_of_ble_eq_true rfl)) dX15_partOf_2 ⟨Nat.le_of_ble_eq_true rfl, Nat.le_of_ble_eq_true rfl⟩) hP hD hS hK hFc rfl rfl (by decide) (by decide) (fun r1 u2 H locs h3 hP hD hS hK => ?_)
  obtain rfl : r1 = 1 := h3
  have hK : va_K D vwCl [(tc, .char)] s := hK
  have hP : va_P D vwCl (wM tE m0 m1 m2 m3 m4 m5 m6 tc 1 tm) H := hP
  have hD : va_D A (wM tE m0 m1 m2 m3 m4 m5 m6 tc 1 tm) := hD
  refine lv_if_eq (tgt := 12) hx hb dX15_partOf_5 (by decide) (fun c4 => ?_) (fun c4 => ?_)
  · exact absurd c4 (by decide)
  · skip
    refine lv_iconst (v := 0) hx hb dX15_partOf_8 (by decide) ?_
    refine lv_goto (tgt := 26) hx hb dX15_partOf_9 (by decide) ?_
    have hP9 := hP.sub (ws' := (wM tE m0 m1 m2 m3 m4 m5 m6 tc 1 tm)) [0, 1, 2, 3, 4, 5] rfl
    have hD9 := hD.sub (ws' := (wM tE m0 m1 m2 m3 m4 m5 m6 tc 1 tm)) [0, 1, 2, 3, 4, 5] (by decide) rfl
    have hK9 := hK.sub (tys' := []) [] rfl
    refine W.widen (k := 0) (n := 0) (Nat.le_of_ble_eq_true rfl) (Nat.le_of_ble_eq_true rfl) ?_
    exact W.iret (v := 0) hx hb hr (fun t ht hWm => ⟨⟨_, (), rfl, rfl, ⟨by rw [ht]; exact hP9, va_K.moved hWm.alike hK9, hD9⟩⟩, hS.F ht⟩) hS.2.2 dX15_partOf_26

set_option maxHeartbeats 4000000 in
set_option maxRecDepth 100000 in
theorem c_X15_rest (l : Launch) {D : va_G} {tE sz : Nat} {m0 m1 m2 m3 m4 m5 m6 : Nat} {tc : ClassId} {th tm : Int32}  {x0 : Int32} : Met l ⟨"FoundrymarkModel", "rest", "(I)I"⟩ (wsC ⟨"FoundrymarkModel", "rest", "(I)I"⟩ cX15_rest 2 (some .int)) ({ frames := 2, cells := 0, slots := 0, locals := 43 }) (va_Pc [.ref m0, .int x0] (gS tE D (wM tE m0 m1 m2 m3 m4 m5 m6 tc th tm) [(tc, .char)] sz)) (va_Qi ((fun (r : Int32) (_ : Unit) => r = 0)) (gO D (fun _ => (wM tE m0 m1 m2 m3 m4 m5 m6 tc 1 tm)) (fun _ => []) (va_A (wM tE m0 m1 m2 m3 m4 m5 m6 tc th tm) sz)) (va_A (wM tE m0 m1 m2 m3 m4 m5 m6 tc th tm) sz)) 0 0 (va_A (wM tE m0 m1 m2 m3 m4 m5 m6 tc th tm) sz) := by
  refine Met.ofW (cc := cX15_rest) (maxL := 2) (ret := (some .int)) (by decide) rfl ?_
  intro p e s m args below meth c s₁ B hml hv
  obtain ⟨rfl, hsz, hP, hK, hD0, hG⟩ := hv
  have hx := B.exec
  have hb := B.bytes
  have hr := B.returns
  have hlocks := B.notSynchronized
  have hts := atoms_spec (ws := wsC ⟨"FoundrymarkModel", "rest", "(I)I"⟩ cX15_rest 2 (some .int)) B.pre
  have hta : ∀ w ∈ WA, w.before _ s = true := fun w h => hts w (List.mem_cons_of_mem _ h)
  have hown : s.vm.findClass "FoundrymarkModel" = some m.cls := findClass_of_methodNamed B.named
  subst hsz
  have hD : va_D (va_A (wM tE m0 m1 m2 m3 m4 m5 m6 tc th tm) s.heap.size) (wM tE m0 m1 m2 m3 m4 m5 m6 tc th tm) := hD0.self (sz := s.heap.size)
  generalize hAe : va_A (wM tE m0 m1 m2 m3 m4 m5 m6 tc th tm) s.heap.size = A at hD hG ⊢
  have hA : ∀ q : Nat, s.heap.size ≤ q → A q := fun q h => by rw [← hAe]; exact Or.inr h
  have hS : va_S A s.heap s.heap [] := va_S.rf
  have hP : va_P D vwCl (wM tE m0 m1 m2 m3 m4 m5 m6 tc th tm) s.heap := hP
  have hl := lv_entry ([.ref m0, .int x0]) (n := 2) (Nat.le_of_ble_eq_true rfl)
  rw [lg_entry_eq]
  generalize (lg_sl ([.ref m0, .int x0]) ++ List.replicate (2 - (lg_sl ([.ref m0, .int x0])).length) Slot.unset).toArray = ls at hl ⊢
  have hl : lv_has ls 2 [(0, .ref m0), (1, .int x0)] := hl
  refine lv_aload_n hx hb dX15_rest_0 rfl (lv_at hl 0 rfl) ?_
  refine lv_iload_n hx hb dX15_rest_1 rfl (lv_at hl 1 rfl) ?_
  have hPc := hP.sub (ws' := (wM tE m0 m1 m2 m3 m4 m5 m6 tc th tm)) [0, 1, 2, 3, 4, 5] rfl
  have hKc := hK.sub (tys' := [(tc, .char)]) [0] rfl
  have hDc := hD.sub (ws' := (wM tE m0 m1 m2 m3 m4 m5 m6 tc th tm)) [0, 1, 2, 3, 4, 5] (by decide) rfl
  have hFc := va_free (wc := (wM tE m0 m1 m2 m3 m4 m5 m6 tc th tm)) hD hS hA [0, 1, 2, 3, 4, 5] rfl
  refine gJ_i (isC := [0, 1, 2, 3, 4, 5]) (isR := []) (wr := []) (va_runV (As := [.int x0]) (rest := []) ⟨hx, hb, hml, hown, hta⟩ (c_X15_failsLot l ) (cwV 1 hta (gWV mw193 mw194 mw195 mw176 mw192) rfl rfl rfl (by decide +kernel) ⟨Nat.le_of_ble_eq_true rfl, Nat.le_of_ble_eq_true rfl⟩) ⟨gS_blind, va_recv hKc hPc (ci := 20) (q0 := 0) rfl rfl, fun U hU hW => ⟨rfl, by rw [hU], by rw [hU]; exact hPc, va_K.moved hW.alike hKc, hDc.weaken (fun _ _ _ _ => trivial), hG.call hS hU hW hFc⟩⟩ rfl rfl hl.1 rfl (lv_room (Nat.le_of_ble_eq_true rfl)) dX15_rest_2 ⟨Nat.le_of_ble_eq_true rfl, Nat.le_of_ble_eq_true rfl⟩) hP hD hS hK hFc rfl rfl (by decide) (by decide) (fun r1 u2 H locs h3 hP hD hS hK => ?_)
  obtain rfl : r1 = 1 := h3
  have hK : va_K D vwCl [(tc, .char)] s := hK
  have hP : va_P D vwCl (wM tE m0 m1 m2 m3 m4 m5 m6 tc 1 tm) H := hP
  have hD : va_D A (wM tE m0 m1 m2 m3 m4 m5 m6 tc 1 tm) := hD
  refine lv_if_eq (tgt := 12) hx hb dX15_rest_5 (by decide) (fun c4 => ?_) (fun c4 => ?_)
  · exact absurd c4 (by decide)
  · skip
    refine lv_iconst (v := 0) hx hb dX15_rest_8 (by decide) ?_
    refine lv_goto (tgt := 26) hx hb dX15_rest_9 (by decide) ?_
    have hP9 := hP.sub (ws' := (wM tE m0 m1 m2 m3 m4 m5 m6 tc 1 tm)) [0, 1, 2, 3, 4, 5] rfl
    have hD9 := hD.sub (ws' := (wM tE m0 m1 m2 m3 m4 m5 m6 tc 1 tm)) [0, 1, 2, 3, 4, 5] (by decide) rfl
    have hK9 := hK.sub (tys' := []) [] rfl
    refine W.widen (k := 0) (n := 0) (Nat.le_of_ble_eq_true rfl) (Nat.le_of_ble_eq_true rfl) ?_
    exact W.iret (v := 0) hx hb hr (fun t ht hWm => ⟨⟨_, (), rfl, rfl, ⟨by rw [ht]; exact hP9, va_K.moved hWm.alike hK9, hD9⟩⟩, hS.F ht⟩) hS.2.2 dX15_rest_26

set_option maxHeartbeats 4000000 in
set_option maxRecDepth 100000 in
theorem c_X15_reserved (l : Launch) {D : va_G} {tE sz : Nat} {m0 m1 m2 m3 m4 m5 m6 : Nat} {tc : ClassId} {th tm : Int32}  {x0 : Int32} : Met l ⟨"FoundrymarkModel", "reserved", "(I)I"⟩ (wsC ⟨"FoundrymarkModel", "reserved", "(I)I"⟩ cX15_reserved 2 (some .int)) ({ frames := 2, cells := 0, slots := 0, locals := 43 }) (va_Pc [.ref m0, .int x0] (gS tE D (wM tE m0 m1 m2 m3 m4 m5 m6 tc th tm) [(tc, .char)] sz)) (va_Qi ((fun (r : Int32) (_ : Unit) => r = 0)) (gO D (fun _ => (wM tE m0 m1 m2 m3 m4 m5 m6 tc 1 tm)) (fun _ => []) (va_A (wM tE m0 m1 m2 m3 m4 m5 m6 tc th tm) sz)) (va_A (wM tE m0 m1 m2 m3 m4 m5 m6 tc th tm) sz)) 0 0 (va_A (wM tE m0 m1 m2 m3 m4 m5 m6 tc th tm) sz) := by
  refine Met.ofW (cc := cX15_reserved) (maxL := 2) (ret := (some .int)) (by decide) rfl ?_
  intro p e s m args below meth c s₁ B hml hv
  obtain ⟨rfl, hsz, hP, hK, hD0, hG⟩ := hv
  have hx := B.exec
  have hb := B.bytes
  have hr := B.returns
  have hlocks := B.notSynchronized
  have hts := atoms_spec (ws := wsC ⟨"FoundrymarkModel", "reserved", "(I)I"⟩ cX15_reserved 2 (some .int)) B.pre
  have hta : ∀ w ∈ WA, w.before _ s = true := fun w h => hts w (List.mem_cons_of_mem _ h)
  have hown : s.vm.findClass "FoundrymarkModel" = some m.cls := findClass_of_methodNamed B.named
  subst hsz
  have hD : va_D (va_A (wM tE m0 m1 m2 m3 m4 m5 m6 tc th tm) s.heap.size) (wM tE m0 m1 m2 m3 m4 m5 m6 tc th tm) := hD0.self (sz := s.heap.size)
  generalize hAe : va_A (wM tE m0 m1 m2 m3 m4 m5 m6 tc th tm) s.heap.size = A at hD hG ⊢
  have hA : ∀ q : Nat, s.heap.size ≤ q → A q := fun q h => by rw [← hAe]; exact Or.inr h
  have hS : va_S A s.heap s.heap [] := va_S.rf
  have hP : va_P D vwCl (wM tE m0 m1 m2 m3 m4 m5 m6 tc th tm) s.heap := hP
  have hl := lv_entry ([.ref m0, .int x0]) (n := 2) (Nat.le_of_ble_eq_true rfl)
  rw [lg_entry_eq]
  generalize (lg_sl ([.ref m0, .int x0]) ++ List.replicate (2 - (lg_sl ([.ref m0, .int x0])).length) Slot.unset).toArray = ls at hl ⊢
  have hl : lv_has ls 2 [(0, .ref m0), (1, .int x0)] := hl
  refine lv_aload_n hx hb dX15_reserved_0 rfl (lv_at hl 0 rfl) ?_
  refine lv_iload_n hx hb dX15_reserved_1 rfl (lv_at hl 1 rfl) ?_
  have hPc := hP.sub (ws' := (wM tE m0 m1 m2 m3 m4 m5 m6 tc th tm)) [0, 1, 2, 3, 4, 5] rfl
  have hKc := hK.sub (tys' := [(tc, .char)]) [0] rfl
  have hDc := hD.sub (ws' := (wM tE m0 m1 m2 m3 m4 m5 m6 tc th tm)) [0, 1, 2, 3, 4, 5] (by decide) rfl
  have hFc := va_free (wc := (wM tE m0 m1 m2 m3 m4 m5 m6 tc th tm)) hD hS hA [0, 1, 2, 3, 4, 5] rfl
  refine gJ_i (isC := [0, 1, 2, 3, 4, 5]) (isR := []) (wr := []) (va_runV (As := [.int x0]) (rest := []) ⟨hx, hb, hml, hown, hta⟩ (c_X15_failsLot l ) (cwV 1 hta (gWV mw193 mw194 mw195 mw176 mw192) rfl rfl rfl (by decide +kernel) ⟨Nat.le_of_ble_eq_true rfl, Nat.le_of_ble_eq_true rfl⟩) ⟨gS_blind, va_recv hKc hPc (ci := 20) (q0 := 0) rfl rfl, fun U hU hW => ⟨rfl, by rw [hU], by rw [hU]; exact hPc, va_K.moved hW.alike hKc, hDc.weaken (fun _ _ _ _ => trivial), hG.call hS hU hW hFc⟩⟩ rfl rfl hl.1 rfl (lv_room (Nat.le_of_ble_eq_true rfl)) dX15_reserved_2 ⟨Nat.le_of_ble_eq_true rfl, Nat.le_of_ble_eq_true rfl⟩) hP hD hS hK hFc rfl rfl (by decide) (by decide) (fun r1 u2 H locs h3 hP hD hS hK => ?_)
  obtain rfl : r1 = 1 := h3
  have hK : va_K D vwCl [(tc, .char)] s := hK
  have hP : va_P D vwCl (wM tE m0 m1 m2 m3 m4 m5 m6 tc 1 tm) H := hP
  have hD : va_D A (wM tE m0 m1 m2 m3 m4 m5 m6 tc 1 tm) := hD
  refine lv_if_eq (tgt := 12) hx hb dX15_reserved_5 (by decide) (fun c4 => ?_) (fun c4 => ?_)
  · exact absurd c4 (by decide)
  · skip
    refine lv_iconst (v := 0) hx hb dX15_reserved_8 (by decide) ?_
    refine lv_goto (tgt := 26) hx hb dX15_reserved_9 (by decide) ?_
    have hP9 := hP.sub (ws' := (wM tE m0 m1 m2 m3 m4 m5 m6 tc 1 tm)) [0, 1, 2, 3, 4, 5] rfl
    have hD9 := hD.sub (ws' := (wM tE m0 m1 m2 m3 m4 m5 m6 tc 1 tm)) [0, 1, 2, 3, 4, 5] (by decide) rfl
    have hK9 := hK.sub (tys' := []) [] rfl
    refine W.widen (k := 0) (n := 0) (Nat.le_of_ble_eq_true rfl) (Nat.le_of_ble_eq_true rfl) ?_
    exact W.iret (v := 0) hx hb hr (fun t ht hWm => ⟨⟨_, (), rfl, rfl, ⟨by rw [ht]; exact hP9, va_K.moved hWm.alike hK9, hD9⟩⟩, hS.F ht⟩) hS.2.2 dX15_reserved_26

set_option maxHeartbeats 4000000 in
set_option maxRecDepth 100000 in
theorem c_X15_costOf (l : Launch) {D : va_G} {tE sz : Nat} {m0 m1 m2 m3 m4 m5 m6 : Nat} {tc : ClassId} {th tm : Int32}  {x0 : Int32} : Met l ⟨"FoundrymarkModel", "costOf", "(I)J"⟩ (wsC ⟨"FoundrymarkModel", "costOf", "(I)J"⟩ cX15_costOf 2 (some .long)) ({ frames := 2, cells := 0, slots := 0, locals := 43 }) (va_Pc [.ref m0, .int x0] (gS tE D (wM tE m0 m1 m2 m3 m4 m5 m6 tc th tm) [(tc, .char)] sz)) (va_Ql ((fun (r : Int64) (_ : Unit) => r = 0)) (gO D (fun _ => (wM tE m0 m1 m2 m3 m4 m5 m6 tc 1 tm)) (fun _ => []) (va_A (wM tE m0 m1 m2 m3 m4 m5 m6 tc th tm) sz)) (va_A (wM tE m0 m1 m2 m3 m4 m5 m6 tc th tm) sz)) 0 0 (va_A (wM tE m0 m1 m2 m3 m4 m5 m6 tc th tm) sz) := by
  refine Met.ofW (cc := cX15_costOf) (maxL := 2) (ret := (some .long)) (by decide) rfl ?_
  intro p e s m args below meth c s₁ B hml hv
  obtain ⟨rfl, hsz, hP, hK, hD0, hG⟩ := hv
  have hx := B.exec
  have hb := B.bytes
  have hr := B.returns
  have hlocks := B.notSynchronized
  have hts := atoms_spec (ws := wsC ⟨"FoundrymarkModel", "costOf", "(I)J"⟩ cX15_costOf 2 (some .long)) B.pre
  have hta : ∀ w ∈ WA, w.before _ s = true := fun w h => hts w (List.mem_cons_of_mem _ h)
  have hown : s.vm.findClass "FoundrymarkModel" = some m.cls := findClass_of_methodNamed B.named
  subst hsz
  have hD : va_D (va_A (wM tE m0 m1 m2 m3 m4 m5 m6 tc th tm) s.heap.size) (wM tE m0 m1 m2 m3 m4 m5 m6 tc th tm) := hD0.self (sz := s.heap.size)
  generalize hAe : va_A (wM tE m0 m1 m2 m3 m4 m5 m6 tc th tm) s.heap.size = A at hD hG ⊢
  have hA : ∀ q : Nat, s.heap.size ≤ q → A q := fun q h => by rw [← hAe]; exact Or.inr h
  have hS : va_S A s.heap s.heap [] := va_S.rf
  have hP : va_P D vwCl (wM tE m0 m1 m2 m3 m4 m5 m6 tc th tm) s.heap := hP
  have hl := lv_entry ([.ref m0, .int x0]) (n := 2) (Nat.le_of_ble_eq_true rfl)
  rw [lg_entry_eq]
  generalize (lg_sl ([.ref m0, .int x0]) ++ List.replicate (2 - (lg_sl ([.ref m0, .int x0])).length) Slot.unset).toArray = ls at hl ⊢
  have hl : lv_has ls 2 [(0, .ref m0), (1, .int x0)] := hl
  refine lv_aload_n hx hb dX15_costOf_0 rfl (lv_at hl 0 rfl) ?_
  refine lv_iload_n hx hb dX15_costOf_1 rfl (lv_at hl 1 rfl) ?_
  have hPc := hP.sub (ws' := (wM tE m0 m1 m2 m3 m4 m5 m6 tc th tm)) [0, 1, 2, 3, 4, 5] rfl
  have hKc := hK.sub (tys' := [(tc, .char)]) [0] rfl
  have hDc := hD.sub (ws' := (wM tE m0 m1 m2 m3 m4 m5 m6 tc th tm)) [0, 1, 2, 3, 4, 5] (by decide) rfl
  have hFc := va_free (wc := (wM tE m0 m1 m2 m3 m4 m5 m6 tc th tm)) hD hS hA [0, 1, 2, 3, 4, 5] rfl
  refine gJ_i (isC := [0, 1, 2, 3, 4, 5]) (isR := []) (wr := []) (va_runV (As := [.int x0]) (rest := []) ⟨hx, hb, hml, hown, hta⟩ (c_X15_failsLot l ) (cwV 1 hta (gWV mw193 mw194 mw195 mw176 mw192) rfl rfl rfl (by decide +kernel) ⟨Nat.le_of_ble_eq_true rfl, Nat.le_of_ble_eq_true rfl⟩) ⟨gS_blind, va_recv hKc hPc (ci := 20) (q0 := 0) rfl rfl, fun U hU hW => ⟨rfl, by rw [hU], by rw [hU]; exact hPc, va_K.moved hW.alike hKc, hDc.weaken (fun _ _ _ _ => trivial), hG.call hS hU hW hFc⟩⟩ rfl rfl hl.1 rfl (lv_room (Nat.le_of_ble_eq_true rfl)) dX15_costOf_2 ⟨Nat.le_of_ble_eq_true rfl, Nat.le_of_ble_eq_true rfl⟩) hP hD hS hK hFc rfl rfl (by decide) (by decide) (fun r1 u2 H locs h3 hP hD hS hK => ?_)
  obtain rfl : r1 = 1 := h3
  have hK : va_K D vwCl [(tc, .char)] s := hK
  have hP : va_P D vwCl (wM tE m0 m1 m2 m3 m4 m5 m6 tc 1 tm) H := hP
  have hD : va_D A (wM tE m0 m1 m2 m3 m4 m5 m6 tc 1 tm) := hD
  refine lv_if_eq (tgt := 12) hx hb dX15_costOf_5 (by decide) (fun c4 => ?_) (fun c4 => ?_)
  · exact absurd c4 (by decide)
  · skip
    refine lv_lconst (v := 0) hx hb dX15_costOf_8 (by decide) ?_
    refine lv_goto (tgt := 26) hx hb dX15_costOf_9 (by decide) ?_
    have hP9 := hP.sub (ws' := (wM tE m0 m1 m2 m3 m4 m5 m6 tc 1 tm)) [0, 1, 2, 3, 4, 5] rfl
    have hD9 := hD.sub (ws' := (wM tE m0 m1 m2 m3 m4 m5 m6 tc 1 tm)) [0, 1, 2, 3, 4, 5] (by decide) rfl
    have hK9 := hK.sub (tys' := []) [] rfl
    refine W.widen (k := 0) (n := 0) (Nat.le_of_ble_eq_true rfl) (Nat.le_of_ble_eq_true rfl) ?_
    exact W.lret (v := 0) hx hb hr (fun t ht hWm => ⟨⟨_, (), rfl, rfl, ⟨by rw [ht]; exact hP9, va_K.moved hWm.alike hK9, hD9⟩⟩, hS.F ht⟩) hS.2.2 dX15_costOf_26

set_option maxHeartbeats 4000000 in
set_option maxRecDepth 100000 in
theorem c_X15_order (l : Launch) {D : va_G} {tE sz : Nat} {m0 m1 m2 m3 m4 m5 m6 : Nat} {tc : ClassId} {th tm : Int32}  {x0 x1 x2 x3 : Int32} : Met l ⟨"FoundrymarkModel", "order", "(IIII)I"⟩ (wsC ⟨"FoundrymarkModel", "order", "(IIII)I"⟩ cX15_order 7 (some .int)) ({ frames := 2, cells := 0, slots := 0, locals := 43 }) (va_Pc [.ref m0, .int x0, .int x1, .int x2, .int x3] (gS tE D (wM tE m0 m1 m2 m3 m4 m5 m6 tc th tm) [(tc, .char)] sz)) (va_Qi ((fun (r : Int32) (_ : Unit) => r = 0)) (gO D (fun _ => (wM tE m0 m1 m2 m3 m4 m5 m6 tc 1 tm)) (fun _ => []) (va_A (wM tE m0 m1 m2 m3 m4 m5 m6 tc th tm) sz)) (va_A (wM tE m0 m1 m2 m3 m4 m5 m6 tc th tm) sz)) 0 0 (va_A (wM tE m0 m1 m2 m3 m4 m5 m6 tc th tm) sz) := by
  refine Met.ofW (cc := cX15_order) (maxL := 7) (ret := (some .int)) (by decide) rfl ?_
  intro p e s m args below meth c s₁ B hml hv
  obtain ⟨rfl, hsz, hP, hK, hD0, hG⟩ := hv
  have hx := B.exec
  have hb := B.bytes
  have hr := B.returns
  have hlocks := B.notSynchronized
  have hts := atoms_spec (ws := wsC ⟨"FoundrymarkModel", "order", "(IIII)I"⟩ cX15_order 7 (some .int)) B.pre
  have hta : ∀ w ∈ WA, w.before _ s = true := fun w h => hts w (List.mem_cons_of_mem _ h)
  have hown : s.vm.findClass "FoundrymarkModel" = some m.cls := findClass_of_methodNamed B.named
  subst hsz
  have hD : va_D (va_A (wM tE m0 m1 m2 m3 m4 m5 m6 tc th tm) s.heap.size) (wM tE m0 m1 m2 m3 m4 m5 m6 tc th tm) := hD0.self (sz := s.heap.size)
  generalize hAe : va_A (wM tE m0 m1 m2 m3 m4 m5 m6 tc th tm) s.heap.size = A at hD hG ⊢
  have hA : ∀ q : Nat, s.heap.size ≤ q → A q := fun q h => by rw [← hAe]; exact Or.inr h
  have hS : va_S A s.heap s.heap [] := va_S.rf
  have hP : va_P D vwCl (wM tE m0 m1 m2 m3 m4 m5 m6 tc th tm) s.heap := hP
  have hl := lv_entry ([.ref m0, .int x0, .int x1, .int x2, .int x3]) (n := 7) (Nat.le_of_ble_eq_true rfl)
  rw [lg_entry_eq]
  generalize (lg_sl ([.ref m0, .int x0, .int x1, .int x2, .int x3]) ++ List.replicate (7 - (lg_sl ([.ref m0, .int x0, .int x1, .int x2, .int x3])).length) Slot.unset).toArray = ls at hl ⊢
  have hl : lv_has ls 7 [(0, .ref m0), (1, .int x0), (2, .int x1), (3, .int x2), (4, .int x3)] := hl
  refine lv_iload_n hx hb dX15_order_0 rfl (lv_at hl 2 rfl) ?_
  refine lv_iconst (v := 1) hx hb dX15_order_1 (by decide) ?_
  refine lv_bipush (v := 100) hx hb dX15_order_2 (by decide) ?_
  refine vp_callSi (W.runS (As := [.int x1, .int 1, .int 100]) (rest := []) ⟨hx, hb, hml, hown, hta⟩ (c_X15_in l x1 1 100) (va_cwS 3 hta (gWS mw174 mw175 mw176 mw173) rfl rfl rfl (by decide +kernel) ⟨Nat.le_of_ble_eq_true rfl, Nat.le_of_ble_eq_true rfl⟩) ⟨fun a U g mk q => ⟨q.1, trivial⟩, fun U hU hW => ⟨rfl, trivial⟩⟩ rfl rfl hl.1 rfl (lv_room (Nat.le_of_ble_eq_true rfl)) dX15_order_4 ⟨Nat.le_of_ble_eq_true rfl, Nat.le_of_ble_eq_true rfl⟩) (fun r1 h2 => ?_)
  rcases g3 : inR x1 1 100 with _ | _
  · skip
    obtain rfl : r1 = 0 := h2.trans (by rw [g3]; rfl)
    refine lv_if_eq (tgt := 35) hx hb dX15_order_7 (by decide) (fun c4 => ?_) (fun c4 => ?_)
    · skip
      refine lv_iconst (v := 0) hx hb dX15_order_35 (by decide) ?_
      refine lv_istore (lv' := [(5, .int 0), (0, .ref m0), (1, .int x0), (2, .int x1), (3, .int x2), (4, .int x3)]) hx hb dX15_order_36 hl (by decide) rfl (fun ls hl => ?_)
      refine lv_aload_n hx hb dX15_order_38 rfl (lv_at hl 1 rfl) ?_
      refine lv_aload_n hx hb dX15_order_39 rfl (lv_at hl 1 rfl) ?_
      refine lv_iload_n hx hb dX15_order_40 rfl (lv_at hl 2 rfl) ?_
      have hPc := hP.sub (ws' := (wM tE m0 m1 m2 m3 m4 m5 m6 tc th tm)) [0, 1, 2, 3, 4, 5] rfl
      have hKc := hK.sub (tys' := [(tc, .char)]) [0] rfl
      refine vp_callSi (W.runV (As := [.int x0]) (rest := [.ref m0]) ⟨hx, hb, hml, hown, hta⟩ (c_X15_isPart l ) (cwV 1 hta (gWV mw189 mw190 mw191 mw176 mw188) rfl rfl rfl (by decide +kernel) ⟨Nat.le_of_ble_eq_true rfl, Nat.le_of_ble_eq_true rfl⟩) ⟨gR_blind, va_recv hKc hPc (ci := 20) (q0 := 0) rfl rfl, fun U hU hW => ⟨rfl, by rw [hU]; exact hPc, va_K.moved hW.alike hKc⟩⟩ rfl rfl hl.1 rfl (lv_room (Nat.le_of_ble_eq_true rfl)) dX15_order_41 ⟨Nat.le_of_ble_eq_true rfl, Nat.le_of_ble_eq_true rfl⟩) (fun r5 h6 => ?_)
      obtain rfl : r5 = 0 := h6
      refine lv_if_ne (tgt := 51) hx hb dX15_order_44 (by decide) (fun c7 => ?_) (fun c7 => ?_)
      · exact absurd c7 (by decide)
      · skip
        refine lv_iconst (v := 1) hx hb dX15_order_47 (by decide) ?_
        refine lv_goto (tgt := 77) hx hb dX15_order_48 (by decide) ?_
        have hPc := hP.sub (ws' := (wM tE m0 m1 m2 m3 m4 m5 m6 tc th tm)) [0, 1, 2, 3, 4, 5] rfl
        have hKc := hK.sub (tys' := [(tc, .char)]) [0] rfl
        have hDc := hD.sub (ws' := (wM tE m0 m1 m2 m3 m4 m5 m6 tc th tm)) [0, 1, 2, 3, 4, 5] (by decide) rfl
        have hFc := va_free (wc := (wM tE m0 m1 m2 m3 m4 m5 m6 tc th tm)) hD hS hA [0, 1, 2, 3, 4, 5] rfl
        refine gJ_i (isC := [0, 1, 2, 3, 4, 5]) (isR := []) (wr := []) (va_runV (As := [.int 1]) (rest := []) ⟨hx, hb, hml, hown, hta⟩ (c_X15_fails_1 l ) (cwV 1 hta (gWV mw180 mw181 mw182 mw176 mw179) rfl rfl rfl (by decide +kernel) ⟨Nat.le_of_ble_eq_true rfl, Nat.le_of_ble_eq_true rfl⟩) ⟨gS_blind, va_recv hKc hPc (ci := 20) (q0 := 0) rfl rfl, fun U hU hW => ⟨rfl, by rw [hU], by rw [hU]; exact hPc, va_K.moved hW.alike hKc, hDc.weaken (fun _ _ _ _ => trivial), hG.call hS hU hW hFc⟩⟩ rfl rfl hl.1 rfl (lv_room (Nat.le_of_ble_eq_true rfl)) dX15_order_77 ⟨Nat.le_of_ble_eq_true rfl, Nat.le_of_ble_eq_true rfl⟩) hP hD hS hK hFc rfl rfl (by decide) (by decide) (fun r8 u9 H locs h10 hP hD hS hK => ?_)
        obtain rfl : r8 = 1 := h10
        have hK : va_K D vwCl [(tc, .char)] s := hK
        have hP : va_P D vwCl (wM tE m0 m1 m2 m3 m4 m5 m6 tc 1 tm) H := hP
        have hD : va_D A (wM tE m0 m1 m2 m3 m4 m5 m6 tc 1 tm) := hD
        refine lv_if_eq (tgt := 85) hx hb dX15_order_80 (by decide) (fun c11 => ?_) (fun c11 => ?_)
        · exact absurd c11 (by decide)
        · skip
          refine lv_iconst (v := 0) hx hb dX15_order_83 (by decide) ?_
          have hP9 := hP.sub (ws' := (wM tE m0 m1 m2 m3 m4 m5 m6 tc 1 tm)) [0, 1, 2, 3, 4, 5] rfl
          have hD9 := hD.sub (ws' := (wM tE m0 m1 m2 m3 m4 m5 m6 tc 1 tm)) [0, 1, 2, 3, 4, 5] (by decide) rfl
          have hK9 := hK.sub (tys' := []) [] rfl
          refine W.widen (k := 0) (n := 0) (Nat.le_of_ble_eq_true rfl) (Nat.le_of_ble_eq_true rfl) ?_
          exact W.iret (v := 0) hx hb hr (fun t ht hWm => ⟨⟨_, (), rfl, rfl, ⟨by rw [ht]; exact hP9, va_K.moved hWm.alike hK9, hD9⟩⟩, hS.F ht⟩) hS.2.2 dX15_order_84
    · exact absurd (by decide) c4
  · skip
    obtain rfl : r1 = 1 := h2.trans (by rw [g3]; rfl)
    refine lv_if_eq (tgt := 35) hx hb dX15_order_7 (by decide) (fun c12 => ?_) (fun c12 => ?_)
    · exact absurd c12 (by decide)
    · skip
      refine lv_iload_n hx hb dX15_order_10 rfl (lv_at hl 3 rfl) ?_
      refine lv_iconst (v := 0) hx hb dX15_order_11 (by decide) ?_
      refine lv_iconst (v := 2) hx hb dX15_order_12 (by decide) ?_
      refine vp_callSi (W.runS (As := [.int x2, .int 0, .int 2]) (rest := []) ⟨hx, hb, hml, hown, hta⟩ (c_X15_in l x2 0 2) (va_cwS 3 hta (gWS mw174 mw175 mw176 mw173) rfl rfl rfl (by decide +kernel) ⟨Nat.le_of_ble_eq_true rfl, Nat.le_of_ble_eq_true rfl⟩) ⟨fun a U g mk q => ⟨q.1, trivial⟩, fun U hU hW => ⟨rfl, trivial⟩⟩ rfl rfl hl.1 rfl (lv_room (Nat.le_of_ble_eq_true rfl)) dX15_order_13 ⟨Nat.le_of_ble_eq_true rfl, Nat.le_of_ble_eq_true rfl⟩) (fun r13 h14 => ?_)
      rcases g15 : inR x2 0 2 with _ | _
      · skip
        obtain rfl : r13 = 0 := h14.trans (by rw [g15]; rfl)
        refine lv_if_eq (tgt := 35) hx hb dX15_order_16 (by decide) (fun c16 => ?_) (fun c16 => ?_)
        · skip
          refine lv_iconst (v := 0) hx hb dX15_order_35 (by decide) ?_
          refine lv_istore (lv' := [(5, .int 0), (0, .ref m0), (1, .int x0), (2, .int x1), (3, .int x2), (4, .int x3)]) hx hb dX15_order_36 hl (by decide) rfl (fun ls hl => ?_)
          refine lv_aload_n hx hb dX15_order_38 rfl (lv_at hl 1 rfl) ?_
          refine lv_aload_n hx hb dX15_order_39 rfl (lv_at hl 1 rfl) ?_
          refine lv_iload_n hx hb dX15_order_40 rfl (lv_at hl 2 rfl) ?_
          have hPc := hP.sub (ws' := (wM tE m0 m1 m2 m3 m4 m5 m6 tc th tm)) [0, 1, 2, 3, 4, 5] rfl
          have hKc := hK.sub (tys' := [(tc, .char)]) [0] rfl
          refine vp_callSi (W.runV (As := [.int x0]) (rest := [.ref m0]) ⟨hx, hb, hml, hown, hta⟩ (c_X15_isPart l ) (cwV 1 hta (gWV mw189 mw190 mw191 mw176 mw188) rfl rfl rfl (by decide +kernel) ⟨Nat.le_of_ble_eq_true rfl, Nat.le_of_ble_eq_true rfl⟩) ⟨gR_blind, va_recv hKc hPc (ci := 20) (q0 := 0) rfl rfl, fun U hU hW => ⟨rfl, by rw [hU]; exact hPc, va_K.moved hW.alike hKc⟩⟩ rfl rfl hl.1 rfl (lv_room (Nat.le_of_ble_eq_true rfl)) dX15_order_41 ⟨Nat.le_of_ble_eq_true rfl, Nat.le_of_ble_eq_true rfl⟩) (fun r17 h18 => ?_)
          obtain rfl : r17 = 0 := h18
          refine lv_if_ne (tgt := 51) hx hb dX15_order_44 (by decide) (fun c19 => ?_) (fun c19 => ?_)
          · exact absurd c19 (by decide)
          · skip
            refine lv_iconst (v := 1) hx hb dX15_order_47 (by decide) ?_
            refine lv_goto (tgt := 77) hx hb dX15_order_48 (by decide) ?_
            have hPc := hP.sub (ws' := (wM tE m0 m1 m2 m3 m4 m5 m6 tc th tm)) [0, 1, 2, 3, 4, 5] rfl
            have hKc := hK.sub (tys' := [(tc, .char)]) [0] rfl
            have hDc := hD.sub (ws' := (wM tE m0 m1 m2 m3 m4 m5 m6 tc th tm)) [0, 1, 2, 3, 4, 5] (by decide) rfl
            have hFc := va_free (wc := (wM tE m0 m1 m2 m3 m4 m5 m6 tc th tm)) hD hS hA [0, 1, 2, 3, 4, 5] rfl
            refine gJ_i (isC := [0, 1, 2, 3, 4, 5]) (isR := []) (wr := []) (va_runV (As := [.int 1]) (rest := []) ⟨hx, hb, hml, hown, hta⟩ (c_X15_fails_1 l ) (cwV 1 hta (gWV mw180 mw181 mw182 mw176 mw179) rfl rfl rfl (by decide +kernel) ⟨Nat.le_of_ble_eq_true rfl, Nat.le_of_ble_eq_true rfl⟩) ⟨gS_blind, va_recv hKc hPc (ci := 20) (q0 := 0) rfl rfl, fun U hU hW => ⟨rfl, by rw [hU], by rw [hU]; exact hPc, va_K.moved hW.alike hKc, hDc.weaken (fun _ _ _ _ => trivial), hG.call hS hU hW hFc⟩⟩ rfl rfl hl.1 rfl (lv_room (Nat.le_of_ble_eq_true rfl)) dX15_order_77 ⟨Nat.le_of_ble_eq_true rfl, Nat.le_of_ble_eq_true rfl⟩) hP hD hS hK hFc rfl rfl (by decide) (by decide) (fun r20 u21 H locs h22 hP hD hS hK => ?_)
            obtain rfl : r20 = 1 := h22
            have hK : va_K D vwCl [(tc, .char)] s := hK
            have hP : va_P D vwCl (wM tE m0 m1 m2 m3 m4 m5 m6 tc 1 tm) H := hP
            have hD : va_D A (wM tE m0 m1 m2 m3 m4 m5 m6 tc 1 tm) := hD
            refine lv_if_eq (tgt := 85) hx hb dX15_order_80 (by decide) (fun c23 => ?_) (fun c23 => ?_)
            · exact absurd c23 (by decide)
            · skip
              refine lv_iconst (v := 0) hx hb dX15_order_83 (by decide) ?_
              have hP9 := hP.sub (ws' := (wM tE m0 m1 m2 m3 m4 m5 m6 tc 1 tm)) [0, 1, 2, 3, 4, 5] rfl
              have hD9 := hD.sub (ws' := (wM tE m0 m1 m2 m3 m4 m5 m6 tc 1 tm)) [0, 1, 2, 3, 4, 5] (by decide) rfl
              have hK9 := hK.sub (tys' := []) [] rfl
              refine W.widen (k := 0) (n := 0) (Nat.le_of_ble_eq_true rfl) (Nat.le_of_ble_eq_true rfl) ?_
              exact W.iret (v := 0) hx hb hr (fun t ht hWm => ⟨⟨_, (), rfl, rfl, ⟨by rw [ht]; exact hP9, va_K.moved hWm.alike hK9, hD9⟩⟩, hS.F ht⟩) hS.2.2 dX15_order_84
        · exact absurd (by decide) c16
      · skip
        obtain rfl : r13 = 1 := h14.trans (by rw [g15]; rfl)
        refine lv_if_eq (tgt := 35) hx hb dX15_order_16 (by decide) (fun c24 => ?_) (fun c24 => ?_)
        · exact absurd c24 (by decide)
        · skip
          refine lv_iload hx hb dX15_order_19 (lv_at hl 4 rfl) ?_
          refine lv_iconst (v := 0) hx hb dX15_order_21 (by decide) ?_
          refine lv_sipush (v := 9999) hx hb dX15_order_22 (by decide) ?_
          refine vp_callSi (W.runS (As := [.int x3, .int 0, .int 9999]) (rest := []) ⟨hx, hb, hml, hown, hta⟩ (c_X15_in l x3 0 9999) (va_cwS 3 hta (gWS mw174 mw175 mw176 mw173) rfl rfl rfl (by decide +kernel) ⟨Nat.le_of_ble_eq_true rfl, Nat.le_of_ble_eq_true rfl⟩) ⟨fun a U g mk q => ⟨q.1, trivial⟩, fun U hU hW => ⟨rfl, trivial⟩⟩ rfl rfl hl.1 rfl (lv_room (Nat.le_of_ble_eq_true rfl)) dX15_order_25 ⟨Nat.le_of_ble_eq_true rfl, Nat.le_of_ble_eq_true rfl⟩) (fun r25 h26 => ?_)
          rcases g27 : inR x3 0 9999 with _ | _
          · skip
            obtain rfl : r25 = 0 := h26.trans (by rw [g27]; rfl)
            refine lv_if_eq (tgt := 35) hx hb dX15_order_28 (by decide) (fun c28 => ?_) (fun c28 => ?_)
            · skip
              refine lv_iconst (v := 0) hx hb dX15_order_35 (by decide) ?_
              refine lv_istore (lv' := [(5, .int 0), (0, .ref m0), (1, .int x0), (2, .int x1), (3, .int x2), (4, .int x3)]) hx hb dX15_order_36 hl (by decide) rfl (fun ls hl => ?_)
              refine lv_aload_n hx hb dX15_order_38 rfl (lv_at hl 1 rfl) ?_
              refine lv_aload_n hx hb dX15_order_39 rfl (lv_at hl 1 rfl) ?_
              refine lv_iload_n hx hb dX15_order_40 rfl (lv_at hl 2 rfl) ?_
              have hPc := hP.sub (ws' := (wM tE m0 m1 m2 m3 m4 m5 m6 tc th tm)) [0, 1, 2, 3, 4, 5] rfl
              have hKc := hK.sub (tys' := [(tc, .char)]) [0] rfl
              refine vp_callSi (W.runV (As := [.int x0]) (rest := [.ref m0]) ⟨hx, hb, hml, hown, hta⟩ (c_X15_isPart l ) (cwV 1 hta (gWV mw189 mw190 mw191 mw176 mw188) rfl rfl rfl (by decide +kernel) ⟨Nat.le_of_ble_eq_true rfl, Nat.le_of_ble_eq_true rfl⟩) ⟨gR_blind, va_recv hKc hPc (ci := 20) (q0 := 0) rfl rfl, fun U hU hW => ⟨rfl, by rw [hU]; exact hPc, va_K.moved hW.alike hKc⟩⟩ rfl rfl hl.1 rfl (lv_room (Nat.le_of_ble_eq_true rfl)) dX15_order_41 ⟨Nat.le_of_ble_eq_true rfl, Nat.le_of_ble_eq_true rfl⟩) (fun r29 h30 => ?_)
              obtain rfl : r29 = 0 := h30
              refine lv_if_ne (tgt := 51) hx hb dX15_order_44 (by decide) (fun c31 => ?_) (fun c31 => ?_)
              · exact absurd c31 (by decide)
              · skip
                refine lv_iconst (v := 1) hx hb dX15_order_47 (by decide) ?_
                refine lv_goto (tgt := 77) hx hb dX15_order_48 (by decide) ?_
                have hPc := hP.sub (ws' := (wM tE m0 m1 m2 m3 m4 m5 m6 tc th tm)) [0, 1, 2, 3, 4, 5] rfl
                have hKc := hK.sub (tys' := [(tc, .char)]) [0] rfl
                have hDc := hD.sub (ws' := (wM tE m0 m1 m2 m3 m4 m5 m6 tc th tm)) [0, 1, 2, 3, 4, 5] (by decide) rfl
                have hFc := va_free (wc := (wM tE m0 m1 m2 m3 m4 m5 m6 tc th tm)) hD hS hA [0, 1, 2, 3, 4, 5] rfl
                refine gJ_i (isC := [0, 1, 2, 3, 4, 5]) (isR := []) (wr := []) (va_runV (As := [.int 1]) (rest := []) ⟨hx, hb, hml, hown, hta⟩ (c_X15_fails_1 l ) (cwV 1 hta (gWV mw180 mw181 mw182 mw176 mw179) rfl rfl rfl (by decide +kernel) ⟨Nat.le_of_ble_eq_true rfl, Nat.le_of_ble_eq_true rfl⟩) ⟨gS_blind, va_recv hKc hPc (ci := 20) (q0 := 0) rfl rfl, fun U hU hW => ⟨rfl, by rw [hU], by rw [hU]; exact hPc, va_K.moved hW.alike hKc, hDc.weaken (fun _ _ _ _ => trivial), hG.call hS hU hW hFc⟩⟩ rfl rfl hl.1 rfl (lv_room (Nat.le_of_ble_eq_true rfl)) dX15_order_77 ⟨Nat.le_of_ble_eq_true rfl, Nat.le_of_ble_eq_true rfl⟩) hP hD hS hK hFc rfl rfl (by decide) (by decide) (fun r32 u33 H locs h34 hP hD hS hK => ?_)
                obtain rfl : r32 = 1 := h34
                have hK : va_K D vwCl [(tc, .char)] s := hK
                have hP : va_P D vwCl (wM tE m0 m1 m2 m3 m4 m5 m6 tc 1 tm) H := hP
                have hD : va_D A (wM tE m0 m1 m2 m3 m4 m5 m6 tc 1 tm) := hD
                refine lv_if_eq (tgt := 85) hx hb dX15_order_80 (by decide) (fun c35 => ?_) (fun c35 => ?_)
                · exact absurd c35 (by decide)
                · skip
                  refine lv_iconst (v := 0) hx hb dX15_order_83 (by decide) ?_
                  have hP9 := hP.sub (ws' := (wM tE m0 m1 m2 m3 m4 m5 m6 tc 1 tm)) [0, 1, 2, 3, 4, 5] rfl
                  have hD9 := hD.sub (ws' := (wM tE m0 m1 m2 m3 m4 m5 m6 tc 1 tm)) [0, 1, 2, 3, 4, 5] (by decide) rfl
                  have hK9 := hK.sub (tys' := []) [] rfl
                  refine W.widen (k := 0) (n := 0) (Nat.le_of_ble_eq_true rfl) (Nat.le_of_ble_eq_true rfl) ?_
                  exact W.iret (v := 0) hx hb hr (fun t ht hWm => ⟨⟨_, (), rfl, rfl, ⟨by rw [ht]; exact hP9, va_K.moved hWm.alike hK9, hD9⟩⟩, hS.F ht⟩) hS.2.2 dX15_order_84
            · exact absurd (by decide) c28
          · skip
            obtain rfl : r25 = 1 := h26.trans (by rw [g27]; rfl)
            refine lv_if_eq (tgt := 35) hx hb dX15_order_28 (by decide) (fun c36 => ?_) (fun c36 => ?_)
            · exact absurd c36 (by decide)
            · skip
              refine lv_iconst (v := 1) hx hb dX15_order_31 (by decide) ?_
              refine lv_goto (tgt := 36) hx hb dX15_order_32 (by decide) ?_
              refine lv_istore (lv' := [(5, .int 1), (0, .ref m0), (1, .int x0), (2, .int x1), (3, .int x2), (4, .int x3)]) hx hb dX15_order_36 hl (by decide) rfl (fun ls hl => ?_)
              refine lv_aload_n hx hb dX15_order_38 rfl (lv_at hl 1 rfl) ?_
              refine lv_aload_n hx hb dX15_order_39 rfl (lv_at hl 1 rfl) ?_
              refine lv_iload_n hx hb dX15_order_40 rfl (lv_at hl 2 rfl) ?_
              have hPc := hP.sub (ws' := (wM tE m0 m1 m2 m3 m4 m5 m6 tc th tm)) [0, 1, 2, 3, 4, 5] rfl
              have hKc := hK.sub (tys' := [(tc, .char)]) [0] rfl
              refine vp_callSi (W.runV (As := [.int x0]) (rest := [.ref m0]) ⟨hx, hb, hml, hown, hta⟩ (c_X15_isPart l ) (cwV 1 hta (gWV mw189 mw190 mw191 mw176 mw188) rfl rfl rfl (by decide +kernel) ⟨Nat.le_of_ble_eq_true rfl, Nat.le_of_ble_eq_true rfl⟩) ⟨gR_blind, va_recv hKc hPc (ci := 20) (q0 := 0) rfl rfl, fun U hU hW => ⟨rfl, by rw [hU]; exact hPc, va_K.moved hW.alike hKc⟩⟩ rfl rfl hl.1 rfl (lv_room (Nat.le_of_ble_eq_true rfl)) dX15_order_41 ⟨Nat.le_of_ble_eq_true rfl, Nat.le_of_ble_eq_true rfl⟩) (fun r37 h38 => ?_)
              obtain rfl : r37 = 0 := h38
              refine lv_if_ne (tgt := 51) hx hb dX15_order_44 (by decide) (fun c39 => ?_) (fun c39 => ?_)
              · exact absurd c39 (by decide)
              · skip
                refine lv_iconst (v := 1) hx hb dX15_order_47 (by decide) ?_
                refine lv_goto (tgt := 77) hx hb dX15_order_48 (by decide) ?_
                have hPc := hP.sub (ws' := (wM tE m0 m1 m2 m3 m4 m5 m6 tc th tm)) [0, 1, 2, 3, 4, 5] rfl
                have hKc := hK.sub (tys' := [(tc, .char)]) [0] rfl
                have hDc := hD.sub (ws' := (wM tE m0 m1 m2 m3 m4 m5 m6 tc th tm)) [0, 1, 2, 3, 4, 5] (by decide) rfl
                have hFc := va_free (wc := (wM tE m0 m1 m2 m3 m4 m5 m6 tc th tm)) hD hS hA [0, 1, 2, 3, 4, 5] rfl
                refine gJ_i (isC := [0, 1, 2, 3, 4, 5]) (isR := []) (wr := []) (va_runV (As := [.int 1]) (rest := []) ⟨hx, hb, hml, hown, hta⟩ (c_X15_fails_1 l ) (cwV 1 hta (gWV mw180 mw181 mw182 mw176 mw179) rfl rfl rfl (by decide +kernel) ⟨Nat.le_of_ble_eq_true rfl, Nat.le_of_ble_eq_true rfl⟩) ⟨gS_blind, va_recv hKc hPc (ci := 20) (q0 := 0) rfl rfl, fun U hU hW => ⟨rfl, by rw [hU], by rw [hU]; exact hPc, va_K.moved hW.alike hKc, hDc.weaken (fun _ _ _ _ => trivial), hG.call hS hU hW hFc⟩⟩ rfl rfl hl.1 rfl (lv_room (Nat.le_of_ble_eq_true rfl)) dX15_order_77 ⟨Nat.le_of_ble_eq_true rfl, Nat.le_of_ble_eq_true rfl⟩) hP hD hS hK hFc rfl rfl (by decide) (by decide) (fun r40 u41 H locs h42 hP hD hS hK => ?_)
                obtain rfl : r40 = 1 := h42
                have hK : va_K D vwCl [(tc, .char)] s := hK
                have hP : va_P D vwCl (wM tE m0 m1 m2 m3 m4 m5 m6 tc 1 tm) H := hP
                have hD : va_D A (wM tE m0 m1 m2 m3 m4 m5 m6 tc 1 tm) := hD
                refine lv_if_eq (tgt := 85) hx hb dX15_order_80 (by decide) (fun c43 => ?_) (fun c43 => ?_)
                · exact absurd c43 (by decide)
                · skip
                  refine lv_iconst (v := 0) hx hb dX15_order_83 (by decide) ?_
                  have hP9 := hP.sub (ws' := (wM tE m0 m1 m2 m3 m4 m5 m6 tc 1 tm)) [0, 1, 2, 3, 4, 5] rfl
                  have hD9 := hD.sub (ws' := (wM tE m0 m1 m2 m3 m4 m5 m6 tc 1 tm)) [0, 1, 2, 3, 4, 5] (by decide) rfl
                  have hK9 := hK.sub (tys' := []) [] rfl
                  refine W.widen (k := 0) (n := 0) (Nat.le_of_ble_eq_true rfl) (Nat.le_of_ble_eq_true rfl) ?_
                  exact W.iret (v := 0) hx hb hr (fun t ht hWm => ⟨⟨_, (), rfl, rfl, ⟨by rw [ht]; exact hP9, va_K.moved hWm.alike hK9, hD9⟩⟩, hS.F ht⟩) hS.2.2 dX15_order_84

set_option maxHeartbeats 4000000 in
set_option maxRecDepth 100000 in
theorem c_X15_promise (l : Launch) {D : va_G} {tE sz : Nat} {m0 m1 m2 m3 m4 m5 m6 : Nat} {tc : ClassId} {th tm : Int32}  {x0 : Int32} : Met l ⟨"FoundrymarkModel", "promise", "(I)Z"⟩ (wsC ⟨"FoundrymarkModel", "promise", "(I)Z"⟩ cX15_promise 3 (some .boolean)) ({ frames := 2, cells := 0, slots := 0, locals := 43 }) (va_Pc [.ref m0, .int x0] (gS tE D (wM tE m0 m1 m2 m3 m4 m5 m6 tc th tm) [(tc, .char)] sz)) (va_Qi ((fun (r : Int32) (_ : Unit) => r = 0)) (gO D (fun _ => (wM tE m0 m1 m2 m3 m4 m5 m6 tc 1 tm)) (fun _ => []) (va_A (wM tE m0 m1 m2 m3 m4 m5 m6 tc th tm) sz)) (va_A (wM tE m0 m1 m2 m3 m4 m5 m6 tc th tm) sz)) 0 0 (va_A (wM tE m0 m1 m2 m3 m4 m5 m6 tc th tm) sz) := by
  refine Met.ofW (cc := cX15_promise) (maxL := 3) (ret := (some .boolean)) (by decide) rfl ?_
  intro p e s m args below meth c s₁ B hml hv
  obtain ⟨rfl, hsz, hP, hK, hD0, hG⟩ := hv
  have hx := B.exec
  have hb := B.bytes
  have hr := B.returns
  have hlocks := B.notSynchronized
  have hts := atoms_spec (ws := wsC ⟨"FoundrymarkModel", "promise", "(I)Z"⟩ cX15_promise 3 (some .boolean)) B.pre
  have hta : ∀ w ∈ WA, w.before _ s = true := fun w h => hts w (List.mem_cons_of_mem _ h)
  have hown : s.vm.findClass "FoundrymarkModel" = some m.cls := findClass_of_methodNamed B.named
  subst hsz
  have hD : va_D (va_A (wM tE m0 m1 m2 m3 m4 m5 m6 tc th tm) s.heap.size) (wM tE m0 m1 m2 m3 m4 m5 m6 tc th tm) := hD0.self (sz := s.heap.size)
  generalize hAe : va_A (wM tE m0 m1 m2 m3 m4 m5 m6 tc th tm) s.heap.size = A at hD hG ⊢
  have hA : ∀ q : Nat, s.heap.size ≤ q → A q := fun q h => by rw [← hAe]; exact Or.inr h
  have hS : va_S A s.heap s.heap [] := va_S.rf
  have hP : va_P D vwCl (wM tE m0 m1 m2 m3 m4 m5 m6 tc th tm) s.heap := hP
  have hl := lv_entry ([.ref m0, .int x0]) (n := 3) (Nat.le_of_ble_eq_true rfl)
  rw [lg_entry_eq]
  generalize (lg_sl ([.ref m0, .int x0]) ++ List.replicate (3 - (lg_sl ([.ref m0, .int x0])).length) Slot.unset).toArray = ls at hl ⊢
  have hl : lv_has ls 3 [(0, .ref m0), (1, .int x0)] := hl
  refine lv_aload_n hx hb dX15_promise_0 rfl (lv_at hl 0 rfl) ?_
  refine lv_iload_n hx hb dX15_promise_1 rfl (lv_at hl 1 rfl) ?_
  have hPc := hP.sub (ws' := (wM tE m0 m1 m2 m3 m4 m5 m6 tc th tm)) [0, 1, 2, 3, 4, 5] rfl
  have hKc := hK.sub (tys' := [(tc, .char)]) [0] rfl
  have hDc := hD.sub (ws' := (wM tE m0 m1 m2 m3 m4 m5 m6 tc th tm)) [0, 1, 2, 3, 4, 5] (by decide) rfl
  have hFc := va_free (wc := (wM tE m0 m1 m2 m3 m4 m5 m6 tc th tm)) hD hS hA [0, 1, 2, 3, 4, 5] rfl
  refine gJ_i (isC := [0, 1, 2, 3, 4, 5]) (isR := []) (wr := []) (va_runV (As := [.int x0]) (rest := []) ⟨hx, hb, hml, hown, hta⟩ (c_X15_failsOrder l ) (cwV 1 hta (gWV mw197 mw198 mw199 mw176 mw196) rfl rfl rfl (by decide +kernel) ⟨Nat.le_of_ble_eq_true rfl, Nat.le_of_ble_eq_true rfl⟩) ⟨gS_blind, va_recv hKc hPc (ci := 20) (q0 := 0) rfl rfl, fun U hU hW => ⟨rfl, by rw [hU], by rw [hU]; exact hPc, va_K.moved hW.alike hKc, hDc.weaken (fun _ _ _ _ => trivial), hG.call hS hU hW hFc⟩⟩ rfl rfl hl.1 rfl (lv_room (Nat.le_of_ble_eq_true rfl)) dX15_promise_2 ⟨Nat.le_of_ble_eq_true rfl, Nat.le_of_ble_eq_true rfl⟩) hP hD hS hK hFc rfl rfl (by decide) (by decide) (fun r1 u2 H locs h3 hP hD hS hK => ?_)
  obtain rfl : r1 = 1 := h3
  have hK : va_K D vwCl [(tc, .char)] s := hK
  have hP : va_P D vwCl (wM tE m0 m1 m2 m3 m4 m5 m6 tc 1 tm) H := hP
  have hD : va_D A (wM tE m0 m1 m2 m3 m4 m5 m6 tc 1 tm) := hD
  refine lv_if_eq (tgt := 10) hx hb dX15_promise_5 (by decide) (fun c4 => ?_) (fun c4 => ?_)
  · exact absurd c4 (by decide)
  · skip
    refine lv_iconst (v := 0) hx hb dX15_promise_8 (by decide) ?_
    have hP9 := hP.sub (ws' := (wM tE m0 m1 m2 m3 m4 m5 m6 tc 1 tm)) [0, 1, 2, 3, 4, 5] rfl
    have hD9 := hD.sub (ws' := (wM tE m0 m1 m2 m3 m4 m5 m6 tc 1 tm)) [0, 1, 2, 3, 4, 5] (by decide) rfl
    have hK9 := hK.sub (tys' := []) [] rfl
    refine W.widen (k := 0) (n := 0) (Nat.le_of_ble_eq_true rfl) (Nat.le_of_ble_eq_true rfl) ?_
    exact W.zret (v := 0) (ty := .boolean) hx hb hr (by decide) (fun t ht hWm => ⟨⟨_, (), rfl, rfl, ⟨by rw [ht]; exact hP9, va_K.moved hWm.alike hK9, hD9⟩⟩, hS.F ht⟩) hS.2.2 dX15_promise_9

set_option maxHeartbeats 4000000 in
set_option maxRecDepth 100000 in
theorem c_X15_withdraw (l : Launch) {D : va_G} {tE sz : Nat} {m0 m1 m2 m3 m4 m5 m6 : Nat} {tc : ClassId} {th tm : Int32}  {x0 : Int32} : Met l ⟨"FoundrymarkModel", "withdraw", "(I)I"⟩ (wsC ⟨"FoundrymarkModel", "withdraw", "(I)I"⟩ cX15_withdraw 2 (some .int)) ({ frames := 2, cells := 0, slots := 0, locals := 43 }) (va_Pc [.ref m0, .int x0] (gS tE D (wM tE m0 m1 m2 m3 m4 m5 m6 tc th tm) [(tc, .char)] sz)) (va_Qi ((fun (r : Int32) (_ : Unit) => r = 0)) (gO D (fun _ => (wM tE m0 m1 m2 m3 m4 m5 m6 tc 1 tm)) (fun _ => []) (va_A (wM tE m0 m1 m2 m3 m4 m5 m6 tc th tm) sz)) (va_A (wM tE m0 m1 m2 m3 m4 m5 m6 tc th tm) sz)) 0 0 (va_A (wM tE m0 m1 m2 m3 m4 m5 m6 tc th tm) sz) := by
  refine Met.ofW (cc := cX15_withdraw) (maxL := 2) (ret := (some .int)) (by decide) rfl ?_
  intro p e s m args below meth c s₁ B hml hv
  obtain ⟨rfl, hsz, hP, hK, hD0, hG⟩ := hv
  have hx := B.exec
  have hb := B.bytes
  have hr := B.returns
  have hlocks := B.notSynchronized
  have hts := atoms_spec (ws := wsC ⟨"FoundrymarkModel", "withdraw", "(I)I"⟩ cX15_withdraw 2 (some .int)) B.pre
  have hta : ∀ w ∈ WA, w.before _ s = true := fun w h => hts w (List.mem_cons_of_mem _ h)
  have hown : s.vm.findClass "FoundrymarkModel" = some m.cls := findClass_of_methodNamed B.named
  subst hsz
  have hD : va_D (va_A (wM tE m0 m1 m2 m3 m4 m5 m6 tc th tm) s.heap.size) (wM tE m0 m1 m2 m3 m4 m5 m6 tc th tm) := hD0.self (sz := s.heap.size)
  generalize hAe : va_A (wM tE m0 m1 m2 m3 m4 m5 m6 tc th tm) s.heap.size = A at hD hG ⊢
  have hA : ∀ q : Nat, s.heap.size ≤ q → A q := fun q h => by rw [← hAe]; exact Or.inr h
  have hS : va_S A s.heap s.heap [] := va_S.rf
  have hP : va_P D vwCl (wM tE m0 m1 m2 m3 m4 m5 m6 tc th tm) s.heap := hP
  have hl := lv_entry ([.ref m0, .int x0]) (n := 2) (Nat.le_of_ble_eq_true rfl)
  rw [lg_entry_eq]
  generalize (lg_sl ([.ref m0, .int x0]) ++ List.replicate (2 - (lg_sl ([.ref m0, .int x0])).length) Slot.unset).toArray = ls at hl ⊢
  have hl : lv_has ls 2 [(0, .ref m0), (1, .int x0)] := hl
  refine lv_aload_n hx hb dX15_withdraw_0 rfl (lv_at hl 0 rfl) ?_
  refine lv_iload_n hx hb dX15_withdraw_1 rfl (lv_at hl 1 rfl) ?_
  have hPc := hP.sub (ws' := (wM tE m0 m1 m2 m3 m4 m5 m6 tc th tm)) [0, 1, 2, 3, 4, 5] rfl
  have hKc := hK.sub (tys' := [(tc, .char)]) [0] rfl
  have hDc := hD.sub (ws' := (wM tE m0 m1 m2 m3 m4 m5 m6 tc th tm)) [0, 1, 2, 3, 4, 5] (by decide) rfl
  have hFc := va_free (wc := (wM tE m0 m1 m2 m3 m4 m5 m6 tc th tm)) hD hS hA [0, 1, 2, 3, 4, 5] rfl
  refine gJ_i (isC := [0, 1, 2, 3, 4, 5]) (isR := []) (wr := []) (va_runV (As := [.int x0]) (rest := []) ⟨hx, hb, hml, hown, hta⟩ (c_X15_failsOrder l ) (cwV 1 hta (gWV mw197 mw198 mw199 mw176 mw196) rfl rfl rfl (by decide +kernel) ⟨Nat.le_of_ble_eq_true rfl, Nat.le_of_ble_eq_true rfl⟩) ⟨gS_blind, va_recv hKc hPc (ci := 20) (q0 := 0) rfl rfl, fun U hU hW => ⟨rfl, by rw [hU], by rw [hU]; exact hPc, va_K.moved hW.alike hKc, hDc.weaken (fun _ _ _ _ => trivial), hG.call hS hU hW hFc⟩⟩ rfl rfl hl.1 rfl (lv_room (Nat.le_of_ble_eq_true rfl)) dX15_withdraw_2 ⟨Nat.le_of_ble_eq_true rfl, Nat.le_of_ble_eq_true rfl⟩) hP hD hS hK hFc rfl rfl (by decide) (by decide) (fun r1 u2 H locs h3 hP hD hS hK => ?_)
  obtain rfl : r1 = 1 := h3
  have hK : va_K D vwCl [(tc, .char)] s := hK
  have hP : va_P D vwCl (wM tE m0 m1 m2 m3 m4 m5 m6 tc 1 tm) H := hP
  have hD : va_D A (wM tE m0 m1 m2 m3 m4 m5 m6 tc 1 tm) := hD
  refine lv_if_ne (tgt := 39) hx hb dX15_withdraw_5 (by decide) (fun c4 => ?_) (fun c4 => ?_)
  · skip
    refine lv_iconst (v := 0) hx hb dX15_withdraw_39 (by decide) ?_
    refine lv_goto (tgt := 58) hx hb dX15_withdraw_40 (by decide) ?_
    have hP9 := hP.sub (ws' := (wM tE m0 m1 m2 m3 m4 m5 m6 tc 1 tm)) [0, 1, 2, 3, 4, 5] rfl
    have hD9 := hD.sub (ws' := (wM tE m0 m1 m2 m3 m4 m5 m6 tc 1 tm)) [0, 1, 2, 3, 4, 5] (by decide) rfl
    have hK9 := hK.sub (tys' := []) [] rfl
    refine W.widen (k := 0) (n := 0) (Nat.le_of_ble_eq_true rfl) (Nat.le_of_ble_eq_true rfl) ?_
    exact W.iret (v := 0) hx hb hr (fun t ht hWm => ⟨⟨_, (), rfl, rfl, ⟨by rw [ht]; exact hP9, va_K.moved hWm.alike hK9, hD9⟩⟩, hS.F ht⟩) hS.2.2 dX15_withdraw_58
  · exact absurd c4 (by decide)

set_option maxHeartbeats 4000000 in
set_option maxRecDepth 100000 in
theorem c_X15_release (l : Launch) {D : va_G} {tE sz : Nat} {m0 m1 m2 m3 m4 m5 m6 : Nat} {tc : ClassId} {th tm : Int32}  {x0 : Int32} : Met l ⟨"FoundrymarkModel", "release", "(I)Z"⟩ (wsC ⟨"FoundrymarkModel", "release", "(I)Z"⟩ cX15_release 4 (some .boolean)) ({ frames := 2, cells := 0, slots := 0, locals := 43 }) (va_Pc [.ref m0, .int x0] (gS tE D (wM tE m0 m1 m2 m3 m4 m5 m6 tc th tm) [(tc, .char)] sz)) (va_Qi ((fun (r : Int32) (_ : Unit) => r = 0)) (gO D (fun _ => (wM tE m0 m1 m2 m3 m4 m5 m6 tc 1 tm)) (fun _ => []) (va_A (wM tE m0 m1 m2 m3 m4 m5 m6 tc th tm) sz)) (va_A (wM tE m0 m1 m2 m3 m4 m5 m6 tc th tm) sz)) 0 0 (va_A (wM tE m0 m1 m2 m3 m4 m5 m6 tc th tm) sz) := by
  refine Met.ofW (cc := cX15_release) (maxL := 4) (ret := (some .boolean)) (by decide) rfl ?_
  intro p e s m args below meth c s₁ B hml hv
  obtain ⟨rfl, hsz, hP, hK, hD0, hG⟩ := hv
  have hx := B.exec
  have hb := B.bytes
  have hr := B.returns
  have hlocks := B.notSynchronized
  have hts := atoms_spec (ws := wsC ⟨"FoundrymarkModel", "release", "(I)Z"⟩ cX15_release 4 (some .boolean)) B.pre
  have hta : ∀ w ∈ WA, w.before _ s = true := fun w h => hts w (List.mem_cons_of_mem _ h)
  have hown : s.vm.findClass "FoundrymarkModel" = some m.cls := findClass_of_methodNamed B.named
  subst hsz
  have hD : va_D (va_A (wM tE m0 m1 m2 m3 m4 m5 m6 tc th tm) s.heap.size) (wM tE m0 m1 m2 m3 m4 m5 m6 tc th tm) := hD0.self (sz := s.heap.size)
  generalize hAe : va_A (wM tE m0 m1 m2 m3 m4 m5 m6 tc th tm) s.heap.size = A at hD hG ⊢
  have hA : ∀ q : Nat, s.heap.size ≤ q → A q := fun q h => by rw [← hAe]; exact Or.inr h
  have hS : va_S A s.heap s.heap [] := va_S.rf
  have hP : va_P D vwCl (wM tE m0 m1 m2 m3 m4 m5 m6 tc th tm) s.heap := hP
  have hl := lv_entry ([.ref m0, .int x0]) (n := 4) (Nat.le_of_ble_eq_true rfl)
  rw [lg_entry_eq]
  generalize (lg_sl ([.ref m0, .int x0]) ++ List.replicate (4 - (lg_sl ([.ref m0, .int x0])).length) Slot.unset).toArray = ls at hl ⊢
  have hl : lv_has ls 4 [(0, .ref m0), (1, .int x0)] := hl
  refine lv_aload_n hx hb dX15_release_0 rfl (lv_at hl 0 rfl) ?_
  refine lv_iload_n hx hb dX15_release_1 rfl (lv_at hl 1 rfl) ?_
  have hPc := hP.sub (ws' := (wM tE m0 m1 m2 m3 m4 m5 m6 tc th tm)) [0, 1, 2, 3, 4, 5] rfl
  have hKc := hK.sub (tys' := [(tc, .char)]) [0] rfl
  have hDc := hD.sub (ws' := (wM tE m0 m1 m2 m3 m4 m5 m6 tc th tm)) [0, 1, 2, 3, 4, 5] (by decide) rfl
  have hFc := va_free (wc := (wM tE m0 m1 m2 m3 m4 m5 m6 tc th tm)) hD hS hA [0, 1, 2, 3, 4, 5] rfl
  refine gJ_i (isC := [0, 1, 2, 3, 4, 5]) (isR := []) (wr := []) (va_runV (As := [.int x0]) (rest := []) ⟨hx, hb, hml, hown, hta⟩ (c_X15_failsOrder l ) (cwV 1 hta (gWV mw197 mw198 mw199 mw176 mw196) rfl rfl rfl (by decide +kernel) ⟨Nat.le_of_ble_eq_true rfl, Nat.le_of_ble_eq_true rfl⟩) ⟨gS_blind, va_recv hKc hPc (ci := 20) (q0 := 0) rfl rfl, fun U hU hW => ⟨rfl, by rw [hU], by rw [hU]; exact hPc, va_K.moved hW.alike hKc, hDc.weaken (fun _ _ _ _ => trivial), hG.call hS hU hW hFc⟩⟩ rfl rfl hl.1 rfl (lv_room (Nat.le_of_ble_eq_true rfl)) dX15_release_2 ⟨Nat.le_of_ble_eq_true rfl, Nat.le_of_ble_eq_true rfl⟩) hP hD hS hK hFc rfl rfl (by decide) (by decide) (fun r1 u2 H locs h3 hP hD hS hK => ?_)
  obtain rfl : r1 = 1 := h3
  have hK : va_K D vwCl [(tc, .char)] s := hK
  have hP : va_P D vwCl (wM tE m0 m1 m2 m3 m4 m5 m6 tc 1 tm) H := hP
  have hD : va_D A (wM tE m0 m1 m2 m3 m4 m5 m6 tc 1 tm) := hD
  refine lv_if_eq (tgt := 10) hx hb dX15_release_5 (by decide) (fun c4 => ?_) (fun c4 => ?_)
  · exact absurd c4 (by decide)
  · skip
    refine lv_iconst (v := 0) hx hb dX15_release_8 (by decide) ?_
    have hP9 := hP.sub (ws' := (wM tE m0 m1 m2 m3 m4 m5 m6 tc 1 tm)) [0, 1, 2, 3, 4, 5] rfl
    have hD9 := hD.sub (ws' := (wM tE m0 m1 m2 m3 m4 m5 m6 tc 1 tm)) [0, 1, 2, 3, 4, 5] (by decide) rfl
    have hK9 := hK.sub (tys' := []) [] rfl
    refine W.widen (k := 0) (n := 0) (Nat.le_of_ble_eq_true rfl) (Nat.le_of_ble_eq_true rfl) ?_
    exact W.zret (v := 0) (ty := .boolean) hx hb hr (by decide) (fun t ht hWm => ⟨⟨_, (), rfl, rfl, ⟨by rw [ht]; exact hP9, va_K.moved hWm.alike hK9, hD9⟩⟩, hS.F ht⟩) hS.2.2 dX15_release_9

set_option maxHeartbeats 4000000 in
set_option maxRecDepth 100000 in
theorem c_X15_scrap (l : Launch) {D : va_G} {tE sz : Nat} {m0 m1 m2 m3 m4 m5 m6 : Nat} {tc : ClassId} {th tm : Int32}  {x0 x1 : Int32} : Met l ⟨"FoundrymarkModel", "scrap", "(II)I"⟩ (wsC ⟨"FoundrymarkModel", "scrap", "(II)I"⟩ cX15_scrap 4 (some .int)) ({ frames := 2, cells := 0, slots := 0, locals := 43 }) (va_Pc [.ref m0, .int x0, .int x1] (gS tE D (wM tE m0 m1 m2 m3 m4 m5 m6 tc th tm) [(tc, .char)] sz)) (va_Qi ((fun (r : Int32) (_ : Unit) => r = 0)) (gO D (fun _ => (wM tE m0 m1 m2 m3 m4 m5 m6 tc 1 tm)) (fun _ => []) (va_A (wM tE m0 m1 m2 m3 m4 m5 m6 tc th tm) sz)) (va_A (wM tE m0 m1 m2 m3 m4 m5 m6 tc th tm) sz)) 0 0 (va_A (wM tE m0 m1 m2 m3 m4 m5 m6 tc th tm) sz) := by
  refine Met.ofW (cc := cX15_scrap) (maxL := 4) (ret := (some .int)) (by decide) rfl ?_
  intro p e s m args below meth c s₁ B hml hv
  obtain ⟨rfl, hsz, hP, hK, hD0, hG⟩ := hv
  have hx := B.exec
  have hb := B.bytes
  have hr := B.returns
  have hlocks := B.notSynchronized
  have hts := atoms_spec (ws := wsC ⟨"FoundrymarkModel", "scrap", "(II)I"⟩ cX15_scrap 4 (some .int)) B.pre
  have hta : ∀ w ∈ WA, w.before _ s = true := fun w h => hts w (List.mem_cons_of_mem _ h)
  have hown : s.vm.findClass "FoundrymarkModel" = some m.cls := findClass_of_methodNamed B.named
  subst hsz
  have hD : va_D (va_A (wM tE m0 m1 m2 m3 m4 m5 m6 tc th tm) s.heap.size) (wM tE m0 m1 m2 m3 m4 m5 m6 tc th tm) := hD0.self (sz := s.heap.size)
  generalize hAe : va_A (wM tE m0 m1 m2 m3 m4 m5 m6 tc th tm) s.heap.size = A at hD hG ⊢
  have hA : ∀ q : Nat, s.heap.size ≤ q → A q := fun q h => by rw [← hAe]; exact Or.inr h
  have hS : va_S A s.heap s.heap [] := va_S.rf
  have hP : va_P D vwCl (wM tE m0 m1 m2 m3 m4 m5 m6 tc th tm) s.heap := hP
  have hl := lv_entry ([.ref m0, .int x0, .int x1]) (n := 4) (Nat.le_of_ble_eq_true rfl)
  rw [lg_entry_eq]
  generalize (lg_sl ([.ref m0, .int x0, .int x1]) ++ List.replicate (4 - (lg_sl ([.ref m0, .int x0, .int x1])).length) Slot.unset).toArray = ls at hl ⊢
  have hl : lv_has ls 4 [(0, .ref m0), (1, .int x0), (2, .int x1)] := hl
  refine lv_aload_n hx hb dX15_scrap_0 rfl (lv_at hl 0 rfl) ?_
  refine lv_iload_n hx hb dX15_scrap_1 rfl (lv_at hl 1 rfl) ?_
  have hPc := hP.sub (ws' := (wM tE m0 m1 m2 m3 m4 m5 m6 tc th tm)) [0, 1, 2, 3, 4, 5] rfl
  have hKc := hK.sub (tys' := [(tc, .char)]) [0] rfl
  have hDc := hD.sub (ws' := (wM tE m0 m1 m2 m3 m4 m5 m6 tc th tm)) [0, 1, 2, 3, 4, 5] (by decide) rfl
  have hFc := va_free (wc := (wM tE m0 m1 m2 m3 m4 m5 m6 tc th tm)) hD hS hA [0, 1, 2, 3, 4, 5] rfl
  refine gJ_i (isC := [0, 1, 2, 3, 4, 5]) (isR := []) (wr := []) (va_runV (As := [.int x0]) (rest := []) ⟨hx, hb, hml, hown, hta⟩ (c_X15_failsOrder l ) (cwV 1 hta (gWV mw197 mw198 mw199 mw176 mw196) rfl rfl rfl (by decide +kernel) ⟨Nat.le_of_ble_eq_true rfl, Nat.le_of_ble_eq_true rfl⟩) ⟨gS_blind, va_recv hKc hPc (ci := 20) (q0 := 0) rfl rfl, fun U hU hW => ⟨rfl, by rw [hU], by rw [hU]; exact hPc, va_K.moved hW.alike hKc, hDc.weaken (fun _ _ _ _ => trivial), hG.call hS hU hW hFc⟩⟩ rfl rfl hl.1 rfl (lv_room (Nat.le_of_ble_eq_true rfl)) dX15_scrap_2 ⟨Nat.le_of_ble_eq_true rfl, Nat.le_of_ble_eq_true rfl⟩) hP hD hS hK hFc rfl rfl (by decide) (by decide) (fun r1 u2 H locs h3 hP hD hS hK => ?_)
  obtain rfl : r1 = 1 := h3
  have hK : va_K D vwCl [(tc, .char)] s := hK
  have hP : va_P D vwCl (wM tE m0 m1 m2 m3 m4 m5 m6 tc 1 tm) H := hP
  have hD : va_D A (wM tE m0 m1 m2 m3 m4 m5 m6 tc 1 tm) := hD
  refine lv_if_eq (tgt := 10) hx hb dX15_scrap_5 (by decide) (fun c4 => ?_) (fun c4 => ?_)
  · exact absurd c4 (by decide)
  · skip
    refine lv_iconst (v := 0) hx hb dX15_scrap_8 (by decide) ?_
    have hP9 := hP.sub (ws' := (wM tE m0 m1 m2 m3 m4 m5 m6 tc 1 tm)) [0, 1, 2, 3, 4, 5] rfl
    have hD9 := hD.sub (ws' := (wM tE m0 m1 m2 m3 m4 m5 m6 tc 1 tm)) [0, 1, 2, 3, 4, 5] (by decide) rfl
    have hK9 := hK.sub (tys' := []) [] rfl
    refine W.widen (k := 0) (n := 0) (Nat.le_of_ble_eq_true rfl) (Nat.le_of_ble_eq_true rfl) ?_
    exact W.iret (v := 0) hx hb hr (fun t ht hWm => ⟨⟨_, (), rfl, rfl, ⟨by rw [ht]; exact hP9, va_K.moved hWm.alike hK9, hD9⟩⟩, hS.F ht⟩) hS.2.2 dX15_scrap_9

set_option maxHeartbeats 4000000 in
set_option maxRecDepth 100000 in
theorem c_X15_deliver (l : Launch) {D : va_G} {tE sz : Nat} {m0 m1 m2 m3 m4 m5 m6 : Nat} {tc : ClassId} {th tm : Int32}  {x0 : Int32} : Met l ⟨"FoundrymarkModel", "deliver", "(I)Z"⟩ (wsC ⟨"FoundrymarkModel", "deliver", "(I)Z"⟩ cX15_deliver 10 (some .boolean)) ({ frames := 2, cells := 0, slots := 0, locals := 43 }) (va_Pc [.ref m0, .int x0] (gS tE D (wM tE m0 m1 m2 m3 m4 m5 m6 tc th tm) [(tc, .char)] sz)) (va_Qi ((fun (r : Int32) (_ : Unit) => r = 0)) (gO D (fun _ => (wM tE m0 m1 m2 m3 m4 m5 m6 tc 1 tm)) (fun _ => []) (va_A (wM tE m0 m1 m2 m3 m4 m5 m6 tc th tm) sz)) (va_A (wM tE m0 m1 m2 m3 m4 m5 m6 tc th tm) sz)) 0 0 (va_A (wM tE m0 m1 m2 m3 m4 m5 m6 tc th tm) sz) := by
  refine Met.ofW (cc := cX15_deliver) (maxL := 10) (ret := (some .boolean)) (by decide) rfl ?_
  intro p e s m args below meth c s₁ B hml hv
  obtain ⟨rfl, hsz, hP, hK, hD0, hG⟩ := hv
  have hx := B.exec
  have hb := B.bytes
  have hr := B.returns
  have hlocks := B.notSynchronized
  have hts := atoms_spec (ws := wsC ⟨"FoundrymarkModel", "deliver", "(I)Z"⟩ cX15_deliver 10 (some .boolean)) B.pre
  have hta : ∀ w ∈ WA, w.before _ s = true := fun w h => hts w (List.mem_cons_of_mem _ h)
  have hown : s.vm.findClass "FoundrymarkModel" = some m.cls := findClass_of_methodNamed B.named
  subst hsz
  have hD : va_D (va_A (wM tE m0 m1 m2 m3 m4 m5 m6 tc th tm) s.heap.size) (wM tE m0 m1 m2 m3 m4 m5 m6 tc th tm) := hD0.self (sz := s.heap.size)
  generalize hAe : va_A (wM tE m0 m1 m2 m3 m4 m5 m6 tc th tm) s.heap.size = A at hD hG ⊢
  have hA : ∀ q : Nat, s.heap.size ≤ q → A q := fun q h => by rw [← hAe]; exact Or.inr h
  have hS : va_S A s.heap s.heap [] := va_S.rf
  have hP : va_P D vwCl (wM tE m0 m1 m2 m3 m4 m5 m6 tc th tm) s.heap := hP
  have hl := lv_entry ([.ref m0, .int x0]) (n := 10) (Nat.le_of_ble_eq_true rfl)
  rw [lg_entry_eq]
  generalize (lg_sl ([.ref m0, .int x0]) ++ List.replicate (10 - (lg_sl ([.ref m0, .int x0])).length) Slot.unset).toArray = ls at hl ⊢
  have hl : lv_has ls 10 [(0, .ref m0), (1, .int x0)] := hl
  refine lv_aload_n hx hb dX15_deliver_0 rfl (lv_at hl 0 rfl) ?_
  refine lv_iload_n hx hb dX15_deliver_1 rfl (lv_at hl 1 rfl) ?_
  have hPc := hP.sub (ws' := (wM tE m0 m1 m2 m3 m4 m5 m6 tc th tm)) [0, 1, 2, 3, 4, 5] rfl
  have hKc := hK.sub (tys' := [(tc, .char)]) [0] rfl
  have hDc := hD.sub (ws' := (wM tE m0 m1 m2 m3 m4 m5 m6 tc th tm)) [0, 1, 2, 3, 4, 5] (by decide) rfl
  have hFc := va_free (wc := (wM tE m0 m1 m2 m3 m4 m5 m6 tc th tm)) hD hS hA [0, 1, 2, 3, 4, 5] rfl
  refine gJ_i (isC := [0, 1, 2, 3, 4, 5]) (isR := []) (wr := []) (va_runV (As := [.int x0]) (rest := []) ⟨hx, hb, hml, hown, hta⟩ (c_X15_failsOrder l ) (cwV 1 hta (gWV mw197 mw198 mw199 mw176 mw196) rfl rfl rfl (by decide +kernel) ⟨Nat.le_of_ble_eq_true rfl, Nat.le_of_ble_eq_true rfl⟩) ⟨gS_blind, va_recv hKc hPc (ci := 20) (q0 := 0) rfl rfl, fun U hU hW => ⟨rfl, by rw [hU], by rw [hU]; exact hPc, va_K.moved hW.alike hKc, hDc.weaken (fun _ _ _ _ => trivial), hG.call hS hU hW hFc⟩⟩ rfl rfl hl.1 rfl (lv_room (Nat.le_of_ble_eq_true rfl)) dX15_deliver_2 ⟨Nat.le_of_ble_eq_true rfl, Nat.le_of_ble_eq_true rfl⟩) hP hD hS hK hFc rfl rfl (by decide) (by decide) (fun r1 u2 H locs h3 hP hD hS hK => ?_)
  obtain rfl : r1 = 1 := h3
  have hK : va_K D vwCl [(tc, .char)] s := hK
  have hP : va_P D vwCl (wM tE m0 m1 m2 m3 m4 m5 m6 tc 1 tm) H := hP
  have hD : va_D A (wM tE m0 m1 m2 m3 m4 m5 m6 tc 1 tm) := hD
  refine lv_if_eq (tgt := 10) hx hb dX15_deliver_5 (by decide) (fun c4 => ?_) (fun c4 => ?_)
  · exact absurd c4 (by decide)
  · skip
    refine lv_iconst (v := 0) hx hb dX15_deliver_8 (by decide) ?_
    have hP9 := hP.sub (ws' := (wM tE m0 m1 m2 m3 m4 m5 m6 tc 1 tm)) [0, 1, 2, 3, 4, 5] rfl
    have hD9 := hD.sub (ws' := (wM tE m0 m1 m2 m3 m4 m5 m6 tc 1 tm)) [0, 1, 2, 3, 4, 5] (by decide) rfl
    have hK9 := hK.sub (tys' := []) [] rfl
    refine W.widen (k := 0) (n := 0) (Nat.le_of_ble_eq_true rfl) (Nat.le_of_ble_eq_true rfl) ?_
    exact W.zret (v := 0) (ty := .boolean) hx hb hr (by decide) (fun t ht hWm => ⟨⟨_, (), rfl, rfl, ⟨by rw [ht]; exact hP9, va_K.moved hWm.alike hK9, hD9⟩⟩, hS.F ht⟩) hS.2.2 dX15_deliver_9

set_option maxHeartbeats 4000000 in
set_option maxRecDepth 100000 in
theorem c_X15_stateOf (l : Launch) {D : va_G} {tE sz : Nat} {m0 m1 m2 m3 m4 m5 m6 : Nat} {tc : ClassId} {th tm : Int32}  {x0 : Int32} : Met l ⟨"FoundrymarkModel", "stateOf", "(I)C"⟩ (wsC ⟨"FoundrymarkModel", "stateOf", "(I)C"⟩ cX15_stateOf 2 (some .char)) ({ frames := 2, cells := 0, slots := 0, locals := 43 }) (va_Pc [.ref m0, .int x0] (gS tE D (wM tE m0 m1 m2 m3 m4 m5 m6 tc th tm) [(tc, .char)] sz)) (va_Qi ((fun (r : Int32) (_ : Unit) => r = 0)) (gO D (fun _ => (wM tE m0 m1 m2 m3 m4 m5 m6 tc 1 tm)) (fun _ => []) (va_A (wM tE m0 m1 m2 m3 m4 m5 m6 tc th tm) sz)) (va_A (wM tE m0 m1 m2 m3 m4 m5 m6 tc th tm) sz)) 0 0 (va_A (wM tE m0 m1 m2 m3 m4 m5 m6 tc th tm) sz) := by
  refine Met.ofW (cc := cX15_stateOf) (maxL := 2) (ret := (some .char)) (by decide) rfl ?_
  intro p e s m args below meth c s₁ B hml hv
  obtain ⟨rfl, hsz, hP, hK, hD0, hG⟩ := hv
  have hx := B.exec
  have hb := B.bytes
  have hr := B.returns
  have hlocks := B.notSynchronized
  have hts := atoms_spec (ws := wsC ⟨"FoundrymarkModel", "stateOf", "(I)C"⟩ cX15_stateOf 2 (some .char)) B.pre
  have hta : ∀ w ∈ WA, w.before _ s = true := fun w h => hts w (List.mem_cons_of_mem _ h)
  have hown : s.vm.findClass "FoundrymarkModel" = some m.cls := findClass_of_methodNamed B.named
  subst hsz
  have hD : va_D (va_A (wM tE m0 m1 m2 m3 m4 m5 m6 tc th tm) s.heap.size) (wM tE m0 m1 m2 m3 m4 m5 m6 tc th tm) := hD0.self (sz := s.heap.size)
  generalize hAe : va_A (wM tE m0 m1 m2 m3 m4 m5 m6 tc th tm) s.heap.size = A at hD hG ⊢
  have hA : ∀ q : Nat, s.heap.size ≤ q → A q := fun q h => by rw [← hAe]; exact Or.inr h
  have hS : va_S A s.heap s.heap [] := va_S.rf
  have hP : va_P D vwCl (wM tE m0 m1 m2 m3 m4 m5 m6 tc th tm) s.heap := hP
  have hl := lv_entry ([.ref m0, .int x0]) (n := 2) (Nat.le_of_ble_eq_true rfl)
  rw [lg_entry_eq]
  generalize (lg_sl ([.ref m0, .int x0]) ++ List.replicate (2 - (lg_sl ([.ref m0, .int x0])).length) Slot.unset).toArray = ls at hl ⊢
  have hl : lv_has ls 2 [(0, .ref m0), (1, .int x0)] := hl
  refine lv_aload_n hx hb dX15_stateOf_0 rfl (lv_at hl 0 rfl) ?_
  refine lv_iload_n hx hb dX15_stateOf_1 rfl (lv_at hl 1 rfl) ?_
  have hPc := hP.sub (ws' := (wM tE m0 m1 m2 m3 m4 m5 m6 tc th tm)) [0, 1, 2, 3, 4, 5] rfl
  have hKc := hK.sub (tys' := [(tc, .char)]) [0] rfl
  have hDc := hD.sub (ws' := (wM tE m0 m1 m2 m3 m4 m5 m6 tc th tm)) [0, 1, 2, 3, 4, 5] (by decide) rfl
  have hFc := va_free (wc := (wM tE m0 m1 m2 m3 m4 m5 m6 tc th tm)) hD hS hA [0, 1, 2, 3, 4, 5] rfl
  refine gJ_i (isC := [0, 1, 2, 3, 4, 5]) (isR := []) (wr := []) (va_runV (As := [.int x0]) (rest := []) ⟨hx, hb, hml, hown, hta⟩ (c_X15_failsOrder l ) (cwV 1 hta (gWV mw197 mw198 mw199 mw176 mw196) rfl rfl rfl (by decide +kernel) ⟨Nat.le_of_ble_eq_true rfl, Nat.le_of_ble_eq_true rfl⟩) ⟨gS_blind, va_recv hKc hPc (ci := 20) (q0 := 0) rfl rfl, fun U hU hW => ⟨rfl, by rw [hU], by rw [hU]; exact hPc, va_K.moved hW.alike hKc, hDc.weaken (fun _ _ _ _ => trivial), hG.call hS hU hW hFc⟩⟩ rfl rfl hl.1 rfl (lv_room (Nat.le_of_ble_eq_true rfl)) dX15_stateOf_2 ⟨Nat.le_of_ble_eq_true rfl, Nat.le_of_ble_eq_true rfl⟩) hP hD hS hK hFc rfl rfl (by decide) (by decide) (fun r1 u2 H locs h3 hP hD hS hK => ?_)
  obtain rfl : r1 = 1 := h3
  have hK : va_K D vwCl [(tc, .char)] s := hK
  have hP : va_P D vwCl (wM tE m0 m1 m2 m3 m4 m5 m6 tc 1 tm) H := hP
  have hD : va_D A (wM tE m0 m1 m2 m3 m4 m5 m6 tc 1 tm) := hD
  refine lv_if_eq (tgt := 12) hx hb dX15_stateOf_5 (by decide) (fun c4 => ?_) (fun c4 => ?_)
  · exact absurd c4 (by decide)
  · skip
    refine lv_iconst (v := 0) hx hb dX15_stateOf_8 (by decide) ?_
    refine lv_goto (tgt := 26) hx hb dX15_stateOf_9 (by decide) ?_
    have hP9 := hP.sub (ws' := (wM tE m0 m1 m2 m3 m4 m5 m6 tc 1 tm)) [0, 1, 2, 3, 4, 5] rfl
    have hD9 := hD.sub (ws' := (wM tE m0 m1 m2 m3 m4 m5 m6 tc 1 tm)) [0, 1, 2, 3, 4, 5] (by decide) rfl
    have hK9 := hK.sub (tys' := []) [] rfl
    refine W.widen (k := 0) (n := 0) (Nat.le_of_ble_eq_true rfl) (Nat.le_of_ble_eq_true rfl) ?_
    exact W.zret (v := 0) (ty := .char) hx hb hr (by decide) (fun t ht hWm => ⟨⟨_, (), rfl, rfl, ⟨by rw [ht]; exact hP9, va_K.moved hWm.alike hK9, hD9⟩⟩, hS.F ht⟩) hS.2.2 dX15_stateOf_26

set_option maxHeartbeats 4000000 in
set_option maxRecDepth 100000 in
theorem c_X15_lotOf (l : Launch) {D : va_G} {tE sz : Nat} {m0 m1 m2 m3 m4 m5 m6 : Nat} {tc : ClassId} {th tm : Int32}  {x0 : Int32} : Met l ⟨"FoundrymarkModel", "lotOf", "(I)I"⟩ (wsC ⟨"FoundrymarkModel", "lotOf", "(I)I"⟩ cX15_lotOf 2 (some .int)) ({ frames := 2, cells := 0, slots := 0, locals := 43 }) (va_Pc [.ref m0, .int x0] (gS tE D (wM tE m0 m1 m2 m3 m4 m5 m6 tc th tm) [(tc, .char)] sz)) (va_Qi ((fun (r : Int32) (_ : Unit) => r = 0)) (gO D (fun _ => (wM tE m0 m1 m2 m3 m4 m5 m6 tc 1 tm)) (fun _ => []) (va_A (wM tE m0 m1 m2 m3 m4 m5 m6 tc th tm) sz)) (va_A (wM tE m0 m1 m2 m3 m4 m5 m6 tc th tm) sz)) 0 0 (va_A (wM tE m0 m1 m2 m3 m4 m5 m6 tc th tm) sz) := by
  refine Met.ofW (cc := cX15_lotOf) (maxL := 2) (ret := (some .int)) (by decide) rfl ?_
  intro p e s m args below meth c s₁ B hml hv
  obtain ⟨rfl, hsz, hP, hK, hD0, hG⟩ := hv
  have hx := B.exec
  have hb := B.bytes
  have hr := B.returns
  have hlocks := B.notSynchronized
  have hts := atoms_spec (ws := wsC ⟨"FoundrymarkModel", "lotOf", "(I)I"⟩ cX15_lotOf 2 (some .int)) B.pre
  have hta : ∀ w ∈ WA, w.before _ s = true := fun w h => hts w (List.mem_cons_of_mem _ h)
  have hown : s.vm.findClass "FoundrymarkModel" = some m.cls := findClass_of_methodNamed B.named
  subst hsz
  have hD : va_D (va_A (wM tE m0 m1 m2 m3 m4 m5 m6 tc th tm) s.heap.size) (wM tE m0 m1 m2 m3 m4 m5 m6 tc th tm) := hD0.self (sz := s.heap.size)
  generalize hAe : va_A (wM tE m0 m1 m2 m3 m4 m5 m6 tc th tm) s.heap.size = A at hD hG ⊢
  have hA : ∀ q : Nat, s.heap.size ≤ q → A q := fun q h => by rw [← hAe]; exact Or.inr h
  have hS : va_S A s.heap s.heap [] := va_S.rf
  have hP : va_P D vwCl (wM tE m0 m1 m2 m3 m4 m5 m6 tc th tm) s.heap := hP
  have hl := lv_entry ([.ref m0, .int x0]) (n := 2) (Nat.le_of_ble_eq_true rfl)
  rw [lg_entry_eq]
  generalize (lg_sl ([.ref m0, .int x0]) ++ List.replicate (2 - (lg_sl ([.ref m0, .int x0])).length) Slot.unset).toArray = ls at hl ⊢
  have hl : lv_has ls 2 [(0, .ref m0), (1, .int x0)] := hl
  refine lv_aload_n hx hb dX15_lotOf_0 rfl (lv_at hl 0 rfl) ?_
  refine lv_iload_n hx hb dX15_lotOf_1 rfl (lv_at hl 1 rfl) ?_
  have hPc := hP.sub (ws' := (wM tE m0 m1 m2 m3 m4 m5 m6 tc th tm)) [0, 1, 2, 3, 4, 5] rfl
  have hKc := hK.sub (tys' := [(tc, .char)]) [0] rfl
  have hDc := hD.sub (ws' := (wM tE m0 m1 m2 m3 m4 m5 m6 tc th tm)) [0, 1, 2, 3, 4, 5] (by decide) rfl
  have hFc := va_free (wc := (wM tE m0 m1 m2 m3 m4 m5 m6 tc th tm)) hD hS hA [0, 1, 2, 3, 4, 5] rfl
  refine gJ_i (isC := [0, 1, 2, 3, 4, 5]) (isR := []) (wr := []) (va_runV (As := [.int x0]) (rest := []) ⟨hx, hb, hml, hown, hta⟩ (c_X15_failsOrder l ) (cwV 1 hta (gWV mw197 mw198 mw199 mw176 mw196) rfl rfl rfl (by decide +kernel) ⟨Nat.le_of_ble_eq_true rfl, Nat.le_of_ble_eq_true rfl⟩) ⟨gS_blind, va_recv hKc hPc (ci := 20) (q0 := 0) rfl rfl, fun U hU hW => ⟨rfl, by rw [hU], by rw [hU]; exact hPc, va_K.moved hW.alike hKc, hDc.weaken (fun _ _ _ _ => trivial), hG.call hS hU hW hFc⟩⟩ rfl rfl hl.1 rfl (lv_room (Nat.le_of_ble_eq_true rfl)) dX15_lotOf_2 ⟨Nat.le_of_ble_eq_true rfl, Nat.le_of_ble_eq_true rfl⟩) hP hD hS hK hFc rfl rfl (by decide) (by decide) (fun r1 u2 H locs h3 hP hD hS hK => ?_)
  obtain rfl : r1 = 1 := h3
  have hK : va_K D vwCl [(tc, .char)] s := hK
  have hP : va_P D vwCl (wM tE m0 m1 m2 m3 m4 m5 m6 tc 1 tm) H := hP
  have hD : va_D A (wM tE m0 m1 m2 m3 m4 m5 m6 tc 1 tm) := hD
  refine lv_if_ne (tgt := 37) hx hb dX15_lotOf_5 (by decide) (fun c4 => ?_) (fun c4 => ?_)
  · skip
    refine lv_iconst (v := 0) hx hb dX15_lotOf_37 (by decide) ?_
    refine lv_goto (tgt := 58) hx hb dX15_lotOf_38 (by decide) ?_
    have hP9 := hP.sub (ws' := (wM tE m0 m1 m2 m3 m4 m5 m6 tc 1 tm)) [0, 1, 2, 3, 4, 5] rfl
    have hD9 := hD.sub (ws' := (wM tE m0 m1 m2 m3 m4 m5 m6 tc 1 tm)) [0, 1, 2, 3, 4, 5] (by decide) rfl
    have hK9 := hK.sub (tys' := []) [] rfl
    refine W.widen (k := 0) (n := 0) (Nat.le_of_ble_eq_true rfl) (Nat.le_of_ble_eq_true rfl) ?_
    exact W.iret (v := 0) hx hb hr (fun t ht hWm => ⟨⟨_, (), rfl, rfl, ⟨by rw [ht]; exact hP9, va_K.moved hWm.alike hK9, hD9⟩⟩, hS.F ht⟩) hS.2.2 dX15_lotOf_58
  · exact absurd c4 (by decide)

set_option maxHeartbeats 4000000 in
set_option maxRecDepth 100000 in
theorem c_X15_finishedAt (l : Launch) {D : va_G} {tE sz : Nat} {m0 m1 m2 m3 m4 m5 m6 : Nat} {tc : ClassId} {th tm : Int32}  {x0 : Int32} : Met l ⟨"FoundrymarkModel", "finishedAt", "(I)I"⟩ (wsC ⟨"FoundrymarkModel", "finishedAt", "(I)I"⟩ cX15_finishedAt 2 (some .int)) ({ frames := 2, cells := 0, slots := 0, locals := 43 }) (va_Pc [.ref m0, .int x0] (gS tE D (wM tE m0 m1 m2 m3 m4 m5 m6 tc th tm) [(tc, .char)] sz)) (va_Qi ((fun (r : Int32) (_ : Unit) => r = 0)) (gO D (fun _ => (wM tE m0 m1 m2 m3 m4 m5 m6 tc 1 tm)) (fun _ => []) (va_A (wM tE m0 m1 m2 m3 m4 m5 m6 tc th tm) sz)) (va_A (wM tE m0 m1 m2 m3 m4 m5 m6 tc th tm) sz)) 0 0 (va_A (wM tE m0 m1 m2 m3 m4 m5 m6 tc th tm) sz) := by
  refine Met.ofW (cc := cX15_finishedAt) (maxL := 2) (ret := (some .int)) (by decide) rfl ?_
  intro p e s m args below meth c s₁ B hml hv
  obtain ⟨rfl, hsz, hP, hK, hD0, hG⟩ := hv
  have hx := B.exec
  have hb := B.bytes
  have hr := B.returns
  have hlocks := B.notSynchronized
  have hts := atoms_spec (ws := wsC ⟨"FoundrymarkModel", "finishedAt", "(I)I"⟩ cX15_finishedAt 2 (some .int)) B.pre
  have hta : ∀ w ∈ WA, w.before _ s = true := fun w h => hts w (List.mem_cons_of_mem _ h)
  have hown : s.vm.findClass "FoundrymarkModel" = some m.cls := findClass_of_methodNamed B.named
  subst hsz
  have hD : va_D (va_A (wM tE m0 m1 m2 m3 m4 m5 m6 tc th tm) s.heap.size) (wM tE m0 m1 m2 m3 m4 m5 m6 tc th tm) := hD0.self (sz := s.heap.size)
  generalize hAe : va_A (wM tE m0 m1 m2 m3 m4 m5 m6 tc th tm) s.heap.size = A at hD hG ⊢
  have hA : ∀ q : Nat, s.heap.size ≤ q → A q := fun q h => by rw [← hAe]; exact Or.inr h
  have hS : va_S A s.heap s.heap [] := va_S.rf
  have hP : va_P D vwCl (wM tE m0 m1 m2 m3 m4 m5 m6 tc th tm) s.heap := hP
  have hl := lv_entry ([.ref m0, .int x0]) (n := 2) (Nat.le_of_ble_eq_true rfl)
  rw [lg_entry_eq]
  generalize (lg_sl ([.ref m0, .int x0]) ++ List.replicate (2 - (lg_sl ([.ref m0, .int x0])).length) Slot.unset).toArray = ls at hl ⊢
  have hl : lv_has ls 2 [(0, .ref m0), (1, .int x0)] := hl
  refine lv_aload_n hx hb dX15_finishedAt_0 rfl (lv_at hl 0 rfl) ?_
  refine lv_iload_n hx hb dX15_finishedAt_1 rfl (lv_at hl 1 rfl) ?_
  have hPc := hP.sub (ws' := (wM tE m0 m1 m2 m3 m4 m5 m6 tc th tm)) [0, 1, 2, 3, 4, 5] rfl
  have hKc := hK.sub (tys' := [(tc, .char)]) [0] rfl
  have hDc := hD.sub (ws' := (wM tE m0 m1 m2 m3 m4 m5 m6 tc th tm)) [0, 1, 2, 3, 4, 5] (by decide) rfl
  have hFc := va_free (wc := (wM tE m0 m1 m2 m3 m4 m5 m6 tc th tm)) hD hS hA [0, 1, 2, 3, 4, 5] rfl
  refine gJ_i (isC := [0, 1, 2, 3, 4, 5]) (isR := []) (wr := []) (va_runV (As := [.int x0]) (rest := []) ⟨hx, hb, hml, hown, hta⟩ (c_X15_failsOrder l ) (cwV 1 hta (gWV mw197 mw198 mw199 mw176 mw196) rfl rfl rfl (by decide +kernel) ⟨Nat.le_of_ble_eq_true rfl, Nat.le_of_ble_eq_true rfl⟩) ⟨gS_blind, va_recv hKc hPc (ci := 20) (q0 := 0) rfl rfl, fun U hU hW => ⟨rfl, by rw [hU], by rw [hU]; exact hPc, va_K.moved hW.alike hKc, hDc.weaken (fun _ _ _ _ => trivial), hG.call hS hU hW hFc⟩⟩ rfl rfl hl.1 rfl (lv_room (Nat.le_of_ble_eq_true rfl)) dX15_finishedAt_2 ⟨Nat.le_of_ble_eq_true rfl, Nat.le_of_ble_eq_true rfl⟩) hP hD hS hK hFc rfl rfl (by decide) (by decide) (fun r1 u2 H locs h3 hP hD hS hK => ?_)
  obtain rfl : r1 = 1 := h3
  have hK : va_K D vwCl [(tc, .char)] s := hK
  have hP : va_P D vwCl (wM tE m0 m1 m2 m3 m4 m5 m6 tc 1 tm) H := hP
  have hD : va_D A (wM tE m0 m1 m2 m3 m4 m5 m6 tc 1 tm) := hD
  refine lv_if_ne (tgt := 37) hx hb dX15_finishedAt_5 (by decide) (fun c4 => ?_) (fun c4 => ?_)
  · skip
    refine lv_iconst (v := 0) hx hb dX15_finishedAt_37 (by decide) ?_
    refine lv_goto (tgt := 55) hx hb dX15_finishedAt_38 (by decide) ?_
    have hP9 := hP.sub (ws' := (wM tE m0 m1 m2 m3 m4 m5 m6 tc 1 tm)) [0, 1, 2, 3, 4, 5] rfl
    have hD9 := hD.sub (ws' := (wM tE m0 m1 m2 m3 m4 m5 m6 tc 1 tm)) [0, 1, 2, 3, 4, 5] (by decide) rfl
    have hK9 := hK.sub (tys' := []) [] rfl
    refine W.widen (k := 0) (n := 0) (Nat.le_of_ble_eq_true rfl) (Nat.le_of_ble_eq_true rfl) ?_
    exact W.iret (v := 0) hx hb hr (fun t ht hWm => ⟨⟨_, (), rfl, rfl, ⟨by rw [ht]; exact hP9, va_K.moved hWm.alike hK9, hD9⟩⟩, hS.F ht⟩) hS.2.2 dX15_finishedAt_55
  · exact absurd c4 (by decide)

set_option maxHeartbeats 4000000 in
set_option maxRecDepth 100000 in
theorem c_X15_machineIs (l : Launch) {D : va_G} {tE sz : Nat} {m0 m1 m2 m3 m4 m5 m6 : Nat} {tc : ClassId} {th tm : Int32}  {x0 : Int32} : Met l ⟨"FoundrymarkModel", "machineIs", "(I)C"⟩ (wsC ⟨"FoundrymarkModel", "machineIs", "(I)C"⟩ cX15_machineIs 2 (some .char)) ({ frames := 3, cells := 0, slots := 0, locals := 64 }) (va_Pc [.ref m0, .int x0] (gS tE D (wM tE m0 m1 m2 m3 m4 m5 m6 tc th tm) [(tc, .char)] sz)) (va_Qi ((fun (r : Int32) (_ : Unit) => r = 0)) (gO D (fun _ => (wM tE m0 m1 m2 m3 m4 m5 m6 tc 1 tm)) (fun _ => []) (va_A (wM tE m0 m1 m2 m3 m4 m5 m6 tc th tm) sz)) (va_A (wM tE m0 m1 m2 m3 m4 m5 m6 tc th tm) sz)) 0 0 (va_A (wM tE m0 m1 m2 m3 m4 m5 m6 tc th tm) sz) := by
  refine Met.ofW (cc := cX15_machineIs) (maxL := 2) (ret := (some .char)) (by decide) rfl ?_
  intro p e s m args below meth c s₁ B hml hv
  obtain ⟨rfl, hsz, hP, hK, hD0, hG⟩ := hv
  have hx := B.exec
  have hb := B.bytes
  have hr := B.returns
  have hlocks := B.notSynchronized
  have hts := atoms_spec (ws := wsC ⟨"FoundrymarkModel", "machineIs", "(I)C"⟩ cX15_machineIs 2 (some .char)) B.pre
  have hta : ∀ w ∈ WA, w.before _ s = true := fun w h => hts w (List.mem_cons_of_mem _ h)
  have hown : s.vm.findClass "FoundrymarkModel" = some m.cls := findClass_of_methodNamed B.named
  subst hsz
  have hD : va_D (va_A (wM tE m0 m1 m2 m3 m4 m5 m6 tc th tm) s.heap.size) (wM tE m0 m1 m2 m3 m4 m5 m6 tc th tm) := hD0.self (sz := s.heap.size)
  generalize hAe : va_A (wM tE m0 m1 m2 m3 m4 m5 m6 tc th tm) s.heap.size = A at hD hG ⊢
  have hA : ∀ q : Nat, s.heap.size ≤ q → A q := fun q h => by rw [← hAe]; exact Or.inr h
  have hS : va_S A s.heap s.heap [] := va_S.rf
  have hP : va_P D vwCl (wM tE m0 m1 m2 m3 m4 m5 m6 tc th tm) s.heap := hP
  have hl := lv_entry ([.ref m0, .int x0]) (n := 2) (Nat.le_of_ble_eq_true rfl)
  rw [lg_entry_eq]
  generalize (lg_sl ([.ref m0, .int x0]) ++ List.replicate (2 - (lg_sl ([.ref m0, .int x0])).length) Slot.unset).toArray = ls at hl ⊢
  have hl : lv_has ls 2 [(0, .ref m0), (1, .int x0)] := hl
  refine lv_aload_n hx hb dX15_machineIs_0 rfl (lv_at hl 0 rfl) ?_
  refine lv_iload_n hx hb dX15_machineIs_1 rfl (lv_at hl 1 rfl) ?_
  have hPc := hP.sub (ws' := (wM tE m0 m1 m2 m3 m4 m5 m6 tc th tm)) [0, 1, 2, 3, 4, 5] rfl
  have hKc := hK.sub (tys' := [(tc, .char)]) [0] rfl
  have hDc := hD.sub (ws' := (wM tE m0 m1 m2 m3 m4 m5 m6 tc th tm)) [0, 1, 2, 3, 4, 5] (by decide) rfl
  have hFc := va_free (wc := (wM tE m0 m1 m2 m3 m4 m5 m6 tc th tm)) hD hS hA [0, 1, 2, 3, 4, 5] rfl
  refine gJ_i (isC := [0, 1, 2, 3, 4, 5]) (isR := []) (wr := []) (va_runV (As := [.int x0]) (rest := []) ⟨hx, hb, hml, hown, hta⟩ (c_X15_failsMachine l ) (cwV 1 hta (gWV mw201 mw202 mw203 mw176 mw200) rfl rfl rfl (by decide +kernel) ⟨Nat.le_of_ble_eq_true rfl, Nat.le_of_ble_eq_true rfl⟩) ⟨gS_blind, va_recv hKc hPc (ci := 20) (q0 := 0) rfl rfl, fun U hU hW => ⟨rfl, by rw [hU], by rw [hU]; exact hPc, va_K.moved hW.alike hKc, hDc.weaken (fun _ _ _ _ => trivial), hG.call hS hU hW hFc⟩⟩ rfl rfl hl.1 rfl (lv_room (Nat.le_of_ble_eq_true rfl)) dX15_machineIs_2 ⟨Nat.le_of_ble_eq_true rfl, Nat.le_of_ble_eq_true rfl⟩) hP hD hS hK hFc rfl rfl (by decide) (by decide) (fun r1 u2 H locs h3 hP hD hS hK => ?_)
  obtain rfl : r1 = 1 := h3
  have hK : va_K D vwCl [(tc, .char)] s := hK
  have hP : va_P D vwCl (wM tE m0 m1 m2 m3 m4 m5 m6 tc 1 tm) H := hP
  have hD : va_D A (wM tE m0 m1 m2 m3 m4 m5 m6 tc 1 tm) := hD
  refine lv_if_eq (tgt := 12) hx hb dX15_machineIs_5 (by decide) (fun c4 => ?_) (fun c4 => ?_)
  · exact absurd c4 (by decide)
  · skip
    refine lv_iconst (v := 0) hx hb dX15_machineIs_8 (by decide) ?_
    refine lv_goto (tgt := 26) hx hb dX15_machineIs_9 (by decide) ?_
    have hP9 := hP.sub (ws' := (wM tE m0 m1 m2 m3 m4 m5 m6 tc 1 tm)) [0, 1, 2, 3, 4, 5] rfl
    have hD9 := hD.sub (ws' := (wM tE m0 m1 m2 m3 m4 m5 m6 tc 1 tm)) [0, 1, 2, 3, 4, 5] (by decide) rfl
    have hK9 := hK.sub (tys' := []) [] rfl
    refine W.widen (k := 0) (n := 0) (Nat.le_of_ble_eq_true rfl) (Nat.le_of_ble_eq_true rfl) ?_
    exact W.zret (v := 0) (ty := .char) hx hb hr (by decide) (fun t ht hWm => ⟨⟨_, (), rfl, rfl, ⟨by rw [ht]; exact hP9, va_K.moved hWm.alike hK9, hD9⟩⟩, hS.F ht⟩) hS.2.2 dX15_machineIs_26

set_option maxHeartbeats 4000000 in
set_option maxRecDepth 100000 in
theorem c_X15_wear (l : Launch) {D : va_G} {tE sz : Nat} {m0 m1 m2 m3 m4 m5 m6 : Nat} {tc : ClassId} {th tm : Int32}  {x0 : Int32} : Met l ⟨"FoundrymarkModel", "wear", "(I)I"⟩ (wsC ⟨"FoundrymarkModel", "wear", "(I)I"⟩ cX15_wear 2 (some .int)) ({ frames := 3, cells := 0, slots := 0, locals := 64 }) (va_Pc [.ref m0, .int x0] (gS tE D (wM tE m0 m1 m2 m3 m4 m5 m6 tc th tm) [(tc, .char)] sz)) (va_Qi ((fun (r : Int32) (_ : Unit) => r = 0)) (gO D (fun _ => (wM tE m0 m1 m2 m3 m4 m5 m6 tc 1 tm)) (fun _ => []) (va_A (wM tE m0 m1 m2 m3 m4 m5 m6 tc th tm) sz)) (va_A (wM tE m0 m1 m2 m3 m4 m5 m6 tc th tm) sz)) 0 0 (va_A (wM tE m0 m1 m2 m3 m4 m5 m6 tc th tm) sz) := by
  refine Met.ofW (cc := cX15_wear) (maxL := 2) (ret := (some .int)) (by decide) rfl ?_
  intro p e s m args below meth c s₁ B hml hv
  obtain ⟨rfl, hsz, hP, hK, hD0, hG⟩ := hv
  have hx := B.exec
  have hb := B.bytes
  have hr := B.returns
  have hlocks := B.notSynchronized
  have hts := atoms_spec (ws := wsC ⟨"FoundrymarkModel", "wear", "(I)I"⟩ cX15_wear 2 (some .int)) B.pre
  have hta : ∀ w ∈ WA, w.before _ s = true := fun w h => hts w (List.mem_cons_of_mem _ h)
  have hown : s.vm.findClass "FoundrymarkModel" = some m.cls := findClass_of_methodNamed B.named
  subst hsz
  have hD : va_D (va_A (wM tE m0 m1 m2 m3 m4 m5 m6 tc th tm) s.heap.size) (wM tE m0 m1 m2 m3 m4 m5 m6 tc th tm) := hD0.self (sz := s.heap.size)
  generalize hAe : va_A (wM tE m0 m1 m2 m3 m4 m5 m6 tc th tm) s.heap.size = A at hD hG ⊢
  have hA : ∀ q : Nat, s.heap.size ≤ q → A q := fun q h => by rw [← hAe]; exact Or.inr h
  have hS : va_S A s.heap s.heap [] := va_S.rf
  have hP : va_P D vwCl (wM tE m0 m1 m2 m3 m4 m5 m6 tc th tm) s.heap := hP
  have hl := lv_entry ([.ref m0, .int x0]) (n := 2) (Nat.le_of_ble_eq_true rfl)
  rw [lg_entry_eq]
  generalize (lg_sl ([.ref m0, .int x0]) ++ List.replicate (2 - (lg_sl ([.ref m0, .int x0])).length) Slot.unset).toArray = ls at hl ⊢
  have hl : lv_has ls 2 [(0, .ref m0), (1, .int x0)] := hl
  refine lv_aload_n hx hb dX15_wear_0 rfl (lv_at hl 0 rfl) ?_
  refine lv_iload_n hx hb dX15_wear_1 rfl (lv_at hl 1 rfl) ?_
  have hPc := hP.sub (ws' := (wM tE m0 m1 m2 m3 m4 m5 m6 tc th tm)) [0, 1, 2, 3, 4, 5] rfl
  have hKc := hK.sub (tys' := [(tc, .char)]) [0] rfl
  have hDc := hD.sub (ws' := (wM tE m0 m1 m2 m3 m4 m5 m6 tc th tm)) [0, 1, 2, 3, 4, 5] (by decide) rfl
  have hFc := va_free (wc := (wM tE m0 m1 m2 m3 m4 m5 m6 tc th tm)) hD hS hA [0, 1, 2, 3, 4, 5] rfl
  refine gJ_i (isC := [0, 1, 2, 3, 4, 5]) (isR := []) (wr := []) (va_runV (As := [.int x0]) (rest := []) ⟨hx, hb, hml, hown, hta⟩ (c_X15_failsMachine l ) (cwV 1 hta (gWV mw201 mw202 mw203 mw176 mw200) rfl rfl rfl (by decide +kernel) ⟨Nat.le_of_ble_eq_true rfl, Nat.le_of_ble_eq_true rfl⟩) ⟨gS_blind, va_recv hKc hPc (ci := 20) (q0 := 0) rfl rfl, fun U hU hW => ⟨rfl, by rw [hU], by rw [hU]; exact hPc, va_K.moved hW.alike hKc, hDc.weaken (fun _ _ _ _ => trivial), hG.call hS hU hW hFc⟩⟩ rfl rfl hl.1 rfl (lv_room (Nat.le_of_ble_eq_true rfl)) dX15_wear_2 ⟨Nat.le_of_ble_eq_true rfl, Nat.le_of_ble_eq_true rfl⟩) hP hD hS hK hFc rfl rfl (by decide) (by decide) (fun r1 u2 H locs h3 hP hD hS hK => ?_)
  obtain rfl : r1 = 1 := h3
  have hK : va_K D vwCl [(tc, .char)] s := hK
  have hP : va_P D vwCl (wM tE m0 m1 m2 m3 m4 m5 m6 tc 1 tm) H := hP
  have hD : va_D A (wM tE m0 m1 m2 m3 m4 m5 m6 tc 1 tm) := hD
  refine lv_if_eq (tgt := 12) hx hb dX15_wear_5 (by decide) (fun c4 => ?_) (fun c4 => ?_)
  · exact absurd c4 (by decide)
  · skip
    refine lv_iconst (v := 0) hx hb dX15_wear_8 (by decide) ?_
    refine lv_goto (tgt := 26) hx hb dX15_wear_9 (by decide) ?_
    have hP9 := hP.sub (ws' := (wM tE m0 m1 m2 m3 m4 m5 m6 tc 1 tm)) [0, 1, 2, 3, 4, 5] rfl
    have hD9 := hD.sub (ws' := (wM tE m0 m1 m2 m3 m4 m5 m6 tc 1 tm)) [0, 1, 2, 3, 4, 5] (by decide) rfl
    have hK9 := hK.sub (tys' := []) [] rfl
    refine W.widen (k := 0) (n := 0) (Nat.le_of_ble_eq_true rfl) (Nat.le_of_ble_eq_true rfl) ?_
    exact W.iret (v := 0) hx hb hr (fun t ht hWm => ⟨⟨_, (), rfl, rfl, ⟨by rw [ht]; exact hP9, va_K.moved hWm.alike hK9, hD9⟩⟩, hS.F ht⟩) hS.2.2 dX15_wear_26

set_option maxHeartbeats 4000000 in
set_option maxRecDepth 100000 in
theorem c_X15_waiting (l : Launch) {D : va_G} {tE sz : Nat} {m0 m1 m2 m3 m4 m5 m6 : Nat} {tc : ClassId} {th tm : Int32}  {x0 : Int32} : Met l ⟨"FoundrymarkModel", "waiting", "(I)I"⟩ (wsC ⟨"FoundrymarkModel", "waiting", "(I)I"⟩ cX15_waiting 2 (some .int)) ({ frames := 3, cells := 0, slots := 0, locals := 64 }) (va_Pc [.ref m0, .int x0] (gS tE D (wM tE m0 m1 m2 m3 m4 m5 m6 tc th tm) [(tc, .char)] sz)) (va_Qi ((fun (r : Int32) (_ : Unit) => r = 0)) (gO D (fun _ => (wM tE m0 m1 m2 m3 m4 m5 m6 tc 1 tm)) (fun _ => []) (va_A (wM tE m0 m1 m2 m3 m4 m5 m6 tc th tm) sz)) (va_A (wM tE m0 m1 m2 m3 m4 m5 m6 tc th tm) sz)) 0 0 (va_A (wM tE m0 m1 m2 m3 m4 m5 m6 tc th tm) sz) := by
  refine Met.ofW (cc := cX15_waiting) (maxL := 2) (ret := (some .int)) (by decide) rfl ?_
  intro p e s m args below meth c s₁ B hml hv
  obtain ⟨rfl, hsz, hP, hK, hD0, hG⟩ := hv
  have hx := B.exec
  have hb := B.bytes
  have hr := B.returns
  have hlocks := B.notSynchronized
  have hts := atoms_spec (ws := wsC ⟨"FoundrymarkModel", "waiting", "(I)I"⟩ cX15_waiting 2 (some .int)) B.pre
  have hta : ∀ w ∈ WA, w.before _ s = true := fun w h => hts w (List.mem_cons_of_mem _ h)
  have hown : s.vm.findClass "FoundrymarkModel" = some m.cls := findClass_of_methodNamed B.named
  subst hsz
  have hD : va_D (va_A (wM tE m0 m1 m2 m3 m4 m5 m6 tc th tm) s.heap.size) (wM tE m0 m1 m2 m3 m4 m5 m6 tc th tm) := hD0.self (sz := s.heap.size)
  generalize hAe : va_A (wM tE m0 m1 m2 m3 m4 m5 m6 tc th tm) s.heap.size = A at hD hG ⊢
  have hA : ∀ q : Nat, s.heap.size ≤ q → A q := fun q h => by rw [← hAe]; exact Or.inr h
  have hS : va_S A s.heap s.heap [] := va_S.rf
  have hP : va_P D vwCl (wM tE m0 m1 m2 m3 m4 m5 m6 tc th tm) s.heap := hP
  have hl := lv_entry ([.ref m0, .int x0]) (n := 2) (Nat.le_of_ble_eq_true rfl)
  rw [lg_entry_eq]
  generalize (lg_sl ([.ref m0, .int x0]) ++ List.replicate (2 - (lg_sl ([.ref m0, .int x0])).length) Slot.unset).toArray = ls at hl ⊢
  have hl : lv_has ls 2 [(0, .ref m0), (1, .int x0)] := hl
  refine lv_aload_n hx hb dX15_waiting_0 rfl (lv_at hl 0 rfl) ?_
  refine lv_iload_n hx hb dX15_waiting_1 rfl (lv_at hl 1 rfl) ?_
  have hPc := hP.sub (ws' := (wM tE m0 m1 m2 m3 m4 m5 m6 tc th tm)) [0, 1, 2, 3, 4, 5] rfl
  have hKc := hK.sub (tys' := [(tc, .char)]) [0] rfl
  have hDc := hD.sub (ws' := (wM tE m0 m1 m2 m3 m4 m5 m6 tc th tm)) [0, 1, 2, 3, 4, 5] (by decide) rfl
  have hFc := va_free (wc := (wM tE m0 m1 m2 m3 m4 m5 m6 tc th tm)) hD hS hA [0, 1, 2, 3, 4, 5] rfl
  refine gJ_i (isC := [0, 1, 2, 3, 4, 5]) (isR := []) (wr := []) (va_runV (As := [.int x0]) (rest := []) ⟨hx, hb, hml, hown, hta⟩ (c_X15_failsMachine l ) (cwV 1 hta (gWV mw201 mw202 mw203 mw176 mw200) rfl rfl rfl (by decide +kernel) ⟨Nat.le_of_ble_eq_true rfl, Nat.le_of_ble_eq_true rfl⟩) ⟨gS_blind, va_recv hKc hPc (ci := 20) (q0 := 0) rfl rfl, fun U hU hW => ⟨rfl, by rw [hU], by rw [hU]; exact hPc, va_K.moved hW.alike hKc, hDc.weaken (fun _ _ _ _ => trivial), hG.call hS hU hW hFc⟩⟩ rfl rfl hl.1 rfl (lv_room (Nat.le_of_ble_eq_true rfl)) dX15_waiting_2 ⟨Nat.le_of_ble_eq_true rfl, Nat.le_of_ble_eq_true rfl⟩) hP hD hS hK hFc rfl rfl (by decide) (by decide) (fun r1 u2 H locs h3 hP hD hS hK => ?_)
  obtain rfl : r1 = 1 := h3
  have hK : va_K D vwCl [(tc, .char)] s := hK
  have hP : va_P D vwCl (wM tE m0 m1 m2 m3 m4 m5 m6 tc 1 tm) H := hP
  have hD : va_D A (wM tE m0 m1 m2 m3 m4 m5 m6 tc 1 tm) := hD
  refine lv_if_eq (tgt := 12) hx hb dX15_waiting_5 (by decide) (fun c4 => ?_) (fun c4 => ?_)
  · exact absurd c4 (by decide)
  · skip
    refine lv_iconst (v := 0) hx hb dX15_waiting_8 (by decide) ?_
    refine lv_goto (tgt := 17) hx hb dX15_waiting_9 (by decide) ?_
    have hP9 := hP.sub (ws' := (wM tE m0 m1 m2 m3 m4 m5 m6 tc 1 tm)) [0, 1, 2, 3, 4, 5] rfl
    have hD9 := hD.sub (ws' := (wM tE m0 m1 m2 m3 m4 m5 m6 tc 1 tm)) [0, 1, 2, 3, 4, 5] (by decide) rfl
    have hK9 := hK.sub (tys' := []) [] rfl
    refine W.widen (k := 0) (n := 0) (Nat.le_of_ble_eq_true rfl) (Nat.le_of_ble_eq_true rfl) ?_
    exact W.iret (v := 0) hx hb hr (fun t ht hWm => ⟨⟨_, (), rfl, rfl, ⟨by rw [ht]; exact hP9, va_K.moved hWm.alike hK9, hD9⟩⟩, hS.F ht⟩) hS.2.2 dX15_waiting_17

set_option maxHeartbeats 4000000 in
set_option maxRecDepth 100000 in
theorem c_X15_isIn (l : Launch) {D : va_G} {tE sz : Nat} {m0 m1 m2 m3 m4 m5 m6 : Nat} {tc : ClassId} {th tm : Int32}  {x0 x1 : Int32} : Met l ⟨"FoundrymarkModel", "isIn", "(II)Z"⟩ (wsC ⟨"FoundrymarkModel", "isIn", "(II)Z"⟩ cX15_isIn 4 (some .boolean)) ({ frames := 1, cells := 0, slots := 0, locals := 22 }) (va_Pc [.ref m0, .int x0, .int x1] (gS tE D (wM tE m0 m1 m2 m3 m4 m5 m6 tc th tm) [(tc, .char)] sz)) (va_Qi ((fun (r : Int32) (_ : Unit) => r = 0)) (gO D (fun _ => (wM tE m0 m1 m2 m3 m4 m5 m6 tc 1 tm)) (fun _ => []) (va_A (wM tE m0 m1 m2 m3 m4 m5 m6 tc th tm) sz)) (va_A (wM tE m0 m1 m2 m3 m4 m5 m6 tc th tm) sz)) 0 0 (va_A (wM tE m0 m1 m2 m3 m4 m5 m6 tc th tm) sz) := by
  refine Met.ofW (cc := cX15_isIn) (maxL := 4) (ret := (some .boolean)) (by decide) rfl ?_
  intro p e s m args below meth c s₁ B hml hv
  obtain ⟨rfl, hsz, hP, hK, hD0, hG⟩ := hv
  have hx := B.exec
  have hb := B.bytes
  have hr := B.returns
  have hlocks := B.notSynchronized
  have hts := atoms_spec (ws := wsC ⟨"FoundrymarkModel", "isIn", "(II)Z"⟩ cX15_isIn 4 (some .boolean)) B.pre
  have hta : ∀ w ∈ WA, w.before _ s = true := fun w h => hts w (List.mem_cons_of_mem _ h)
  have hown : s.vm.findClass "FoundrymarkModel" = some m.cls := findClass_of_methodNamed B.named
  subst hsz
  have hD : va_D (va_A (wM tE m0 m1 m2 m3 m4 m5 m6 tc th tm) s.heap.size) (wM tE m0 m1 m2 m3 m4 m5 m6 tc th tm) := hD0.self (sz := s.heap.size)
  generalize hAe : va_A (wM tE m0 m1 m2 m3 m4 m5 m6 tc th tm) s.heap.size = A at hD hG ⊢
  have hA : ∀ q : Nat, s.heap.size ≤ q → A q := fun q h => by rw [← hAe]; exact Or.inr h
  have hS : va_S A s.heap s.heap [] := va_S.rf
  have hP : va_P D vwCl (wM tE m0 m1 m2 m3 m4 m5 m6 tc th tm) s.heap := hP
  have hl := lv_entry ([.ref m0, .int x0, .int x1]) (n := 4) (Nat.le_of_ble_eq_true rfl)
  rw [lg_entry_eq]
  generalize (lg_sl ([.ref m0, .int x0, .int x1]) ++ List.replicate (4 - (lg_sl ([.ref m0, .int x0, .int x1])).length) Slot.unset).toArray = ls at hl ⊢
  have hl : lv_has ls 4 [(0, .ref m0), (1, .int x0), (2, .int x1)] := hl
  refine lv_iload_n hx hb dX15_isIn_0 rfl (lv_at hl 1 rfl) ?_
  refine lv_iconst (v := 0) hx hb dX15_isIn_1 (by decide) ?_
  refine lv_aload_n hx hb dX15_isIn_2 rfl (lv_at hl 0 rfl) ?_
  refine va_get (D := D) (ci := 20) (v := .ref m3) (C := RX15) (T := TX15) (N := 9) hx hb hta iwX15 hown hK hP 0 rfl rfl 3 (by decide) (hta _ mw178) (fun _ h9 => h9) rfl dX15_isIn_3 ?_
  have hPc := hP.sub (ws' := [(m3, .inr (4, [.int 0, .ref tE, .int 0]))]) [3] rfl
  have hKc := hK.sub (tys' := []) [] rfl
  refine vp_callSi (W.runV (As := []) (rest := [.int 0, .int x0]) ⟨hx, hb, hml, hown, hta⟩ (c_AL_size l ) (cwV 0 hta (gWV mw170 mw171 mw172 mw157 mw169) rfl rfl rfl (by decide +kernel) ⟨Nat.le_of_ble_eq_true rfl, Nat.le_of_ble_eq_true rfl⟩) ⟨gR_blind, va_recv hKc hPc (ci := 4) (q0 := 0) rfl rfl, fun U hU hW => ⟨rfl, by rw [hU]; exact hPc, va_K.moved hW.alike hKc⟩⟩ rfl rfl hl.1 rfl (lv_room (Nat.le_of_ble_eq_true rfl)) dX15_isIn_6 ⟨Nat.le_of_ble_eq_true rfl, Nat.le_of_ble_eq_true rfl⟩) (fun r1 h2 => ?_)
  obtain rfl : r1 = 0 := h2
  refine lv_iconst (v := 1) hx hb dX15_isIn_9 (by decide) ?_
  refine lv_isub hx hb dX15_isIn_10 ?_
  refine vp_callSi (W.runS (As := [.int x0, .int 0, .int (0 - 1)]) (rest := []) ⟨hx, hb, hml, hown, hta⟩ (c_X15_in l x0 0 (0 - 1)) (va_cwS 3 hta (gWS mw174 mw175 mw176 mw173) rfl rfl rfl (by decide +kernel) ⟨Nat.le_of_ble_eq_true rfl, Nat.le_of_ble_eq_true rfl⟩) ⟨fun a U g mk q => ⟨q.1, trivial⟩, fun U hU hW => ⟨rfl, trivial⟩⟩ rfl rfl hl.1 rfl (lv_room (Nat.le_of_ble_eq_true rfl)) dX15_isIn_11 ⟨Nat.le_of_ble_eq_true rfl, Nat.le_of_ble_eq_true rfl⟩) (fun r3 h4 => ?_)
  obtain rfl : r3 = 0 := h4.trans (by rw [inR_m1]; rfl)
  refine lv_if_eq (tgt := 38) hx hb dX15_isIn_14 (by decide) (fun c5 => ?_) (fun c5 => ?_)
  · skip
    refine lv_iconst (v := 0) hx hb dX15_isIn_38 (by decide) ?_
    refine lv_istore_n (lv' := [(3, .int 0), (0, .ref m0), (1, .int x0), (2, .int x1)]) hx hb dX15_isIn_39 rfl hl (by decide) rfl (fun ls hl => ?_)
    refine lv_aload_n hx hb dX15_isIn_40 rfl (lv_at hl 1 rfl) ?_
    refine lv_iload_n hx hb dX15_isIn_41 rfl (lv_at hl 0 rfl) ?_
    refine lv_if_eq (tgt := 49) hx hb dX15_isIn_42 (by decide) (fun c6 => ?_) (fun c6 => ?_)
    · skip
      refine lv_iconst (v := 1) hx hb dX15_isIn_49 (by decide) ?_
      have hPc := hP.sub (ws' := (wM tE m0 m1 m2 m3 m4 m5 m6 tc th tm)) [0, 1, 2, 3, 4, 5] rfl
      have hKc := hK.sub (tys' := [(tc, .char)]) [0] rfl
      have hDc := hD.sub (ws' := (wM tE m0 m1 m2 m3 m4 m5 m6 tc th tm)) [0, 1, 2, 3, 4, 5] (by decide) rfl
      have hFc := va_free (wc := (wM tE m0 m1 m2 m3 m4 m5 m6 tc th tm)) hD hS hA [0, 1, 2, 3, 4, 5] rfl
      refine gJ_i (isC := [0, 1, 2, 3, 4, 5]) (isR := []) (wr := []) (va_runV (As := [.int 1]) (rest := []) ⟨hx, hb, hml, hown, hta⟩ (c_X15_fails_1 l ) (cwV 1 hta (gWV mw180 mw181 mw182 mw176 mw179) rfl rfl rfl (by decide +kernel) ⟨Nat.le_of_ble_eq_true rfl, Nat.le_of_ble_eq_true rfl⟩) ⟨gS_blind, va_recv hKc hPc (ci := 20) (q0 := 0) rfl rfl, fun U hU hW => ⟨rfl, by rw [hU], by rw [hU]; exact hPc, va_K.moved hW.alike hKc, hDc.weaken (fun _ _ _ _ => trivial), hG.call hS hU hW hFc⟩⟩ rfl rfl hl.1 rfl (lv_room (Nat.le_of_ble_eq_true rfl)) dX15_isIn_50 ⟨Nat.le_of_ble_eq_true rfl, Nat.le_of_ble_eq_true rfl⟩) hP hD hS hK hFc rfl rfl (by decide) (by decide) (fun r7 u8 H locs h9 hP hD hS hK => ?_)
      obtain rfl : r7 = 1 := h9
      have hK : va_K D vwCl [(tc, .char)] s := hK
      have hP : va_P D vwCl (wM tE m0 m1 m2 m3 m4 m5 m6 tc 1 tm) H := hP
      have hD : va_D A (wM tE m0 m1 m2 m3 m4 m5 m6 tc 1 tm) := hD
      refine lv_if_ne (tgt := 88) hx hb dX15_isIn_53 (by decide) (fun c10 => ?_) (fun c10 => ?_)
      · skip
        refine lv_iconst (v := 0) hx hb dX15_isIn_88 (by decide) ?_
        have hP9 := hP.sub (ws' := (wM tE m0 m1 m2 m3 m4 m5 m6 tc 1 tm)) [0, 1, 2, 3, 4, 5] rfl
        have hD9 := hD.sub (ws' := (wM tE m0 m1 m2 m3 m4 m5 m6 tc 1 tm)) [0, 1, 2, 3, 4, 5] (by decide) rfl
        have hK9 := hK.sub (tys' := []) [] rfl
        refine W.widen (k := 0) (n := 0) (Nat.le_of_ble_eq_true rfl) (Nat.le_of_ble_eq_true rfl) ?_
        exact W.zret (v := 0) (ty := .boolean) hx hb hr (by decide) (fun t ht hWm => ⟨⟨_, (), rfl, rfl, ⟨by rw [ht]; exact hP9, va_K.moved hWm.alike hK9, hD9⟩⟩, hS.F ht⟩) hS.2.2 dX15_isIn_89
      · exact absurd c10 (by decide)
    · exact absurd (by decide) c6
  · exact absurd (by decide) c5

set_option maxHeartbeats 4000000 in
set_option maxRecDepth 100000 in
theorem c_X15_touched (l : Launch) {D : va_G} {tE sz : Nat} {m0 m1 m2 m3 m4 m5 m6 : Nat} {tc : ClassId} {th tm : Int32}  {x0 : Int32} : Met l ⟨"FoundrymarkModel", "touched", "(I)I"⟩ (wsC ⟨"FoundrymarkModel", "touched", "(I)I"⟩ cX15_touched 5 (some .int)) ({ frames := 2, cells := 0, slots := 0, locals := 43 }) (va_Pc [.ref m0, .int x0] (gS tE D (wM tE m0 m1 m2 m3 m4 m5 m6 tc th tm) [(tc, .char)] sz)) (va_Qi ((fun (r : Int32) (_ : Unit) => r = 0)) (gO D (fun _ => (wM tE m0 m1 m2 m3 m4 m5 m6 tc 1 tm)) (fun _ => []) (va_A (wM tE m0 m1 m2 m3 m4 m5 m6 tc th tm) sz)) (va_A (wM tE m0 m1 m2 m3 m4 m5 m6 tc th tm) sz)) 0 0 (va_A (wM tE m0 m1 m2 m3 m4 m5 m6 tc th tm) sz) := by
  refine Met.ofW (cc := cX15_touched) (maxL := 5) (ret := (some .int)) (by decide) rfl ?_
  intro p e s m args below meth c s₁ B hml hv
  obtain ⟨rfl, hsz, hP, hK, hD0, hG⟩ := hv
  have hx := B.exec
  have hb := B.bytes
  have hr := B.returns
  have hlocks := B.notSynchronized
  have hts := atoms_spec (ws := wsC ⟨"FoundrymarkModel", "touched", "(I)I"⟩ cX15_touched 5 (some .int)) B.pre
  have hta : ∀ w ∈ WA, w.before _ s = true := fun w h => hts w (List.mem_cons_of_mem _ h)
  have hown : s.vm.findClass "FoundrymarkModel" = some m.cls := findClass_of_methodNamed B.named
  subst hsz
  have hD : va_D (va_A (wM tE m0 m1 m2 m3 m4 m5 m6 tc th tm) s.heap.size) (wM tE m0 m1 m2 m3 m4 m5 m6 tc th tm) := hD0.self (sz := s.heap.size)
  generalize hAe : va_A (wM tE m0 m1 m2 m3 m4 m5 m6 tc th tm) s.heap.size = A at hD hG ⊢
  have hA : ∀ q : Nat, s.heap.size ≤ q → A q := fun q h => by rw [← hAe]; exact Or.inr h
  have hS : va_S A s.heap s.heap [] := va_S.rf
  have hP : va_P D vwCl (wM tE m0 m1 m2 m3 m4 m5 m6 tc th tm) s.heap := hP
  have hl := lv_entry ([.ref m0, .int x0]) (n := 5) (Nat.le_of_ble_eq_true rfl)
  rw [lg_entry_eq]
  generalize (lg_sl ([.ref m0, .int x0]) ++ List.replicate (5 - (lg_sl ([.ref m0, .int x0])).length) Slot.unset).toArray = ls at hl ⊢
  have hl : lv_has ls 5 [(0, .ref m0), (1, .int x0)] := hl
  refine lv_aload_n hx hb dX15_touched_0 rfl (lv_at hl 0 rfl) ?_
  refine lv_iload_n hx hb dX15_touched_1 rfl (lv_at hl 1 rfl) ?_
  have hPc := hP.sub (ws' := (wM tE m0 m1 m2 m3 m4 m5 m6 tc th tm)) [0, 1, 2, 3, 4, 5] rfl
  have hKc := hK.sub (tys' := [(tc, .char)]) [0] rfl
  have hDc := hD.sub (ws' := (wM tE m0 m1 m2 m3 m4 m5 m6 tc th tm)) [0, 1, 2, 3, 4, 5] (by decide) rfl
  have hFc := va_free (wc := (wM tE m0 m1 m2 m3 m4 m5 m6 tc th tm)) hD hS hA [0, 1, 2, 3, 4, 5] rfl
  refine gJ_i (isC := [0, 1, 2, 3, 4, 5]) (isR := []) (wr := []) (va_runV (As := [.int x0]) (rest := []) ⟨hx, hb, hml, hown, hta⟩ (c_X15_failsLot l ) (cwV 1 hta (gWV mw193 mw194 mw195 mw176 mw192) rfl rfl rfl (by decide +kernel) ⟨Nat.le_of_ble_eq_true rfl, Nat.le_of_ble_eq_true rfl⟩) ⟨gS_blind, va_recv hKc hPc (ci := 20) (q0 := 0) rfl rfl, fun U hU hW => ⟨rfl, by rw [hU], by rw [hU]; exact hPc, va_K.moved hW.alike hKc, hDc.weaken (fun _ _ _ _ => trivial), hG.call hS hU hW hFc⟩⟩ rfl rfl hl.1 rfl (lv_room (Nat.le_of_ble_eq_true rfl)) dX15_touched_2 ⟨Nat.le_of_ble_eq_true rfl, Nat.le_of_ble_eq_true rfl⟩) hP hD hS hK hFc rfl rfl (by decide) (by decide) (fun r1 u2 H locs h3 hP hD hS hK => ?_)
  obtain rfl : r1 = 1 := h3
  have hK : va_K D vwCl [(tc, .char)] s := hK
  have hP : va_P D vwCl (wM tE m0 m1 m2 m3 m4 m5 m6 tc 1 tm) H := hP
  have hD : va_D A (wM tE m0 m1 m2 m3 m4 m5 m6 tc 1 tm) := hD
  refine lv_if_eq (tgt := 10) hx hb dX15_touched_5 (by decide) (fun c4 => ?_) (fun c4 => ?_)
  · exact absurd c4 (by decide)
  · skip
    refine lv_iconst (v := 0) hx hb dX15_touched_8 (by decide) ?_
    have hP9 := hP.sub (ws' := (wM tE m0 m1 m2 m3 m4 m5 m6 tc 1 tm)) [0, 1, 2, 3, 4, 5] rfl
    have hD9 := hD.sub (ws' := (wM tE m0 m1 m2 m3 m4 m5 m6 tc 1 tm)) [0, 1, 2, 3, 4, 5] (by decide) rfl
    have hK9 := hK.sub (tys' := []) [] rfl
    refine W.widen (k := 0) (n := 0) (Nat.le_of_ble_eq_true rfl) (Nat.le_of_ble_eq_true rfl) ?_
    exact W.iret (v := 0) hx hb hr (fun t ht hWm => ⟨⟨_, (), rfl, rfl, ⟨by rw [ht]; exact hP9, va_K.moved hWm.alike hK9, hD9⟩⟩, hS.F ht⟩) hS.2.2 dX15_touched_9

set_option maxHeartbeats 4000000 in
set_option maxRecDepth 100000 in
theorem c_X15_lotsIn (l : Launch) {D : va_G} {tE sz : Nat} {m0 m1 m2 m3 m4 m5 m6 : Nat} {tc : ClassId} {th tm : Int32}  {x0 : Int32} : Met l ⟨"FoundrymarkModel", "lotsIn", "(I)I"⟩ (wsC ⟨"FoundrymarkModel", "lotsIn", "(I)I"⟩ cX15_lotsIn 5 (some .int)) ({ frames := 2, cells := 0, slots := 0, locals := 43 }) (va_Pc [.ref m0, .int x0] (gS tE D (wM tE m0 m1 m2 m3 m4 m5 m6 tc th tm) [(tc, .char)] sz)) (va_Qi ((fun (r : Int32) (_ : Unit) => r = 0)) (gO D (fun _ => (wM tE m0 m1 m2 m3 m4 m5 m6 tc 1 tm)) (fun _ => []) (va_A (wM tE m0 m1 m2 m3 m4 m5 m6 tc th tm) sz)) (va_A (wM tE m0 m1 m2 m3 m4 m5 m6 tc th tm) sz)) 0 0 (va_A (wM tE m0 m1 m2 m3 m4 m5 m6 tc th tm) sz) := by
  refine Met.ofW (cc := cX15_lotsIn) (maxL := 5) (ret := (some .int)) (by decide) rfl ?_
  intro p e s m args below meth c s₁ B hml hv
  obtain ⟨rfl, hsz, hP, hK, hD0, hG⟩ := hv
  have hx := B.exec
  have hb := B.bytes
  have hr := B.returns
  have hlocks := B.notSynchronized
  have hts := atoms_spec (ws := wsC ⟨"FoundrymarkModel", "lotsIn", "(I)I"⟩ cX15_lotsIn 5 (some .int)) B.pre
  have hta : ∀ w ∈ WA, w.before _ s = true := fun w h => hts w (List.mem_cons_of_mem _ h)
  have hown : s.vm.findClass "FoundrymarkModel" = some m.cls := findClass_of_methodNamed B.named
  subst hsz
  have hD : va_D (va_A (wM tE m0 m1 m2 m3 m4 m5 m6 tc th tm) s.heap.size) (wM tE m0 m1 m2 m3 m4 m5 m6 tc th tm) := hD0.self (sz := s.heap.size)
  generalize hAe : va_A (wM tE m0 m1 m2 m3 m4 m5 m6 tc th tm) s.heap.size = A at hD hG ⊢
  have hA : ∀ q : Nat, s.heap.size ≤ q → A q := fun q h => by rw [← hAe]; exact Or.inr h
  have hS : va_S A s.heap s.heap [] := va_S.rf
  have hP : va_P D vwCl (wM tE m0 m1 m2 m3 m4 m5 m6 tc th tm) s.heap := hP
  have hl := lv_entry ([.ref m0, .int x0]) (n := 5) (Nat.le_of_ble_eq_true rfl)
  rw [lg_entry_eq]
  generalize (lg_sl ([.ref m0, .int x0]) ++ List.replicate (5 - (lg_sl ([.ref m0, .int x0])).length) Slot.unset).toArray = ls at hl ⊢
  have hl : lv_has ls 5 [(0, .ref m0), (1, .int x0)] := hl
  refine lv_aload_n hx hb dX15_lotsIn_0 rfl (lv_at hl 0 rfl) ?_
  refine lv_iload_n hx hb dX15_lotsIn_1 rfl (lv_at hl 1 rfl) ?_
  have hPc := hP.sub (ws' := (wM tE m0 m1 m2 m3 m4 m5 m6 tc th tm)) [0, 1, 2, 3, 4, 5] rfl
  have hKc := hK.sub (tys' := [(tc, .char)]) [0] rfl
  have hDc := hD.sub (ws' := (wM tE m0 m1 m2 m3 m4 m5 m6 tc th tm)) [0, 1, 2, 3, 4, 5] (by decide) rfl
  have hFc := va_free (wc := (wM tE m0 m1 m2 m3 m4 m5 m6 tc th tm)) hD hS hA [0, 1, 2, 3, 4, 5] rfl
  refine gJ_i (isC := [0, 1, 2, 3, 4, 5]) (isR := []) (wr := []) (va_runV (As := [.int x0]) (rest := []) ⟨hx, hb, hml, hown, hta⟩ (c_X15_failsOrder l ) (cwV 1 hta (gWV mw197 mw198 mw199 mw176 mw196) rfl rfl rfl (by decide +kernel) ⟨Nat.le_of_ble_eq_true rfl, Nat.le_of_ble_eq_true rfl⟩) ⟨gS_blind, va_recv hKc hPc (ci := 20) (q0 := 0) rfl rfl, fun U hU hW => ⟨rfl, by rw [hU], by rw [hU]; exact hPc, va_K.moved hW.alike hKc, hDc.weaken (fun _ _ _ _ => trivial), hG.call hS hU hW hFc⟩⟩ rfl rfl hl.1 rfl (lv_room (Nat.le_of_ble_eq_true rfl)) dX15_lotsIn_2 ⟨Nat.le_of_ble_eq_true rfl, Nat.le_of_ble_eq_true rfl⟩) hP hD hS hK hFc rfl rfl (by decide) (by decide) (fun r1 u2 H locs h3 hP hD hS hK => ?_)
  obtain rfl : r1 = 1 := h3
  have hK : va_K D vwCl [(tc, .char)] s := hK
  have hP : va_P D vwCl (wM tE m0 m1 m2 m3 m4 m5 m6 tc 1 tm) H := hP
  have hD : va_D A (wM tE m0 m1 m2 m3 m4 m5 m6 tc 1 tm) := hD
  refine lv_if_eq (tgt := 10) hx hb dX15_lotsIn_5 (by decide) (fun c4 => ?_) (fun c4 => ?_)
  · exact absurd c4 (by decide)
  · skip
    refine lv_iconst (v := 0) hx hb dX15_lotsIn_8 (by decide) ?_
    have hP9 := hP.sub (ws' := (wM tE m0 m1 m2 m3 m4 m5 m6 tc 1 tm)) [0, 1, 2, 3, 4, 5] rfl
    have hD9 := hD.sub (ws' := (wM tE m0 m1 m2 m3 m4 m5 m6 tc 1 tm)) [0, 1, 2, 3, 4, 5] (by decide) rfl
    have hK9 := hK.sub (tys' := []) [] rfl
    refine W.widen (k := 0) (n := 0) (Nat.le_of_ble_eq_true rfl) (Nat.le_of_ble_eq_true rfl) ?_
    exact W.iret (v := 0) hx hb hr (fun t ht hWm => ⟨⟨_, (), rfl, rfl, ⟨by rw [ht]; exact hP9, va_K.moved hWm.alike hK9, hD9⟩⟩, hS.F ht⟩) hS.2.2 dX15_lotsIn_9

set_option maxHeartbeats 4000000 in
set_option maxRecDepth 100000 in
theorem c_X15_deliveredCost (l : Launch) {D : va_G} {tE sz : Nat} {m0 m1 m2 m3 m4 m5 m6 : Nat} {tc : ClassId} {th tm : Int32}  {x0 : Int32} : Met l ⟨"FoundrymarkModel", "deliveredCost", "(I)J"⟩ (wsC ⟨"FoundrymarkModel", "deliveredCost", "(I)J"⟩ cX15_deliveredCost 2 (some .long)) ({ frames := 2, cells := 0, slots := 0, locals := 43 }) (va_Pc [.ref m0, .int x0] (gS tE D (wM tE m0 m1 m2 m3 m4 m5 m6 tc th tm) [(tc, .char)] sz)) (va_Ql ((fun (r : Int64) (_ : Unit) => r = 0)) (gO D (fun _ => (wM tE m0 m1 m2 m3 m4 m5 m6 tc 1 tm)) (fun _ => []) (va_A (wM tE m0 m1 m2 m3 m4 m5 m6 tc th tm) sz)) (va_A (wM tE m0 m1 m2 m3 m4 m5 m6 tc th tm) sz)) 0 0 (va_A (wM tE m0 m1 m2 m3 m4 m5 m6 tc th tm) sz) := by
  refine Met.ofW (cc := cX15_deliveredCost) (maxL := 2) (ret := (some .long)) (by decide) rfl ?_
  intro p e s m args below meth c s₁ B hml hv
  obtain ⟨rfl, hsz, hP, hK, hD0, hG⟩ := hv
  have hx := B.exec
  have hb := B.bytes
  have hr := B.returns
  have hlocks := B.notSynchronized
  have hts := atoms_spec (ws := wsC ⟨"FoundrymarkModel", "deliveredCost", "(I)J"⟩ cX15_deliveredCost 2 (some .long)) B.pre
  have hta : ∀ w ∈ WA, w.before _ s = true := fun w h => hts w (List.mem_cons_of_mem _ h)
  have hown : s.vm.findClass "FoundrymarkModel" = some m.cls := findClass_of_methodNamed B.named
  subst hsz
  have hD : va_D (va_A (wM tE m0 m1 m2 m3 m4 m5 m6 tc th tm) s.heap.size) (wM tE m0 m1 m2 m3 m4 m5 m6 tc th tm) := hD0.self (sz := s.heap.size)
  generalize hAe : va_A (wM tE m0 m1 m2 m3 m4 m5 m6 tc th tm) s.heap.size = A at hD hG ⊢
  have hA : ∀ q : Nat, s.heap.size ≤ q → A q := fun q h => by rw [← hAe]; exact Or.inr h
  have hS : va_S A s.heap s.heap [] := va_S.rf
  have hP : va_P D vwCl (wM tE m0 m1 m2 m3 m4 m5 m6 tc th tm) s.heap := hP
  have hl := lv_entry ([.ref m0, .int x0]) (n := 2) (Nat.le_of_ble_eq_true rfl)
  rw [lg_entry_eq]
  generalize (lg_sl ([.ref m0, .int x0]) ++ List.replicate (2 - (lg_sl ([.ref m0, .int x0])).length) Slot.unset).toArray = ls at hl ⊢
  have hl : lv_has ls 2 [(0, .ref m0), (1, .int x0)] := hl
  refine lv_aload_n hx hb dX15_deliveredCost_0 rfl (lv_at hl 0 rfl) ?_
  refine lv_iload_n hx hb dX15_deliveredCost_1 rfl (lv_at hl 1 rfl) ?_
  have hPc := hP.sub (ws' := (wM tE m0 m1 m2 m3 m4 m5 m6 tc th tm)) [0, 1, 2, 3, 4, 5] rfl
  have hKc := hK.sub (tys' := [(tc, .char)]) [0] rfl
  have hDc := hD.sub (ws' := (wM tE m0 m1 m2 m3 m4 m5 m6 tc th tm)) [0, 1, 2, 3, 4, 5] (by decide) rfl
  have hFc := va_free (wc := (wM tE m0 m1 m2 m3 m4 m5 m6 tc th tm)) hD hS hA [0, 1, 2, 3, 4, 5] rfl
  refine gJ_i (isC := [0, 1, 2, 3, 4, 5]) (isR := []) (wr := []) (va_runV (As := [.int x0]) (rest := []) ⟨hx, hb, hml, hown, hta⟩ (c_X15_failsOrder l ) (cwV 1 hta (gWV mw197 mw198 mw199 mw176 mw196) rfl rfl rfl (by decide +kernel) ⟨Nat.le_of_ble_eq_true rfl, Nat.le_of_ble_eq_true rfl⟩) ⟨gS_blind, va_recv hKc hPc (ci := 20) (q0 := 0) rfl rfl, fun U hU hW => ⟨rfl, by rw [hU], by rw [hU]; exact hPc, va_K.moved hW.alike hKc, hDc.weaken (fun _ _ _ _ => trivial), hG.call hS hU hW hFc⟩⟩ rfl rfl hl.1 rfl (lv_room (Nat.le_of_ble_eq_true rfl)) dX15_deliveredCost_2 ⟨Nat.le_of_ble_eq_true rfl, Nat.le_of_ble_eq_true rfl⟩) hP hD hS hK hFc rfl rfl (by decide) (by decide) (fun r1 u2 H locs h3 hP hD hS hK => ?_)
  obtain rfl : r1 = 1 := h3
  have hK : va_K D vwCl [(tc, .char)] s := hK
  have hP : va_P D vwCl (wM tE m0 m1 m2 m3 m4 m5 m6 tc 1 tm) H := hP
  have hD : va_D A (wM tE m0 m1 m2 m3 m4 m5 m6 tc 1 tm) := hD
  refine lv_if_ne (tgt := 39) hx hb dX15_deliveredCost_5 (by decide) (fun c4 => ?_) (fun c4 => ?_)
  · skip
    refine lv_lconst (v := 0) hx hb dX15_deliveredCost_39 (by decide) ?_
    refine lv_goto (tgt := 57) hx hb dX15_deliveredCost_40 (by decide) ?_
    have hP9 := hP.sub (ws' := (wM tE m0 m1 m2 m3 m4 m5 m6 tc 1 tm)) [0, 1, 2, 3, 4, 5] rfl
    have hD9 := hD.sub (ws' := (wM tE m0 m1 m2 m3 m4 m5 m6 tc 1 tm)) [0, 1, 2, 3, 4, 5] (by decide) rfl
    have hK9 := hK.sub (tys' := []) [] rfl
    refine W.widen (k := 0) (n := 0) (Nat.le_of_ble_eq_true rfl) (Nat.le_of_ble_eq_true rfl) ?_
    exact W.lret (v := 0) hx hb hr (fun t ht hWm => ⟨⟨_, (), rfl, rfl, ⟨by rw [ht]; exact hP9, va_K.moved hWm.alike hK9, hD9⟩⟩, hS.F ht⟩) hS.2.2 dX15_deliveredCost_57
  · exact absurd c4 (by decide)
