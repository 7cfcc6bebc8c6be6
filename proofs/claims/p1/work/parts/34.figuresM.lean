set_option maxHeartbeats 4000000 in
set_option maxRecDepth 100000 in
theorem c_X15_lots (l : Launch) {D : va_G} {tE sz : Nat} {m0 m1 m2 m3 m4 m5 m6 : Nat} {tc : ClassId} {th tm : Int32}   : Met l ⟨"FoundrymarkModel", "lots", "()I"⟩ (wsC ⟨"FoundrymarkModel", "lots", "()I"⟩ cX15_lots 1 (some .int)) ({ frames := 1, cells := 0, slots := 0, locals := 20 }) (va_Pc [.ref m0] (gS tE D (wM tE m0 m1 m2 m3 m4 m5 m6 tc th tm) [(tc, .char)] sz)) (va_Qi ((fun (r : Int32) (_ : Unit) => r = 0)) (gO D (fun _ => (wM tE m0 m1 m2 m3 m4 m5 m6 tc 0 tm)) (fun _ => []) (va_A (wM tE m0 m1 m2 m3 m4 m5 m6 tc th tm) sz)) (va_A (wM tE m0 m1 m2 m3 m4 m5 m6 tc th tm) sz)) 0 0 (va_A (wM tE m0 m1 m2 m3 m4 m5 m6 tc th tm) sz) := by
  refine Met.ofW (cc := cX15_lots) (maxL := 1) (ret := (some .int)) (by decide) rfl ?_
  intro p e s m args below meth c s₁ B hml hv
  obtain ⟨rfl, hsz, hP, hK, hD0, hG⟩ := hv
  have hx := B.exec
  have hb := B.bytes
  have hr := B.returns
  have hlocks := B.notSynchronized
  have hts := atoms_spec (ws := wsC ⟨"FoundrymarkModel", "lots", "()I"⟩ cX15_lots 1 (some .int)) B.pre
  have hta : ∀ w ∈ WA, w.before _ s = true := fun w h => hts w (List.mem_cons_of_mem _ h)
  have hown : s.vm.findClass "FoundrymarkModel" = some m.cls := findClass_of_methodNamed B.named
  subst hsz
  have hD : va_D (va_A (wM tE m0 m1 m2 m3 m4 m5 m6 tc th tm) s.heap.size) (wM tE m0 m1 m2 m3 m4 m5 m6 tc th tm) := hD0.self (sz := s.heap.size)
  generalize hAe : va_A (wM tE m0 m1 m2 m3 m4 m5 m6 tc th tm) s.heap.size = A at hD hG ⊢
  have hA : ∀ q : Nat, s.heap.size ≤ q → A q := fun q h => by rw [← hAe]; exact Or.inr h
  have hS : va_S A s.heap s.heap [] := va_S.rf
  have hP : va_P D vwCl (wM tE m0 m1 m2 m3 m4 m5 m6 tc th tm) s.heap := hP
  have hl := lv_entry ([.ref m0]) (n := 1) (Nat.le_of_ble_eq_true rfl)
  rw [lg_entry_eq]
  generalize (lg_sl ([.ref m0]) ++ List.replicate (1 - (lg_sl ([.ref m0])).length) Slot.unset).toArray = ls at hl ⊢
  have hl : lv_has ls 1 [(0, .ref m0)] := hl
  refine lv_aload_n hx hb dX15_lots_0 rfl (lv_at hl 0 rfl) ?_
  refine lv_iconst (v := 0) hx hb dX15_lots_1 (by decide) ?_
  refine va_put (D := D) (ci := 20) (v := .int 0) (ty := .int) (C := RX15) (T := TX15) (N := 9) hx hb hta iwX15 tyX15 tyX15_ok nmX15 hown hK hP hD hS 0 rfl rfl 0 (by decide) (hta _ mw167) (fun _ h9 => h9) rfl (by decide +kernel) rfl rfl (Nat.le_of_ble_eq_true rfl) dX15_lots_2 (fun H locs hP hD hS => ?_)
  have hP : va_P D vwCl (wM tE m0 m1 m2 m3 m4 m5 m6 tc 0 tm) H := hP
  have hD : va_D A (wM tE m0 m1 m2 m3 m4 m5 m6 tc 0 tm) := hD
  refine lv_aload_n hx hb dX15_lots_5 rfl (lv_at hl 0 rfl) ?_
  refine va_get (D := D) (ci := 20) (v := .ref m3) (C := RX15) (T := TX15) (N := 9) hx hb hta iwX15 hown hK hP 0 rfl rfl 3 (by decide) (hta _ mw178) (fun _ h9 => h9) rfl dX15_lots_6 ?_
  have hPc := hP.sub (ws' := [(m3, .inr (4, [.int 0, .ref tE, .int 0]))]) [3] rfl
  have hKc := hK.sub (tys' := []) [] rfl
  refine vp_callSi (W.runV (As := []) (rest := []) ⟨hx, hb, hml, hown, hta⟩ (c_AL_size l ) (cwV 0 hta (gWV mw170 mw171 mw172 mw157 mw169) rfl rfl rfl (by decide +kernel) ⟨Nat.le_of_ble_eq_true rfl, Nat.le_of_ble_eq_true rfl⟩) ⟨gR_blind, va_recv hKc hPc (ci := 4) (q0 := 0) rfl rfl, fun U hU hW => ⟨rfl, by rw [hU]; exact hPc, va_K.moved hW.alike hKc⟩⟩ rfl rfl hl.1 rfl (lv_room (Nat.le_of_ble_eq_true rfl)) dX15_lots_9 ⟨Nat.le_of_ble_eq_true rfl, Nat.le_of_ble_eq_true rfl⟩) (fun r1 h2 => ?_)
  obtain rfl : r1 = 0 := h2
  have hP9 := hP.sub (ws' := (wM tE m0 m1 m2 m3 m4 m5 m6 tc 0 tm)) [0, 1, 2, 3, 4, 5] rfl
  have hD9 := hD.sub (ws' := (wM tE m0 m1 m2 m3 m4 m5 m6 tc 0 tm)) [0, 1, 2, 3, 4, 5] (by decide) rfl
  have hK9 := hK.sub (tys' := []) [] rfl
  refine W.widen (k := 0) (n := 0) (Nat.le_of_ble_eq_true rfl) (Nat.le_of_ble_eq_true rfl) ?_
  exact W.iret (v := 0) hx hb hr (fun t ht hWm => ⟨⟨_, (), rfl, rfl, ⟨by rw [ht]; exact hP9, va_K.moved hWm.alike hK9, hD9⟩⟩, hS.F ht⟩) hS.2.2 dX15_lots_12

set_option maxHeartbeats 4000000 in
set_option maxRecDepth 100000 in
theorem c_X15_isSound (l : Launch) {D : va_G} {tE sz : Nat} {m0 m1 m2 m3 m4 m5 m6 : Nat} {tc : ClassId} {th tm : Int32}   : Met l ⟨"FoundrymarkModel", "isSound", "()Z"⟩ (wsC ⟨"FoundrymarkModel", "isSound", "()Z"⟩ cX15_isSound 1 (some .boolean)) ({ frames := 0, cells := 0, slots := 0, locals := 0 }) (va_Pc [.ref m0] (gS tE D (wM tE m0 m1 m2 m3 m4 m5 m6 tc th tm) [(tc, .char)] sz)) (va_Qi ((fun (r : Int32) (_ : Unit) => r = 1)) (gO D (fun _ => (wM tE m0 m1 m2 m3 m4 m5 m6 tc 0 tm)) (fun _ => []) (va_A (wM tE m0 m1 m2 m3 m4 m5 m6 tc th tm) sz)) (va_A (wM tE m0 m1 m2 m3 m4 m5 m6 tc th tm) sz)) 0 0 (va_A (wM tE m0 m1 m2 m3 m4 m5 m6 tc th tm) sz) := by
  refine Met.ofW (cc := cX15_isSound) (maxL := 1) (ret := (some .boolean)) (by decide) rfl ?_
  intro p e s m args below meth c s₁ B hml hv
  obtain ⟨rfl, hsz, hP, hK, hD0, hG⟩ := hv
  have hx := B.exec
  have hb := B.bytes
  have hr := B.returns
  have hlocks := B.notSynchronized
  have hts := atoms_spec (ws := wsC ⟨"FoundrymarkModel", "isSound", "()Z"⟩ cX15_isSound 1 (some .boolean)) B.pre
  have hta : ∀ w ∈ WA, w.before _ s = true := fun w h => hts w (List.mem_cons_of_mem _ h)
  have hown : s.vm.findClass "FoundrymarkModel" = some m.cls := findClass_of_methodNamed B.named
  subst hsz
  have hD : va_D (va_A (wM tE m0 m1 m2 m3 m4 m5 m6 tc th tm) s.heap.size) (wM tE m0 m1 m2 m3 m4 m5 m6 tc th tm) := hD0.self (sz := s.heap.size)
  generalize hAe : va_A (wM tE m0 m1 m2 m3 m4 m5 m6 tc th tm) s.heap.size = A at hD hG ⊢
  have hA : ∀ q : Nat, s.heap.size ≤ q → A q := fun q h => by rw [← hAe]; exact Or.inr h
  have hS : va_S A s.heap s.heap [] := va_S.rf
  have hP : va_P D vwCl (wM tE m0 m1 m2 m3 m4 m5 m6 tc th tm) s.heap := hP
  have hl := lv_entry ([.ref m0]) (n := 1) (Nat.le_of_ble_eq_true rfl)
  rw [lg_entry_eq]
  generalize (lg_sl ([.ref m0]) ++ List.replicate (1 - (lg_sl ([.ref m0])).length) Slot.unset).toArray = ls at hl ⊢
  have hl : lv_has ls 1 [(0, .ref m0)] := hl
  refine lv_aload_n hx hb dX15_isSound_0 rfl (lv_at hl 0 rfl) ?_
  refine lv_iconst (v := 0) hx hb dX15_isSound_1 (by decide) ?_
  refine va_put (D := D) (ci := 20) (v := .int 0) (ty := .int) (C := RX15) (T := TX15) (N := 9) hx hb hta iwX15 tyX15 tyX15_ok nmX15 hown hK hP hD hS 0 rfl rfl 0 (by decide) (hta _ mw167) (fun _ h9 => h9) rfl (by decide +kernel) rfl rfl (Nat.le_of_ble_eq_true rfl) dX15_isSound_2 (fun H locs hP hD hS => ?_)
  have hP : va_P D vwCl (wM tE m0 m1 m2 m3 m4 m5 m6 tc 0 tm) H := hP
  have hD : va_D A (wM tE m0 m1 m2 m3 m4 m5 m6 tc 0 tm) := hD
  refine lv_iconst (v := 1) hx hb dX15_isSound_5 (by decide) ?_
  have hP9 := hP.sub (ws' := (wM tE m0 m1 m2 m3 m4 m5 m6 tc 0 tm)) [0, 1, 2, 3, 4, 5] rfl
  have hD9 := hD.sub (ws' := (wM tE m0 m1 m2 m3 m4 m5 m6 tc 0 tm)) [0, 1, 2, 3, 4, 5] (by decide) rfl
  have hK9 := hK.sub (tys' := []) [] rfl
  refine W.widen (k := 0) (n := 0) (Nat.le_of_ble_eq_true rfl) (Nat.le_of_ble_eq_true rfl) ?_
  exact W.zret (v := 1) (ty := .boolean) hx hb hr (by decide) (fun t ht hWm => ⟨⟨_, (), rfl, rfl, ⟨by rw [ht]; exact hP9, va_K.moved hWm.alike hK9, hD9⟩⟩, hS.F ht⟩) hS.2.2 dX15_isSound_6

set_option maxHeartbeats 4000000 in
set_option maxRecDepth 100000 in
theorem c_X15_rule_0 (l : Launch) {D : va_G} {tE sz : Nat} {m0 m1 m2 m3 m4 m5 m6 : Nat} {tc : ClassId} {th tm : Int32}   : Met l ⟨"FoundrymarkModel", "rule", "(I)C"⟩ (wsC ⟨"FoundrymarkModel", "rule", "(I)C"⟩ cX15_rule 2 (some .char)) ({ frames := 1, cells := 0, slots := 0, locals := 22 }) (va_Pc [.ref m0, .int 0] (gS tE D (wM tE m0 m1 m2 m3 m4 m5 m6 tc th tm) [(tc, .char)] sz)) (va_Qi ((fun (r : Int32) (_ : Unit) => r = 110)) (gO D (fun _ => (wM tE m0 m1 m2 m3 m4 m5 m6 tc 0 tm)) (fun _ => []) (va_A (wM tE m0 m1 m2 m3 m4 m5 m6 tc th tm) sz)) (va_A (wM tE m0 m1 m2 m3 m4 m5 m6 tc th tm) sz)) 0 0 (va_A (wM tE m0 m1 m2 m3 m4 m5 m6 tc th tm) sz) := by
  refine Met.ofW (cc := cX15_rule) (maxL := 2) (ret := (some .char)) (by decide) rfl ?_
  intro p e s m args below meth c s₁ B hml hv
  obtain ⟨rfl, hsz, hP, hK, hD0, hG⟩ := hv
  have hx := B.exec
  have hb := B.bytes
  have hr := B.returns
  have hlocks := B.notSynchronized
  have hts := atoms_spec (ws := wsC ⟨"FoundrymarkModel", "rule", "(I)C"⟩ cX15_rule 2 (some .char)) B.pre
  have hta : ∀ w ∈ WA, w.before _ s = true := fun w h => hts w (List.mem_cons_of_mem _ h)
  have hown : s.vm.findClass "FoundrymarkModel" = some m.cls := findClass_of_methodNamed B.named
  subst hsz
  have hD : va_D (va_A (wM tE m0 m1 m2 m3 m4 m5 m6 tc th tm) s.heap.size) (wM tE m0 m1 m2 m3 m4 m5 m6 tc th tm) := hD0.self (sz := s.heap.size)
  generalize hAe : va_A (wM tE m0 m1 m2 m3 m4 m5 m6 tc th tm) s.heap.size = A at hD hG ⊢
  have hA : ∀ q : Nat, s.heap.size ≤ q → A q := fun q h => by rw [← hAe]; exact Or.inr h
  have hS : va_S A s.heap s.heap [] := va_S.rf
  have hP : va_P D vwCl (wM tE m0 m1 m2 m3 m4 m5 m6 tc th tm) s.heap := hP
  have hl := lv_entry ([.ref m0, .int 0]) (n := 2) (Nat.le_of_ble_eq_true rfl)
  rw [lg_entry_eq]
  generalize (lg_sl ([.ref m0, .int 0]) ++ List.replicate (2 - (lg_sl ([.ref m0, .int 0])).length) Slot.unset).toArray = ls at hl ⊢
  have hl : lv_has ls 2 [(0, .ref m0), (1, .int 0)] := hl
  refine lv_aload_n hx hb dX15_rule_0 rfl (lv_at hl 0 rfl) ?_
  refine lv_iload_n hx hb dX15_rule_1 rfl (lv_at hl 1 rfl) ?_
  refine lv_iconst (v := 0) hx hb dX15_rule_2 (by decide) ?_
  refine lv_iconst (v := 3) hx hb dX15_rule_3 (by decide) ?_
  refine vp_callSi (W.runS (As := [.int 0, .int 0, .int 3]) (rest := [.ref m0]) ⟨hx, hb, hml, hown, hta⟩ (c_X15_in l 0 0 3) (va_cwS 3 hta (gWS mw174 mw175 mw176 mw173) rfl rfl rfl (by decide +kernel) ⟨Nat.le_of_ble_eq_true rfl, Nat.le_of_ble_eq_true rfl⟩) ⟨fun a U g mk q => ⟨q.1, trivial⟩, fun U hU hW => ⟨rfl, trivial⟩⟩ rfl rfl hl.1 rfl (lv_room (Nat.le_of_ble_eq_true rfl)) dX15_rule_4 ⟨Nat.le_of_ble_eq_true rfl, Nat.le_of_ble_eq_true rfl⟩) (fun r1 h2 => ?_)
  obtain rfl : r1 = 1 := h2.trans (by decide)
  refine lv_if_eq (tgt := 14) hx hb dX15_rule_7 (by decide) (fun c3 => ?_) (fun c3 => ?_)
  · exact absurd c3 (by decide)
  · skip
    refine lv_iconst (v := 0) hx hb dX15_rule_10 (by decide) ?_
    refine lv_goto (tgt := 15) hx hb dX15_rule_11 (by decide) ?_
    have hPc := hP.sub (ws' := (wM tE m0 m1 m2 m3 m4 m5 m6 tc th tm)) [0, 1, 2, 3, 4, 5] rfl
    have hKc := hK.sub (tys' := [(tc, .char)]) [0] rfl
    have hDc := hD.sub (ws' := (wM tE m0 m1 m2 m3 m4 m5 m6 tc th tm)) [0, 1, 2, 3, 4, 5] (by decide) rfl
    have hFc := va_free (wc := (wM tE m0 m1 m2 m3 m4 m5 m6 tc th tm)) hD hS hA [0, 1, 2, 3, 4, 5] rfl
    refine gJ_i (isC := [0, 1, 2, 3, 4, 5]) (isR := []) (wr := []) (va_runV (As := [.int 0]) (rest := []) ⟨hx, hb, hml, hown, hta⟩ (c_X15_fails_0 l ) (cwV 1 hta (gWV mw180 mw181 mw182 mw176 mw179) rfl rfl rfl (by decide +kernel) ⟨Nat.le_of_ble_eq_true rfl, Nat.le_of_ble_eq_true rfl⟩) ⟨gS_blind, va_recv hKc hPc (ci := 20) (q0 := 0) rfl rfl, fun U hU hW => ⟨rfl, by rw [hU], by rw [hU]; exact hPc, va_K.moved hW.alike hKc, hDc.weaken (fun _ _ _ _ => trivial), hG.call hS hU hW hFc⟩⟩ rfl rfl hl.1 rfl (lv_room (Nat.le_of_ble_eq_true rfl)) dX15_rule_15 ⟨Nat.le_of_ble_eq_true rfl, Nat.le_of_ble_eq_true rfl⟩) hP hD hS hK hFc rfl rfl (by decide) (by decide) (fun r4 u5 H locs h6 hP hD hS hK => ?_)
    obtain rfl : r4 = 0 := h6
    have hK : va_K D vwCl [(tc, .char)] s := hK
    have hP : va_P D vwCl (wM tE m0 m1 m2 m3 m4 m5 m6 tc 0 tm) H := hP
    have hD : va_D A (wM tE m0 m1 m2 m3 m4 m5 m6 tc 0 tm) := hD
    refine lv_if_eq (tgt := 25) hx hb dX15_rule_18 (by decide) (fun c7 => ?_) (fun c7 => ?_)
    · skip
      refine lv_aload_n hx hb dX15_rule_25 rfl (lv_at hl 0 rfl) ?_
      refine va_get (D := D) (ci := 20) (v := .ref m5) (C := RX15) (T := TX15) (N := 9) hx hb hta iwX15 hown hK hP 0 rfl rfl 6 (by decide) (hta _ mw204) (fun _ h9 => h9) rfl dX15_rule_26 ?_
      refine lv_iload_n hx hb dX15_rule_29 rfl (lv_at hl 1 rfl) ?_
      refine va_cald hx hb hK hP 5 0 rfl rfl (i := 0) (by unfold vp_in; decide) dX15_rule_30 ?_
      refine W.eq (g2 := F0 m 31 ls [.int 110]) rfl ?_
      have hP9 := hP.sub (ws' := (wM tE m0 m1 m2 m3 m4 m5 m6 tc 0 tm)) [0, 1, 2, 3, 4, 5] rfl
      have hD9 := hD.sub (ws' := (wM tE m0 m1 m2 m3 m4 m5 m6 tc 0 tm)) [0, 1, 2, 3, 4, 5] (by decide) rfl
      have hK9 := hK.sub (tys' := []) [] rfl
      refine W.widen (k := 0) (n := 0) (Nat.le_of_ble_eq_true rfl) (Nat.le_of_ble_eq_true rfl) ?_
      exact W.zret (v := 110) (ty := .char) hx hb hr (by decide) (fun t ht hWm => ⟨⟨_, (), rfl, rfl, ⟨by rw [ht]; exact hP9, va_K.moved hWm.alike hK9, hD9⟩⟩, hS.F ht⟩) hS.2.2 dX15_rule_31
    · exact absurd (by decide) c7

set_option maxHeartbeats 4000000 in
set_option maxRecDepth 100000 in
theorem c_X15_rule_1 (l : Launch) {D : va_G} {tE sz : Nat} {m0 m1 m2 m3 m4 m5 m6 : Nat} {tc : ClassId} {th tm : Int32}   : Met l ⟨"FoundrymarkModel", "rule", "(I)C"⟩ (wsC ⟨"FoundrymarkModel", "rule", "(I)C"⟩ cX15_rule 2 (some .char)) ({ frames := 1, cells := 0, slots := 0, locals := 22 }) (va_Pc [.ref m0, .int 1] (gS tE D (wM tE m0 m1 m2 m3 m4 m5 m6 tc th tm) [(tc, .char)] sz)) (va_Qi ((fun (r : Int32) (_ : Unit) => r = 110)) (gO D (fun _ => (wM tE m0 m1 m2 m3 m4 m5 m6 tc 0 tm)) (fun _ => []) (va_A (wM tE m0 m1 m2 m3 m4 m5 m6 tc th tm) sz)) (va_A (wM tE m0 m1 m2 m3 m4 m5 m6 tc th tm) sz)) 0 0 (va_A (wM tE m0 m1 m2 m3 m4 m5 m6 tc th tm) sz) := by
  refine Met.ofW (cc := cX15_rule) (maxL := 2) (ret := (some .char)) (by decide) rfl ?_
  intro p e s m args below meth c s₁ B hml hv
  obtain ⟨rfl, hsz, hP, hK, hD0, hG⟩ := hv
  have hx := B.exec
  have hb := B.bytes
  have hr := B.returns
  have hlocks := B.notSynchronized
  have hts := atoms_spec (ws := wsC ⟨"FoundrymarkModel", "rule", "(I)C"⟩ cX15_rule 2 (some .char)) B.pre
  have hta : ∀ w ∈ WA, w.before _ s = true := fun w h => hts w (List.mem_cons_of_mem _ h)
  have hown : s.vm.findClass "FoundrymarkModel" = some m.cls := findClass_of_methodNamed B.named
  subst hsz
  have hD : va_D (va_A (wM tE m0 m1 m2 m3 m4 m5 m6 tc th tm) s.heap.size) (wM tE m0 m1 m2 m3 m4 m5 m6 tc th tm) := hD0.self (sz := s.heap.size)
  generalize hAe : va_A (wM tE m0 m1 m2 m3 m4 m5 m6 tc th tm) s.heap.size = A at hD hG ⊢
  have hA : ∀ q : Nat, s.heap.size ≤ q → A q := fun q h => by rw [← hAe]; exact Or.inr h
  have hS : va_S A s.heap s.heap [] := va_S.rf
  have hP : va_P D vwCl (wM tE m0 m1 m2 m3 m4 m5 m6 tc th tm) s.heap := hP
  have hl := lv_entry ([.ref m0, .int 1]) (n := 2) (Nat.le_of_ble_eq_true rfl)
  rw [lg_entry_eq]
  generalize (lg_sl ([.ref m0, .int 1]) ++ List.replicate (2 - (lg_sl ([.ref m0, .int 1])).length) Slot.unset).toArray = ls at hl ⊢
  have hl : lv_has ls 2 [(0, .ref m0), (1, .int 1)] := hl
  refine lv_aload_n hx hb dX15_rule_0 rfl (lv_at hl 0 rfl) ?_
  refine lv_iload_n hx hb dX15_rule_1 rfl (lv_at hl 1 rfl) ?_
  refine lv_iconst (v := 0) hx hb dX15_rule_2 (by decide) ?_
  refine lv_iconst (v := 3) hx hb dX15_rule_3 (by decide) ?_
  refine vp_callSi (W.runS (As := [.int 1, .int 0, .int 3]) (rest := [.ref m0]) ⟨hx, hb, hml, hown, hta⟩ (c_X15_in l 1 0 3) (va_cwS 3 hta (gWS mw174 mw175 mw176 mw173) rfl rfl rfl (by decide +kernel) ⟨Nat.le_of_ble_eq_true rfl, Nat.le_of_ble_eq_true rfl⟩) ⟨fun a U g mk q => ⟨q.1, trivial⟩, fun U hU hW => ⟨rfl, trivial⟩⟩ rfl rfl hl.1 rfl (lv_room (Nat.le_of_ble_eq_true rfl)) dX15_rule_4 ⟨Nat.le_of_ble_eq_true rfl, Nat.le_of_ble_eq_true rfl⟩) (fun r1 h2 => ?_)
  obtain rfl : r1 = 1 := h2.trans (by decide)
  refine lv_if_eq (tgt := 14) hx hb dX15_rule_7 (by decide) (fun c3 => ?_) (fun c3 => ?_)
  · exact absurd c3 (by decide)
  · skip
    refine lv_iconst (v := 0) hx hb dX15_rule_10 (by decide) ?_
    refine lv_goto (tgt := 15) hx hb dX15_rule_11 (by decide) ?_
    have hPc := hP.sub (ws' := (wM tE m0 m1 m2 m3 m4 m5 m6 tc th tm)) [0, 1, 2, 3, 4, 5] rfl
    have hKc := hK.sub (tys' := [(tc, .char)]) [0] rfl
    have hDc := hD.sub (ws' := (wM tE m0 m1 m2 m3 m4 m5 m6 tc th tm)) [0, 1, 2, 3, 4, 5] (by decide) rfl
    have hFc := va_free (wc := (wM tE m0 m1 m2 m3 m4 m5 m6 tc th tm)) hD hS hA [0, 1, 2, 3, 4, 5] rfl
    refine gJ_i (isC := [0, 1, 2, 3, 4, 5]) (isR := []) (wr := []) (va_runV (As := [.int 0]) (rest := []) ⟨hx, hb, hml, hown, hta⟩ (c_X15_fails_0 l ) (cwV 1 hta (gWV mw180 mw181 mw182 mw176 mw179) rfl rfl rfl (by decide +kernel) ⟨Nat.le_of_ble_eq_true rfl, Nat.le_of_ble_eq_true rfl⟩) ⟨gS_blind, va_recv hKc hPc (ci := 20) (q0 := 0) rfl rfl, fun U hU hW => ⟨rfl, by rw [hU], by rw [hU]; exact hPc, va_K.moved hW.alike hKc, hDc.weaken (fun _ _ _ _ => trivial), hG.call hS hU hW hFc⟩⟩ rfl rfl hl.1 rfl (lv_room (Nat.le_of_ble_eq_true rfl)) dX15_rule_15 ⟨Nat.le_of_ble_eq_true rfl, Nat.le_of_ble_eq_true rfl⟩) hP hD hS hK hFc rfl rfl (by decide) (by decide) (fun r4 u5 H locs h6 hP hD hS hK => ?_)
    obtain rfl : r4 = 0 := h6
    have hK : va_K D vwCl [(tc, .char)] s := hK
    have hP : va_P D vwCl (wM tE m0 m1 m2 m3 m4 m5 m6 tc 0 tm) H := hP
    have hD : va_D A (wM tE m0 m1 m2 m3 m4 m5 m6 tc 0 tm) := hD
    refine lv_if_eq (tgt := 25) hx hb dX15_rule_18 (by decide) (fun c7 => ?_) (fun c7 => ?_)
    · skip
      refine lv_aload_n hx hb dX15_rule_25 rfl (lv_at hl 0 rfl) ?_
      refine va_get (D := D) (ci := 20) (v := .ref m5) (C := RX15) (T := TX15) (N := 9) hx hb hta iwX15 hown hK hP 0 rfl rfl 6 (by decide) (hta _ mw204) (fun _ h9 => h9) rfl dX15_rule_26 ?_
      refine lv_iload_n hx hb dX15_rule_29 rfl (lv_at hl 1 rfl) ?_
      refine va_cald hx hb hK hP 5 0 rfl rfl (i := 1) (by unfold vp_in; decide) dX15_rule_30 ?_
      refine W.eq (g2 := F0 m 31 ls [.int 110]) rfl ?_
      have hP9 := hP.sub (ws' := (wM tE m0 m1 m2 m3 m4 m5 m6 tc 0 tm)) [0, 1, 2, 3, 4, 5] rfl
      have hD9 := hD.sub (ws' := (wM tE m0 m1 m2 m3 m4 m5 m6 tc 0 tm)) [0, 1, 2, 3, 4, 5] (by decide) rfl
      have hK9 := hK.sub (tys' := []) [] rfl
      refine W.widen (k := 0) (n := 0) (Nat.le_of_ble_eq_true rfl) (Nat.le_of_ble_eq_true rfl) ?_
      exact W.zret (v := 110) (ty := .char) hx hb hr (by decide) (fun t ht hWm => ⟨⟨_, (), rfl, rfl, ⟨by rw [ht]; exact hP9, va_K.moved hWm.alike hK9, hD9⟩⟩, hS.F ht⟩) hS.2.2 dX15_rule_31
    · exact absurd (by decide) c7

set_option maxHeartbeats 4000000 in
set_option maxRecDepth 100000 in
theorem c_X15_rule_2 (l : Launch) {D : va_G} {tE sz : Nat} {m0 m1 m2 m3 m4 m5 m6 : Nat} {tc : ClassId} {th tm : Int32}   : Met l ⟨"FoundrymarkModel", "rule", "(I)C"⟩ (wsC ⟨"FoundrymarkModel", "rule", "(I)C"⟩ cX15_rule 2 (some .char)) ({ frames := 1, cells := 0, slots := 0, locals := 22 }) (va_Pc [.ref m0, .int 2] (gS tE D (wM tE m0 m1 m2 m3 m4 m5 m6 tc th tm) [(tc, .char)] sz)) (va_Qi ((fun (r : Int32) (_ : Unit) => r = 110)) (gO D (fun _ => (wM tE m0 m1 m2 m3 m4 m5 m6 tc 0 tm)) (fun _ => []) (va_A (wM tE m0 m1 m2 m3 m4 m5 m6 tc th tm) sz)) (va_A (wM tE m0 m1 m2 m3 m4 m5 m6 tc th tm) sz)) 0 0 (va_A (wM tE m0 m1 m2 m3 m4 m5 m6 tc th tm) sz) := by
  refine Met.ofW (cc := cX15_rule) (maxL := 2) (ret := (some .char)) (by decide) rfl ?_
  intro p e s m args below meth c s₁ B hml hv
  obtain ⟨rfl, hsz, hP, hK, hD0, hG⟩ := hv
  have hx := B.exec
  have hb := B.bytes
  have hr := B.returns
  have hlocks := B.notSynchronized
  have hts := atoms_spec (ws := wsC ⟨"FoundrymarkModel", "rule", "(I)C"⟩ cX15_rule 2 (some .char)) B.pre
  have hta : ∀ w ∈ WA, w.before _ s = true := fun w h => hts w (List.mem_cons_of_mem _ h)
  have hown : s.vm.findClass "FoundrymarkModel" = some m.cls := findClass_of_methodNamed B.named
  subst hsz
  have hD : va_D (va_A (wM tE m0 m1 m2 m3 m4 m5 m6 tc th tm) s.heap.size) (wM tE m0 m1 m2 m3 m4 m5 m6 tc th tm) := hD0.self (sz := s.heap.size)
  generalize hAe : va_A (wM tE m0 m1 m2 m3 m4 m5 m6 tc th tm) s.heap.size = A at hD hG ⊢
  have hA : ∀ q : Nat, s.heap.size ≤ q → A q := fun q h => by rw [← hAe]; exact Or.inr h
  have hS : va_S A s.heap s.heap [] := va_S.rf
  have hP : va_P D vwCl (wM tE m0 m1 m2 m3 m4 m5 m6 tc th tm) s.heap := hP
  have hl := lv_entry ([.ref m0, .int 2]) (n := 2) (Nat.le_of_ble_eq_true rfl)
  rw [lg_entry_eq]
  generalize (lg_sl ([.ref m0, .int 2]) ++ List.replicate (2 - (lg_sl ([.ref m0, .int 2])).length) Slot.unset).toArray = ls at hl ⊢
  have hl : lv_has ls 2 [(0, .ref m0), (1, .int 2)] := hl
  refine lv_aload_n hx hb dX15_rule_0 rfl (lv_at hl 0 rfl) ?_
  refine lv_iload_n hx hb dX15_rule_1 rfl (lv_at hl 1 rfl) ?_
  refine lv_iconst (v := 0) hx hb dX15_rule_2 (by decide) ?_
  refine lv_iconst (v := 3) hx hb dX15_rule_3 (by decide) ?_
  refine vp_callSi (W.runS (As := [.int 2, .int 0, .int 3]) (rest := [.ref m0]) ⟨hx, hb, hml, hown, hta⟩ (c_X15_in l 2 0 3) (va_cwS 3 hta (gWS mw174 mw175 mw176 mw173) rfl rfl rfl (by decide +kernel) ⟨Nat.le_of_ble_eq_true rfl, Nat.le_of_ble_eq_true rfl⟩) ⟨fun a U g mk q => ⟨q.1, trivial⟩, fun U hU hW => ⟨rfl, trivial⟩⟩ rfl rfl hl.1 rfl (lv_room (Nat.le_of_ble_eq_true rfl)) dX15_rule_4 ⟨Nat.le_of_ble_eq_true rfl, Nat.le_of_ble_eq_true rfl⟩) (fun r1 h2 => ?_)
  obtain rfl : r1 = 1 := h2.trans (by decide)
  refine lv_if_eq (tgt := 14) hx hb dX15_rule_7 (by decide) (fun c3 => ?_) (fun c3 => ?_)
  · exact absurd c3 (by decide)
  · skip
    refine lv_iconst (v := 0) hx hb dX15_rule_10 (by decide) ?_
    refine lv_goto (tgt := 15) hx hb dX15_rule_11 (by decide) ?_
    have hPc := hP.sub (ws' := (wM tE m0 m1 m2 m3 m4 m5 m6 tc th tm)) [0, 1, 2, 3, 4, 5] rfl
    have hKc := hK.sub (tys' := [(tc, .char)]) [0] rfl
    have hDc := hD.sub (ws' := (wM tE m0 m1 m2 m3 m4 m5 m6 tc th tm)) [0, 1, 2, 3, 4, 5] (by decide) rfl
    have hFc := va_free (wc := (wM tE m0 m1 m2 m3 m4 m5 m6 tc th tm)) hD hS hA [0, 1, 2, 3, 4, 5] rfl
    refine gJ_i (isC := [0, 1, 2, 3, 4, 5]) (isR := []) (wr := []) (va_runV (As := [.int 0]) (rest := []) ⟨hx, hb, hml, hown, hta⟩ (c_X15_fails_0 l ) (cwV 1 hta (gWV mw180 mw181 mw182 mw176 mw179) rfl rfl rfl (by decide +kernel) ⟨Nat.le_of_ble_eq_true rfl, Nat.le_of_ble_eq_true rfl⟩) ⟨gS_blind, va_recv hKc hPc (ci := 20) (q0 := 0) rfl rfl, fun U hU hW => ⟨rfl, by rw [hU], by rw [hU]; exact hPc, va_K.moved hW.alike hKc, hDc.weaken (fun _ _ _ _ => trivial), hG.call hS hU hW hFc⟩⟩ rfl rfl hl.1 rfl (lv_room (Nat.le_of_ble_eq_true rfl)) dX15_rule_15 ⟨Nat.le_of_ble_eq_true rfl, Nat.le_of_ble_eq_true rfl⟩) hP hD hS hK hFc rfl rfl (by decide) (by decide) (fun r4 u5 H locs h6 hP hD hS hK => ?_)
    obtain rfl : r4 = 0 := h6
    have hK : va_K D vwCl [(tc, .char)] s := hK
    have hP : va_P D vwCl (wM tE m0 m1 m2 m3 m4 m5 m6 tc 0 tm) H := hP
    have hD : va_D A (wM tE m0 m1 m2 m3 m4 m5 m6 tc 0 tm) := hD
    refine lv_if_eq (tgt := 25) hx hb dX15_rule_18 (by decide) (fun c7 => ?_) (fun c7 => ?_)
    · skip
      refine lv_aload_n hx hb dX15_rule_25 rfl (lv_at hl 0 rfl) ?_
      refine va_get (D := D) (ci := 20) (v := .ref m5) (C := RX15) (T := TX15) (N := 9) hx hb hta iwX15 hown hK hP 0 rfl rfl 6 (by decide) (hta _ mw204) (fun _ h9 => h9) rfl dX15_rule_26 ?_
      refine lv_iload_n hx hb dX15_rule_29 rfl (lv_at hl 1 rfl) ?_
      refine va_cald hx hb hK hP 5 0 rfl rfl (i := 2) (by unfold vp_in; decide) dX15_rule_30 ?_
      refine W.eq (g2 := F0 m 31 ls [.int 110]) rfl ?_
      have hP9 := hP.sub (ws' := (wM tE m0 m1 m2 m3 m4 m5 m6 tc 0 tm)) [0, 1, 2, 3, 4, 5] rfl
      have hD9 := hD.sub (ws' := (wM tE m0 m1 m2 m3 m4 m5 m6 tc 0 tm)) [0, 1, 2, 3, 4, 5] (by decide) rfl
      have hK9 := hK.sub (tys' := []) [] rfl
      refine W.widen (k := 0) (n := 0) (Nat.le_of_ble_eq_true rfl) (Nat.le_of_ble_eq_true rfl) ?_
      exact W.zret (v := 110) (ty := .char) hx hb hr (by decide) (fun t ht hWm => ⟨⟨_, (), rfl, rfl, ⟨by rw [ht]; exact hP9, va_K.moved hWm.alike hK9, hD9⟩⟩, hS.F ht⟩) hS.2.2 dX15_rule_31
    · exact absurd (by decide) c7

set_option maxHeartbeats 4000000 in
set_option maxRecDepth 100000 in
theorem c_X15_rule_3 (l : Launch) {D : va_G} {tE sz : Nat} {m0 m1 m2 m3 m4 m5 m6 : Nat} {tc : ClassId} {th tm : Int32}   : Met l ⟨"FoundrymarkModel", "rule", "(I)C"⟩ (wsC ⟨"FoundrymarkModel", "rule", "(I)C"⟩ cX15_rule 2 (some .char)) ({ frames := 1, cells := 0, slots := 0, locals := 22 }) (va_Pc [.ref m0, .int 3] (gS tE D (wM tE m0 m1 m2 m3 m4 m5 m6 tc th tm) [(tc, .char)] sz)) (va_Qi ((fun (r : Int32) (_ : Unit) => r = 110)) (gO D (fun _ => (wM tE m0 m1 m2 m3 m4 m5 m6 tc 0 tm)) (fun _ => []) (va_A (wM tE m0 m1 m2 m3 m4 m5 m6 tc th tm) sz)) (va_A (wM tE m0 m1 m2 m3 m4 m5 m6 tc th tm) sz)) 0 0 (va_A (wM tE m0 m1 m2 m3 m4 m5 m6 tc th tm) sz) := by
  refine Met.ofW (cc := cX15_rule) (maxL := 2) (ret := (some .char)) (by decide) rfl ?_
  intro p e s m args below meth c s₁ B hml hv
  obtain ⟨rfl, hsz, hP, hK, hD0, hG⟩ := hv
  have hx := B.exec
  have hb := B.bytes
  have hr := B.returns
  have hlocks := B.notSynchronized
  have hts := atoms_spec (ws := wsC ⟨"FoundrymarkModel", "rule", "(I)C"⟩ cX15_rule 2 (some .char)) B.pre
  have hta : ∀ w ∈ WA, w.before _ s = true := fun w h => hts w (List.mem_cons_of_mem _ h)
  have hown : s.vm.findClass "FoundrymarkModel" = some m.cls := findClass_of_methodNamed B.named
  subst hsz
  have hD : va_D (va_A (wM tE m0 m1 m2 m3 m4 m5 m6 tc th tm) s.heap.size) (wM tE m0 m1 m2 m3 m4 m5 m6 tc th tm) := hD0.self (sz := s.heap.size)
  generalize hAe : va_A (wM tE m0 m1 m2 m3 m4 m5 m6 tc th tm) s.heap.size = A at hD hG ⊢
  have hA : ∀ q : Nat, s.heap.size ≤ q → A q := fun q h => by rw [← hAe]; exact Or.inr h
  have hS : va_S A s.heap s.heap [] := va_S.rf
  have hP : va_P D vwCl (wM tE m0 m1 m2 m3 m4 m5 m6 tc th tm) s.heap := hP
  have hl := lv_entry ([.ref m0, .int 3]) (n := 2) (Nat.le_of_ble_eq_true rfl)
  rw [lg_entry_eq]
  generalize (lg_sl ([.ref m0, .int 3]) ++ List.replicate (2 - (lg_sl ([.ref m0, .int 3])).length) Slot.unset).toArray = ls at hl ⊢
  have hl : lv_has ls 2 [(0, .ref m0), (1, .int 3)] := hl
  refine lv_aload_n hx hb dX15_rule_0 rfl (lv_at hl 0 rfl) ?_
  refine lv_iload_n hx hb dX15_rule_1 rfl (lv_at hl 1 rfl) ?_
  refine lv_iconst (v := 0) hx hb dX15_rule_2 (by decide) ?_
  refine lv_iconst (v := 3) hx hb dX15_rule_3 (by decide) ?_
  refine vp_callSi (W.runS (As := [.int 3, .int 0, .int 3]) (rest := [.ref m0]) ⟨hx, hb, hml, hown, hta⟩ (c_X15_in l 3 0 3) (va_cwS 3 hta (gWS mw174 mw175 mw176 mw173) rfl rfl rfl (by decide +kernel) ⟨Nat.le_of_ble_eq_true rfl, Nat.le_of_ble_eq_true rfl⟩) ⟨fun a U g mk q => ⟨q.1, trivial⟩, fun U hU hW => ⟨rfl, trivial⟩⟩ rfl rfl hl.1 rfl (lv_room (Nat.le_of_ble_eq_true rfl)) dX15_rule_4 ⟨Nat.le_of_ble_eq_true rfl, Nat.le_of_ble_eq_true rfl⟩) (fun r1 h2 => ?_)
  obtain rfl : r1 = 1 := h2.trans (by decide)
  refine lv_if_eq (tgt := 14) hx hb dX15_rule_7 (by decide) (fun c3 => ?_) (fun c3 => ?_)
  · exact absurd c3 (by decide)
  · skip
    refine lv_iconst (v := 0) hx hb dX15_rule_10 (by decide) ?_
    refine lv_goto (tgt := 15) hx hb dX15_rule_11 (by decide) ?_
    have hPc := hP.sub (ws' := (wM tE m0 m1 m2 m3 m4 m5 m6 tc th tm)) [0, 1, 2, 3, 4, 5] rfl
    have hKc := hK.sub (tys' := [(tc, .char)]) [0] rfl
    have hDc := hD.sub (ws' := (wM tE m0 m1 m2 m3 m4 m5 m6 tc th tm)) [0, 1, 2, 3, 4, 5] (by decide) rfl
    have hFc := va_free (wc := (wM tE m0 m1 m2 m3 m4 m5 m6 tc th tm)) hD hS hA [0, 1, 2, 3, 4, 5] rfl
    refine gJ_i (isC := [0, 1, 2, 3, 4, 5]) (isR := []) (wr := []) (va_runV (As := [.int 0]) (rest := []) ⟨hx, hb, hml, hown, hta⟩ (c_X15_fails_0 l ) (cwV 1 hta (gWV mw180 mw181 mw182 mw176 mw179) rfl rfl rfl (by decide +kernel) ⟨Nat.le_of_ble_eq_true rfl, Nat.le_of_ble_eq_true rfl⟩) ⟨gS_blind, va_recv hKc hPc (ci := 20) (q0 := 0) rfl rfl, fun U hU hW => ⟨rfl, by rw [hU], by rw [hU]; exact hPc, va_K.moved hW.alike hKc, hDc.weaken (fun _ _ _ _ => trivial), hG.call hS hU hW hFc⟩⟩ rfl rfl hl.1 rfl (lv_room (Nat.le_of_ble_eq_true rfl)) dX15_rule_15 ⟨Nat.le_of_ble_eq_true rfl, Nat.le_of_ble_eq_true rfl⟩) hP hD hS hK hFc rfl rfl (by decide) (by decide) (fun r4 u5 H locs h6 hP hD hS hK => ?_)
    obtain rfl : r4 = 0 := h6
    have hK : va_K D vwCl [(tc, .char)] s := hK
    have hP : va_P D vwCl (wM tE m0 m1 m2 m3 m4 m5 m6 tc 0 tm) H := hP
    have hD : va_D A (wM tE m0 m1 m2 m3 m4 m5 m6 tc 0 tm) := hD
    refine lv_if_eq (tgt := 25) hx hb dX15_rule_18 (by decide) (fun c7 => ?_) (fun c7 => ?_)
    · skip
      refine lv_aload_n hx hb dX15_rule_25 rfl (lv_at hl 0 rfl) ?_
      refine va_get (D := D) (ci := 20) (v := .ref m5) (C := RX15) (T := TX15) (N := 9) hx hb hta iwX15 hown hK hP 0 rfl rfl 6 (by decide) (hta _ mw204) (fun _ h9 => h9) rfl dX15_rule_26 ?_
      refine lv_iload_n hx hb dX15_rule_29 rfl (lv_at hl 1 rfl) ?_
      refine va_cald hx hb hK hP 5 0 rfl rfl (i := 3) (by unfold vp_in; decide) dX15_rule_30 ?_
      refine W.eq (g2 := F0 m 31 ls [.int 110]) rfl ?_
      have hP9 := hP.sub (ws' := (wM tE m0 m1 m2 m3 m4 m5 m6 tc 0 tm)) [0, 1, 2, 3, 4, 5] rfl
      have hD9 := hD.sub (ws' := (wM tE m0 m1 m2 m3 m4 m5 m6 tc 0 tm)) [0, 1, 2, 3, 4, 5] (by decide) rfl
      have hK9 := hK.sub (tys' := []) [] rfl
      refine W.widen (k := 0) (n := 0) (Nat.le_of_ble_eq_true rfl) (Nat.le_of_ble_eq_true rfl) ?_
      exact W.zret (v := 110) (ty := .char) hx hb hr (by decide) (fun t ht hWm => ⟨⟨_, (), rfl, rfl, ⟨by rw [ht]; exact hP9, va_K.moved hWm.alike hK9, hD9⟩⟩, hS.F ht⟩) hS.2.2 dX15_rule_31
    · exact absurd (by decide) c7

set_option maxHeartbeats 4000000 in
set_option maxRecDepth 100000 in
theorem c_X15_rule_f (l : Launch) {D : va_G} {tE sz : Nat} {m0 m1 m2 m3 m4 m5 m6 : Nat} {tc : ClassId} {th tm : Int32}  {n : Int32} (hf : inR n 0 3 = false) : Met l ⟨"FoundrymarkModel", "rule", "(I)C"⟩ (wsC ⟨"FoundrymarkModel", "rule", "(I)C"⟩ cX15_rule 2 (some .char)) ({ frames := 1, cells := 0, slots := 0, locals := 22 }) (va_Pc [.ref m0, .int n] (gS tE D (wM tE m0 m1 m2 m3 m4 m5 m6 tc th tm) [(tc, .char)] sz)) (va_Qi ((fun (r : Int32) (_ : Unit) => r = 0)) (gO D (fun _ => (wM tE m0 m1 m2 m3 m4 m5 m6 tc 1 tm)) (fun _ => []) (va_A (wM tE m0 m1 m2 m3 m4 m5 m6 tc th tm) sz)) (va_A (wM tE m0 m1 m2 m3 m4 m5 m6 tc th tm) sz)) 0 0 (va_A (wM tE m0 m1 m2 m3 m4 m5 m6 tc th tm) sz) := by
  refine Met.ofW (cc := cX15_rule) (maxL := 2) (ret := (some .char)) (by decide) rfl ?_
  intro p e s m args below meth c s₁ B hml hv
  obtain ⟨rfl, hsz, hP, hK, hD0, hG⟩ := hv
  have hx := B.exec
  have hb := B.bytes
  have hr := B.returns
  have hlocks := B.notSynchronized
  have hts := atoms_spec (ws := wsC ⟨"FoundrymarkModel", "rule", "(I)C"⟩ cX15_rule 2 (some .char)) B.pre
  have hta : ∀ w ∈ WA, w.before _ s = true := fun w h => hts w (List.mem_cons_of_mem _ h)
  have hown : s.vm.findClass "FoundrymarkModel" = some m.cls := findClass_of_methodNamed B.named
  subst hsz
  have hD : va_D (va_A (wM tE m0 m1 m2 m3 m4 m5 m6 tc th tm) s.heap.size) (wM tE m0 m1 m2 m3 m4 m5 m6 tc th tm) := hD0.self (sz := s.heap.size)
  generalize hAe : va_A (wM tE m0 m1 m2 m3 m4 m5 m6 tc th tm) s.heap.size = A at hD hG ⊢
  have hA : ∀ q : Nat, s.heap.size ≤ q → A q := fun q h => by rw [← hAe]; exact Or.inr h
  have hS : va_S A s.heap s.heap [] := va_S.rf
  have hP : va_P D vwCl (wM tE m0 m1 m2 m3 m4 m5 m6 tc th tm) s.heap := hP
  have hl := lv_entry ([.ref m0, .int n]) (n := 2) (Nat.le_of_ble_eq_true rfl)
  rw [lg_entry_eq]
  generalize (lg_sl ([.ref m0, .int n]) ++ List.replicate (2 - (lg_sl ([.ref m0, .int n])).length) Slot.unset).toArray = ls at hl ⊢
  have hl : lv_has ls 2 [(0, .ref m0), (1, .int n)] := hl
  refine lv_aload_n hx hb dX15_rule_0 rfl (lv_at hl 0 rfl) ?_
  refine lv_iload_n hx hb dX15_rule_1 rfl (lv_at hl 1 rfl) ?_
  refine lv_iconst (v := 0) hx hb dX15_rule_2 (by decide) ?_
  refine lv_iconst (v := 3) hx hb dX15_rule_3 (by decide) ?_
  refine vp_callSi (W.runS (As := [.int n, .int 0, .int 3]) (rest := [.ref m0]) ⟨hx, hb, hml, hown, hta⟩ (c_X15_in l n 0 3) (va_cwS 3 hta (gWS mw174 mw175 mw176 mw173) rfl rfl rfl (by decide +kernel) ⟨Nat.le_of_ble_eq_true rfl, Nat.le_of_ble_eq_true rfl⟩) ⟨fun a U g mk q => ⟨q.1, trivial⟩, fun U hU hW => ⟨rfl, trivial⟩⟩ rfl rfl hl.1 rfl (lv_room (Nat.le_of_ble_eq_true rfl)) dX15_rule_4 ⟨Nat.le_of_ble_eq_true rfl, Nat.le_of_ble_eq_true rfl⟩) (fun r1 h2 => ?_)
  obtain rfl : r1 = 0 := h2.trans (by rw [hf]; rfl)
  refine lv_if_eq (tgt := 14) hx hb dX15_rule_7 (by decide) (fun c3 => ?_) (fun c3 => ?_)
  · skip
    refine lv_iconst (v := 1) hx hb dX15_rule_14 (by decide) ?_
    have hPc := hP.sub (ws' := (wM tE m0 m1 m2 m3 m4 m5 m6 tc th tm)) [0, 1, 2, 3, 4, 5] rfl
    have hKc := hK.sub (tys' := [(tc, .char)]) [0] rfl
    have hDc := hD.sub (ws' := (wM tE m0 m1 m2 m3 m4 m5 m6 tc th tm)) [0, 1, 2, 3, 4, 5] (by decide) rfl
    have hFc := va_free (wc := (wM tE m0 m1 m2 m3 m4 m5 m6 tc th tm)) hD hS hA [0, 1, 2, 3, 4, 5] rfl
    refine gJ_i (isC := [0, 1, 2, 3, 4, 5]) (isR := []) (wr := []) (va_runV (As := [.int 1]) (rest := []) ⟨hx, hb, hml, hown, hta⟩ (c_X15_fails_1 l ) (cwV 1 hta (gWV mw180 mw181 mw182 mw176 mw179) rfl rfl rfl (by decide +kernel) ⟨Nat.le_of_ble_eq_true rfl, Nat.le_of_ble_eq_true rfl⟩) ⟨gS_blind, va_recv hKc hPc (ci := 20) (q0 := 0) rfl rfl, fun U hU hW => ⟨rfl, by rw [hU], by rw [hU]; exact hPc, va_K.moved hW.alike hKc, hDc.weaken (fun _ _ _ _ => trivial), hG.call hS hU hW hFc⟩⟩ rfl rfl hl.1 rfl (lv_room (Nat.le_of_ble_eq_true rfl)) dX15_rule_15 ⟨Nat.le_of_ble_eq_true rfl, Nat.le_of_ble_eq_true rfl⟩) hP hD hS hK hFc rfl rfl (by decide) (by decide) (fun r4 u5 H locs h6 hP hD hS hK => ?_)
    obtain rfl : r4 = 1 := h6
    have hK : va_K D vwCl [(tc, .char)] s := hK
    have hP : va_P D vwCl (wM tE m0 m1 m2 m3 m4 m5 m6 tc 1 tm) H := hP
    have hD : va_D A (wM tE m0 m1 m2 m3 m4 m5 m6 tc 1 tm) := hD
    refine lv_if_eq (tgt := 25) hx hb dX15_rule_18 (by decide) (fun c7 => ?_) (fun c7 => ?_)
    · exact absurd c7 (by decide)
    · skip
      refine lv_iconst (v := 0) hx hb dX15_rule_21 (by decide) ?_
      refine lv_goto (tgt := 31) hx hb dX15_rule_22 (by decide) ?_
      have hP9 := hP.sub (ws' := (wM tE m0 m1 m2 m3 m4 m5 m6 tc 1 tm)) [0, 1, 2, 3, 4, 5] rfl
      have hD9 := hD.sub (ws' := (wM tE m0 m1 m2 m3 m4 m5 m6 tc 1 tm)) [0, 1, 2, 3, 4, 5] (by decide) rfl
      have hK9 := hK.sub (tys' := []) [] rfl
      refine W.widen (k := 0) (n := 0) (Nat.le_of_ble_eq_true rfl) (Nat.le_of_ble_eq_true rfl) ?_
      exact W.zret (v := 0) (ty := .char) hx hb hr (by decide) (fun t ht hWm => ⟨⟨_, (), rfl, rfl, ⟨by rw [ht]; exact hP9, va_K.moved hWm.alike hK9, hD9⟩⟩, hS.F ht⟩) hS.2.2 dX15_rule_31
  · exact absurd (by decide) c3

set_option maxHeartbeats 4000000 in
set_option maxRecDepth 100000 in
theorem c_X15_inTimeShare (l : Launch) {D : va_G} {tE sz : Nat} {m0 m1 m2 m3 m4 m5 m6 : Nat} {tc : ClassId} {th tm : Int32}   : Met l ⟨"FoundrymarkModel", "inTimeShare", "()F"⟩ (wsC ⟨"FoundrymarkModel", "inTimeShare", "()F"⟩ cX15_inTimeShare 5 (some .float)) ({ frames := 3, cells := 1, slots := 4, locals := 61 }) (va_Pc [.ref m0] (gS tE D (wM tE m0 m1 m2 m3 m4 m5 m6 tc th tm) [(tc, .char)] sz)) (va_Qf ((fun (r : UInt32) (_ : Unit) => True)) (gO D (fun _ => (wM tE m0 m1 m2 m3 m4 m5 m6 tc 1 tm)) (fun _ => []) (va_A (wM tE m0 m1 m2 m3 m4 m5 m6 tc th tm) sz)) (va_A (wM tE m0 m1 m2 m3 m4 m5 m6 tc th tm) sz)) 1 4 (va_A (wM tE m0 m1 m2 m3 m4 m5 m6 tc th tm) sz) := by
  refine Met.ofW (cc := cX15_inTimeShare) (maxL := 5) (ret := (some .float)) (by decide) rfl ?_
  intro p e s m args below meth c s₁ B hml hv
  obtain ⟨rfl, hsz, hP, hK, hD0, hG⟩ := hv
  have hx := B.exec
  have hb := B.bytes
  have hr := B.returns
  have hlocks := B.notSynchronized
  have hts := atoms_spec (ws := wsC ⟨"FoundrymarkModel", "inTimeShare", "()F"⟩ cX15_inTimeShare 5 (some .float)) B.pre
  have hta : ∀ w ∈ WA, w.before _ s = true := fun w h => hts w (List.mem_cons_of_mem _ h)
  have hown : s.vm.findClass "FoundrymarkModel" = some m.cls := findClass_of_methodNamed B.named
  subst hsz
  have hD : va_D (va_A (wM tE m0 m1 m2 m3 m4 m5 m6 tc th tm) s.heap.size) (wM tE m0 m1 m2 m3 m4 m5 m6 tc th tm) := hD0.self (sz := s.heap.size)
  generalize hAe : va_A (wM tE m0 m1 m2 m3 m4 m5 m6 tc th tm) s.heap.size = A at hD hG ⊢
  have hA : ∀ q : Nat, s.heap.size ≤ q → A q := fun q h => by rw [← hAe]; exact Or.inr h
  have hS : va_S A s.heap s.heap [] := va_S.rf
  have hP : va_P D vwCl (wM tE m0 m1 m2 m3 m4 m5 m6 tc th tm) s.heap := hP
  have hl := lv_entry ([.ref m0]) (n := 5) (Nat.le_of_ble_eq_true rfl)
  rw [lg_entry_eq]
  generalize (lg_sl ([.ref m0]) ++ List.replicate (5 - (lg_sl ([.ref m0])).length) Slot.unset).toArray = ls at hl ⊢
  have hl : lv_has ls 5 [(0, .ref m0)] := hl
  refine lv_iconst (v := 0) hx hb dX15_inTimeShare_0 (by decide) ?_
  refine lv_istore_n (lv' := [(1, .int 0), (0, .ref m0)]) hx hb dX15_inTimeShare_1 rfl hl (by decide) rfl (fun ls hl => ?_)
  refine lv_iconst (v := 0) hx hb dX15_inTimeShare_2 (by decide) ?_
  refine lv_istore_n (lv' := [(2, .int 0), (1, .int 0), (0, .ref m0)]) hx hb dX15_inTimeShare_3 rfl hl (by decide) rfl (fun ls hl => ?_)
  refine lv_aload_n hx hb dX15_inTimeShare_4 rfl (lv_at hl 2 rfl) ?_
  refine va_get (D := D) (ci := 20) (v := .ref m4) (C := RX15) (T := TX15) (N := 9) hx hb hta iwX15 hown hK hP 0 rfl rfl 4 (by decide) (hta _ mw183) (fun _ h9 => h9) rfl dX15_inTimeShare_5 ?_
  have hPc := hP.sub (ws' := [(m4, .inr (4, [.int 0, .ref tE, .int 0]))]) [4] rfl
  have hKc := hK.sub (tys' := []) [] rfl
  have hDc := hD.sub (ws' := [(m4, .inr (4, [.int 0, .ref tE, .int 0]))]) [4] (by decide) rfl
  have hFc := va_free (wc := [(m4, .inr (4, [.int 0, .ref tE, .int 0]))]) hD hS hA [4] rfl
  refine gJ_q (isC := [4]) (isR := [0, 1, 2, 3, 5]) (wr := [(m0, .inr (20, [.int th, .ref m1, .ref m2, .ref m3, .ref m4, .int 0, .ref m5, .ref m6, .int tm])), (m1, .inr (4, [.int 0, .ref tE, .int 0])), (m2, .inr (4, [.int 0, .ref tE, .int 0])), (m3, .inr (4, [.int 0, .ref tE, .int 0])), (m5, .inl (tc, 4, .inl (upd (upd (upd (upd (fun _ => 0) 0 110) 1 110) 2 110) 3 110)))]) (va_runV (As := []) (rest := []) ⟨hx, hb, hml, hown, hta⟩ (c_AL_iterator l ) (cwV 0 hta (gWV mw206 mw207 mw208 mw157 mw205) rfl rfl rfl (by decide +kernel) ⟨Nat.le_of_ble_eq_true rfl, Nat.le_of_ble_eq_true rfl⟩) ⟨gS_blind, va_recv hKc hPc (ci := 4) (q0 := 0) rfl rfl, fun U hU hW => ⟨rfl, by rw [hU], by rw [hU]; exact hPc, va_K.moved hW.alike hKc, hDc.weaken (fun _ _ _ _ => trivial), hG.call hS hU hW hFc⟩⟩ rfl rfl hl.1 rfl (lv_room (Nat.le_of_ble_eq_true rfl)) dX15_inTimeShare_8 ⟨Nat.le_of_ble_eq_true rfl, Nat.le_of_ble_eq_true rfl⟩) hP hD hS hK hFc rfl rfl (by decide) (by decide) (fun r1 u2 H locs h3 hP hD hS hK => ?_)
  obtain rfl : r1 = some u2 := h3
  refine W.eq (g2 := F0 m 11 ls [.ref u2]) rfl ?_
  have hK : va_K D vwCl [(tc, .char)] s := hK
  have hP : va_P D vwCl [(m0, .inr (20, [.int th, .ref m1, .ref m2, .ref m3, .ref m4, .int 0, .ref m5, .ref m6, .int tm])), (m1, .inr (4, [.int 0, .ref tE, .int 0])), (m2, .inr (4, [.int 0, .ref tE, .int 0])), (m3, .inr (4, [.int 0, .ref tE, .int 0])), (m5, .inl (tc, 4, .inl (upd (upd (upd (upd (fun _ => 0) 0 110) 1 110) 2 110) 3 110))), (m4, .inr (4, [.int 0, .ref tE, .int 0])), (u2, .inr (3, [.int 0, .int (-1), .int 0, .ref m4]))] H := hP
  have hD : va_D A [(m0, .inr (20, [.int th, .ref m1, .ref m2, .ref m3, .ref m4, .int 0, .ref m5, .ref m6, .int tm])), (m1, .inr (4, [.int 0, .ref tE, .int 0])), (m2, .inr (4, [.int 0, .ref tE, .int 0])), (m3, .inr (4, [.int 0, .ref tE, .int 0])), (m5, .inl (tc, 4, .inl (upd (upd (upd (upd (fun _ => 0) 0 110) 1 110) 2 110) 3 110))), (m4, .inr (4, [.int 0, .ref tE, .int 0])), (u2, .inr (3, [.int 0, .int (-1), .int 0, .ref m4]))] := hD
  refine lv_astore_n (lv' := [(3, .ref u2), (2, .int 0), (1, .int 0), (0, .ref m0)]) hx hb dX15_inTimeShare_11 rfl hl (by decide) rfl (fun ls hl => ?_)
  refine lv_aload_n hx hb dX15_inTimeShare_12 rfl (lv_at hl 0 rfl) ?_
  have hPc := hP.sub (ws' := [(u2, .inr (3, [.int 0, .int (-1), .int 0, .ref m4])), (m4, .inr (4, [.int 0, .ref tE, .int 0]))]) [6, 5] rfl
  have hKc := hK.sub (tys' := []) [] rfl
  refine va_csFi (va_runF (As := []) (rest := []) (hKc.1 3 _ rfl).2 ⟨hx, hb, hml, hown, hta⟩ (c_Itr_hasNext l) (va_cwF 0 hta (gWF mw209 mw210 mw211 mw131 mw212) rfl rfl rfl hG.F (by decide +kernel) ⟨Nat.le_of_ble_eq_true rfl, Nat.le_of_ble_eq_true rfl⟩) ⟨fun a U g mk q => ⟨q.1, ⟨q.2.1.1, va_K.moved (u := U) (U := U.calling g mk a) (Vm.Alike.refl U.vm) q.2.1.2⟩, q.2.2.same rfl rfl⟩, va_recv hKc hPc (ci := 3) (q0 := 0) rfl rfl, fun U hU hW => ⟨rfl, ⟨by rw [hU]; exact hPc, va_K.moved hW.alike hKc⟩, hG.E.warmF hW⟩⟩ rfl rfl hl.1 rfl (lv_room (Nat.le_of_ble_eq_true rfl)) dX15_inTimeShare_13 ⟨Nat.le_of_ble_eq_true rfl, Nat.le_of_ble_eq_true rfl⟩) (fun r4 h5 => ?_)
  obtain rfl : r4 = 0 := h5
  refine lv_if_eq (tgt := 80) hx hb dX15_inTimeShare_18 (by decide) (fun c6 => ?_) (fun c6 => ?_)
  · skip
    refine lv_aload_n hx hb dX15_inTimeShare_80 rfl (lv_at hl 3 rfl) ?_
    refine lv_iload_n hx hb dX15_inTimeShare_81 rfl (lv_at hl 2 rfl) ?_
    refine lv_if_ne (tgt := 89) hx hb dX15_inTimeShare_82 (by decide) (fun c7 => ?_) (fun c7 => ?_)
    · exact absurd c7 (by decide)
    · skip
      refine lv_iconst (v := 1) hx hb dX15_inTimeShare_85 (by decide) ?_
      refine lv_goto (tgt := 90) hx hb dX15_inTimeShare_86 (by decide) ?_
      have hPc := hP.sub (ws' := (wM tE m0 m1 m2 m3 m4 m5 m6 tc th tm)) [0, 1, 2, 3, 5, 4] rfl
      have hKc := hK.sub (tys' := [(tc, .char)]) [0] rfl
      have hDc := hD.sub (ws' := (wM tE m0 m1 m2 m3 m4 m5 m6 tc th tm)) [0, 1, 2, 3, 5, 4] (by decide) rfl
      have hFc := va_free (wc := (wM tE m0 m1 m2 m3 m4 m5 m6 tc th tm)) hD hS hA [0, 1, 2, 3, 5, 4] rfl
      refine gJ_i (isC := [0, 1, 2, 3, 5, 4]) (isR := [6]) (wr := [(u2, .inr (3, [.int 0, .int (-1), .int 0, .ref m4]))]) (va_runV (As := [.int 1]) (rest := []) ⟨hx, hb, hml, hown, hta⟩ (c_X15_fails_1 l ) (cwV 1 hta (gWV mw180 mw181 mw182 mw176 mw179) rfl rfl rfl (by decide +kernel) ⟨Nat.le_of_ble_eq_true rfl, Nat.le_of_ble_eq_true rfl⟩) ⟨gS_blind, va_recv hKc hPc (ci := 20) (q0 := 0) rfl rfl, fun U hU hW => ⟨rfl, by rw [hU], by rw [hU]; exact hPc, va_K.moved hW.alike hKc, hDc.weaken (fun _ _ _ _ => trivial), hG.call hS hU hW hFc⟩⟩ rfl rfl hl.1 rfl (lv_room (Nat.le_of_ble_eq_true rfl)) dX15_inTimeShare_90 ⟨Nat.le_of_ble_eq_true rfl, Nat.le_of_ble_eq_true rfl⟩) hP hD hS hK hFc rfl rfl (by decide) (by decide) (fun r8 u9 H locs h10 hP hD hS hK => ?_)
      obtain rfl : r8 = 1 := h10
      have hK : va_K D vwCl [(tc, .char)] s := hK
      have hP : va_P D vwCl [(u2, .inr (3, [.int 0, .int (-1), .int 0, .ref m4])), (m0, .inr (20, [.int 1, .ref m1, .ref m2, .ref m3, .ref m4, .int 0, .ref m5, .ref m6, .int tm])), (m1, .inr (4, [.int 0, .ref tE, .int 0])), (m2, .inr (4, [.int 0, .ref tE, .int 0])), (m3, .inr (4, [.int 0, .ref tE, .int 0])), (m4, .inr (4, [.int 0, .ref tE, .int 0])), (m5, .inl (tc, 4, .inl (upd (upd (upd (upd (fun _ => 0) 0 110) 1 110) 2 110) 3 110)))] H := hP
      have hD : va_D A [(u2, .inr (3, [.int 0, .int (-1), .int 0, .ref m4])), (m0, .inr (20, [.int 1, .ref m1, .ref m2, .ref m3, .ref m4, .int 0, .ref m5, .ref m6, .int tm])), (m1, .inr (4, [.int 0, .ref tE, .int 0])), (m2, .inr (4, [.int 0, .ref tE, .int 0])), (m3, .inr (4, [.int 0, .ref tE, .int 0])), (m4, .inr (4, [.int 0, .ref tE, .int 0])), (m5, .inl (tc, 4, .inl (upd (upd (upd (upd (fun _ => 0) 0 110) 1 110) 2 110) 3 110)))] := hD
      refine lv_if_eq (tgt := 100) hx hb dX15_inTimeShare_93 (by decide) (fun c11 => ?_) (fun c11 => ?_)
      · exact absurd c11 (by decide)
      · skip
        refine lv_fconst0 hx hb dX15_inTimeShare_96 ?_
        refine lv_goto (tgt := 105) hx hb dX15_inTimeShare_97 (by decide) ?_
        have hP9 := hP.sub (ws' := (wM tE m0 m1 m2 m3 m4 m5 m6 tc 1 tm)) [1, 2, 3, 4, 5, 6] rfl
        have hD9 := hD.sub (ws' := (wM tE m0 m1 m2 m3 m4 m5 m6 tc 1 tm)) [1, 2, 3, 4, 5, 6] (by decide) rfl
        have hK9 := hK.sub (tys' := []) [] rfl
        refine W.widen (k := 1) (n := 4) (Nat.le_of_ble_eq_true rfl) (Nat.le_of_ble_eq_true rfl) ?_
        exact W.fret (v := 0) hx hb hr (fun t ht hWm => ⟨⟨_, (), rfl, trivial, ⟨by rw [ht]; exact hP9, va_K.moved hWm.alike hK9, hD9⟩⟩, hS.F ht⟩) hS.2.2 dX15_inTimeShare_105
  · exact absurd (by decide) c6

set_option maxHeartbeats 4000000 in
set_option maxRecDepth 100000 in
theorem c_X15_meanBusy (l : Launch) {D : va_G} {tE sz : Nat} {m0 m1 m2 m3 m4 m5 m6 : Nat} {tc : ClassId} {th tm : Int32}   : Met l ⟨"FoundrymarkModel", "meanBusy", "()D"⟩ (wsC ⟨"FoundrymarkModel", "meanBusy", "()D"⟩ cX15_meanBusy 4 (some .double)) ({ frames := 3, cells := 1, slots := 4, locals := 61 }) (va_Pc [.ref m0] (gS tE D (wM tE m0 m1 m2 m3 m4 m5 m6 tc th tm) [(tc, .char)] sz)) (va_Qd ((fun (r : UInt64) (_ : Unit) => True)) (gO D (fun _ => (wM tE m0 m1 m2 m3 m4 m5 m6 tc 1 tm)) (fun _ => []) (va_A (wM tE m0 m1 m2 m3 m4 m5 m6 tc th tm) sz)) (va_A (wM tE m0 m1 m2 m3 m4 m5 m6 tc th tm) sz)) 1 4 (va_A (wM tE m0 m1 m2 m3 m4 m5 m6 tc th tm) sz) := by
  refine Met.ofW (cc := cX15_meanBusy) (maxL := 4) (ret := (some .double)) (by decide) rfl ?_
  intro p e s m args below meth c s₁ B hml hv
  obtain ⟨rfl, hsz, hP, hK, hD0, hG⟩ := hv
  have hx := B.exec
  have hb := B.bytes
  have hr := B.returns
  have hlocks := B.notSynchronized
  have hts := atoms_spec (ws := wsC ⟨"FoundrymarkModel", "meanBusy", "()D"⟩ cX15_meanBusy 4 (some .double)) B.pre
  have hta : ∀ w ∈ WA, w.before _ s = true := fun w h => hts w (List.mem_cons_of_mem _ h)
  have hown : s.vm.findClass "FoundrymarkModel" = some m.cls := findClass_of_methodNamed B.named
  subst hsz
  have hD : va_D (va_A (wM tE m0 m1 m2 m3 m4 m5 m6 tc th tm) s.heap.size) (wM tE m0 m1 m2 m3 m4 m5 m6 tc th tm) := hD0.self (sz := s.heap.size)
  generalize hAe : va_A (wM tE m0 m1 m2 m3 m4 m5 m6 tc th tm) s.heap.size = A at hD hG ⊢
  have hA : ∀ q : Nat, s.heap.size ≤ q → A q := fun q h => by rw [← hAe]; exact Or.inr h
  have hS : va_S A s.heap s.heap [] := va_S.rf
  have hP : va_P D vwCl (wM tE m0 m1 m2 m3 m4 m5 m6 tc th tm) s.heap := hP
  have hl := lv_entry ([.ref m0]) (n := 4) (Nat.le_of_ble_eq_true rfl)
  rw [lg_entry_eq]
  generalize (lg_sl ([.ref m0]) ++ List.replicate (4 - (lg_sl ([.ref m0])).length) Slot.unset).toArray = ls at hl ⊢
  have hl : lv_has ls 4 [(0, .ref m0)] := hl
  refine lv_iconst (v := 0) hx hb dX15_meanBusy_0 (by decide) ?_
  refine lv_istore_n (lv' := [(1, .int 0), (0, .ref m0)]) hx hb dX15_meanBusy_1 rfl hl (by decide) rfl (fun ls hl => ?_)
  refine lv_aload_n hx hb dX15_meanBusy_2 rfl (lv_at hl 1 rfl) ?_
  refine va_get (D := D) (ci := 20) (v := .ref m1) (C := RX15) (T := TX15) (N := 9) hx hb hta iwX15 hown hK hP 0 rfl rfl 1 (by decide) (hta _ mw177) (fun _ h9 => h9) rfl dX15_meanBusy_3 ?_
  have hPc := hP.sub (ws' := [(m1, .inr (4, [.int 0, .ref tE, .int 0]))]) [1] rfl
  have hKc := hK.sub (tys' := []) [] rfl
  have hDc := hD.sub (ws' := [(m1, .inr (4, [.int 0, .ref tE, .int 0]))]) [1] (by decide) rfl
  have hFc := va_free (wc := [(m1, .inr (4, [.int 0, .ref tE, .int 0]))]) hD hS hA [1] rfl
  refine gJ_q (isC := [1]) (isR := [0, 2, 3, 4, 5]) (wr := [(m0, .inr (20, [.int th, .ref m1, .ref m2, .ref m3, .ref m4, .int 0, .ref m5, .ref m6, .int tm])), (m2, .inr (4, [.int 0, .ref tE, .int 0])), (m3, .inr (4, [.int 0, .ref tE, .int 0])), (m4, .inr (4, [.int 0, .ref tE, .int 0])), (m5, .inl (tc, 4, .inl (upd (upd (upd (upd (fun _ => 0) 0 110) 1 110) 2 110) 3 110)))]) (va_runV (As := []) (rest := []) ⟨hx, hb, hml, hown, hta⟩ (c_AL_iterator l ) (cwV 0 hta (gWV mw206 mw207 mw208 mw157 mw205) rfl rfl rfl (by decide +kernel) ⟨Nat.le_of_ble_eq_true rfl, Nat.le_of_ble_eq_true rfl⟩) ⟨gS_blind, va_recv hKc hPc (ci := 4) (q0 := 0) rfl rfl, fun U hU hW => ⟨rfl, by rw [hU], by rw [hU]; exact hPc, va_K.moved hW.alike hKc, hDc.weaken (fun _ _ _ _ => trivial), hG.call hS hU hW hFc⟩⟩ rfl rfl hl.1 rfl (lv_room (Nat.le_of_ble_eq_true rfl)) dX15_meanBusy_6 ⟨Nat.le_of_ble_eq_true rfl, Nat.le_of_ble_eq_true rfl⟩) hP hD hS hK hFc rfl rfl (by decide) (by decide) (fun r1 u2 H locs h3 hP hD hS hK => ?_)
  obtain rfl : r1 = some u2 := h3
  refine W.eq (g2 := F0 m 9 ls [.ref u2]) rfl ?_
  have hK : va_K D vwCl [(tc, .char)] s := hK
  have hP : va_P D vwCl [(m0, .inr (20, [.int th, .ref m1, .ref m2, .ref m3, .ref m4, .int 0, .ref m5, .ref m6, .int tm])), (m2, .inr (4, [.int 0, .ref tE, .int 0])), (m3, .inr (4, [.int 0, .ref tE, .int 0])), (m4, .inr (4, [.int 0, .ref tE, .int 0])), (m5, .inl (tc, 4, .inl (upd (upd (upd (upd (fun _ => 0) 0 110) 1 110) 2 110) 3 110))), (m1, .inr (4, [.int 0, .ref tE, .int 0])), (u2, .inr (3, [.int 0, .int (-1), .int 0, .ref m1]))] H := hP
  have hD : va_D A [(m0, .inr (20, [.int th, .ref m1, .ref m2, .ref m3, .ref m4, .int 0, .ref m5, .ref m6, .int tm])), (m2, .inr (4, [.int 0, .ref tE, .int 0])), (m3, .inr (4, [.int 0, .ref tE, .int 0])), (m4, .inr (4, [.int 0, .ref tE, .int 0])), (m5, .inl (tc, 4, .inl (upd (upd (upd (upd (fun _ => 0) 0 110) 1 110) 2 110) 3 110))), (m1, .inr (4, [.int 0, .ref tE, .int 0])), (u2, .inr (3, [.int 0, .int (-1), .int 0, .ref m1]))] := hD
  refine lv_astore_n (lv' := [(2, .ref u2), (1, .int 0), (0, .ref m0)]) hx hb dX15_meanBusy_9 rfl hl (by decide) rfl (fun ls hl => ?_)
  refine lv_aload_n hx hb dX15_meanBusy_10 rfl (lv_at hl 0 rfl) ?_
  have hPc := hP.sub (ws' := [(u2, .inr (3, [.int 0, .int (-1), .int 0, .ref m1])), (m1, .inr (4, [.int 0, .ref tE, .int 0]))]) [6, 5] rfl
  have hKc := hK.sub (tys' := []) [] rfl
  refine va_csFi (va_runF (As := []) (rest := []) (hKc.1 3 _ rfl).2 ⟨hx, hb, hml, hown, hta⟩ (c_Itr_hasNext l) (va_cwF 0 hta (gWF mw209 mw210 mw211 mw131 mw212) rfl rfl rfl hG.F (by decide +kernel) ⟨Nat.le_of_ble_eq_true rfl, Nat.le_of_ble_eq_true rfl⟩) ⟨fun a U g mk q => ⟨q.1, ⟨q.2.1.1, va_K.moved (u := U) (U := U.calling g mk a) (Vm.Alike.refl U.vm) q.2.1.2⟩, q.2.2.same rfl rfl⟩, va_recv hKc hPc (ci := 3) (q0 := 0) rfl rfl, fun U hU hW => ⟨rfl, ⟨by rw [hU]; exact hPc, va_K.moved hW.alike hKc⟩, hG.E.warmF hW⟩⟩ rfl rfl hl.1 rfl (lv_room (Nat.le_of_ble_eq_true rfl)) dX15_meanBusy_11 ⟨Nat.le_of_ble_eq_true rfl, Nat.le_of_ble_eq_true rfl⟩) (fun r4 h5 => ?_)
  obtain rfl : r4 = 0 := h5
  refine lv_if_eq (tgt := 62) hx hb dX15_meanBusy_16 (by decide) (fun c6 => ?_) (fun c6 => ?_)
  · skip
    refine lv_aload_n hx hb dX15_meanBusy_62 rfl (lv_at hl 2 rfl) ?_
    refine lv_aload_n hx hb dX15_meanBusy_63 rfl (lv_at hl 2 rfl) ?_
    refine va_get (D := D) (ci := 20) (v := .ref m1) (C := RX15) (T := TX15) (N := 9) hx hb hta iwX15 hown hK hP 0 rfl rfl 1 (by decide) (hta _ mw177) (fun _ h9 => h9) rfl dX15_meanBusy_64 ?_
    have hPc := hP.sub (ws' := [(m1, .inr (4, [.int 0, .ref tE, .int 0]))]) [5] rfl
    have hKc := hK.sub (tys' := []) [] rfl
    refine vp_callSi (W.runV (As := []) (rest := [.ref m0]) ⟨hx, hb, hml, hown, hta⟩ (c_AL_isEmpty l ) (cwV 0 hta (gWV mw214 mw215 mw216 mw157 mw213) rfl rfl rfl (by decide +kernel) ⟨Nat.le_of_ble_eq_true rfl, Nat.le_of_ble_eq_true rfl⟩) ⟨gR_blind, va_recv hKc hPc (ci := 4) (q0 := 0) rfl rfl, fun U hU hW => ⟨rfl, by rw [hU]; exact hPc, va_K.moved hW.alike hKc⟩⟩ rfl rfl hl.1 rfl (lv_room (Nat.le_of_ble_eq_true rfl)) dX15_meanBusy_67 ⟨Nat.le_of_ble_eq_true rfl, Nat.le_of_ble_eq_true rfl⟩) (fun r7 h8 => ?_)
    obtain rfl : r7 = 1 := h8
    refine lv_if_eq (tgt := 77) hx hb dX15_meanBusy_70 (by decide) (fun c9 => ?_) (fun c9 => ?_)
    · exact absurd c9 (by decide)
    · skip
      refine lv_iconst (v := 1) hx hb dX15_meanBusy_73 (by decide) ?_
      refine lv_goto (tgt := 78) hx hb dX15_meanBusy_74 (by decide) ?_
      have hPc := hP.sub (ws' := (wM tE m0 m1 m2 m3 m4 m5 m6 tc th tm)) [0, 5, 1, 2, 3, 4] rfl
      have hKc := hK.sub (tys' := [(tc, .char)]) [0] rfl
      have hDc := hD.sub (ws' := (wM tE m0 m1 m2 m3 m4 m5 m6 tc th tm)) [0, 5, 1, 2, 3, 4] (by decide) rfl
      have hFc := va_free (wc := (wM tE m0 m1 m2 m3 m4 m5 m6 tc th tm)) hD hS hA [0, 5, 1, 2, 3, 4] rfl
      refine gJ_i (isC := [0, 5, 1, 2, 3, 4]) (isR := [6]) (wr := [(u2, .inr (3, [.int 0, .int (-1), .int 0, .ref m1]))]) (va_runV (As := [.int 1]) (rest := []) ⟨hx, hb, hml, hown, hta⟩ (c_X15_fails_1 l ) (cwV 1 hta (gWV mw180 mw181 mw182 mw176 mw179) rfl rfl rfl (by decide +kernel) ⟨Nat.le_of_ble_eq_true rfl, Nat.le_of_ble_eq_true rfl⟩) ⟨gS_blind, va_recv hKc hPc (ci := 20) (q0 := 0) rfl rfl, fun U hU hW => ⟨rfl, by rw [hU], by rw [hU]; exact hPc, va_K.moved hW.alike hKc, hDc.weaken (fun _ _ _ _ => trivial), hG.call hS hU hW hFc⟩⟩ rfl rfl hl.1 rfl (lv_room (Nat.le_of_ble_eq_true rfl)) dX15_meanBusy_78 ⟨Nat.le_of_ble_eq_true rfl, Nat.le_of_ble_eq_true rfl⟩) hP hD hS hK hFc rfl rfl (by decide) (by decide) (fun r10 u11 H locs h12 hP hD hS hK => ?_)
      obtain rfl : r10 = 1 := h12
      have hK : va_K D vwCl [(tc, .char)] s := hK
      have hP : va_P D vwCl [(u2, .inr (3, [.int 0, .int (-1), .int 0, .ref m1])), (m0, .inr (20, [.int 1, .ref m1, .ref m2, .ref m3, .ref m4, .int 0, .ref m5, .ref m6, .int tm])), (m1, .inr (4, [.int 0, .ref tE, .int 0])), (m2, .inr (4, [.int 0, .ref tE, .int 0])), (m3, .inr (4, [.int 0, .ref tE, .int 0])), (m4, .inr (4, [.int 0, .ref tE, .int 0])), (m5, .inl (tc, 4, .inl (upd (upd (upd (upd (fun _ => 0) 0 110) 1 110) 2 110) 3 110)))] H := hP
      have hD : va_D A [(u2, .inr (3, [.int 0, .int (-1), .int 0, .ref m1])), (m0, .inr (20, [.int 1, .ref m1, .ref m2, .ref m3, .ref m4, .int 0, .ref m5, .ref m6, .int tm])), (m1, .inr (4, [.int 0, .ref tE, .int 0])), (m2, .inr (4, [.int 0, .ref tE, .int 0])), (m3, .inr (4, [.int 0, .ref tE, .int 0])), (m4, .inr (4, [.int 0, .ref tE, .int 0])), (m5, .inl (tc, 4, .inl (upd (upd (upd (upd (fun _ => 0) 0 110) 1 110) 2 110) 3 110)))] := hD
      refine lv_if_eq (tgt := 88) hx hb dX15_meanBusy_81 (by decide) (fun c13 => ?_) (fun c13 => ?_)
      · exact absurd c13 (by decide)
      · skip
        refine lv_dconst0 hx hb dX15_meanBusy_84 ?_
        refine lv_goto (tgt := 99) hx hb dX15_meanBusy_85 (by decide) ?_
        have hP9 := hP.sub (ws' := (wM tE m0 m1 m2 m3 m4 m5 m6 tc 1 tm)) [1, 2, 3, 4, 5, 6] rfl
        have hD9 := hD.sub (ws' := (wM tE m0 m1 m2 m3 m4 m5 m6 tc 1 tm)) [1, 2, 3, 4, 5, 6] (by decide) rfl
        have hK9 := hK.sub (tys' := []) [] rfl
        refine W.widen (k := 1) (n := 4) (Nat.le_of_ble_eq_true rfl) (Nat.le_of_ble_eq_true rfl) ?_
        exact W.dret (v := 0) hx hb hr (fun t ht hWm => ⟨⟨_, (), rfl, trivial, ⟨by rw [ht]; exact hP9, va_K.moved hWm.alike hK9, hD9⟩⟩, hS.F ht⟩) hS.2.2 dX15_meanBusy_99
  · exact absurd (by decide) c6
