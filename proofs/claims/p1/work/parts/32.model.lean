set_option maxHeartbeats 4000000 in
set_option maxRecDepth 100000 in
theorem c_X15_thrown (l : Launch) {D : va_G} {m0 : Nat} {th : Int32} {vs : List Value} : Met l ⟨"FoundrymarkModel", "thrown", "()I"⟩ (wsC ⟨"FoundrymarkModel", "thrown", "()I"⟩ cX15_thrown 1 (some .int)) ({ frames := 0, cells := 0, slots := 0, locals := 0 }) (va_Pc [.ref m0] (gR D [(m0, .inr (20, .int th :: vs))] [])) (vp_Si (fun r => r = th)) 0 0 (fun _ => False) := by
  refine Met.ofW (cc := cX15_thrown) (maxL := 1) (ret := (some .int)) (by decide) rfl ?_
  intro p e s m args below meth c s₁ B hml hv
  obtain ⟨rfl, hP, hK⟩ := hv
  have hx := B.exec
  have hb := B.bytes
  have hr := B.returns
  have hlocks := B.notSynchronized
  have hts := atoms_spec (ws := wsC ⟨"FoundrymarkModel", "thrown", "()I"⟩ cX15_thrown 1 (some .int)) B.pre
  have hta : ∀ w ∈ WA, w.before _ s = true := fun w h => hts w (List.mem_cons_of_mem _ h)
  have hown : s.vm.findClass "FoundrymarkModel" = some m.cls := findClass_of_methodNamed B.named
  have hP : va_P D vwCl [(m0, .inr (20, .int th :: vs))] s.heap := hP
  have hl := lv_entry ([.ref m0]) (n := 1) (Nat.le_of_ble_eq_true rfl)
  rw [lg_entry_eq]
  generalize (lg_sl ([.ref m0]) ++ List.replicate (1 - (lg_sl ([.ref m0])).length) Slot.unset).toArray = ls at hl ⊢
  have hl : lv_has ls 1 [(0, .ref m0)] := hl
  refine lv_aload_n hx hb dX15_thrown_0 rfl (lv_at hl 0 rfl) ?_
  refine va_get (D := D) (ci := 20) (v := .int th) (C := RX15) (T := TX15) (N := 9) hx hb hta iwX15 hown hK hP 0 rfl rfl 0 (by decide) (hta _ mw167) (fun _ h9 => h9) rfl dX15_thrown_1 ?_
  exact W.iret (v := th) hx hb hr (fun t ht hWm => ⟨_, rfl, rfl, ht⟩) (fun q h => absurd h List.not_mem_nil) dX15_thrown_4

set_option maxHeartbeats 4000000 in
set_option maxRecDepth 100000 in
theorem c_X15_fails_0 (l : Launch) {D : va_G} {tE sz : Nat} {m0 m1 m2 m3 m4 m5 m6 : Nat} {tc : ClassId} {th tm : Int32}   : Met l ⟨"FoundrymarkModel", "fails", "(I)Z"⟩ (wsC ⟨"FoundrymarkModel", "fails", "(I)Z"⟩ cX15_fails 2 (some .boolean)) ({ frames := 0, cells := 0, slots := 0, locals := 0 }) (va_Pc [.ref m0, .int 0] (gS tE D (wM tE m0 m1 m2 m3 m4 m5 m6 tc th tm) [(tc, .char)] sz)) (va_Qi ((fun (r : Int32) (_ : Unit) => r = 0)) (gO D (fun _ => (wM tE m0 m1 m2 m3 m4 m5 m6 tc 0 tm)) (fun _ => []) (va_A (wM tE m0 m1 m2 m3 m4 m5 m6 tc th tm) sz)) (va_A (wM tE m0 m1 m2 m3 m4 m5 m6 tc th tm) sz)) 0 0 (va_A (wM tE m0 m1 m2 m3 m4 m5 m6 tc th tm) sz) := by
  refine Met.ofW (cc := cX15_fails) (maxL := 2) (ret := (some .boolean)) (by decide) rfl ?_
  intro p e s m args below meth c s₁ B hml hv
  obtain ⟨rfl, hsz, hP, hK, hD0, hG⟩ := hv
  have hx := B.exec
  have hb := B.bytes
  have hr := B.returns
  have hlocks := B.notSynchronized
  have hts := atoms_spec (ws := wsC ⟨"FoundrymarkModel", "fails", "(I)Z"⟩ cX15_fails 2 (some .boolean)) B.pre
  have hta : ∀ w ∈ WA, w.before _ s = true := fun w h => hts w (List.mem_cons_of_mem _ h)
  have hown : s.vm.findClass "FoundrymarkModel" = some m.cls := findClass_of_methodNamed B.named
  subst hsz
  have hD : va_D (va_A (wM tE m0 m1 m2 m3 m4 m5 m6 tc th tm) s.heap.size) (wM tE m0 m1 m2 m3 m4 m5 m6 tc th tm) := hD0.self (sz := s.heap.size)
  generalize hAe : va_A (wM tE m0 m1 m2 m3 m4 m5 m6 tc th tm) s.heap.size = A at hD hG ⊢
  have hA : ∀ q : Nat, s.heap.size ≤ q → A q := fun q h => by rw [← hAe]; exact Or.inr h
  have hS : va_S A s.heap s.heap [] := va_S.rf
  have hP : va_P D vwCl (wM tE m0 m1 m2 m3 m4 m5 m6 tc th tm) s.heap := hP
  have hl := lv_entry ([.ref m0, .int 0]) (n := 2) (Nat.le_of_ble_eq_true rfl)
  rw [lg_entry_eq]
  generalize (lg_sl ([.ref m0, .int 0]) ++ List.replicate (2 - (lg_sl ([.ref m0, .int 0])).length) Slot.unset).toArray = ls at hl ⊢
  have hl : lv_has ls 2 [(0, .ref m0), (1, .int 0)] := hl
  refine lv_aload_n hx hb dX15_fails_0 rfl (lv_at hl 0 rfl) ?_
  refine lv_iload_n hx hb dX15_fails_1 rfl (lv_at hl 1 rfl) ?_
  refine va_put (D := D) (ci := 20) (v := .int 0) (ty := .int) (C := RX15) (T := TX15) (N := 9) hx hb hta iwX15 tyX15 tyX15_ok nmX15 hown hK hP hD hS 0 rfl rfl 0 (by decide) (hta _ mw167) (fun _ h9 => h9) rfl (by decide +kernel) rfl rfl (Nat.le_of_ble_eq_true rfl) dX15_fails_2 (fun H locs hP hD hS => ?_)
  have hP : va_P D vwCl (wM tE m0 m1 m2 m3 m4 m5 m6 tc 0 tm) H := hP
  have hD : va_D A (wM tE m0 m1 m2 m3 m4 m5 m6 tc 0 tm) := hD
  refine lv_iload_n hx hb dX15_fails_5 rfl (lv_at hl 1 rfl) ?_
  refine lv_if_le (tgt := 13) hx hb dX15_fails_6 (by decide) (fun c1 => ?_) (fun c1 => ?_)
  · skip
    refine lv_iconst (v := 0) hx hb dX15_fails_13 (by decide) ?_
    have hP9 := hP.sub (ws' := (wM tE m0 m1 m2 m3 m4 m5 m6 tc 0 tm)) [0, 1, 2, 3, 4, 5] rfl
    have hD9 := hD.sub (ws' := (wM tE m0 m1 m2 m3 m4 m5 m6 tc 0 tm)) [0, 1, 2, 3, 4, 5] (by decide) rfl
    have hK9 := hK.sub (tys' := []) [] rfl
    refine W.widen (k := 0) (n := 0) (Nat.le_of_ble_eq_true rfl) (Nat.le_of_ble_eq_true rfl) ?_
    exact W.zret (v := 0) (ty := .boolean) hx hb hr (by decide) (fun t ht hWm => ⟨⟨_, (), rfl, rfl, ⟨by rw [ht]; exact hP9, va_K.moved hWm.alike hK9, hD9⟩⟩, hS.F ht⟩) hS.2.2 dX15_fails_14
  · exact absurd (by decide) c1

set_option maxHeartbeats 4000000 in
set_option maxRecDepth 100000 in
theorem c_X15_fails_1 (l : Launch) {D : va_G} {tE sz : Nat} {m0 m1 m2 m3 m4 m5 m6 : Nat} {tc : ClassId} {th tm : Int32}   : Met l ⟨"FoundrymarkModel", "fails", "(I)Z"⟩ (wsC ⟨"FoundrymarkModel", "fails", "(I)Z"⟩ cX15_fails 2 (some .boolean)) ({ frames := 0, cells := 0, slots := 0, locals := 0 }) (va_Pc [.ref m0, .int 1] (gS tE D (wM tE m0 m1 m2 m3 m4 m5 m6 tc th tm) [(tc, .char)] sz)) (va_Qi ((fun (r : Int32) (_ : Unit) => r = 1)) (gO D (fun _ => (wM tE m0 m1 m2 m3 m4 m5 m6 tc 1 tm)) (fun _ => []) (va_A (wM tE m0 m1 m2 m3 m4 m5 m6 tc th tm) sz)) (va_A (wM tE m0 m1 m2 m3 m4 m5 m6 tc th tm) sz)) 0 0 (va_A (wM tE m0 m1 m2 m3 m4 m5 m6 tc th tm) sz) := by
  refine Met.ofW (cc := cX15_fails) (maxL := 2) (ret := (some .boolean)) (by decide) rfl ?_
  intro p e s m args below meth c s₁ B hml hv
  obtain ⟨rfl, hsz, hP, hK, hD0, hG⟩ := hv
  have hx := B.exec
  have hb := B.bytes
  have hr := B.returns
  have hlocks := B.notSynchronized
  have hts := atoms_spec (ws := wsC ⟨"FoundrymarkModel", "fails", "(I)Z"⟩ cX15_fails 2 (some .boolean)) B.pre
  have hta : ∀ w ∈ WA, w.before _ s = true := fun w h => hts w (List.mem_cons_of_mem _ h)
  have hown : s.vm.findClass "FoundrymarkModel" = some m.cls := findClass_of_methodNamed B.named
  subst hsz
  have hD : va_D (va_A (wM tE m0 m1 m2 m3 m4 m5 m6 tc th tm) s.heap.size) (wM tE m0 m1 m2 m3 m4 m5 m6 tc th tm) := hD0.self (sz := s.heap.size)
  generalize hAe : va_A (wM tE m0 m1 m2 m3 m4 m5 m6 tc th tm) s.heap.size = A at hD hG ⊢
  have hA : ∀ q : Nat, s.heap.size ≤ q → A q := fun q h => by rw [← hAe]; exact Or.inr h
  have hS : va_S A s.heap s.heap [] := va_S.rf
  have hP : va_P D vwCl (wM tE m0 m1 m2 m3 m4 m5 m6 tc th tm) s.heap := hP
  have hl := lv_entry ([.ref m0, .int 1]) (n := 2) (Nat.le_of_ble_eq_true rfl)
  rw [lg_entry_eq]
  generalize (lg_sl ([.ref m0, .int 1]) ++ List.replicate (2 - (lg_sl ([.ref m0, .int 1])).length) Slot.unset).toArray = ls at hl ⊢
  have hl : lv_has ls 2 [(0, .ref m0), (1, .int 1)] := hl
  refine lv_aload_n hx hb dX15_fails_0 rfl (lv_at hl 0 rfl) ?_
  refine lv_iload_n hx hb dX15_fails_1 rfl (lv_at hl 1 rfl) ?_
  refine va_put (D := D) (ci := 20) (v := .int 1) (ty := .int) (C := RX15) (T := TX15) (N := 9) hx hb hta iwX15 tyX15 tyX15_ok nmX15 hown hK hP hD hS 0 rfl rfl 0 (by decide) (hta _ mw167) (fun _ h9 => h9) rfl (by decide +kernel) rfl rfl (Nat.le_of_ble_eq_true rfl) dX15_fails_2 (fun H locs hP hD hS => ?_)
  have hP : va_P D vwCl (wM tE m0 m1 m2 m3 m4 m5 m6 tc 1 tm) H := hP
  have hD : va_D A (wM tE m0 m1 m2 m3 m4 m5 m6 tc 1 tm) := hD
  refine lv_iload_n hx hb dX15_fails_5 rfl (lv_at hl 1 rfl) ?_
  refine lv_if_le (tgt := 13) hx hb dX15_fails_6 (by decide) (fun c1 => ?_) (fun c1 => ?_)
  · exact absurd c1 (by decide)
  · skip
    refine lv_iconst (v := 1) hx hb dX15_fails_9 (by decide) ?_
    refine lv_goto (tgt := 14) hx hb dX15_fails_10 (by decide) ?_
    have hP9 := hP.sub (ws' := (wM tE m0 m1 m2 m3 m4 m5 m6 tc 1 tm)) [0, 1, 2, 3, 4, 5] rfl
    have hD9 := hD.sub (ws' := (wM tE m0 m1 m2 m3 m4 m5 m6 tc 1 tm)) [0, 1, 2, 3, 4, 5] (by decide) rfl
    have hK9 := hK.sub (tys' := []) [] rfl
    refine W.widen (k := 0) (n := 0) (Nat.le_of_ble_eq_true rfl) (Nat.le_of_ble_eq_true rfl) ?_
    exact W.zret (v := 1) (ty := .boolean) hx hb hr (by decide) (fun t ht hWm => ⟨⟨_, (), rfl, rfl, ⟨by rw [ht]; exact hP9, va_K.moved hWm.alike hK9, hD9⟩⟩, hS.F ht⟩) hS.2.2 dX15_fails_14

set_option maxHeartbeats 4000000 in
set_option maxRecDepth 100000 in
theorem c_X15_isPart (l : Launch) {D : va_G} {tE : Nat} {m0 m1 m2 m3 m4 m5 m6 : Nat} {tc : ClassId} {th tm : Int32} {n : Int32} : Met l ⟨"FoundrymarkModel", "isPart", "(I)Z"⟩ (wsC ⟨"FoundrymarkModel", "isPart", "(I)Z"⟩ cX15_isPart 2 (some .boolean)) ({ frames := 1, cells := 0, slots := 0, locals := 22 }) (va_Pc [.ref m0, .int n] (gR D (wM tE m0 m1 m2 m3 m4 m5 m6 tc th tm) [(tc, .char)])) (vp_Si (fun r => r = 0)) 0 0 (fun _ => False) := by
  refine Met.ofW (cc := cX15_isPart) (maxL := 2) (ret := (some .boolean)) (by decide) rfl ?_
  intro p e s m args below meth c s₁ B hml hv
  obtain ⟨rfl, hP, hK⟩ := hv
  have hx := B.exec
  have hb := B.bytes
  have hr := B.returns
  have hlocks := B.notSynchronized
  have hts := atoms_spec (ws := wsC ⟨"FoundrymarkModel", "isPart", "(I)Z"⟩ cX15_isPart 2 (some .boolean)) B.pre
  have hta : ∀ w ∈ WA, w.before _ s = true := fun w h => hts w (List.mem_cons_of_mem _ h)
  have hown : s.vm.findClass "FoundrymarkModel" = some m.cls := findClass_of_methodNamed B.named
  have hP : va_P D vwCl (wM tE m0 m1 m2 m3 m4 m5 m6 tc th tm) s.heap := hP
  have hl := lv_entry ([.ref m0, .int n]) (n := 2) (Nat.le_of_ble_eq_true rfl)
  rw [lg_entry_eq]
  generalize (lg_sl ([.ref m0, .int n]) ++ List.replicate (2 - (lg_sl ([.ref m0, .int n])).length) Slot.unset).toArray = ls at hl ⊢
  have hl : lv_has ls 2 [(0, .ref m0), (1, .int n)] := hl
  refine lv_iload_n hx hb dX15_isPart_0 rfl (lv_at hl 1 rfl) ?_
  refine lv_iconst (v := 0) hx hb dX15_isPart_1 (by decide) ?_
  refine lv_aload_n hx hb dX15_isPart_2 rfl (lv_at hl 0 rfl) ?_
  refine va_get (D := D) (ci := 20) (v := .ref m2) (C := RX15) (T := TX15) (N := 9) hx hb hta iwX15 hown hK hP 0 rfl rfl 2 (by decide) (hta _ mw168) (fun _ h9 => h9) rfl dX15_isPart_3 ?_
  have hPc := hP.sub (ws' := [(m2, .inr (4, [.int 0, .ref tE, .int 0]))]) [2] rfl
  have hKc := hK.sub (tys' := []) [] rfl
  refine vp_callSi (W.runV (As := []) (rest := [.int 0, .int n]) ⟨hx, hb, hml, hown, hta⟩ (c_AL_size l ) (cwV 0 hta (gWV mw170 mw171 mw172 mw157 mw169) rfl rfl rfl (by decide +kernel) ⟨Nat.le_of_ble_eq_true rfl, Nat.le_of_ble_eq_true rfl⟩) ⟨gR_blind, va_recv hKc hPc (ci := 4) (q0 := 0) rfl rfl, fun U hU hW => ⟨rfl, by rw [hU]; exact hPc, va_K.moved hW.alike hKc⟩⟩ rfl rfl hl.1 rfl (lv_room (Nat.le_of_ble_eq_true rfl)) dX15_isPart_6 ⟨Nat.le_of_ble_eq_true rfl, Nat.le_of_ble_eq_true rfl⟩) (fun r1 h2 => ?_)
  obtain rfl : r1 = 0 := h2
  refine lv_iconst (v := 1) hx hb dX15_isPart_9 (by decide) ?_
  refine lv_isub hx hb dX15_isPart_10 ?_
  refine vp_callSi (W.runS (As := [.int n, .int 0, .int (0 - 1)]) (rest := []) ⟨hx, hb, hml, hown, hta⟩ (c_X15_in l n 0 (0 - 1)) (va_cwS 3 hta (gWS mw174 mw175 mw176 mw173) rfl rfl rfl (by decide +kernel) ⟨Nat.le_of_ble_eq_true rfl, Nat.le_of_ble_eq_true rfl⟩) ⟨fun a U g mk q => ⟨q.1, trivial⟩, fun U hU hW => ⟨rfl, trivial⟩⟩ rfl rfl hl.1 rfl (lv_room (Nat.le_of_ble_eq_true rfl)) dX15_isPart_11 ⟨Nat.le_of_ble_eq_true rfl, Nat.le_of_ble_eq_true rfl⟩) (fun r3 h4 => ?_)
  obtain rfl : r3 = 0 := h4.trans (by rw [inR_m1]; rfl)
  exact W.zret (v := 0) (ty := .boolean) hx hb hr (by decide) (fun t ht hWm => ⟨_, rfl, rfl, ht⟩) (fun q h => absurd h List.not_mem_nil) dX15_isPart_14

set_option maxHeartbeats 4000000 in
set_option maxRecDepth 100000 in
theorem c_X15_isMachine (l : Launch) {D : va_G} {tE : Nat} {m0 m1 m2 m3 m4 m5 m6 : Nat} {tc : ClassId} {th tm : Int32} {n : Int32} : Met l ⟨"FoundrymarkModel", "isMachine", "(I)Z"⟩ (wsC ⟨"FoundrymarkModel", "isMachine", "(I)Z"⟩ cX15_isMachine 2 (some .boolean)) ({ frames := 1, cells := 0, slots := 0, locals := 22 }) (va_Pc [.ref m0, .int n] (gR D (wM tE m0 m1 m2 m3 m4 m5 m6 tc th tm) [(tc, .char)])) (vp_Si (fun r => r = 0)) 0 0 (fun _ => False) := by
  refine Met.ofW (cc := cX15_isMachine) (maxL := 2) (ret := (some .boolean)) (by decide) rfl ?_
  intro p e s m args below meth c s₁ B hml hv
  obtain ⟨rfl, hP, hK⟩ := hv
  have hx := B.exec
  have hb := B.bytes
  have hr := B.returns
  have hlocks := B.notSynchronized
  have hts := atoms_spec (ws := wsC ⟨"FoundrymarkModel", "isMachine", "(I)Z"⟩ cX15_isMachine 2 (some .boolean)) B.pre
  have hta : ∀ w ∈ WA, w.before _ s = true := fun w h => hts w (List.mem_cons_of_mem _ h)
  have hown : s.vm.findClass "FoundrymarkModel" = some m.cls := findClass_of_methodNamed B.named
  have hP : va_P D vwCl (wM tE m0 m1 m2 m3 m4 m5 m6 tc th tm) s.heap := hP
  have hl := lv_entry ([.ref m0, .int n]) (n := 2) (Nat.le_of_ble_eq_true rfl)
  rw [lg_entry_eq]
  generalize (lg_sl ([.ref m0, .int n]) ++ List.replicate (2 - (lg_sl ([.ref m0, .int n])).length) Slot.unset).toArray = ls at hl ⊢
  have hl : lv_has ls 2 [(0, .ref m0), (1, .int n)] := hl
  refine lv_iload_n hx hb dX15_isMachine_0 rfl (lv_at hl 1 rfl) ?_
  refine lv_iconst (v := 0) hx hb dX15_isMachine_1 (by decide) ?_
  refine lv_aload_n hx hb dX15_isMachine_2 rfl (lv_at hl 0 rfl) ?_
  refine va_get (D := D) (ci := 20) (v := .ref m1) (C := RX15) (T := TX15) (N := 9) hx hb hta iwX15 hown hK hP 0 rfl rfl 1 (by decide) (hta _ mw177) (fun _ h9 => h9) rfl dX15_isMachine_3 ?_
  have hPc := hP.sub (ws' := [(m1, .inr (4, [.int 0, .ref tE, .int 0]))]) [1] rfl
  have hKc := hK.sub (tys' := []) [] rfl
  refine vp_callSi (W.runV (As := []) (rest := [.int 0, .int n]) ⟨hx, hb, hml, hown, hta⟩ (c_AL_size l ) (cwV 0 hta (gWV mw170 mw171 mw172 mw157 mw169) rfl rfl rfl (by decide +kernel) ⟨Nat.le_of_ble_eq_true rfl, Nat.le_of_ble_eq_true rfl⟩) ⟨gR_blind, va_recv hKc hPc (ci := 4) (q0 := 0) rfl rfl, fun U hU hW => ⟨rfl, by rw [hU]; exact hPc, va_K.moved hW.alike hKc⟩⟩ rfl rfl hl.1 rfl (lv_room (Nat.le_of_ble_eq_true rfl)) dX15_isMachine_6 ⟨Nat.le_of_ble_eq_true rfl, Nat.le_of_ble_eq_true rfl⟩) (fun r1 h2 => ?_)
  obtain rfl : r1 = 0 := h2
  refine lv_iconst (v := 1) hx hb dX15_isMachine_9 (by decide) ?_
  refine lv_isub hx hb dX15_isMachine_10 ?_
  refine vp_callSi (W.runS (As := [.int n, .int 0, .int (0 - 1)]) (rest := []) ⟨hx, hb, hml, hown, hta⟩ (c_X15_in l n 0 (0 - 1)) (va_cwS 3 hta (gWS mw174 mw175 mw176 mw173) rfl rfl rfl (by decide +kernel) ⟨Nat.le_of_ble_eq_true rfl, Nat.le_of_ble_eq_true rfl⟩) ⟨fun a U g mk q => ⟨q.1, trivial⟩, fun U hU hW => ⟨rfl, trivial⟩⟩ rfl rfl hl.1 rfl (lv_room (Nat.le_of_ble_eq_true rfl)) dX15_isMachine_11 ⟨Nat.le_of_ble_eq_true rfl, Nat.le_of_ble_eq_true rfl⟩) (fun r3 h4 => ?_)
  obtain rfl : r3 = 0 := h4.trans (by rw [inR_m1]; rfl)
  exact W.zret (v := 0) (ty := .boolean) hx hb hr (by decide) (fun t ht hWm => ⟨_, rfl, rfl, ht⟩) (fun q h => absurd h List.not_mem_nil) dX15_isMachine_14

set_option maxHeartbeats 4000000 in
set_option maxRecDepth 100000 in
theorem c_X15_failsLot (l : Launch) {D : va_G} {tE sz : Nat} {m0 m1 m2 m3 m4 m5 m6 : Nat} {tc : ClassId} {th tm : Int32}  {n : Int32} : Met l ⟨"FoundrymarkModel", "failsLot", "(I)Z"⟩ (wsC ⟨"FoundrymarkModel", "failsLot", "(I)Z"⟩ cX15_failsLot 2 (some .boolean)) ({ frames := 1, cells := 0, slots := 0, locals := 22 }) (va_Pc [.ref m0, .int n] (gS tE D (wM tE m0 m1 m2 m3 m4 m5 m6 tc th tm) [(tc, .char)] sz)) (va_Qi ((fun (r : Int32) (_ : Unit) => r = 1)) (gO D (fun _ => (wM tE m0 m1 m2 m3 m4 m5 m6 tc 1 tm)) (fun _ => []) (va_A (wM tE m0 m1 m2 m3 m4 m5 m6 tc th tm) sz)) (va_A (wM tE m0 m1 m2 m3 m4 m5 m6 tc th tm) sz)) 0 0 (va_A (wM tE m0 m1 m2 m3 m4 m5 m6 tc th tm) sz) := by
  refine Met.ofW (cc := cX15_failsLot) (maxL := 2) (ret := (some .boolean)) (by decide) rfl ?_
  intro p e s m args below meth c s₁ B hml hv
  obtain ⟨rfl, hsz, hP, hK, hD0, hG⟩ := hv
  have hx := B.exec
  have hb := B.bytes
  have hr := B.returns
  have hlocks := B.notSynchronized
  have hts := atoms_spec (ws := wsC ⟨"FoundrymarkModel", "failsLot", "(I)Z"⟩ cX15_failsLot 2 (some .boolean)) B.pre
  have hta : ∀ w ∈ WA, w.before _ s = true := fun w h => hts w (List.mem_cons_of_mem _ h)
  have hown : s.vm.findClass "FoundrymarkModel" = some m.cls := findClass_of_methodNamed B.named
  subst hsz
  have hD : va_D (va_A (wM tE m0 m1 m2 m3 m4 m5 m6 tc th tm) s.heap.size) (wM tE m0 m1 m2 m3 m4 m5 m6 tc th tm) := hD0.self (sz := s.heap.size)
  generalize hAe : va_A (wM tE m0 m1 m2 m3 m4 m5 m6 tc th tm) s.heap.size = A at hD hG ⊢
  have hA : ∀ q : Nat, s.heap.size ≤ q → A q := fun q h => by rw [← hAe]; exact Or.inr h
  have hS : va_S A s.heap s.heap [] := va_S.rf
  have hP : va_P D vwCl (wM tE m0 m1 m2 m3 m4 m5 m6 tc th tm) s.heap := hP
  have hl := lv_entry ([.ref m0, .int n]) (n := 2) (Nat.le_of_ble_eq_true rfl)
  rw [lg_entry_eq]
  generalize (lg_sl ([.ref m0, .int n]) ++ List.replicate (2 - (lg_sl ([.ref m0, .int n])).length) Slot.unset).toArray = ls at hl ⊢
  have hl : lv_has ls 2 [(0, .ref m0), (1, .int n)] := hl
  refine lv_aload_n hx hb dX15_failsLot_0 rfl (lv_at hl 0 rfl) ?_
  refine lv_iload_n hx hb dX15_failsLot_1 rfl (lv_at hl 1 rfl) ?_
  refine lv_iconst (v := 0) hx hb dX15_failsLot_2 (by decide) ?_
  refine lv_aload_n hx hb dX15_failsLot_3 rfl (lv_at hl 0 rfl) ?_
  refine va_get (D := D) (ci := 20) (v := .ref m3) (C := RX15) (T := TX15) (N := 9) hx hb hta iwX15 hown hK hP 0 rfl rfl 3 (by decide) (hta _ mw178) (fun _ h9 => h9) rfl dX15_failsLot_4 ?_
  have hPc := hP.sub (ws' := [(m3, .inr (4, [.int 0, .ref tE, .int 0]))]) [3] rfl
  have hKc := hK.sub (tys' := []) [] rfl
  refine vp_callSi (W.runV (As := []) (rest := [.int 0, .int n, .ref m0]) ⟨hx, hb, hml, hown, hta⟩ (c_AL_size l ) (cwV 0 hta (gWV mw170 mw171 mw172 mw157 mw169) rfl rfl rfl (by decide +kernel) ⟨Nat.le_of_ble_eq_true rfl, Nat.le_of_ble_eq_true rfl⟩) ⟨gR_blind, va_recv hKc hPc (ci := 4) (q0 := 0) rfl rfl, fun U hU hW => ⟨rfl, by rw [hU]; exact hPc, va_K.moved hW.alike hKc⟩⟩ rfl rfl hl.1 rfl (lv_room (Nat.le_of_ble_eq_true rfl)) dX15_failsLot_7 ⟨Nat.le_of_ble_eq_true rfl, Nat.le_of_ble_eq_true rfl⟩) (fun r1 h2 => ?_)
  obtain rfl : r1 = 0 := h2
  refine lv_iconst (v := 1) hx hb dX15_failsLot_10 (by decide) ?_
  refine lv_isub hx hb dX15_failsLot_11 ?_
  refine vp_callSi (W.runS (As := [.int n, .int 0, .int (0 - 1)]) (rest := [.ref m0]) ⟨hx, hb, hml, hown, hta⟩ (c_X15_in l n 0 (0 - 1)) (va_cwS 3 hta (gWS mw174 mw175 mw176 mw173) rfl rfl rfl (by decide +kernel) ⟨Nat.le_of_ble_eq_true rfl, Nat.le_of_ble_eq_true rfl⟩) ⟨fun a U g mk q => ⟨q.1, trivial⟩, fun U hU hW => ⟨rfl, trivial⟩⟩ rfl rfl hl.1 rfl (lv_room (Nat.le_of_ble_eq_true rfl)) dX15_failsLot_12 ⟨Nat.le_of_ble_eq_true rfl, Nat.le_of_ble_eq_true rfl⟩) (fun r3 h4 => ?_)
  obtain rfl : r3 = 0 := h4.trans (by rw [inR_m1]; rfl)
  refine lv_if_eq (tgt := 22) hx hb dX15_failsLot_15 (by decide) (fun c5 => ?_) (fun c5 => ?_)
  · skip
    refine lv_iconst (v := 1) hx hb dX15_failsLot_22 (by decide) ?_
    have hPc := hP.sub (ws' := (wM tE m0 m1 m2 m3 m4 m5 m6 tc th tm)) [0, 1, 2, 3, 4, 5] rfl
    have hKc := hK.sub (tys' := [(tc, .char)]) [0] rfl
    have hDc := hD.sub (ws' := (wM tE m0 m1 m2 m3 m4 m5 m6 tc th tm)) [0, 1, 2, 3, 4, 5] (by decide) rfl
    have hFc := va_free (wc := (wM tE m0 m1 m2 m3 m4 m5 m6 tc th tm)) hD hS hA [0, 1, 2, 3, 4, 5] rfl
    refine gJ_i (isC := [0, 1, 2, 3, 4, 5]) (isR := []) (wr := []) (va_runV (As := [.int 1]) (rest := []) ⟨hx, hb, hml, hown, hta⟩ (c_X15_fails_1 l ) (cwV 1 hta (gWV mw180 mw181 mw182 mw176 mw179) rfl rfl rfl (by decide +kernel) ⟨Nat.le_of_ble_eq_true rfl, Nat.le_of_ble_eq_true rfl⟩) ⟨gS_blind, va_recv hKc hPc (ci := 20) (q0 := 0) rfl rfl, fun U hU hW => ⟨rfl, by rw [hU], by rw [hU]; exact hPc, va_K.moved hW.alike hKc, hDc.weaken (fun _ _ _ _ => trivial), hG.call hS hU hW hFc⟩⟩ rfl rfl hl.1 rfl (lv_room (Nat.le_of_ble_eq_true rfl)) dX15_failsLot_23 ⟨Nat.le_of_ble_eq_true rfl, Nat.le_of_ble_eq_true rfl⟩) hP hD hS hK hFc rfl rfl (by decide) (by decide) (fun r6 u7 H locs h8 hP hD hS hK => ?_)
    obtain rfl : r6 = 1 := h8
    have hK : va_K D vwCl [(tc, .char)] s := hK
    have hP : va_P D vwCl (wM tE m0 m1 m2 m3 m4 m5 m6 tc 1 tm) H := hP
    have hD : va_D A (wM tE m0 m1 m2 m3 m4 m5 m6 tc 1 tm) := hD
    have hP9 := hP.sub (ws' := (wM tE m0 m1 m2 m3 m4 m5 m6 tc 1 tm)) [0, 1, 2, 3, 4, 5] rfl
    have hD9 := hD.sub (ws' := (wM tE m0 m1 m2 m3 m4 m5 m6 tc 1 tm)) [0, 1, 2, 3, 4, 5] (by decide) rfl
    have hK9 := hK.sub (tys' := []) [] rfl
    refine W.widen (k := 0) (n := 0) (Nat.le_of_ble_eq_true rfl) (Nat.le_of_ble_eq_true rfl) ?_
    exact W.zret (v := 1) (ty := .boolean) hx hb hr (by decide) (fun t ht hWm => ⟨⟨_, (), rfl, rfl, ⟨by rw [ht]; exact hP9, va_K.moved hWm.alike hK9, hD9⟩⟩, hS.F ht⟩) hS.2.2 dX15_failsLot_26
  · exact absurd (by decide) c5

set_option maxHeartbeats 4000000 in
set_option maxRecDepth 100000 in
theorem c_X15_failsOrder (l : Launch) {D : va_G} {tE sz : Nat} {m0 m1 m2 m3 m4 m5 m6 : Nat} {tc : ClassId} {th tm : Int32}  {n : Int32} : Met l ⟨"FoundrymarkModel", "failsOrder", "(I)Z"⟩ (wsC ⟨"FoundrymarkModel", "failsOrder", "(I)Z"⟩ cX15_failsOrder 2 (some .boolean)) ({ frames := 1, cells := 0, slots := 0, locals := 22 }) (va_Pc [.ref m0, .int n] (gS tE D (wM tE m0 m1 m2 m3 m4 m5 m6 tc th tm) [(tc, .char)] sz)) (va_Qi ((fun (r : Int32) (_ : Unit) => r = 1)) (gO D (fun _ => (wM tE m0 m1 m2 m3 m4 m5 m6 tc 1 tm)) (fun _ => []) (va_A (wM tE m0 m1 m2 m3 m4 m5 m6 tc th tm) sz)) (va_A (wM tE m0 m1 m2 m3 m4 m5 m6 tc th tm) sz)) 0 0 (va_A (wM tE m0 m1 m2 m3 m4 m5 m6 tc th tm) sz) := by
  refine Met.ofW (cc := cX15_failsOrder) (maxL := 2) (ret := (some .boolean)) (by decide) rfl ?_
  intro p e s m args below meth c s₁ B hml hv
  obtain ⟨rfl, hsz, hP, hK, hD0, hG⟩ := hv
  have hx := B.exec
  have hb := B.bytes
  have hr := B.returns
  have hlocks := B.notSynchronized
  have hts := atoms_spec (ws := wsC ⟨"FoundrymarkModel", "failsOrder", "(I)Z"⟩ cX15_failsOrder 2 (some .boolean)) B.pre
  have hta : ∀ w ∈ WA, w.before _ s = true := fun w h => hts w (List.mem_cons_of_mem _ h)
  have hown : s.vm.findClass "FoundrymarkModel" = some m.cls := findClass_of_methodNamed B.named
  subst hsz
  have hD : va_D (va_A (wM tE m0 m1 m2 m3 m4 m5 m6 tc th tm) s.heap.size) (wM tE m0 m1 m2 m3 m4 m5 m6 tc th tm) := hD0.self (sz := s.heap.size)
  generalize hAe : va_A (wM tE m0 m1 m2 m3 m4 m5 m6 tc th tm) s.heap.size = A at hD hG ⊢
  have hA : ∀ q : Nat, s.heap.size ≤ q → A q := fun q h => by rw [← hAe]; exact Or.inr h
  have hS : va_S A s.heap s.heap [] := va_S.rf
  have hP : va_P D vwCl (wM tE m0 m1 m2 m3 m4 m5 m6 tc th tm) s.heap := hP
  have hl := lv_entry ([.ref m0, .int n]) (n := 2) (Nat.le_of_ble_eq_true rfl)
  rw [lg_entry_eq]
  generalize (lg_sl ([.ref m0, .int n]) ++ List.replicate (2 - (lg_sl ([.ref m0, .int n])).length) Slot.unset).toArray = ls at hl ⊢
  have hl : lv_has ls 2 [(0, .ref m0), (1, .int n)] := hl
  refine lv_aload_n hx hb dX15_failsOrder_0 rfl (lv_at hl 0 rfl) ?_
  refine lv_iload_n hx hb dX15_failsOrder_1 rfl (lv_at hl 1 rfl) ?_
  refine lv_iconst (v := 0) hx hb dX15_failsOrder_2 (by decide) ?_
  refine lv_aload_n hx hb dX15_failsOrder_3 rfl (lv_at hl 0 rfl) ?_
  refine va_get (D := D) (ci := 20) (v := .ref m4) (C := RX15) (T := TX15) (N := 9) hx hb hta iwX15 hown hK hP 0 rfl rfl 4 (by decide) (hta _ mw183) (fun _ h9 => h9) rfl dX15_failsOrder_4 ?_
  have hPc := hP.sub (ws' := [(m4, .inr (4, [.int 0, .ref tE, .int 0]))]) [4] rfl
  have hKc := hK.sub (tys' := []) [] rfl
  refine vp_callSi (W.runV (As := []) (rest := [.int 0, .int n, .ref m0]) ⟨hx, hb, hml, hown, hta⟩ (c_AL_size l ) (cwV 0 hta (gWV mw170 mw171 mw172 mw157 mw169) rfl rfl rfl (by decide +kernel) ⟨Nat.le_of_ble_eq_true rfl, Nat.le_of_ble_eq_true rfl⟩) ⟨gR_blind, va_recv hKc hPc (ci := 4) (q0 := 0) rfl rfl, fun U hU hW => ⟨rfl, by rw [hU]; exact hPc, va_K.moved hW.alike hKc⟩⟩ rfl rfl hl.1 rfl (lv_room (Nat.le_of_ble_eq_true rfl)) dX15_failsOrder_7 ⟨Nat.le_of_ble_eq_true rfl, Nat.le_of_ble_eq_true rfl⟩) (fun r1 h2 => ?_)
  obtain rfl : r1 = 0 := h2
  refine lv_iconst (v := 1) hx hb dX15_failsOrder_10 (by decide) ?_
  refine lv_isub hx hb dX15_failsOrder_11 ?_
  refine vp_callSi (W.runS (As := [.int n, .int 0, .int (0 - 1)]) (rest := [.ref m0]) ⟨hx, hb, hml, hown, hta⟩ (c_X15_in l n 0 (0 - 1)) (va_cwS 3 hta (gWS mw174 mw175 mw176 mw173) rfl rfl rfl (by decide +kernel) ⟨Nat.le_of_ble_eq_true rfl, Nat.le_of_ble_eq_true rfl⟩) ⟨fun a U g mk q => ⟨q.1, trivial⟩, fun U hU hW => ⟨rfl, trivial⟩⟩ rfl rfl hl.1 rfl (lv_room (Nat.le_of_ble_eq_true rfl)) dX15_failsOrder_12 ⟨Nat.le_of_ble_eq_true rfl, Nat.le_of_ble_eq_true rfl⟩) (fun r3 h4 => ?_)
  obtain rfl : r3 = 0 := h4.trans (by rw [inR_m1]; rfl)
  refine lv_if_eq (tgt := 22) hx hb dX15_failsOrder_15 (by decide) (fun c5 => ?_) (fun c5 => ?_)
  · skip
    refine lv_iconst (v := 1) hx hb dX15_failsOrder_22 (by decide) ?_
    have hPc := hP.sub (ws' := (wM tE m0 m1 m2 m3 m4 m5 m6 tc th tm)) [0, 1, 2, 3, 4, 5] rfl
    have hKc := hK.sub (tys' := [(tc, .char)]) [0] rfl
    have hDc := hD.sub (ws' := (wM tE m0 m1 m2 m3 m4 m5 m6 tc th tm)) [0, 1, 2, 3, 4, 5] (by decide) rfl
    have hFc := va_free (wc := (wM tE m0 m1 m2 m3 m4 m5 m6 tc th tm)) hD hS hA [0, 1, 2, 3, 4, 5] rfl
    refine gJ_i (isC := [0, 1, 2, 3, 4, 5]) (isR := []) (wr := []) (va_runV (As := [.int 1]) (rest := []) ⟨hx, hb, hml, hown, hta⟩ (c_X15_fails_1 l ) (cwV 1 hta (gWV mw180 mw181 mw182 mw176 mw179) rfl rfl rfl (by decide +kernel) ⟨Nat.le_of_ble_eq_true rfl, Nat.le_of_ble_eq_true rfl⟩) ⟨gS_blind, va_recv hKc hPc (ci := 20) (q0 := 0) rfl rfl, fun U hU hW => ⟨rfl, by rw [hU], by rw [hU]; exact hPc, va_K.moved hW.alike hKc, hDc.weaken (fun _ _ _ _ => trivial), hG.call hS hU hW hFc⟩⟩ rfl rfl hl.1 rfl (lv_room (Nat.le_of_ble_eq_true rfl)) dX15_failsOrder_23 ⟨Nat.le_of_ble_eq_true rfl, Nat.le_of_ble_eq_true rfl⟩) hP hD hS hK hFc rfl rfl (by decide) (by decide) (fun r6 u7 H locs h8 hP hD hS hK => ?_)
    obtain rfl : r6 = 1 := h8
    have hK : va_K D vwCl [(tc, .char)] s := hK
    have hP : va_P D vwCl (wM tE m0 m1 m2 m3 m4 m5 m6 tc 1 tm) H := hP
    have hD : va_D A (wM tE m0 m1 m2 m3 m4 m5 m6 tc 1 tm) := hD
    have hP9 := hP.sub (ws' := (wM tE m0 m1 m2 m3 m4 m5 m6 tc 1 tm)) [0, 1, 2, 3, 4, 5] rfl
    have hD9 := hD.sub (ws' := (wM tE m0 m1 m2 m3 m4 m5 m6 tc 1 tm)) [0, 1, 2, 3, 4, 5] (by decide) rfl
    have hK9 := hK.sub (tys' := []) [] rfl
    refine W.widen (k := 0) (n := 0) (Nat.le_of_ble_eq_true rfl) (Nat.le_of_ble_eq_true rfl) ?_
    exact W.zret (v := 1) (ty := .boolean) hx hb hr (by decide) (fun t ht hWm => ⟨⟨_, (), rfl, rfl, ⟨by rw [ht]; exact hP9, va_K.moved hWm.alike hK9, hD9⟩⟩, hS.F ht⟩) hS.2.2 dX15_failsOrder_26
  · exact absurd (by decide) c5

set_option maxHeartbeats 4000000 in
set_option maxRecDepth 100000 in
theorem c_X15_failsMachine (l : Launch) {D : va_G} {tE sz : Nat} {m0 m1 m2 m3 m4 m5 m6 : Nat} {tc : ClassId} {th tm : Int32}  {n : Int32} : Met l ⟨"FoundrymarkModel", "failsMachine", "(I)Z"⟩ (wsC ⟨"FoundrymarkModel", "failsMachine", "(I)Z"⟩ cX15_failsMachine 2 (some .boolean)) ({ frames := 2, cells := 0, slots := 0, locals := 43 }) (va_Pc [.ref m0, .int n] (gS tE D (wM tE m0 m1 m2 m3 m4 m5 m6 tc th tm) [(tc, .char)] sz)) (va_Qi ((fun (r : Int32) (_ : Unit) => r = 1)) (gO D (fun _ => (wM tE m0 m1 m2 m3 m4 m5 m6 tc 1 tm)) (fun _ => []) (va_A (wM tE m0 m1 m2 m3 m4 m5 m6 tc th tm) sz)) (va_A (wM tE m0 m1 m2 m3 m4 m5 m6 tc th tm) sz)) 0 0 (va_A (wM tE m0 m1 m2 m3 m4 m5 m6 tc th tm) sz) := by
  refine Met.ofW (cc := cX15_failsMachine) (maxL := 2) (ret := (some .boolean)) (by decide) rfl ?_
  intro p e s m args below meth c s₁ B hml hv
  obtain ⟨rfl, hsz, hP, hK, hD0, hG⟩ := hv
  have hx := B.exec
  have hb := B.bytes
  have hr := B.returns
  have hlocks := B.notSynchronized
  have hts := atoms_spec (ws := wsC ⟨"FoundrymarkModel", "failsMachine", "(I)Z"⟩ cX15_failsMachine 2 (some .boolean)) B.pre
  have hta : ∀ w ∈ WA, w.before _ s = true := fun w h => hts w (List.mem_cons_of_mem _ h)
  have hown : s.vm.findClass "FoundrymarkModel" = some m.cls := findClass_of_methodNamed B.named
  subst hsz
  have hD : va_D (va_A (wM tE m0 m1 m2 m3 m4 m5 m6 tc th tm) s.heap.size) (wM tE m0 m1 m2 m3 m4 m5 m6 tc th tm) := hD0.self (sz := s.heap.size)
  generalize hAe : va_A (wM tE m0 m1 m2 m3 m4 m5 m6 tc th tm) s.heap.size = A at hD hG ⊢
  have hA : ∀ q : Nat, s.heap.size ≤ q → A q := fun q h => by rw [← hAe]; exact Or.inr h
  have hS : va_S A s.heap s.heap [] := va_S.rf
  have hP : va_P D vwCl (wM tE m0 m1 m2 m3 m4 m5 m6 tc th tm) s.heap := hP
  have hl := lv_entry ([.ref m0, .int n]) (n := 2) (Nat.le_of_ble_eq_true rfl)
  rw [lg_entry_eq]
  generalize (lg_sl ([.ref m0, .int n]) ++ List.replicate (2 - (lg_sl ([.ref m0, .int n])).length) Slot.unset).toArray = ls at hl ⊢
  have hl : lv_has ls 2 [(0, .ref m0), (1, .int n)] := hl
  refine lv_aload_n hx hb dX15_failsMachine_0 rfl (lv_at hl 0 rfl) ?_
  refine lv_aload_n hx hb dX15_failsMachine_1 rfl (lv_at hl 0 rfl) ?_
  refine lv_iload_n hx hb dX15_failsMachine_2 rfl (lv_at hl 1 rfl) ?_
  have hPc := hP.sub (ws' := (wM tE m0 m1 m2 m3 m4 m5 m6 tc th tm)) [0, 1, 2, 3, 4, 5] rfl
  have hKc := hK.sub (tys' := [(tc, .char)]) [0] rfl
  refine vp_callSi (W.runV (As := [.int n]) (rest := [.ref m0]) ⟨hx, hb, hml, hown, hta⟩ (c_X15_isMachine l ) (cwV 1 hta (gWV mw185 mw186 mw187 mw176 mw184) rfl rfl rfl (by decide +kernel) ⟨Nat.le_of_ble_eq_true rfl, Nat.le_of_ble_eq_true rfl⟩) ⟨gR_blind, va_recv hKc hPc (ci := 20) (q0 := 0) rfl rfl, fun U hU hW => ⟨rfl, by rw [hU]; exact hPc, va_K.moved hW.alike hKc⟩⟩ rfl rfl hl.1 rfl (lv_room (Nat.le_of_ble_eq_true rfl)) dX15_failsMachine_3 ⟨Nat.le_of_ble_eq_true rfl, Nat.le_of_ble_eq_true rfl⟩) (fun r1 h2 => ?_)
  obtain rfl : r1 = 0 := h2
  refine lv_if_eq (tgt := 13) hx hb dX15_failsMachine_6 (by decide) (fun c3 => ?_) (fun c3 => ?_)
  · skip
    refine lv_iconst (v := 1) hx hb dX15_failsMachine_13 (by decide) ?_
    have hPc := hP.sub (ws' := (wM tE m0 m1 m2 m3 m4 m5 m6 tc th tm)) [0, 1, 2, 3, 4, 5] rfl
    have hKc := hK.sub (tys' := [(tc, .char)]) [0] rfl
    have hDc := hD.sub (ws' := (wM tE m0 m1 m2 m3 m4 m5 m6 tc th tm)) [0, 1, 2, 3, 4, 5] (by decide) rfl
    have hFc := va_free (wc := (wM tE m0 m1 m2 m3 m4 m5 m6 tc th tm)) hD hS hA [0, 1, 2, 3, 4, 5] rfl
    refine gJ_i (isC := [0, 1, 2, 3, 4, 5]) (isR := []) (wr := []) (va_runV (As := [.int 1]) (rest := []) ⟨hx, hb, hml, hown, hta⟩ (c_X15_fails_1 l ) (cwV 1 hta (gWV mw180 mw181 mw182 mw176 mw179) rfl rfl rfl (by decide +kernel) ⟨Nat.le_of_ble_eq_true rfl, Nat.le_of_ble_eq_true rfl⟩) ⟨gS_blind, va_recv hKc hPc (ci := 20) (q0 := 0) rfl rfl, fun U hU hW => ⟨rfl, by rw [hU], by rw [hU]; exact hPc, va_K.moved hW.alike hKc, hDc.weaken (fun _ _ _ _ => trivial), hG.call hS hU hW hFc⟩⟩ rfl rfl hl.1 rfl (lv_room (Nat.le_of_ble_eq_true rfl)) dX15_failsMachine_14 ⟨Nat.le_of_ble_eq_true rfl, Nat.le_of_ble_eq_true rfl⟩) hP hD hS hK hFc rfl rfl (by decide) (by decide) (fun r4 u5 H locs h6 hP hD hS hK => ?_)
    obtain rfl : r4 = 1 := h6
    have hK : va_K D vwCl [(tc, .char)] s := hK
    have hP : va_P D vwCl (wM tE m0 m1 m2 m3 m4 m5 m6 tc 1 tm) H := hP
    have hD : va_D A (wM tE m0 m1 m2 m3 m4 m5 m6 tc 1 tm) := hD
    have hP9 := hP.sub (ws' := (wM tE m0 m1 m2 m3 m4 m5 m6 tc 1 tm)) [0, 1, 2, 3, 4, 5] rfl
    have hD9 := hD.sub (ws' := (wM tE m0 m1 m2 m3 m4 m5 m6 tc 1 tm)) [0, 1, 2, 3, 4, 5] (by decide) rfl
    have hK9 := hK.sub (tys' := []) [] rfl
    refine W.widen (k := 0) (n := 0) (Nat.le_of_ble_eq_true rfl) (Nat.le_of_ble_eq_true rfl) ?_
    exact W.zret (v := 1) (ty := .boolean) hx hb hr (by decide) (fun t ht hWm => ⟨⟨_, (), rfl, rfl, ⟨by rw [ht]; exact hP9, va_K.moved hWm.alike hK9, hD9⟩⟩, hS.F ht⟩) hS.2.2 dX15_failsMachine_17
  · exact absurd (by decide) c3
