set_option maxHeartbeats 4000000 in
set_option maxRecDepth 100000 in
theorem c_X15_end (l : Launch) {D : va_G} {tE sz : Nat} {m0 m1 m2 m3 m4 m5 m6 : Nat} {tc : ClassId} {th tm : Int32}   : Met l ⟨"FoundrymarkModel", "end", "()V"⟩ (wsC ⟨"FoundrymarkModel", "end", "()V"⟩ cX15_end 4 none) ({ frames := 3, cells := 1, slots := 4, locals := 61 }) (va_Pc [.ref m0] (gS tE D (wM tE m0 m1 m2 m3 m4 m5 m6 tc th tm) [(tc, .char)] sz)) (va_Qv (fun _ : Unit => True) (gO D (fun _ => (wM tE m0 m1 m2 m3 m4 m5 m6 tc th tm)) (fun _ => []) (va_A (wM tE m0 m1 m2 m3 m4 m5 m6 tc th tm) sz)) (va_A (wM tE m0 m1 m2 m3 m4 m5 m6 tc th tm) sz)) 1 4 (va_A (wM tE m0 m1 m2 m3 m4 m5 m6 tc th tm) sz) := by
  refine Met.ofW (cc := cX15_end) (maxL := 4) (ret := none) (by decide) rfl ?_
  intro p e s m args below meth c s₁ B hml hv
  obtain ⟨rfl, hsz, hP, hK, hD0, hG⟩ := hv
  have hx := B.exec
  have hb := B.bytes
  have hr := B.returns
  have hlocks := B.notSynchronized
  have hts := atoms_spec (ws := wsC ⟨"FoundrymarkModel", "end", "()V"⟩ cX15_end 4 none) B.pre
  have hta : ∀ w ∈ WA, w.before _ s = true := fun w h => hts w (List.mem_cons_of_mem _ h)
  have hown : s.vm.findClass "FoundrymarkModel" = some m.cls := findClass_of_methodNamed B.named
  subst hsz
  have hD : va_D (va_A (wM tE m0 m1 m2 m3 m4 m5 m6 tc th tm) s.heap.size) (wM tE m0 m1 m2 m3 m4 m5 m6 tc th tm) := hD0.self (sz := s.heap.size)
  generalize hAe : va_A (wM tE m0 m1 m2 m3 m4 m5 m6 tc th tm) s.heap.size = A at hD hG ⊢
  have hA : ∀ q : Nat, s.heap.size ≤ q → A q := fun q h => by rw [← hAe]; exact Or.inr h
  have hS : va_S A s.heap s.heap [] := va_S.rf
  have hP : va_P D vwCl (wM tE m0 m1 m2 m3 m4 m5 m6 tc th tm) s.heap := hP
  have hl := lv_entry ([.ref m0]) (n := 4) (Nat.le_of_ble_eq_true rfl)
  rw [lg_entry_eq]
  generalize (lg_sl ([.ref m0]) ++ List.replicate (4 - (lg_sl ([.ref m0])).length) Slot.unset).toArray = ls at hl ⊢
  have hl : lv_has ls 4 [(0, .ref m0)] := hl
  refine lv_aload_n hx hb dX15_end_0 rfl (lv_at hl 0 rfl) ?_
  refine va_get (D := D) (ci := 20) (v := .ref m1) (C := RX15) (T := TX15) (N := 9) hx hb hta iwX15 hown hK hP 0 rfl rfl 1 (by decide) (hta _ mw177) (fun _ h9 => h9) rfl dX15_end_1 ?_
  have hPc := hP.sub (ws' := [(m1, .inr (4, [.int 0, .ref tE, .int 0]))]) [1] rfl
  have hKc := hK.sub (tys' := []) [] rfl
  have hDc := hD.sub (ws' := [(m1, .inr (4, [.int 0, .ref tE, .int 0]))]) [1] (by decide) rfl
  have hFc := va_free (wc := [(m1, .inr (4, [.int 0, .ref tE, .int 0]))]) hD hS hA [1] rfl
  refine gJ_q (isC := [1]) (isR := [0, 2, 3, 4, 5]) (wr := [(m0, .inr (20, [.int th, .ref m1, .ref m2, .ref m3, .ref m4, .int 0, .ref m5, .ref m6, .int tm])), (m2, .inr (4, [.int 0, .ref tE, .int 0])), (m3, .inr (4, [.int 0, .ref tE, .int 0])), (m4, .inr (4, [.int 0, .ref tE, .int 0])), (m5, .inl (tc, 4, .inl (upd (upd (upd (upd (fun _ => 0) 0 110) 1 110) 2 110) 3 110)))]) (va_runV (As := []) (rest := []) ⟨hx, hb, hml, hown, hta⟩ (c_AL_iterator l ) (cwV 0 hta (gWV mw206 mw207 mw208 mw157 mw205) rfl rfl rfl (by decide +kernel) ⟨Nat.le_of_ble_eq_true rfl, Nat.le_of_ble_eq_true rfl⟩) ⟨gS_blind, va_recv hKc hPc (ci := 4) (q0 := 0) rfl rfl, fun U hU hW => ⟨rfl, by rw [hU], by rw [hU]; exact hPc, va_K.moved hW.alike hKc, hDc.weaken (fun _ _ _ _ => trivial), hG.call hS hU hW hFc⟩⟩ rfl rfl hl.1 rfl (lv_room (Nat.le_of_ble_eq_true rfl)) dX15_end_4 ⟨Nat.le_of_ble_eq_true rfl, Nat.le_of_ble_eq_true rfl⟩) hP hD hS hK hFc rfl rfl (by decide) (by decide) (fun r1 u2 H locs h3 hP hD hS hK => ?_)
  obtain rfl : r1 = some u2 := h3
  refine W.eq (g2 := F0 m 7 ls [.ref u2]) rfl ?_
  have hK : va_K D vwCl [(tc, .char)] s := hK
  have hP : va_P D vwCl [(m0, .inr (20, [.int th, .ref m1, .ref m2, .ref m3, .ref m4, .int 0, .ref m5, .ref m6, .int tm])), (m2, .inr (4, [.int 0, .ref tE, .int 0])), (m3, .inr (4, [.int 0, .ref tE, .int 0])), (m4, .inr (4, [.int 0, .ref tE, .int 0])), (m5, .inl (tc, 4, .inl (upd (upd (upd (upd (fun _ => 0) 0 110) 1 110) 2 110) 3 110))), (m1, .inr (4, [.int 0, .ref tE, .int 0])), (u2, .inr (3, [.int 0, .int (-1), .int 0, .ref m1]))] H := hP
  have hD : va_D A [(m0, .inr (20, [.int th, .ref m1, .ref m2, .ref m3, .ref m4, .int 0, .ref m5, .ref m6, .int tm])), (m2, .inr (4, [.int 0, .ref tE, .int 0])), (m3, .inr (4, [.int 0, .ref tE, .int 0])), (m4, .inr (4, [.int 0, .ref tE, .int 0])), (m5, .inl (tc, 4, .inl (upd (upd (upd (upd (fun _ => 0) 0 110) 1 110) 2 110) 3 110))), (m1, .inr (4, [.int 0, .ref tE, .int 0])), (u2, .inr (3, [.int 0, .int (-1), .int 0, .ref m1]))] := hD
  refine lv_astore_n (lv' := [(1, .ref u2), (0, .ref m0)]) hx hb dX15_end_7 rfl hl (by decide) rfl (fun ls hl => ?_)
  refine lv_aload_n hx hb dX15_end_8 rfl (lv_at hl 0 rfl) ?_
  have hPc := hP.sub (ws' := [(u2, .inr (3, [.int 0, .int (-1), .int 0, .ref m1])), (m1, .inr (4, [.int 0, .ref tE, .int 0]))]) [6, 5] rfl
  have hKc := hK.sub (tys' := []) [] rfl
  refine va_csFi (va_runF (As := []) (rest := []) (hKc.1 3 _ rfl).2 ⟨hx, hb, hml, hown, hta⟩ (c_Itr_hasNext l) (va_cwF 0 hta (gWF mw209 mw210 mw211 mw131 mw212) rfl rfl rfl hG.F (by decide +kernel) ⟨Nat.le_of_ble_eq_true rfl, Nat.le_of_ble_eq_true rfl⟩) ⟨fun a U g mk q => ⟨q.1, ⟨q.2.1.1, va_K.moved (u := U) (U := U.calling g mk a) (Vm.Alike.refl U.vm) q.2.1.2⟩, q.2.2.same rfl rfl⟩, va_recv hKc hPc (ci := 3) (q0 := 0) rfl rfl, fun U hU hW => ⟨rfl, ⟨by rw [hU]; exact hPc, va_K.moved hW.alike hKc⟩, hG.E.warmF hW⟩⟩ rfl rfl hl.1 rfl (lv_room (Nat.le_of_ble_eq_true rfl)) dX15_end_9 ⟨Nat.le_of_ble_eq_true rfl, Nat.le_of_ble_eq_true rfl⟩) (fun r4 h5 => ?_)
  obtain rfl : r4 = 0 := h5
  refine lv_if_eq (tgt := 159) hx hb dX15_end_14 (by decide) (fun c6 => ?_) (fun c6 => ?_)
  · skip
    have hP9 := hP.sub (ws' := (wM tE m0 m1 m2 m3 m4 m5 m6 tc th tm)) [0, 5, 1, 2, 3, 4] rfl
    have hD9 := hD.sub (ws' := (wM tE m0 m1 m2 m3 m4 m5 m6 tc th tm)) [0, 5, 1, 2, 3, 4] (by decide) rfl
    have hK9 := hK.sub (tys' := []) [] rfl
    refine W.widen (k := 1) (n := 4) (Nat.le_of_ble_eq_true rfl) (Nat.le_of_ble_eq_true rfl) ?_
    exact W.vret hx hb hr (fun t ht hWm => ⟨⟨(), rfl, trivial, ⟨by rw [ht]; exact hP9, va_K.moved hWm.alike hK9, hD9⟩⟩, hS.F ht⟩) hS.2.2 dX15_end_159
  · exact absurd (by decide) c6

set_option maxHeartbeats 4000000 in
set_option maxRecDepth 100000 in
theorem c_X15_begin (l : Launch) {D : va_G} {tE sz : Nat} {m0 m1 m2 m3 m4 m5 m6 : Nat} {tc : ClassId} {th tm : Int32}   : Met l ⟨"FoundrymarkModel", "begin", "()V"⟩ (wsC ⟨"FoundrymarkModel", "begin", "()V"⟩ cX15_begin 7 none) ({ frames := 1, cells := 0, slots := 0, locals := 20 }) (va_Pc [.ref m0] (gS tE D (wM tE m0 m1 m2 m3 m4 m5 m6 tc th tm) [(tc, .char)] sz)) (va_Qv (fun _ : Unit => True) (gO D (fun _ => (wM tE m0 m1 m2 m3 m4 m5 m6 tc th tm)) (fun _ => []) (va_A (wM tE m0 m1 m2 m3 m4 m5 m6 tc th tm) sz)) (va_A (wM tE m0 m1 m2 m3 m4 m5 m6 tc th tm) sz)) 0 0 (va_A (wM tE m0 m1 m2 m3 m4 m5 m6 tc th tm) sz) := by
  refine Met.ofW (cc := cX15_begin) (maxL := 7) (ret := none) (by decide) rfl ?_
  intro p e s m args below meth c s₁ B hml hv
  obtain ⟨rfl, hsz, hP, hK, hD0, hG⟩ := hv
  have hx := B.exec
  have hb := B.bytes
  have hr := B.returns
  have hlocks := B.notSynchronized
  have hts := atoms_spec (ws := wsC ⟨"FoundrymarkModel", "begin", "()V"⟩ cX15_begin 7 none) B.pre
  have hta : ∀ w ∈ WA, w.before _ s = true := fun w h => hts w (List.mem_cons_of_mem _ h)
  have hown : s.vm.findClass "FoundrymarkModel" = some m.cls := findClass_of_methodNamed B.named
  subst hsz
  have hD : va_D (va_A (wM tE m0 m1 m2 m3 m4 m5 m6 tc th tm) s.heap.size) (wM tE m0 m1 m2 m3 m4 m5 m6 tc th tm) := hD0.self (sz := s.heap.size)
  generalize hAe : va_A (wM tE m0 m1 m2 m3 m4 m5 m6 tc th tm) s.heap.size = A at hD hG ⊢
  have hA : ∀ q : Nat, s.heap.size ≤ q → A q := fun q h => by rw [← hAe]; exact Or.inr h
  have hS : va_S A s.heap s.heap [] := va_S.rf
  have hP : va_P D vwCl (wM tE m0 m1 m2 m3 m4 m5 m6 tc th tm) s.heap := hP
  have hl := lv_entry ([.ref m0]) (n := 7) (Nat.le_of_ble_eq_true rfl)
  rw [lg_entry_eq]
  generalize (lg_sl ([.ref m0]) ++ List.replicate (7 - (lg_sl ([.ref m0])).length) Slot.unset).toArray = ls at hl ⊢
  have hl : lv_has ls 7 [(0, .ref m0)] := hl
  refine lv_iconst (v := 0) hx hb dX15_begin_0 (by decide) ?_
  refine lv_istore_n (lv' := [(1, .int 0), (0, .ref m0)]) hx hb dX15_begin_1 rfl hl (by decide) rfl (fun ls hl => ?_)
  refine lv_iload_n hx hb dX15_begin_2 rfl (lv_at hl 0 rfl) ?_
  refine lv_aload_n hx hb dX15_begin_3 rfl (lv_at hl 1 rfl) ?_
  refine va_get (D := D) (ci := 20) (v := .ref m1) (C := RX15) (T := TX15) (N := 9) hx hb hta iwX15 hown hK hP 0 rfl rfl 1 (by decide) (hta _ mw177) (fun _ h9 => h9) rfl dX15_begin_4 ?_
  have hPc := hP.sub (ws' := [(m1, .inr (4, [.int 0, .ref tE, .int 0]))]) [1] rfl
  have hKc := hK.sub (tys' := []) [] rfl
  refine vp_callSi (W.runV (As := []) (rest := [.int 0]) ⟨hx, hb, hml, hown, hta⟩ (c_AL_size l ) (cwV 0 hta (gWV mw170 mw171 mw172 mw157 mw169) rfl rfl rfl (by decide +kernel) ⟨Nat.le_of_ble_eq_true rfl, Nat.le_of_ble_eq_true rfl⟩) ⟨gR_blind, va_recv hKc hPc (ci := 4) (q0 := 0) rfl rfl, fun U hU hW => ⟨rfl, by rw [hU]; exact hPc, va_K.moved hW.alike hKc⟩⟩ rfl rfl hl.1 rfl (lv_room (Nat.le_of_ble_eq_true rfl)) dX15_begin_7 ⟨Nat.le_of_ble_eq_true rfl, Nat.le_of_ble_eq_true rfl⟩) (fun r1 h2 => ?_)
  obtain rfl : r1 = 0 := h2
  refine lv_icmp_ge (tgt := 266) hx hb dX15_begin_10 (by decide) (fun c3 => ?_) (fun c3 => ?_)
  · skip
    have hP9 := hP.sub (ws' := (wM tE m0 m1 m2 m3 m4 m5 m6 tc th tm)) [0, 1, 2, 3, 4, 5] rfl
    have hD9 := hD.sub (ws' := (wM tE m0 m1 m2 m3 m4 m5 m6 tc th tm)) [0, 1, 2, 3, 4, 5] (by decide) rfl
    have hK9 := hK.sub (tys' := []) [] rfl
    refine W.widen (k := 0) (n := 0) (Nat.le_of_ble_eq_true rfl) (Nat.le_of_ble_eq_true rfl) ?_
    exact W.vret hx hb hr (fun t ht hWm => ⟨⟨(), rfl, trivial, ⟨by rw [ht]; exact hP9, va_K.moved hWm.alike hK9, hD9⟩⟩, hS.F ht⟩) hS.2.2 dX15_begin_266
  · exact absurd (by decide) c3

set_option maxHeartbeats 4000000 in
set_option maxRecDepth 100000 in
theorem c_X15_advance_f (l : Launch) {D : va_G} {tE sz : Nat} {m0 m1 m2 m3 m4 m5 m6 : Nat} {tc : ClassId} {th tm : Int32}  {b : Int32} (hf : inR b 1 500 = false) : Met l ⟨"FoundrymarkModel", "advance", "(I)I"⟩ (wsC ⟨"FoundrymarkModel", "advance", "(I)I"⟩ cX15_advance 3 (some .int)) ({ frames := 1, cells := 0, slots := 0, locals := 22 }) (va_Pc [.ref m0, .int b] (gS tE D (wM tE m0 m1 m2 m3 m4 m5 m6 tc th tm) [(tc, .char)] sz)) (va_Qi ((fun (r : Int32) (_ : Unit) => r = 0)) (gO D (fun _ => (wM tE m0 m1 m2 m3 m4 m5 m6 tc 1 tm)) (fun _ => []) (va_A (wM tE m0 m1 m2 m3 m4 m5 m6 tc th tm) sz)) (va_A (wM tE m0 m1 m2 m3 m4 m5 m6 tc th tm) sz)) 0 0 (va_A (wM tE m0 m1 m2 m3 m4 m5 m6 tc th tm) sz) := by
  refine Met.ofW (cc := cX15_advance) (maxL := 3) (ret := (some .int)) (by decide) rfl ?_
  intro p e s m args below meth c s₁ B hml hv
  obtain ⟨rfl, hsz, hP, hK, hD0, hG⟩ := hv
  have hx := B.exec
  have hb := B.bytes
  have hr := B.returns
  have hlocks := B.notSynchronized
  have hts := atoms_spec (ws := wsC ⟨"FoundrymarkModel", "advance", "(I)I"⟩ cX15_advance 3 (some .int)) B.pre
  have hta : ∀ w ∈ WA, w.before _ s = true := fun w h => hts w (List.mem_cons_of_mem _ h)
  have hown : s.vm.findClass "FoundrymarkModel" = some m.cls := findClass_of_methodNamed B.named
  subst hsz
  have hD : va_D (va_A (wM tE m0 m1 m2 m3 m4 m5 m6 tc th tm) s.heap.size) (wM tE m0 m1 m2 m3 m4 m5 m6 tc th tm) := hD0.self (sz := s.heap.size)
  generalize hAe : va_A (wM tE m0 m1 m2 m3 m4 m5 m6 tc th tm) s.heap.size = A at hD hG ⊢
  have hA : ∀ q : Nat, s.heap.size ≤ q → A q := fun q h => by rw [← hAe]; exact Or.inr h
  have hS : va_S A s.heap s.heap [] := va_S.rf
  have hP : va_P D vwCl (wM tE m0 m1 m2 m3 m4 m5 m6 tc th tm) s.heap := hP
  have hl := lv_entry ([.ref m0, .int b]) (n := 3) (Nat.le_of_ble_eq_true rfl)
  rw [lg_entry_eq]
  generalize (lg_sl ([.ref m0, .int b]) ++ List.replicate (3 - (lg_sl ([.ref m0, .int b])).length) Slot.unset).toArray = ls at hl ⊢
  have hl : lv_has ls 3 [(0, .ref m0), (1, .int b)] := hl
  refine lv_aload_n hx hb dX15_advance_0 rfl (lv_at hl 0 rfl) ?_
  refine lv_iload_n hx hb dX15_advance_1 rfl (lv_at hl 1 rfl) ?_
  refine lv_iconst (v := 1) hx hb dX15_advance_2 (by decide) ?_
  refine lv_sipush (v := 500) hx hb dX15_advance_3 (by decide) ?_
  refine vp_callSi (W.runS (As := [.int b, .int 1, .int 500]) (rest := [.ref m0]) ⟨hx, hb, hml, hown, hta⟩ (c_X15_in l b 1 500) (va_cwS 3 hta (gWS mw174 mw175 mw176 mw173) rfl rfl rfl (by decide +kernel) ⟨Nat.le_of_ble_eq_true rfl, Nat.le_of_ble_eq_true rfl⟩) ⟨fun a U g mk q => ⟨q.1, trivial⟩, fun U hU hW => ⟨rfl, trivial⟩⟩ rfl rfl hl.1 rfl (lv_room (Nat.le_of_ble_eq_true rfl)) dX15_advance_6 ⟨Nat.le_of_ble_eq_true rfl, Nat.le_of_ble_eq_true rfl⟩) (fun r1 h2 => ?_)
  obtain rfl : r1 = 0 := h2.trans (by rw [hf]; rfl)
  refine lv_if_ne (tgt := 16) hx hb dX15_advance_9 (by decide) (fun c3 => ?_) (fun c3 => ?_)
  · exact absurd c3 (by decide)
  · skip
    refine lv_iconst (v := 1) hx hb dX15_advance_12 (by decide) ?_
    refine lv_goto (tgt := 33) hx hb dX15_advance_13 (by decide) ?_
    have hPc := hP.sub (ws' := (wM tE m0 m1 m2 m3 m4 m5 m6 tc th tm)) [0, 1, 2, 3, 4, 5] rfl
    have hKc := hK.sub (tys' := [(tc, .char)]) [0] rfl
    have hDc := hD.sub (ws' := (wM tE m0 m1 m2 m3 m4 m5 m6 tc th tm)) [0, 1, 2, 3, 4, 5] (by decide) rfl
    have hFc := va_free (wc := (wM tE m0 m1 m2 m3 m4 m5 m6 tc th tm)) hD hS hA [0, 1, 2, 3, 4, 5] rfl
    refine gJ_i (isC := [0, 1, 2, 3, 4, 5]) (isR := []) (wr := []) (va_runV (As := [.int 1]) (rest := []) ⟨hx, hb, hml, hown, hta⟩ (c_X15_fails_1 l ) (cwV 1 hta (gWV mw180 mw181 mw182 mw176 mw179) rfl rfl rfl (by decide +kernel) ⟨Nat.le_of_ble_eq_true rfl, Nat.le_of_ble_eq_true rfl⟩) ⟨gS_blind, va_recv hKc hPc (ci := 20) (q0 := 0) rfl rfl, fun U hU hW => ⟨rfl, by rw [hU], by rw [hU]; exact hPc, va_K.moved hW.alike hKc, hDc.weaken (fun _ _ _ _ => trivial), hG.call hS hU hW hFc⟩⟩ rfl rfl hl.1 rfl (lv_room (Nat.le_of_ble_eq_true rfl)) dX15_advance_33 ⟨Nat.le_of_ble_eq_true rfl, Nat.le_of_ble_eq_true rfl⟩) hP hD hS hK hFc rfl rfl (by decide) (by decide) (fun r4 u5 H locs h6 hP hD hS hK => ?_)
    obtain rfl : r4 = 1 := h6
    have hK : va_K D vwCl [(tc, .char)] s := hK
    have hP : va_P D vwCl (wM tE m0 m1 m2 m3 m4 m5 m6 tc 1 tm) H := hP
    have hD : va_D A (wM tE m0 m1 m2 m3 m4 m5 m6 tc 1 tm) := hD
    refine lv_if_eq (tgt := 41) hx hb dX15_advance_36 (by decide) (fun c7 => ?_) (fun c7 => ?_)
    · exact absurd c7 (by decide)
    · skip
      refine lv_iconst (v := 0) hx hb dX15_advance_39 (by decide) ?_
      have hP9 := hP.sub (ws' := (wM tE m0 m1 m2 m3 m4 m5 m6 tc 1 tm)) [0, 1, 2, 3, 4, 5] rfl
      have hD9 := hD.sub (ws' := (wM tE m0 m1 m2 m3 m4 m5 m6 tc 1 tm)) [0, 1, 2, 3, 4, 5] (by decide) rfl
      have hK9 := hK.sub (tys' := []) [] rfl
      refine W.widen (k := 0) (n := 0) (Nat.le_of_ble_eq_true rfl) (Nat.le_of_ble_eq_true rfl) ?_
      exact W.iret (v := 0) hx hb hr (fun t ht hWm => ⟨⟨_, (), rfl, rfl, ⟨by rw [ht]; exact hP9, va_K.moved hWm.alike hK9, hD9⟩⟩, hS.F ht⟩) hS.2.2 dX15_advance_40

set_option maxHeartbeats 4000000 in
set_option maxRecDepth 100000 in
theorem c_X15_advance_t (l : Launch) {D : va_G} {tE sz : Nat} {m0 m1 m2 m3 m4 m5 m6 : Nat} {tc : ClassId} {th : Int32}  {N : Nat} (hN : N ≤ 500) (ht : inR (nI N) 1 500 = true) : Met l ⟨"FoundrymarkModel", "advance", "(I)I"⟩ (wsC ⟨"FoundrymarkModel", "advance", "(I)I"⟩ cX15_advance 3 (some .int)) ({ frames := 4, cells := 500, slots := 2000, locals := 84 }) (va_Pc [.ref m0, .int (nI N)] (gS tE D (wM tE m0 m1 m2 m3 m4 m5 m6 tc th 0) [(tc, .char)] sz)) (va_Qi ((fun (r : Int32) (_ : Unit) => r = nI N)) (gO D (fun _ => [(m0, .inr (20, [.int 0, .ref m1, .ref m2, .ref m3, .ref m4, .int 0, .ref m5, .ref m6, .int (nI N)])), (m1, .inr (4, [.int 0, .ref tE, .int 0])), (m2, .inr (4, [.int 0, .ref tE, .int 0])), (m3, .inr (4, [.int 0, .ref tE, .int 0])), (m4, .inr (4, [.int 0, .ref tE, .int 0])), (m5, .inl (tc, 4, .inl (upd (upd (upd (upd (fun _ => 0) 0 110) 1 110) 2 110) 3 110)))]) (fun _ => []) (va_A (wM tE m0 m1 m2 m3 m4 m5 m6 tc th 0) sz)) (va_A (wM tE m0 m1 m2 m3 m4 m5 m6 tc th 0) sz)) 500 2000 (va_A (wM tE m0 m1 m2 m3 m4 m5 m6 tc th 0) sz) := by
  refine Met.ofW (cc := cX15_advance) (maxL := 3) (ret := (some .int)) (by decide) rfl ?_
  intro p e s m args below meth c s₁ B hml hv
  obtain ⟨rfl, hsz, hP, hK, hD0, hG⟩ := hv
  have hx := B.exec
  have hb := B.bytes
  have hr := B.returns
  have hlocks := B.notSynchronized
  have hts := atoms_spec (ws := wsC ⟨"FoundrymarkModel", "advance", "(I)I"⟩ cX15_advance 3 (some .int)) B.pre
  have hta : ∀ w ∈ WA, w.before _ s = true := fun w h => hts w (List.mem_cons_of_mem _ h)
  have hown : s.vm.findClass "FoundrymarkModel" = some m.cls := findClass_of_methodNamed B.named
  subst hsz
  have hD : va_D (va_A (wM tE m0 m1 m2 m3 m4 m5 m6 tc th 0) s.heap.size) (wM tE m0 m1 m2 m3 m4 m5 m6 tc th 0) := hD0.self (sz := s.heap.size)
  generalize hAe : va_A (wM tE m0 m1 m2 m3 m4 m5 m6 tc th 0) s.heap.size = A at hD hG ⊢
  have hA : ∀ q : Nat, s.heap.size ≤ q → A q := fun q h => by rw [← hAe]; exact Or.inr h
  have hS : va_S A s.heap s.heap [] := va_S.rf
  have hP : va_P D vwCl (wM tE m0 m1 m2 m3 m4 m5 m6 tc th 0) s.heap := hP
  have hl := lv_entry ([.ref m0, .int (nI N)]) (n := 3) (Nat.le_of_ble_eq_true rfl)
  rw [lg_entry_eq]
  generalize (lg_sl ([.ref m0, .int (nI N)]) ++ List.replicate (3 - (lg_sl ([.ref m0, .int (nI N)])).length) Slot.unset).toArray = ls at hl ⊢
  have hl : lv_has ls 3 [(0, .ref m0), (1, .int (nI N))] := hl
  refine lv_aload_n hx hb dX15_advance_0 rfl (lv_at hl 0 rfl) ?_
  refine lv_iload_n hx hb dX15_advance_1 rfl (lv_at hl 1 rfl) ?_
  refine lv_iconst (v := 1) hx hb dX15_advance_2 (by decide) ?_
  refine lv_sipush (v := 500) hx hb dX15_advance_3 (by decide) ?_
  refine vp_callSi (W.runS (As := [.int (nI N), .int 1, .int 500]) (rest := [.ref m0]) ⟨hx, hb, hml, hown, hta⟩ (c_X15_in l (nI N) 1 500) (va_cwS 3 hta (gWS mw174 mw175 mw176 mw173) rfl rfl rfl (by decide +kernel) ⟨Nat.le_of_ble_eq_true rfl, Nat.le_of_ble_eq_true rfl⟩) ⟨fun a U g mk q => ⟨q.1, trivial⟩, fun U hU hW => ⟨rfl, trivial⟩⟩ rfl rfl hl.1 rfl (lv_room (Nat.le_of_ble_eq_true rfl)) dX15_advance_6 ⟨Nat.le_of_ble_eq_true rfl, Nat.le_of_ble_eq_true rfl⟩) (fun r1 h2 => ?_)
  obtain rfl : r1 = 1 := h2.trans (by rw [ht]; rfl)
  refine lv_if_ne (tgt := 16) hx hb dX15_advance_9 (by decide) (fun c3 => ?_) (fun c3 => ?_)
  · skip
    refine lv_aload_n hx hb dX15_advance_16 rfl (lv_at hl 0 rfl) ?_
    refine va_get (D := D) (ci := 20) (v := .int 0) (C := RX15) (T := TX15) (N := 9) hx hb hta iwX15 hown hK hP 0 rfl rfl 8 (by decide) (hta _ mw217) (fun _ h9 => h9) rfl dX15_advance_17 ?_
    refine lv_iload_n hx hb dX15_advance_20 rfl (lv_at hl 1 rfl) ?_
    refine lv_iadd hx hb dX15_advance_21 ?_
    refine lv_sipush (v := 5000) hx hb dX15_advance_22 (by decide) ?_
    refine lv_icmp_le (tgt := 32) hx hb dX15_advance_25 (by decide) (fun c4 => ?_) (fun c4 => ?_)
    · skip
      refine lv_iconst (v := 0) hx hb dX15_advance_32 (by decide) ?_
      have hPc := hP.sub (ws' := (wM tE m0 m1 m2 m3 m4 m5 m6 tc th 0)) [0, 1, 2, 3, 4, 5] rfl
      have hKc := hK.sub (tys' := [(tc, .char)]) [0] rfl
      have hDc := hD.sub (ws' := (wM tE m0 m1 m2 m3 m4 m5 m6 tc th 0)) [0, 1, 2, 3, 4, 5] (by decide) rfl
      have hFc := va_free (wc := (wM tE m0 m1 m2 m3 m4 m5 m6 tc th 0)) hD hS hA [0, 1, 2, 3, 4, 5] rfl
      refine gJ_i (isC := [0, 1, 2, 3, 4, 5]) (isR := []) (wr := []) (va_runV (As := [.int 0]) (rest := []) ⟨hx, hb, hml, hown, hta⟩ (c_X15_fails_0 l ) (cwV 1 hta (gWV mw180 mw181 mw182 mw176 mw179) rfl rfl rfl (by decide +kernel) ⟨Nat.le_of_ble_eq_true rfl, Nat.le_of_ble_eq_true rfl⟩) ⟨gS_blind, va_recv hKc hPc (ci := 20) (q0 := 0) rfl rfl, fun U hU hW => ⟨rfl, by rw [hU], by rw [hU]; exact hPc, va_K.moved hW.alike hKc, hDc.weaken (fun _ _ _ _ => trivial), hG.call hS hU hW hFc⟩⟩ rfl rfl hl.1 rfl (lv_room (Nat.le_of_ble_eq_true rfl)) dX15_advance_33 ⟨Nat.le_of_ble_eq_true rfl, Nat.le_of_ble_eq_true rfl⟩) hP hD hS hK hFc rfl rfl (by decide) (by decide) (fun r5 u6 H locs h7 hP hD hS hK => ?_)
      obtain rfl : r5 = 0 := h7
      have hK : va_K D vwCl [(tc, .char)] s := hK
      have hP : va_P D vwCl (wM tE m0 m1 m2 m3 m4 m5 m6 tc 0 0) H := hP
      have hD : va_D A (wM tE m0 m1 m2 m3 m4 m5 m6 tc 0 0) := hD
      refine lv_if_eq (tgt := 41) hx hb dX15_advance_36 (by decide) (fun c8 => ?_) (fun c8 => ?_)
      · skip
        refine lv_iconst (v := 0) hx hb dX15_advance_41 (by decide) ?_
        refine lv_istore_n (lv' := [(2, .int 0), (0, .ref m0), (1, .int (nI N))]) hx hb dX15_advance_42 rfl hl (by decide) rfl (fun ls hl => ?_)
        refine loop_g (σ := Nat × Heap × List Loc × Array Slot) (Wg := fun z => W p l e _ s m _ below meth c z.2.1 z.2.2.1 (1 * z.1) (4 * z.1) _ (F0 m 43 z.2.2.2 [])) N (fun j9 z => z.1 = j9 ∧ va_P D vwCl [(m0, .inr (20, [.int 0, .ref m1, .ref m2, .ref m3, .ref m4, .int 0, .ref m5, .ref m6, .int (nI j9)])), (m1, .inr (4, [.int 0, .ref tE, .int 0])), (m2, .inr (4, [.int 0, .ref tE, .int 0])), (m3, .inr (4, [.int 0, .ref tE, .int 0])), (m4, .inr (4, [.int 0, .ref tE, .int 0])), (m5, .inl (tc, 4, .inl (upd (upd (upd (upd (fun _ => 0) 0 110) 1 110) 2 110) 3 110)))] z.2.1 ∧ va_D A [(m0, .inr (20, [.int 0, .ref m1, .ref m2, .ref m3, .ref m4, .int 0, .ref m5, .ref m6, .int (nI j9)])), (m1, .inr (4, [.int 0, .ref tE, .int 0])), (m2, .inr (4, [.int 0, .ref tE, .int 0])), (m3, .inr (4, [.int 0, .ref tE, .int 0])), (m4, .inr (4, [.int 0, .ref tE, .int 0])), (m5, .inl (tc, 4, .inl (upd (upd (upd (upd (fun _ => 0) 0 110) 1 110) 2 110) 3 110)))] ∧ va_S A s.heap z.2.1 z.2.2.1 ∧ lv_has z.2.2.2 3 [(0, .ref m0), (1, .int (nI N)), (2, .int (nI j9))]) (fun j9 hj10 ih11 z hz => ?_) (fun z hz => ?_) (0, _, _, ls) ⟨rfl, hP, hD, hS, lv_sub hl [1, 2, 0] rfl⟩
        · skip
          obtain ⟨k9, H, locs, ls⟩ := z
          obtain ⟨hk9, hP, hD, hS, hl⟩ := hz
          dsimp only at hk9 hP hD hS hl ⊢
          subst k9
          refine lv_iload_n hx hb dX15_advance_43 rfl (lv_at hl 2 rfl) ?_
          refine lv_iload_n hx hb dX15_advance_44 rfl (lv_at hl 1 rfl) ?_
          refine lv_icmp_ge (tgt := 72) hx hb dX15_advance_45 (by decide) (fun c12 => ?_) (fun c12 => ?_)
          · exact absurd c12 (nI_ge hj10 (by omega))
          · skip
            refine lv_aload_n hx hb dX15_advance_48 rfl (lv_at hl 0 rfl) ?_
            refine lv_dup hx hb dX15_advance_49 rfl ?_
            refine va_get (D := D) (ci := 20) (v := .int (nI j9)) (C := RX15) (T := TX15) (N := 9) hx hb hta iwX15 hown hK hP 0 rfl rfl 8 (by decide) (hta _ mw217) (fun _ h9 => h9) rfl dX15_advance_50 ?_
            refine lv_iconst (v := 1) hx hb dX15_advance_53 (by decide) ?_
            refine lv_iadd hx hb dX15_advance_54 ?_
            refine lv_topi (fun x13 ex13 => ?_)
            obtain rfl : x13 = nI (j9 + 1) := ex13.trans (nI_1 _)
            refine va_put (D := D) (ci := 20) (v := .int (nI (j9 + 1))) (ty := .int) (C := RX15) (T := TX15) (N := 9) hx hb hta iwX15 tyX15 tyX15_ok nmX15 hown hK hP hD hS 0 rfl rfl 8 (by decide) (hta _ mw217) (fun _ h9 => h9) rfl (by decide +kernel) rfl rfl (Nat.le_of_ble_eq_true rfl) dX15_advance_55 (fun H locs hP hD hS => ?_)
            have hP : va_P D vwCl [(m0, .inr (20, [.int 0, .ref m1, .ref m2, .ref m3, .ref m4, .int 0, .ref m5, .ref m6, .int (nI (j9 + 1))])), (m1, .inr (4, [.int 0, .ref tE, .int 0])), (m2, .inr (4, [.int 0, .ref tE, .int 0])), (m3, .inr (4, [.int 0, .ref tE, .int 0])), (m4, .inr (4, [.int 0, .ref tE, .int 0])), (m5, .inl (tc, 4, .inl (upd (upd (upd (upd (fun _ => 0) 0 110) 1 110) 2 110) 3 110)))] H := hP
            have hD : va_D A [(m0, .inr (20, [.int 0, .ref m1, .ref m2, .ref m3, .ref m4, .int 0, .ref m5, .ref m6, .int (nI (j9 + 1))])), (m1, .inr (4, [.int 0, .ref tE, .int 0])), (m2, .inr (4, [.int 0, .ref tE, .int 0])), (m3, .inr (4, [.int 0, .ref tE, .int 0])), (m4, .inr (4, [.int 0, .ref tE, .int 0])), (m5, .inl (tc, 4, .inl (upd (upd (upd (upd (fun _ => 0) 0 110) 1 110) 2 110) 3 110)))] := hD
            refine lv_aload_n hx hb dX15_advance_58 rfl (lv_at hl 0 rfl) ?_
            have hPc := hP.sub (ws' := [(m0, .inr (20, [.int 0, .ref m1, .ref m2, .ref m3, .ref m4, .int 0, .ref m5, .ref m6, .int (nI (j9 + 1))])), (m1, .inr (4, [.int 0, .ref tE, .int 0])), (m2, .inr (4, [.int 0, .ref tE, .int 0])), (m3, .inr (4, [.int 0, .ref tE, .int 0])), (m4, .inr (4, [.int 0, .ref tE, .int 0])), (m5, .inl (tc, 4, .inl (upd (upd (upd (upd (fun _ => 0) 0 110) 1 110) 2 110) 3 110)))]) [0, 1, 2, 3, 4, 5] rfl
            have hKc := hK.sub (tys' := [(tc, .char)]) [0] rfl
            have hDc := hD.sub (ws' := [(m0, .inr (20, [.int 0, .ref m1, .ref m2, .ref m3, .ref m4, .int 0, .ref m5, .ref m6, .int (nI (j9 + 1))])), (m1, .inr (4, [.int 0, .ref tE, .int 0])), (m2, .inr (4, [.int 0, .ref tE, .int 0])), (m3, .inr (4, [.int 0, .ref tE, .int 0])), (m4, .inr (4, [.int 0, .ref tE, .int 0])), (m5, .inl (tc, 4, .inl (upd (upd (upd (upd (fun _ => 0) 0 110) 1 110) 2 110) 3 110)))]) [0, 1, 2, 3, 4, 5] (by decide) rfl
            have hFc := va_free (wc := [(m0, .inr (20, [.int 0, .ref m1, .ref m2, .ref m3, .ref m4, .int 0, .ref m5, .ref m6, .int (nI (j9 + 1))])), (m1, .inr (4, [.int 0, .ref tE, .int 0])), (m2, .inr (4, [.int 0, .ref tE, .int 0])), (m3, .inr (4, [.int 0, .ref tE, .int 0])), (m4, .inr (4, [.int 0, .ref tE, .int 0])), (m5, .inl (tc, 4, .inl (upd (upd (upd (upd (fun _ => 0) 0 110) 1 110) 2 110) 3 110)))]) hD hS hA [0, 1, 2, 3, 4, 5] rfl
            refine gJ_v (isC := [0, 1, 2, 3, 4, 5]) (isR := []) (wr := []) (va_runV (As := []) (rest := []) ⟨hx, hb, hml, hown, hta⟩ (c_X15_end l ) (cwV 0 hta (gWV mw219 mw220 mw221 mw176 mw218) rfl rfl rfl (by decide +kernel) ⟨Nat.le_of_ble_eq_true rfl, Nat.le_of_ble_eq_true rfl⟩) ⟨gS_blind, va_recv hKc hPc (ci := 20) (q0 := 0) rfl rfl, fun U hU hW => ⟨rfl, by rw [hU], by rw [hU]; exact hPc, va_K.moved hW.alike hKc, hDc.weaken (fun _ _ _ _ => trivial), hG.call hS hU hW hFc⟩⟩ rfl rfl hl.1 rfl (lv_room (Nat.le_of_ble_eq_true rfl)) dX15_advance_59 ⟨Nat.le_trans (m := 500) (by omega) (Nat.le_of_ble_eq_true rfl), Nat.le_trans (m := 2000) (by omega) (Nat.le_of_ble_eq_true rfl)⟩) hP hD hS hK hFc rfl rfl (by decide) (by decide) (fun u15 H locs h16 hP hD hS hK => ?_)
            have hK : va_K D vwCl [(tc, .char)] s := hK
            have hP : va_P D vwCl [(m0, .inr (20, [.int 0, .ref m1, .ref m2, .ref m3, .ref m4, .int 0, .ref m5, .ref m6, .int (nI (j9 + 1))])), (m1, .inr (4, [.int 0, .ref tE, .int 0])), (m2, .inr (4, [.int 0, .ref tE, .int 0])), (m3, .inr (4, [.int 0, .ref tE, .int 0])), (m4, .inr (4, [.int 0, .ref tE, .int 0])), (m5, .inl (tc, 4, .inl (upd (upd (upd (upd (fun _ => 0) 0 110) 1 110) 2 110) 3 110)))] H := hP
            have hD : va_D A [(m0, .inr (20, [.int 0, .ref m1, .ref m2, .ref m3, .ref m4, .int 0, .ref m5, .ref m6, .int (nI (j9 + 1))])), (m1, .inr (4, [.int 0, .ref tE, .int 0])), (m2, .inr (4, [.int 0, .ref tE, .int 0])), (m3, .inr (4, [.int 0, .ref tE, .int 0])), (m4, .inr (4, [.int 0, .ref tE, .int 0])), (m5, .inl (tc, 4, .inl (upd (upd (upd (upd (fun _ => 0) 0 110) 1 110) 2 110) 3 110)))] := hD
            refine lv_aload_n hx hb dX15_advance_62 rfl (lv_at hl 0 rfl) ?_
            have hPc := hP.sub (ws' := [(m0, .inr (20, [.int 0, .ref m1, .ref m2, .ref m3, .ref m4, .int 0, .ref m5, .ref m6, .int (nI (j9 + 1))])), (m1, .inr (4, [.int 0, .ref tE, .int 0])), (m2, .inr (4, [.int 0, .ref tE, .int 0])), (m3, .inr (4, [.int 0, .ref tE, .int 0])), (m4, .inr (4, [.int 0, .ref tE, .int 0])), (m5, .inl (tc, 4, .inl (upd (upd (upd (upd (fun _ => 0) 0 110) 1 110) 2 110) 3 110)))]) [0, 1, 2, 3, 4, 5] rfl
            have hKc := hK.sub (tys' := [(tc, .char)]) [0] rfl
            have hDc := hD.sub (ws' := [(m0, .inr (20, [.int 0, .ref m1, .ref m2, .ref m3, .ref m4, .int 0, .ref m5, .ref m6, .int (nI (j9 + 1))])), (m1, .inr (4, [.int 0, .ref tE, .int 0])), (m2, .inr (4, [.int 0, .ref tE, .int 0])), (m3, .inr (4, [.int 0, .ref tE, .int 0])), (m4, .inr (4, [.int 0, .ref tE, .int 0])), (m5, .inl (tc, 4, .inl (upd (upd (upd (upd (fun _ => 0) 0 110) 1 110) 2 110) 3 110)))]) [0, 1, 2, 3, 4, 5] (by decide) rfl
            have hFc := va_free (wc := [(m0, .inr (20, [.int 0, .ref m1, .ref m2, .ref m3, .ref m4, .int 0, .ref m5, .ref m6, .int (nI (j9 + 1))])), (m1, .inr (4, [.int 0, .ref tE, .int 0])), (m2, .inr (4, [.int 0, .ref tE, .int 0])), (m3, .inr (4, [.int 0, .ref tE, .int 0])), (m4, .inr (4, [.int 0, .ref tE, .int 0])), (m5, .inl (tc, 4, .inl (upd (upd (upd (upd (fun _ => 0) 0 110) 1 110) 2 110) 3 110)))]) hD hS hA [0, 1, 2, 3, 4, 5] rfl
            refine gJ_v (isC := [0, 1, 2, 3, 4, 5]) (isR := []) (wr := []) (va_runV (As := []) (rest := []) ⟨hx, hb, hml, hown, hta⟩ (c_X15_begin l ) (cwV 0 hta (gWV mw223 mw224 mw225 mw176 mw222) rfl rfl rfl (by decide +kernel) ⟨Nat.le_of_ble_eq_true rfl, Nat.le_of_ble_eq_true rfl⟩) ⟨gS_blind, va_recv hKc hPc (ci := 20) (q0 := 0) rfl rfl, fun U hU hW => ⟨rfl, by rw [hU], by rw [hU]; exact hPc, va_K.moved hW.alike hKc, hDc.weaken (fun _ _ _ _ => trivial), hG.call hS hU hW hFc⟩⟩ rfl rfl hl.1 rfl (lv_room (Nat.le_of_ble_eq_true rfl)) dX15_advance_63 ⟨Nat.le_trans (m := 500) (by omega) (Nat.le_of_ble_eq_true rfl), Nat.le_trans (m := 2000) (by omega) (Nat.le_of_ble_eq_true rfl)⟩) hP hD hS hK hFc rfl rfl (by decide) (by decide) (fun u18 H locs h19 hP hD hS hK => ?_)
            have hK : va_K D vwCl [(tc, .char)] s := hK
            have hP : va_P D vwCl [(m0, .inr (20, [.int 0, .ref m1, .ref m2, .ref m3, .ref m4, .int 0, .ref m5, .ref m6, .int (nI (j9 + 1))])), (m1, .inr (4, [.int 0, .ref tE, .int 0])), (m2, .inr (4, [.int 0, .ref tE, .int 0])), (m3, .inr (4, [.int 0, .ref tE, .int 0])), (m4, .inr (4, [.int 0, .ref tE, .int 0])), (m5, .inl (tc, 4, .inl (upd (upd (upd (upd (fun _ => 0) 0 110) 1 110) 2 110) 3 110)))] H := hP
            have hD : va_D A [(m0, .inr (20, [.int 0, .ref m1, .ref m2, .ref m3, .ref m4, .int 0, .ref m5, .ref m6, .int (nI (j9 + 1))])), (m1, .inr (4, [.int 0, .ref tE, .int 0])), (m2, .inr (4, [.int 0, .ref tE, .int 0])), (m3, .inr (4, [.int 0, .ref tE, .int 0])), (m4, .inr (4, [.int 0, .ref tE, .int 0])), (m5, .inl (tc, 4, .inl (upd (upd (upd (upd (fun _ => 0) 0 110) 1 110) 2 110) 3 110)))] := hD
            refine lv_iinc (v := nI (j9 + 1)) (lv' := [(2, .int (nI (j9 + 1))), (0, .ref m0), (1, .int (nI N))]) hx hb dX15_advance_66 hl (k := 2) rfl (nI_1 _) (by decide) rfl (fun ls hl => ?_)
            refine lv_goto (tgt := 43) hx hb dX15_advance_69 (by decide) ?_
            refine W.widen (k := 1 * (j9 + 1)) (n := 4 * (j9 + 1)) (by omega) (by omega) ?_
            exact ih11 (j9 + 1, _, _, ls) ⟨rfl, hP, hD, hS, lv_sub hl [1, 2, 0] rfl⟩
        · skip
          obtain ⟨k9, H, locs, ls⟩ := z
          obtain ⟨hk9, hP, hD, hS, hl⟩ := hz
          dsimp only at hk9 hP hD hS hl ⊢
          subst k9
          refine lv_iload_n hx hb dX15_advance_43 rfl (lv_at hl 2 rfl) ?_
          refine lv_iload_n hx hb dX15_advance_44 rfl (lv_at hl 1 rfl) ?_
          refine lv_icmp_ge (tgt := 72) hx hb dX15_advance_45 (by decide) (fun c20 => ?_) (fun c20 => ?_)
          · skip
            refine lv_aload_n hx hb dX15_advance_72 rfl (lv_at hl 0 rfl) ?_
            refine va_get (D := D) (ci := 20) (v := .int (nI N)) (C := RX15) (T := TX15) (N := 9) hx hb hta iwX15 hown hK hP 0 rfl rfl 8 (by decide) (hta _ mw217) (fun _ h9 => h9) rfl dX15_advance_73 ?_
            refine W.widen (k := 500) (n := 2000) (by omega) (by omega) ?_
            have hP9 := hP.sub (ws' := [(m0, .inr (20, [.int 0, .ref m1, .ref m2, .ref m3, .ref m4, .int 0, .ref m5, .ref m6, .int (nI N)])), (m1, .inr (4, [.int 0, .ref tE, .int 0])), (m2, .inr (4, [.int 0, .ref tE, .int 0])), (m3, .inr (4, [.int 0, .ref tE, .int 0])), (m4, .inr (4, [.int 0, .ref tE, .int 0])), (m5, .inl (tc, 4, .inl (upd (upd (upd (upd (fun _ => 0) 0 110) 1 110) 2 110) 3 110)))]) [0, 1, 2, 3, 4, 5] rfl
            have hD9 := hD.sub (ws' := [(m0, .inr (20, [.int 0, .ref m1, .ref m2, .ref m3, .ref m4, .int 0, .ref m5, .ref m6, .int (nI N)])), (m1, .inr (4, [.int 0, .ref tE, .int 0])), (m2, .inr (4, [.int 0, .ref tE, .int 0])), (m3, .inr (4, [.int 0, .ref tE, .int 0])), (m4, .inr (4, [.int 0, .ref tE, .int 0])), (m5, .inl (tc, 4, .inl (upd (upd (upd (upd (fun _ => 0) 0 110) 1 110) 2 110) 3 110)))]) [0, 1, 2, 3, 4, 5] (by decide) rfl
            have hK9 := hK.sub (tys' := []) [] rfl
            refine W.widen (k := 500) (n := 2000) (Nat.le_of_ble_eq_true rfl) (Nat.le_of_ble_eq_true rfl) ?_
            exact W.iret (v := (nI N)) hx hb hr (fun t ht hWm => ⟨⟨_, (), rfl, rfl, ⟨by rw [ht]; exact hP9, va_K.moved hWm.alike hK9, hD9⟩⟩, hS.F ht⟩) hS.2.2 dX15_advance_76
          · exact absurd (nI_le (Nat.le_refl _) (by omega)) c20
      · exact absurd (by decide) c8
    · exact absurd (adv_le hN) c4
  · exact absurd c3 (by decide)
