set_option maxHeartbeats 4000000 in
set_option maxRecDepth 100000 in
theorem c_X12_init (l : Launch) {D : va_G} {tE sz : Nat} {q : Nat} {x1 x2 x3 x4 : Int32} : Met l ⟨"FoundrymarkModel$Machine", "<init>", "(IIII)V"⟩ (wsC ⟨"FoundrymarkModel$Machine", "<init>", "(IIII)V"⟩ cX12_init 5 none) ({ frames := 1, cells := 0, slots := 0, locals := 20 }) (va_Pc [.ref q, .int x1, .int x2, .int x3, .int x4] (gS tE D [(q, .inr (17, [.int 0, .int 0, .int 0, .int 0, .int 0, .int 0, .int 0, .int 0, .int 0, .null, .int 0]))] [] sz)) (va_Qv (fun _ : Unit => True) (gO D (fun _ => [(q, .inr (17, [.int x1, .int x2, .int x3, .int x4, .int (-1), .int 0, .int 45, .int 0, .int 0, .null, .int 0]))]) (fun _ => []) (va_A [(q, .inr (17, [.int 0, .int 0, .int 0, .int 0, .int 0, .int 0, .int 0, .int 0, .int 0, .null, .int 0]))] sz)) (va_A [(q, .inr (17, [.int 0, .int 0, .int 0, .int 0, .int 0, .int 0, .int 0, .int 0, .int 0, .null, .int 0]))] sz)) 0 0 (va_A [(q, .inr (17, [.int 0, .int 0, .int 0, .int 0, .int 0, .int 0, .int 0, .int 0, .int 0, .null, .int 0]))] sz) := by
  refine Met.ofW (cc := cX12_init) (maxL := 5) (ret := none) (by decide) rfl ?_
  intro p e s m args below meth c s₁ B hml hv
  obtain ⟨rfl, hsz, hP, hK, hD0, hG⟩ := hv
  have hx := B.exec
  have hb := B.bytes
  have hr := B.returns
  have hlocks := B.notSynchronized
  have hts := atoms_spec (ws := wsC ⟨"FoundrymarkModel$Machine", "<init>", "(IIII)V"⟩ cX12_init 5 none) B.pre
  have hta : ∀ w ∈ WA, w.before _ s = true := fun w h => hts w (List.mem_cons_of_mem _ h)
  have hown : s.vm.findClass "FoundrymarkModel$Machine" = some m.cls := findClass_of_methodNamed B.named
  have hin : meth.name = "<init>" := (name_of_methodNamed B.named B.method).1
  subst hsz
  have hD : va_D (va_A [(q, .inr (17, [.int 0, .int 0, .int 0, .int 0, .int 0, .int 0, .int 0, .int 0, .int 0, .null, .int 0]))] s.heap.size) [(q, .inr (17, [.int 0, .int 0, .int 0, .int 0, .int 0, .int 0, .int 0, .int 0, .int 0, .null, .int 0]))] := hD0.self (sz := s.heap.size)
  generalize hAe : va_A [(q, .inr (17, [.int 0, .int 0, .int 0, .int 0, .int 0, .int 0, .int 0, .int 0, .int 0, .null, .int 0]))] s.heap.size = A at hD hG ⊢
  have hA : ∀ q : Nat, s.heap.size ≤ q → A q := fun q h => by rw [← hAe]; exact Or.inr h
  have hS : va_S A s.heap s.heap [] := va_S.rf
  have hP : va_P D vwCl [(q, .inr (17, [.int 0, .int 0, .int 0, .int 0, .int 0, .int 0, .int 0, .int 0, .int 0, .null, .int 0]))] s.heap := hP
  have hl := lv_entry ([.ref q, .int x1, .int x2, .int x3, .int x4]) (n := 5) (Nat.le_of_ble_eq_true rfl)
  rw [lg_entry_eq]
  generalize (lg_sl ([.ref q, .int x1, .int x2, .int x3, .int x4]) ++ List.replicate (5 - (lg_sl ([.ref q, .int x1, .int x2, .int x3, .int x4])).length) Slot.unset).toArray = ls at hl ⊢
  have hl : lv_has ls 5 [(0, .ref q), (1, .int x1), (2, .int x2), (3, .int x3), (4, .int x4)] := hl
  refine lv_aload_n hx hb dX12_init_0 rfl (lv_at hl 0 rfl) ?_
  refine W.objInit hx hb hown (hta _ mw226) (hta _ mw66) (hta _ mw67) rfl (by rw [hml]; exact hl.1) rfl dX12_init_1 (Nat.le_of_ble_eq_true rfl) (Nat.le_of_ble_eq_true rfl) ?_
  refine W.eq (g2 := F0 m 4 ls []) rfl ?_
  refine lv_aload_n hx hb dX12_init_4 rfl (lv_at hl 0 rfl) ?_
  refine lv_iconst (v := -1) hx hb dX12_init_5 (by decide) ?_
  refine va_put (D := D) (ci := 17) (v := .int (-1)) (ty := .int) (C := RX12) (T := TX12) (N := 11) hx hb hta iwX12 tyX12 tyX12_ok nmX12 hown hK hP hD hS 0 rfl rfl 4 (by decide) (hta _ mw227) (fun _ h9 => h9) rfl (by decide +kernel) rfl rfl (Nat.le_of_ble_eq_true rfl) dX12_init_6 (fun H locs hP hD hS => ?_)
  have hP : va_P D vwCl [(q, .inr (17, [.int 0, .int 0, .int 0, .int 0, .int (-1), .int 0, .int 0, .int 0, .int 0, .null, .int 0]))] H := hP
  have hD : va_D A [(q, .inr (17, [.int 0, .int 0, .int 0, .int 0, .int (-1), .int 0, .int 0, .int 0, .int 0, .null, .int 0]))] := hD
  refine lv_aload_n hx hb dX12_init_9 rfl (lv_at hl 0 rfl) ?_
  refine lv_bipush (v := 45) hx hb dX12_init_10 (by decide) ?_
  refine va_put (D := D) (ci := 17) (v := .int 45) (ty := .char) (C := RX12) (T := TX12) (N := 11) hx hb hta iwX12 tyX12 tyX12_ok nmX12 hown hK hP hD hS 0 rfl rfl 6 (by decide) (hta _ mw228) (fun _ h9 => h9) rfl (by decide +kernel) (by decide) (by decide) (Nat.le_of_ble_eq_true rfl) dX12_init_12 (fun H locs hP hD hS => ?_)
  have hP : va_P D vwCl [(q, .inr (17, [.int 0, .int 0, .int 0, .int 0, .int (-1), .int 0, .int 45, .int 0, .int 0, .null, .int 0]))] H := hP
  have hD : va_D A [(q, .inr (17, [.int 0, .int 0, .int 0, .int 0, .int (-1), .int 0, .int 45, .int 0, .int 0, .null, .int 0]))] := hD
  refine lv_aload_n hx hb dX12_init_15 rfl (lv_at hl 0 rfl) ?_
  refine lv_iload_n hx hb dX12_init_16 rfl (lv_at hl 1 rfl) ?_
  refine va_putF (D := D) (ci := 17) (v := .int x1) (ty := .int) (C := RX12) (T := TX12) (N := 11) hx hb hta iwX12 tyX12 tyX12_ok nmX12 hown hK hP hD hS 0 rfl rfl 0 (by decide) (hta _ mw229) (fun _ h9 => h9) rfl hin rfl (by decide +kernel) rfl rfl (Nat.le_of_ble_eq_true rfl) dX12_init_17 (fun H locs hP hD hS => ?_)
  have hP : va_P D vwCl [(q, .inr (17, [.int x1, .int 0, .int 0, .int 0, .int (-1), .int 0, .int 45, .int 0, .int 0, .null, .int 0]))] H := hP
  have hD : va_D A [(q, .inr (17, [.int x1, .int 0, .int 0, .int 0, .int (-1), .int 0, .int 45, .int 0, .int 0, .null, .int 0]))] := hD
  refine lv_aload_n hx hb dX12_init_20 rfl (lv_at hl 0 rfl) ?_
  refine lv_iload_n hx hb dX12_init_21 rfl (lv_at hl 2 rfl) ?_
  refine va_putF (D := D) (ci := 17) (v := .int x2) (ty := .int) (C := RX12) (T := TX12) (N := 11) hx hb hta iwX12 tyX12 tyX12_ok nmX12 hown hK hP hD hS 0 rfl rfl 1 (by decide) (hta _ mw230) (fun _ h9 => h9) rfl hin rfl (by decide +kernel) rfl rfl (Nat.le_of_ble_eq_true rfl) dX12_init_22 (fun H locs hP hD hS => ?_)
  have hP : va_P D vwCl [(q, .inr (17, [.int x1, .int x2, .int 0, .int 0, .int (-1), .int 0, .int 45, .int 0, .int 0, .null, .int 0]))] H := hP
  have hD : va_D A [(q, .inr (17, [.int x1, .int x2, .int 0, .int 0, .int (-1), .int 0, .int 45, .int 0, .int 0, .null, .int 0]))] := hD
  refine lv_aload_n hx hb dX12_init_25 rfl (lv_at hl 0 rfl) ?_
  refine lv_iload_n hx hb dX12_init_26 rfl (lv_at hl 3 rfl) ?_
  refine va_putF (D := D) (ci := 17) (v := .int x3) (ty := .int) (C := RX12) (T := TX12) (N := 11) hx hb hta iwX12 tyX12 tyX12_ok nmX12 hown hK hP hD hS 0 rfl rfl 2 (by decide) (hta _ mw231) (fun _ h9 => h9) rfl hin rfl (by decide +kernel) rfl rfl (Nat.le_of_ble_eq_true rfl) dX12_init_27 (fun H locs hP hD hS => ?_)
  have hP : va_P D vwCl [(q, .inr (17, [.int x1, .int x2, .int x3, .int 0, .int (-1), .int 0, .int 45, .int 0, .int 0, .null, .int 0]))] H := hP
  have hD : va_D A [(q, .inr (17, [.int x1, .int x2, .int x3, .int 0, .int (-1), .int 0, .int 45, .int 0, .int 0, .null, .int 0]))] := hD
  refine lv_aload_n hx hb dX12_init_30 rfl (lv_at hl 0 rfl) ?_
  refine lv_iload hx hb dX12_init_31 (lv_at hl 4 rfl) ?_
  refine va_putF (D := D) (ci := 17) (v := .int x4) (ty := .int) (C := RX12) (T := TX12) (N := 11) hx hb hta iwX12 tyX12 tyX12_ok nmX12 hown hK hP hD hS 0 rfl rfl 3 (by decide) (hta _ mw232) (fun _ h9 => h9) rfl hin rfl (by decide +kernel) rfl rfl (Nat.le_of_ble_eq_true rfl) dX12_init_33 (fun H locs hP hD hS => ?_)
  have hP : va_P D vwCl [(q, .inr (17, [.int x1, .int x2, .int x3, .int x4, .int (-1), .int 0, .int 45, .int 0, .int 0, .null, .int 0]))] H := hP
  have hD : va_D A [(q, .inr (17, [.int x1, .int x2, .int x3, .int x4, .int (-1), .int 0, .int 45, .int 0, .int 0, .null, .int 0]))] := hD
  have hP9 := hP.sub (ws' := [(q, .inr (17, [.int x1, .int x2, .int x3, .int x4, .int (-1), .int 0, .int 45, .int 0, .int 0, .null, .int 0]))]) [0] rfl
  have hD9 := hD.sub (ws' := [(q, .inr (17, [.int x1, .int x2, .int x3, .int x4, .int (-1), .int 0, .int 45, .int 0, .int 0, .null, .int 0]))]) [0] (by decide) rfl
  have hK9 := hK.sub (tys' := []) [] rfl
  refine W.widen (k := 0) (n := 0) (Nat.le_of_ble_eq_true rfl) (Nat.le_of_ble_eq_true rfl) ?_
  exact W.vret hx hb hr (fun t ht hWm => ⟨⟨(), rfl, trivial, ⟨by rw [ht]; exact hP9, va_K.moved hWm.alike hK9, hD9⟩⟩, hS.F ht⟩) hS.2.2 dX12_init_36

set_option maxHeartbeats 4000000 in
set_option maxRecDepth 100000 in
theorem c_X14_init_0 (l : Launch) {D : va_G} {tE sz : Nat} {q : Nat} {f : Int32} : Met l ⟨"FoundrymarkModel$Part", "<init>", "(ZI)V"⟩ (wsC ⟨"FoundrymarkModel$Part", "<init>", "(ZI)V"⟩ cX14_init 3 none) ({ frames := 4, cells := 2, slots := 6, locals := 80 }) (va_Pc [.ref q, .int 0, .int f] (gS tE D [(q, .inr (19, [.int 0, .int 0, .null, .null, .int 0, .int 0, .int 0, .int 0, .int 0]))] [] sz)) (va_Qv (fun _ : List Value => True) (gO D (fun u => [(q, .inr (19, u))]) (fun _ => []) (va_A [(q, .inr (19, [.int 0, .int 0, .null, .null, .int 0, .int 0, .int 0, .int 0, .int 0]))] sz)) (va_A [(q, .inr (19, [.int 0, .int 0, .null, .null, .int 0, .int 0, .int 0, .int 0, .int 0]))] sz)) 2 6 (va_A [(q, .inr (19, [.int 0, .int 0, .null, .null, .int 0, .int 0, .int 0, .int 0, .int 0]))] sz) := by
  refine Met.ofW (cc := cX14_init) (maxL := 3) (ret := none) (by decide) rfl ?_
  intro p e s m args below meth c s₁ B hml hv
  obtain ⟨rfl, hsz, hP, hK, hD0, hG⟩ := hv
  have hx := B.exec
  have hb := B.bytes
  have hr := B.returns
  have hlocks := B.notSynchronized
  have hts := atoms_spec (ws := wsC ⟨"FoundrymarkModel$Part", "<init>", "(ZI)V"⟩ cX14_init 3 none) B.pre
  have hta : ∀ w ∈ WA, w.before _ s = true := fun w h => hts w (List.mem_cons_of_mem _ h)
  have hown : s.vm.findClass "FoundrymarkModel$Part" = some m.cls := findClass_of_methodNamed B.named
  have hin : meth.name = "<init>" := (name_of_methodNamed B.named B.method).1
  subst hsz
  have hD : va_D (va_A [(q, .inr (19, [.int 0, .int 0, .null, .null, .int 0, .int 0, .int 0, .int 0, .int 0]))] s.heap.size) [(q, .inr (19, [.int 0, .int 0, .null, .null, .int 0, .int 0, .int 0, .int 0, .int 0]))] := hD0.self (sz := s.heap.size)
  generalize hAe : va_A [(q, .inr (19, [.int 0, .int 0, .null, .null, .int 0, .int 0, .int 0, .int 0, .int 0]))] s.heap.size = A at hD hG ⊢
  have hA : ∀ q : Nat, s.heap.size ≤ q → A q := fun q h => by rw [← hAe]; exact Or.inr h
  have hS : va_S A s.heap s.heap [] := va_S.rf
  have hP : va_P D vwCl [(q, .inr (19, [.int 0, .int 0, .null, .null, .int 0, .int 0, .int 0, .int 0, .int 0]))] s.heap := hP
  have hl := lv_entry ([.ref q, .int 0, .int f]) (n := 3) (Nat.le_of_ble_eq_true rfl)
  rw [lg_entry_eq]
  generalize (lg_sl ([.ref q, .int 0, .int f]) ++ List.replicate (3 - (lg_sl ([.ref q, .int 0, .int f])).length) Slot.unset).toArray = ls at hl ⊢
  have hl : lv_has ls 3 [(0, .ref q), (1, .int 0), (2, .int f)] := hl
  refine lv_aload_n hx hb dX14_init_0 rfl (lv_at hl 0 rfl) ?_
  refine W.objInit hx hb hown (hta _ mw233) (hta _ mw66) (hta _ mw67) rfl (by rw [hml]; exact hl.1) rfl dX14_init_1 (Nat.le_of_ble_eq_true rfl) (Nat.le_of_ble_eq_true rfl) ?_
  refine W.eq (g2 := F0 m 4 ls []) rfl ?_
  refine lv_aload_n hx hb dX14_init_4 rfl (lv_at hl 0 rfl) ?_
  refine va_new (ci := 4) (fs := [.int 0, .null, .int 0]) (C := RJx4a65c) (T := TJx4a65c) (N := 3) hx hb hta iwJx4a65c tyJx4a65c tyJx4a65c_ok hown (hta _ mw234) (hta _ mw235) (hta _ mw157) hK hP hD hS hA rfl (fun j hj => by rcases (show j = 0 ∨ j = 1 ∨ j = 2 by omega) with rfl | rfl | rfl <;> rfl) (Nat.le_of_ble_eq_true rfl) (Nat.le_of_ble_eq_true rfl) dX14_init_5 (fun q1 H hP hD hS => ?_)
  have hP : va_P D vwCl [(q, .inr (19, [.int 0, .int 0, .null, .null, .int 0, .int 0, .int 0, .int 0, .int 0])), (q1, .inr (4, [.int 0, .null, .int 0]))] H := hP
  have hD : va_D A [(q, .inr (19, [.int 0, .int 0, .null, .null, .int 0, .int 0, .int 0, .int 0, .int 0])), (q1, .inr (4, [.int 0, .null, .int 0]))] := hD
  refine lv_dup hx hb dX14_init_8 rfl ?_
  have hPc := hP.sub (ws' := [(q1, .inr (4, [.int 0, .null, .int 0]))]) [1] rfl
  have hKc := hK.sub (tys' := []) [] rfl
  have hDc := hD.sub (ws' := [(q1, .inr (4, [.int 0, .null, .int 0]))]) [1] (by decide) rfl
  have hFc := va_free (wc := [(q1, .inr (4, [.int 0, .null, .int 0]))]) hD hS hA [1] rfl
  refine gJ_v (isC := [1]) (isR := [0]) (wr := [(q, .inr (19, [.int 0, .int 0, .null, .null, .int 0, .int 0, .int 0, .int 0, .int 0]))]) (va_runI (As := []) (rest := [.ref q1, .ref q]) ⟨hx, hb, hml, hown, hta⟩ (c_AL_init l ) (cwI 0 hta (gWI mw236) rfl rfl rfl (hta _ mw157) (hta _ mw237) (hta _ mw238) rfl (by decide +kernel) ⟨Nat.le_of_ble_eq_true rfl, Nat.le_of_ble_eq_true rfl⟩) ⟨gS_blind, fun U hU hW => ⟨rfl, by rw [hU], by rw [hU]; exact hPc, va_K.moved hW.alike hKc, hDc.weaken (fun _ _ _ _ => trivial), hG.call hS hU hW hFc⟩⟩ rfl rfl hl.1 rfl (lv_room (Nat.le_of_ble_eq_true rfl)) dX14_init_9 ⟨Nat.le_of_ble_eq_true rfl, Nat.le_of_ble_eq_true rfl⟩) hP hD hS hK hFc rfl rfl (by decide) (by decide) (fun u3 H locs h4 hP hD hS hK => ?_)
  have hK : va_K D vwCl [] s := hK
  have hP : va_P D vwCl [(q, .inr (19, [.int 0, .int 0, .null, .null, .int 0, .int 0, .int 0, .int 0, .int 0])), (q1, .inr (4, [.int 0, .ref tE, .int 0]))] H := hP
  have hD : va_D A [(q, .inr (19, [.int 0, .int 0, .null, .null, .int 0, .int 0, .int 0, .int 0, .int 0])), (q1, .inr (4, [.int 0, .ref tE, .int 0]))] := hD
  refine va_putF (D := D) (ci := 19) (v := .ref q1) (ty := .object "java/util/ArrayList") (C := RX14) (T := TX14) (N := 9) hx hb hta iwX14 tyX14 tyX14_ok nmX14 hown hK hP hD hS 0 rfl rfl 2 (by decide) (hta _ mw239) (fun _ h9 => h9) rfl hin rfl (by decide +kernel) rfl rfl (Nat.le_of_ble_eq_true rfl) dX14_init_12 (fun H locs hP hD hS => ?_)
  have hP : va_P D vwCl [(q, .inr (19, [.int 0, .int 0, .ref q1, .null, .int 0, .int 0, .int 0, .int 0, .int 0])), (q1, .inr (4, [.int 0, .ref tE, .int 0]))] H := hP
  have hD : va_D A [(q, .inr (19, [.int 0, .int 0, .ref q1, .null, .int 0, .int 0, .int 0, .int 0, .int 0])), (q1, .inr (4, [.int 0, .ref tE, .int 0]))] := hD
  refine lv_aload_n hx hb dX14_init_15 rfl (lv_at hl 0 rfl) ?_
  refine va_new (ci := 4) (fs := [.int 0, .null, .int 0]) (C := RJx4a65c) (T := TJx4a65c) (N := 3) hx hb hta iwJx4a65c tyJx4a65c tyJx4a65c_ok hown (hta _ mw234) (hta _ mw235) (hta _ mw157) hK hP hD hS hA rfl (fun j hj => by rcases (show j = 0 ∨ j = 1 ∨ j = 2 by omega) with rfl | rfl | rfl <;> rfl) (Nat.le_of_ble_eq_true rfl) (Nat.le_of_ble_eq_true rfl) dX14_init_16 (fun q5 H hP hD hS => ?_)
  have hP : va_P D vwCl [(q, .inr (19, [.int 0, .int 0, .ref q1, .null, .int 0, .int 0, .int 0, .int 0, .int 0])), (q1, .inr (4, [.int 0, .ref tE, .int 0])), (q5, .inr (4, [.int 0, .null, .int 0]))] H := hP
  have hD : va_D A [(q, .inr (19, [.int 0, .int 0, .ref q1, .null, .int 0, .int 0, .int 0, .int 0, .int 0])), (q1, .inr (4, [.int 0, .ref tE, .int 0])), (q5, .inr (4, [.int 0, .null, .int 0]))] := hD
  refine lv_dup hx hb dX14_init_19 rfl ?_
  have hPc := hP.sub (ws' := [(q5, .inr (4, [.int 0, .null, .int 0]))]) [2] rfl
  have hKc := hK.sub (tys' := []) [] rfl
  have hDc := hD.sub (ws' := [(q5, .inr (4, [.int 0, .null, .int 0]))]) [2] (by decide) rfl
  have hFc := va_free (wc := [(q5, .inr (4, [.int 0, .null, .int 0]))]) hD hS hA [2] rfl
  refine gJ_v (isC := [2]) (isR := [0, 1]) (wr := [(q, .inr (19, [.int 0, .int 0, .ref q1, .null, .int 0, .int 0, .int 0, .int 0, .int 0])), (q1, .inr (4, [.int 0, .ref tE, .int 0]))]) (va_runI (As := []) (rest := [.ref q5, .ref q]) ⟨hx, hb, hml, hown, hta⟩ (c_AL_init l ) (cwI 0 hta (gWI mw236) rfl rfl rfl (hta _ mw157) (hta _ mw237) (hta _ mw238) rfl (by decide +kernel) ⟨Nat.le_of_ble_eq_true rfl, Nat.le_of_ble_eq_true rfl⟩) ⟨gS_blind, fun U hU hW => ⟨rfl, by rw [hU], by rw [hU]; exact hPc, va_K.moved hW.alike hKc, hDc.weaken (fun _ _ _ _ => trivial), hG.call hS hU hW hFc⟩⟩ rfl rfl hl.1 rfl (lv_room (Nat.le_of_ble_eq_true rfl)) dX14_init_20 ⟨Nat.le_of_ble_eq_true rfl, Nat.le_of_ble_eq_true rfl⟩) hP hD hS hK hFc rfl rfl (by decide) (by decide) (fun u7 H locs h8 hP hD hS hK => ?_)
  have hK : va_K D vwCl [] s := hK
  have hP : va_P D vwCl [(q, .inr (19, [.int 0, .int 0, .ref q1, .null, .int 0, .int 0, .int 0, .int 0, .int 0])), (q1, .inr (4, [.int 0, .ref tE, .int 0])), (q5, .inr (4, [.int 0, .ref tE, .int 0]))] H := hP
  have hD : va_D A [(q, .inr (19, [.int 0, .int 0, .ref q1, .null, .int 0, .int 0, .int 0, .int 0, .int 0])), (q1, .inr (4, [.int 0, .ref tE, .int 0])), (q5, .inr (4, [.int 0, .ref tE, .int 0]))] := hD
  refine va_putF (D := D) (ci := 19) (v := .ref q5) (ty := .object "java/util/ArrayList") (C := RX14) (T := TX14) (N := 9) hx hb hta iwX14 tyX14 tyX14_ok nmX14 hown hK hP hD hS 0 rfl rfl 3 (by decide) (hta _ mw240) (fun _ h9 => h9) rfl hin rfl (by decide +kernel) rfl rfl (Nat.le_of_ble_eq_true rfl) dX14_init_23 (fun H locs hP hD hS => ?_)
  have hP : va_P D vwCl [(q, .inr (19, [.int 0, .int 0, .ref q1, .ref q5, .int 0, .int 0, .int 0, .int 0, .int 0])), (q1, .inr (4, [.int 0, .ref tE, .int 0])), (q5, .inr (4, [.int 0, .ref tE, .int 0]))] H := hP
  have hD : va_D A [(q, .inr (19, [.int 0, .int 0, .ref q1, .ref q5, .int 0, .int 0, .int 0, .int 0, .int 0])), (q1, .inr (4, [.int 0, .ref tE, .int 0])), (q5, .inr (4, [.int 0, .ref tE, .int 0]))] := hD
  refine lv_aload_n hx hb dX14_init_26 rfl (lv_at hl 0 rfl) ?_
  refine lv_bipush (v := 100) hx hb dX14_init_27 (by decide) ?_
  refine va_put (D := D) (ci := 19) (v := .int 100) (ty := .int) (C := RX14) (T := TX14) (N := 9) hx hb hta iwX14 tyX14 tyX14_ok nmX14 hown hK hP hD hS 0 rfl rfl 4 (by decide) (hta _ mw241) (fun _ h9 => h9) rfl (by decide +kernel) rfl rfl (Nat.le_of_ble_eq_true rfl) dX14_init_29 (fun H locs hP hD hS => ?_)
  have hP : va_P D vwCl [(q, .inr (19, [.int 0, .int 0, .ref q1, .ref q5, .int 100, .int 0, .int 0, .int 0, .int 0])), (q1, .inr (4, [.int 0, .ref tE, .int 0])), (q5, .inr (4, [.int 0, .ref tE, .int 0]))] H := hP
  have hD : va_D A [(q, .inr (19, [.int 0, .int 0, .ref q1, .ref q5, .int 100, .int 0, .int 0, .int 0, .int 0])), (q1, .inr (4, [.int 0, .ref tE, .int 0])), (q5, .inr (4, [.int 0, .ref tE, .int 0]))] := hD
  refine lv_aload_n hx hb dX14_init_32 rfl (lv_at hl 0 rfl) ?_
  refine lv_bipush (v := 10) hx hb dX14_init_33 (by decide) ?_
  refine va_put (D := D) (ci := 19) (v := .int 10) (ty := .int) (C := RX14) (T := TX14) (N := 9) hx hb hta iwX14 tyX14 tyX14_ok nmX14 hown hK hP hD hS 0 rfl rfl 5 (by decide) (hta _ mw242) (fun _ h9 => h9) rfl (by decide +kernel) rfl rfl (Nat.le_of_ble_eq_true rfl) dX14_init_35 (fun H locs hP hD hS => ?_)
  have hP : va_P D vwCl [(q, .inr (19, [.int 0, .int 0, .ref q1, .ref q5, .int 100, .int 10, .int 0, .int 0, .int 0])), (q1, .inr (4, [.int 0, .ref tE, .int 0])), (q5, .inr (4, [.int 0, .ref tE, .int 0]))] H := hP
  have hD : va_D A [(q, .inr (19, [.int 0, .int 0, .ref q1, .ref q5, .int 100, .int 10, .int 0, .int 0, .int 0])), (q1, .inr (4, [.int 0, .ref tE, .int 0])), (q5, .inr (4, [.int 0, .ref tE, .int 0]))] := hD
  refine lv_aload_n hx hb dX14_init_38 rfl (lv_at hl 0 rfl) ?_
  refine lv_iload_n hx hb dX14_init_39 rfl (lv_at hl 1 rfl) ?_
  refine va_putF (D := D) (ci := 19) (v := .int 0) (ty := .boolean) (C := RX14) (T := TX14) (N := 9) hx hb hta iwX14 tyX14 tyX14_ok nmX14 hown hK hP hD hS 0 rfl rfl 0 (by decide) (hta _ mw243) (fun _ h9 => h9) rfl hin rfl (by decide +kernel) (by decide) (by decide) (Nat.le_of_ble_eq_true rfl) dX14_init_40 (fun H locs hP hD hS => ?_)
  have hP : va_P D vwCl [(q, .inr (19, [.int 0, .int 0, .ref q1, .ref q5, .int 100, .int 10, .int 0, .int 0, .int 0])), (q1, .inr (4, [.int 0, .ref tE, .int 0])), (q5, .inr (4, [.int 0, .ref tE, .int 0]))] H := hP
  have hD : va_D A [(q, .inr (19, [.int 0, .int 0, .ref q1, .ref q5, .int 100, .int 10, .int 0, .int 0, .int 0])), (q1, .inr (4, [.int 0, .ref tE, .int 0])), (q5, .inr (4, [.int 0, .ref tE, .int 0]))] := hD
  refine lv_aload_n hx hb dX14_init_43 rfl (lv_at hl 0 rfl) ?_
  refine lv_iload_n hx hb dX14_init_44 rfl (lv_at hl 2 rfl) ?_
  refine va_putF (D := D) (ci := 19) (v := .int f) (ty := .int) (C := RX14) (T := TX14) (N := 9) hx hb hta iwX14 tyX14 tyX14_ok nmX14 hown hK hP hD hS 0 rfl rfl 1 (by decide) (hta _ mw244) (fun _ h9 => h9) rfl hin rfl (by decide +kernel) rfl rfl (Nat.le_of_ble_eq_true rfl) dX14_init_45 (fun H locs hP hD hS => ?_)
  have hP : va_P D vwCl [(q, .inr (19, [.int 0, .int f, .ref q1, .ref q5, .int 100, .int 10, .int 0, .int 0, .int 0])), (q1, .inr (4, [.int 0, .ref tE, .int 0])), (q5, .inr (4, [.int 0, .ref tE, .int 0]))] H := hP
  have hD : va_D A [(q, .inr (19, [.int 0, .int f, .ref q1, .ref q5, .int 100, .int 10, .int 0, .int 0, .int 0])), (q1, .inr (4, [.int 0, .ref tE, .int 0])), (q5, .inr (4, [.int 0, .ref tE, .int 0]))] := hD
  have hP9 := hP.sub (ws' := [(q, .inr (19, [.int 0, .int f, .ref q1, .ref q5, .int 100, .int 10, .int 0, .int 0, .int 0]))]) [0] rfl
  have hD9 := hD.sub (ws' := [(q, .inr (19, [.int 0, .int f, .ref q1, .ref q5, .int 100, .int 10, .int 0, .int 0, .int 0]))]) [0] (by decide) rfl
  have hK9 := hK.sub (tys' := []) [] rfl
  refine W.widen (k := 2) (n := 6) (Nat.le_of_ble_eq_true rfl) (Nat.le_of_ble_eq_true rfl) ?_
  exact W.vret hx hb hr (fun t ht hWm => ⟨⟨[.int 0, .int f, .ref q1, .ref q5, .int 100, .int 10, .int 0, .int 0, .int 0], rfl, trivial, ⟨by rw [ht]; exact hP9, va_K.moved hWm.alike hK9, hD9⟩⟩, hS.F ht⟩) hS.2.2 dX14_init_48

set_option maxHeartbeats 4000000 in
set_option maxRecDepth 100000 in
theorem c_X14_init_1 (l : Launch) {D : va_G} {tE sz : Nat} {q : Nat} {f : Int32} : Met l ⟨"FoundrymarkModel$Part", "<init>", "(ZI)V"⟩ (wsC ⟨"FoundrymarkModel$Part", "<init>", "(ZI)V"⟩ cX14_init 3 none) ({ frames := 4, cells := 2, slots := 6, locals := 80 }) (va_Pc [.ref q, .int 1, .int f] (gS tE D [(q, .inr (19, [.int 0, .int 0, .null, .null, .int 0, .int 0, .int 0, .int 0, .int 0]))] [] sz)) (va_Qv (fun _ : List Value => True) (gO D (fun u => [(q, .inr (19, u))]) (fun _ => []) (va_A [(q, .inr (19, [.int 0, .int 0, .null, .null, .int 0, .int 0, .int 0, .int 0, .int 0]))] sz)) (va_A [(q, .inr (19, [.int 0, .int 0, .null, .null, .int 0, .int 0, .int 0, .int 0, .int 0]))] sz)) 2 6 (va_A [(q, .inr (19, [.int 0, .int 0, .null, .null, .int 0, .int 0, .int 0, .int 0, .int 0]))] sz) := by
  refine Met.ofW (cc := cX14_init) (maxL := 3) (ret := none) (by decide) rfl ?_
  intro p e s m args below meth c s₁ B hml hv
  obtain ⟨rfl, hsz, hP, hK, hD0, hG⟩ := hv
  have hx := B.exec
  have hb := B.bytes
  have hr := B.returns
  have hlocks := B.notSynchronized
  have hts := atoms_spec (ws := wsC ⟨"FoundrymarkModel$Part", "<init>", "(ZI)V"⟩ cX14_init 3 none) B.pre
  have hta : ∀ w ∈ WA, w.before _ s = true := fun w h => hts w (List.mem_cons_of_mem _ h)
  have hown : s.vm.findClass "FoundrymarkModel$Part" = some m.cls := findClass_of_methodNamed B.named
  have hin : meth.name = "<init>" := (name_of_methodNamed B.named B.method).1
  subst hsz
  have hD : va_D (va_A [(q, .inr (19, [.int 0, .int 0, .null, .null, .int 0, .int 0, .int 0, .int 0, .int 0]))] s.heap.size) [(q, .inr (19, [.int 0, .int 0, .null, .null, .int 0, .int 0, .int 0, .int 0, .int 0]))] := hD0.self (sz := s.heap.size)
  generalize hAe : va_A [(q, .inr (19, [.int 0, .int 0, .null, .null, .int 0, .int 0, .int 0, .int 0, .int 0]))] s.heap.size = A at hD hG ⊢
  have hA : ∀ q : Nat, s.heap.size ≤ q → A q := fun q h => by rw [← hAe]; exact Or.inr h
  have hS : va_S A s.heap s.heap [] := va_S.rf
  have hP : va_P D vwCl [(q, .inr (19, [.int 0, .int 0, .null, .null, .int 0, .int 0, .int 0, .int 0, .int 0]))] s.heap := hP
  have hl := lv_entry ([.ref q, .int 1, .int f]) (n := 3) (Nat.le_of_ble_eq_true rfl)
  rw [lg_entry_eq]
  generalize (lg_sl ([.ref q, .int 1, .int f]) ++ List.replicate (3 - (lg_sl ([.ref q, .int 1, .int f])).length) Slot.unset).toArray = ls at hl ⊢
  have hl : lv_has ls 3 [(0, .ref q), (1, .int 1), (2, .int f)] := hl
  refine lv_aload_n hx hb dX14_init_0 rfl (lv_at hl 0 rfl) ?_
  refine W.objInit hx hb hown (hta _ mw233) (hta _ mw66) (hta _ mw67) rfl (by rw [hml]; exact hl.1) rfl dX14_init_1 (Nat.le_of_ble_eq_true rfl) (Nat.le_of_ble_eq_true rfl) ?_
  refine W.eq (g2 := F0 m 4 ls []) rfl ?_
  refine lv_aload_n hx hb dX14_init_4 rfl (lv_at hl 0 rfl) ?_
  refine va_new (ci := 4) (fs := [.int 0, .null, .int 0]) (C := RJx4a65c) (T := TJx4a65c) (N := 3) hx hb hta iwJx4a65c tyJx4a65c tyJx4a65c_ok hown (hta _ mw234) (hta _ mw235) (hta _ mw157) hK hP hD hS hA rfl (fun j hj => by rcases (show j = 0 ∨ j = 1 ∨ j = 2 by omega) with rfl | rfl | rfl <;> rfl) (Nat.le_of_ble_eq_true rfl) (Nat.le_of_ble_eq_true rfl) dX14_init_5 (fun q1 H hP hD hS => ?_)
  have hP : va_P D vwCl [(q, .inr (19, [.int 0, .int 0, .null, .null, .int 0, .int 0, .int 0, .int 0, .int 0])), (q1, .inr (4, [.int 0, .null, .int 0]))] H := hP
  have hD : va_D A [(q, .inr (19, [.int 0, .int 0, .null, .null, .int 0, .int 0, .int 0, .int 0, .int 0])), (q1, .inr (4, [.int 0, .null, .int 0]))] := hD
  refine lv_dup hx hb dX14_init_8 rfl ?_
  have hPc := hP.sub (ws' := [(q1, .inr (4, [.int 0, .null, .int 0]))]) [1] rfl
  have hKc := hK.sub (tys' := []) [] rfl
  have hDc := hD.sub (ws' := [(q1, .inr (4, [.int 0, .null, .int 0]))]) [1] (by decide) rfl
  have hFc := va_free (wc := [(q1, .inr (4, [.int 0, .null, .int 0]))]) hD hS hA [1] rfl
  refine gJ_v (isC := [1]) (isR := [0]) (wr := [(q, .inr (19, [.int 0, .int 0, .null, .null, .int 0, .int 0, .int 0, .int 0, .int 0]))]) (va_runI (As := []) (rest := [.ref q1, .ref q]) ⟨hx, hb, hml, hown, hta⟩ (c_AL_init l ) (cwI 0 hta (gWI mw236) rfl rfl rfl (hta _ mw157) (hta _ mw237) (hta _ mw238) rfl (by decide +kernel) ⟨Nat.le_of_ble_eq_true rfl, Nat.le_of_ble_eq_true rfl⟩) ⟨gS_blind, fun U hU hW => ⟨rfl, by rw [hU], by rw [hU]; exact hPc, va_K.moved hW.alike hKc, hDc.weaken (fun _ _ _ _ => trivial), hG.call hS hU hW hFc⟩⟩ rfl rfl hl.1 rfl (lv_room (Nat.le_of_ble_eq_true rfl)) dX14_init_9 ⟨Nat.le_of_ble_eq_true rfl, Nat.le_of_ble_eq_true rfl⟩) hP hD hS hK hFc rfl rfl (by decide) (by decide) (fun u3 H locs h4 hP hD hS hK => ?_)
  have hK : va_K D vwCl [] s := hK
  have hP : va_P D vwCl [(q, .inr (19, [.int 0, .int 0, .null, .null, .int 0, .int 0, .int 0, .int 0, .int 0])), (q1, .inr (4, [.int 0, .ref tE, .int 0]))] H := hP
  have hD : va_D A [(q, .inr (19, [.int 0, .int 0, .null, .null, .int 0, .int 0, .int 0, .int 0, .int 0])), (q1, .inr (4, [.int 0, .ref tE, .int 0]))] := hD
  refine va_putF (D := D) (ci := 19) (v := .ref q1) (ty := .object "java/util/ArrayList") (C := RX14) (T := TX14) (N := 9) hx hb hta iwX14 tyX14 tyX14_ok nmX14 hown hK hP hD hS 0 rfl rfl 2 (by decide) (hta _ mw239) (fun _ h9 => h9) rfl hin rfl (by decide +kernel) rfl rfl (Nat.le_of_ble_eq_true rfl) dX14_init_12 (fun H locs hP hD hS => ?_)
  have hP : va_P D vwCl [(q, .inr (19, [.int 0, .int 0, .ref q1, .null, .int 0, .int 0, .int 0, .int 0, .int 0])), (q1, .inr (4, [.int 0, .ref tE, .int 0]))] H := hP
  have hD : va_D A [(q, .inr (19, [.int 0, .int 0, .ref q1, .null, .int 0, .int 0, .int 0, .int 0, .int 0])), (q1, .inr (4, [.int 0, .ref tE, .int 0]))] := hD
  refine lv_aload_n hx hb dX14_init_15 rfl (lv_at hl 0 rfl) ?_
  refine va_new (ci := 4) (fs := [.int 0, .null, .int 0]) (C := RJx4a65c) (T := TJx4a65c) (N := 3) hx hb hta iwJx4a65c tyJx4a65c tyJx4a65c_ok hown (hta _ mw234) (hta _ mw235) (hta _ mw157) hK hP hD hS hA rfl (fun j hj => by rcases (show j = 0 ∨ j = 1 ∨ j = 2 by omega) with rfl | rfl | rfl <;> rfl) (Nat.le_of_ble_eq_true rfl) (Nat.le_of_ble_eq_true rfl) dX14_init_16 (fun q5 H hP hD hS => ?_)
  have hP : va_P D vwCl [(q, .inr (19, [.int 0, .int 0, .ref q1, .null, .int 0, .int 0, .int 0, .int 0, .int 0])), (q1, .inr (4, [.int 0, .ref tE, .int 0])), (q5, .inr (4, [.int 0, .null, .int 0]))] H := hP
  have hD : va_D A [(q, .inr (19, [.int 0, .int 0, .ref q1, .null, .int 0, .int 0, .int 0, .int 0, .int 0])), (q1, .inr (4, [.int 0, .ref tE, .int 0])), (q5, .inr (4, [.int 0, .null, .int 0]))] := hD
  refine lv_dup hx hb dX14_init_19 rfl ?_
  have hPc := hP.sub (ws' := [(q5, .inr (4, [.int 0, .null, .int 0]))]) [2] rfl
  have hKc := hK.sub (tys' := []) [] rfl
  have hDc := hD.sub (ws' := [(q5, .inr (4, [.int 0, .null, .int 0]))]) [2] (by decide) rfl
  have hFc := va_free (wc := [(q5, .inr (4, [.int 0, .null, .int 0]))]) hD hS hA [2] rfl
  refine gJ_v (isC := [2]) (isR := [0, 1]) (wr := [(q, .inr (19, [.int 0, .int 0, .ref q1, .null, .int 0, .int 0, .int 0, .int 0, .int 0])), (q1, .inr (4, [.int 0, .ref tE, .int 0]))]) (va_runI (As := []) (rest := [.ref q5, .ref q]) ⟨hx, hb, hml, hown, hta⟩ (c_AL_init l ) (cwI 0 hta (gWI mw236) rfl rfl rfl (hta _ mw157) (hta _ mw237) (hta _ mw238) rfl (by decide +kernel) ⟨Nat.le_of_ble_eq_true rfl, Nat.le_of_ble_eq_true rfl⟩) ⟨gS_blind, fun U hU hW => ⟨rfl, by rw [hU], by rw [hU]; exact hPc, va_K.moved hW.alike hKc, hDc.weaken (fun _ _ _ _ => trivial), hG.call hS hU hW hFc⟩⟩ rfl rfl hl.1 rfl (lv_room (Nat.le_of_ble_eq_true rfl)) dX14_init_20 ⟨Nat.le_of_ble_eq_true rfl, Nat.le_of_ble_eq_true rfl⟩) hP hD hS hK hFc rfl rfl (by decide) (by decide) (fun u7 H locs h8 hP hD hS hK => ?_)
  have hK : va_K D vwCl [] s := hK
  have hP : va_P D vwCl [(q, .inr (19, [.int 0, .int 0, .ref q1, .null, .int 0, .int 0, .int 0, .int 0, .int 0])), (q1, .inr (4, [.int 0, .ref tE, .int 0])), (q5, .inr (4, [.int 0, .ref tE, .int 0]))] H := hP
  have hD : va_D A [(q, .inr (19, [.int 0, .int 0, .ref q1, .null, .int 0, .int 0, .int 0, .int 0, .int 0])), (q1, .inr (4, [.int 0, .ref tE, .int 0])), (q5, .inr (4, [.int 0, .ref tE, .int 0]))] := hD
  refine va_putF (D := D) (ci := 19) (v := .ref q5) (ty := .object "java/util/ArrayList") (C := RX14) (T := TX14) (N := 9) hx hb hta iwX14 tyX14 tyX14_ok nmX14 hown hK hP hD hS 0 rfl rfl 3 (by decide) (hta _ mw240) (fun _ h9 => h9) rfl hin rfl (by decide +kernel) rfl rfl (Nat.le_of_ble_eq_true rfl) dX14_init_23 (fun H locs hP hD hS => ?_)
  have hP : va_P D vwCl [(q, .inr (19, [.int 0, .int 0, .ref q1, .ref q5, .int 0, .int 0, .int 0, .int 0, .int 0])), (q1, .inr (4, [.int 0, .ref tE, .int 0])), (q5, .inr (4, [.int 0, .ref tE, .int 0]))] H := hP
  have hD : va_D A [(q, .inr (19, [.int 0, .int 0, .ref q1, .ref q5, .int 0, .int 0, .int 0, .int 0, .int 0])), (q1, .inr (4, [.int 0, .ref tE, .int 0])), (q5, .inr (4, [.int 0, .ref tE, .int 0]))] := hD
  refine lv_aload_n hx hb dX14_init_26 rfl (lv_at hl 0 rfl) ?_
  refine lv_bipush (v := 100) hx hb dX14_init_27 (by decide) ?_
  refine va_put (D := D) (ci := 19) (v := .int 100) (ty := .int) (C := RX14) (T := TX14) (N := 9) hx hb hta iwX14 tyX14 tyX14_ok nmX14 hown hK hP hD hS 0 rfl rfl 4 (by decide) (hta _ mw241) (fun _ h9 => h9) rfl (by decide +kernel) rfl rfl (Nat.le_of_ble_eq_true rfl) dX14_init_29 (fun H locs hP hD hS => ?_)
  have hP : va_P D vwCl [(q, .inr (19, [.int 0, .int 0, .ref q1, .ref q5, .int 100, .int 0, .int 0, .int 0, .int 0])), (q1, .inr (4, [.int 0, .ref tE, .int 0])), (q5, .inr (4, [.int 0, .ref tE, .int 0]))] H := hP
  have hD : va_D A [(q, .inr (19, [.int 0, .int 0, .ref q1, .ref q5, .int 100, .int 0, .int 0, .int 0, .int 0])), (q1, .inr (4, [.int 0, .ref tE, .int 0])), (q5, .inr (4, [.int 0, .ref tE, .int 0]))] := hD
  refine lv_aload_n hx hb dX14_init_32 rfl (lv_at hl 0 rfl) ?_
  refine lv_bipush (v := 10) hx hb dX14_init_33 (by decide) ?_
  refine va_put (D := D) (ci := 19) (v := .int 10) (ty := .int) (C := RX14) (T := TX14) (N := 9) hx hb hta iwX14 tyX14 tyX14_ok nmX14 hown hK hP hD hS 0 rfl rfl 5 (by decide) (hta _ mw242) (fun _ h9 => h9) rfl (by decide +kernel) rfl rfl (Nat.le_of_ble_eq_true rfl) dX14_init_35 (fun H locs hP hD hS => ?_)
  have hP : va_P D vwCl [(q, .inr (19, [.int 0, .int 0, .ref q1, .ref q5, .int 100, .int 10, .int 0, .int 0, .int 0])), (q1, .inr (4, [.int 0, .ref tE, .int 0])), (q5, .inr (4, [.int 0, .ref tE, .int 0]))] H := hP
  have hD : va_D A [(q, .inr (19, [.int 0, .int 0, .ref q1, .ref q5, .int 100, .int 10, .int 0, .int 0, .int 0])), (q1, .inr (4, [.int 0, .ref tE, .int 0])), (q5, .inr (4, [.int 0, .ref tE, .int 0]))] := hD
  refine lv_aload_n hx hb dX14_init_38 rfl (lv_at hl 0 rfl) ?_
  refine lv_iload_n hx hb dX14_init_39 rfl (lv_at hl 1 rfl) ?_
  refine va_putF (D := D) (ci := 19) (v := .int 1) (ty := .boolean) (C := RX14) (T := TX14) (N := 9) hx hb hta iwX14 tyX14 tyX14_ok nmX14 hown hK hP hD hS 0 rfl rfl 0 (by decide) (hta _ mw243) (fun _ h9 => h9) rfl hin rfl (by decide +kernel) (by decide) (by decide) (Nat.le_of_ble_eq_true rfl) dX14_init_40 (fun H locs hP hD hS => ?_)
  have hP : va_P D vwCl [(q, .inr (19, [.int 1, .int 0, .ref q1, .ref q5, .int 100, .int 10, .int 0, .int 0, .int 0])), (q1, .inr (4, [.int 0, .ref tE, .int 0])), (q5, .inr (4, [.int 0, .ref tE, .int 0]))] H := hP
  have hD : va_D A [(q, .inr (19, [.int 1, .int 0, .ref q1, .ref q5, .int 100, .int 10, .int 0, .int 0, .int 0])), (q1, .inr (4, [.int 0, .ref tE, .int 0])), (q5, .inr (4, [.int 0, .ref tE, .int 0]))] := hD
  refine lv_aload_n hx hb dX14_init_43 rfl (lv_at hl 0 rfl) ?_
  refine lv_iload_n hx hb dX14_init_44 rfl (lv_at hl 2 rfl) ?_
  refine va_putF (D := D) (ci := 19) (v := .int f) (ty := .int) (C := RX14) (T := TX14) (N := 9) hx hb hta iwX14 tyX14 tyX14_ok nmX14 hown hK hP hD hS 0 rfl rfl 1 (by decide) (hta _ mw244) (fun _ h9 => h9) rfl hin rfl (by decide +kernel) rfl rfl (Nat.le_of_ble_eq_true rfl) dX14_init_45 (fun H locs hP hD hS => ?_)
  have hP : va_P D vwCl [(q, .inr (19, [.int 1, .int f, .ref q1, .ref q5, .int 100, .int 10, .int 0, .int 0, .int 0])), (q1, .inr (4, [.int 0, .ref tE, .int 0])), (q5, .inr (4, [.int 0, .ref tE, .int 0]))] H := hP
  have hD : va_D A [(q, .inr (19, [.int 1, .int f, .ref q1, .ref q5, .int 100, .int 10, .int 0, .int 0, .int 0])), (q1, .inr (4, [.int 0, .ref tE, .int 0])), (q5, .inr (4, [.int 0, .ref tE, .int 0]))] := hD
  have hP9 := hP.sub (ws' := [(q, .inr (19, [.int 1, .int f, .ref q1, .ref q5, .int 100, .int 10, .int 0, .int 0, .int 0]))]) [0] rfl
  have hD9 := hD.sub (ws' := [(q, .inr (19, [.int 1, .int f, .ref q1, .ref q5, .int 100, .int 10, .int 0, .int 0, .int 0]))]) [0] (by decide) rfl
  have hK9 := hK.sub (tys' := []) [] rfl
  refine W.widen (k := 2) (n := 6) (Nat.le_of_ble_eq_true rfl) (Nat.le_of_ble_eq_true rfl) ?_
  exact W.vret hx hb hr (fun t ht hWm => ⟨⟨[.int 1, .int f, .ref q1, .ref q5, .int 100, .int 10, .int 0, .int 0, .int 0], rfl, trivial, ⟨by rw [ht]; exact hP9, va_K.moved hWm.alike hK9, hD9⟩⟩, hS.F ht⟩) hS.2.2 dX14_init_48

set_option maxHeartbeats 4000000 in
set_option maxRecDepth 100000 in
theorem c_X15_addMachine_t (l : Launch) {D : va_G} {tE sz : Nat} {m0 m1 m2 m3 m4 m5 m6 : Nat} {tc : ClassId} {th tm : Int32} {x1 x2 x3 x4 : Int32} (g91 : inR x1 0 20 = true) (g92 : inR x2 0 50 = true) (g93 : inR x3 5 500 = true) (g94 : inR x4 1 99 = true) : Met l ⟨"FoundrymarkModel", "addMachine", "(IIII)I"⟩ (wsC ⟨"FoundrymarkModel", "addMachine", "(IIII)I"⟩ cX15_addMachine 7 (some .int)) ({ frames := 5, cells := 2, slots := 21, locals := 108 }) (va_Pc [.ref m0, .int x1, .int x2, .int x3, .int x4] (gS tE D (wM tE m0 m1 m2 m3 m4 m5 m6 tc th tm) [(tc, .char)] sz)) (va_Qi (fun (r : Int32) (_ : List Value) => r = 0) (gO D (fun u => [(m0, .inr (20, .int 0 :: u))]) (fun _ => []) (va_A (wM tE m0 m1 m2 m3 m4 m5 m6 tc th tm) sz)) (va_A (wM tE m0 m1 m2 m3 m4 m5 m6 tc th tm) sz)) 2 21 (va_A (wM tE m0 m1 m2 m3 m4 m5 m6 tc th tm) sz) := by
  refine Met.ofW (cc := cX15_addMachine) (maxL := 7) (ret := (some .int)) (by decide) rfl ?_
  intro p e s m args below meth c s₁ B hml hv
  obtain ⟨rfl, hsz, hP, hK, hD0, hG⟩ := hv
  have hx := B.exec
  have hb := B.bytes
  have hr := B.returns
  have hlocks := B.notSynchronized
  have hts := atoms_spec (ws := wsC ⟨"FoundrymarkModel", "addMachine", "(IIII)I"⟩ cX15_addMachine 7 (some .int)) B.pre
  have hta : ∀ w ∈ WA, w.before _ s = true := fun w h => hts w (List.mem_cons_of_mem _ h)
  have hown : s.vm.findClass "FoundrymarkModel" = some m.cls := findClass_of_methodNamed B.named
  subst hsz
  have hD : va_D (va_A (wM tE m0 m1 m2 m3 m4 m5 m6 tc th tm) s.heap.size) (wM tE m0 m1 m2 m3 m4 m5 m6 tc th tm) := hD0.self (sz := s.heap.size)
  generalize hAe : va_A (wM tE m0 m1 m2 m3 m4 m5 m6 tc th tm) s.heap.size = A at hD hG ⊢
  have hA : ∀ q : Nat, s.heap.size ≤ q → A q := fun q h => by rw [← hAe]; exact Or.inr h
  have hS : va_S A s.heap s.heap [] := va_S.rf
  have hP : va_P D vwCl (wM tE m0 m1 m2 m3 m4 m5 m6 tc th tm) s.heap := hP
  have hl := lv_entry ([.ref m0, .int x1, .int x2, .int x3, .int x4]) (n := 7) (Nat.le_of_ble_eq_true rfl)
  rw [lg_entry_eq]
  generalize (lg_sl ([.ref m0, .int x1, .int x2, .int x3, .int x4]) ++ List.replicate (7 - (lg_sl ([.ref m0, .int x1, .int x2, .int x3, .int x4])).length) Slot.unset).toArray = ls at hl ⊢
  have hl : lv_has ls 7 [(0, .ref m0), (1, .int x1), (2, .int x2), (3, .int x3), (4, .int x4)] := hl
  refine lv_iload_n hx hb dX15_addMachine_0 rfl (lv_at hl 1 rfl) ?_
  refine lv_iconst (v := 0) hx hb dX15_addMachine_1 (by decide) ?_
  refine lv_bipush (v := 20) hx hb dX15_addMachine_2 (by decide) ?_
  refine vp_callSi (W.runS (As := [.int x1, .int 0, .int 20]) (rest := []) ⟨hx, hb, hml, hown, hta⟩ (c_X15_in l x1 0 20) (va_cwS 3 hta (gWS mw174 mw175 mw176 mw173) rfl rfl rfl (by decide +kernel) ⟨Nat.le_of_ble_eq_true rfl, Nat.le_of_ble_eq_true rfl⟩) ⟨fun a U g mk q => ⟨q.1, trivial⟩, fun U hU hW => ⟨rfl, trivial⟩⟩ rfl rfl hl.1 rfl (lv_room (Nat.le_of_ble_eq_true rfl)) dX15_addMachine_4 ⟨Nat.le_of_ble_eq_true rfl, Nat.le_of_ble_eq_true rfl⟩) (fun r1 h2 => ?_)
  obtain rfl : r1 = 1 := h2.trans (by rw [g91]; rfl)
  refine lv_if_eq (tgt := 46) hx hb dX15_addMachine_7 (by decide) (fun c3 => ?_) (fun c3 => ?_)
  · exact absurd c3 (by decide)
  · skip
    refine lv_iload_n hx hb dX15_addMachine_10 rfl (lv_at hl 2 rfl) ?_
    refine lv_iconst (v := 0) hx hb dX15_addMachine_11 (by decide) ?_
    refine lv_bipush (v := 50) hx hb dX15_addMachine_12 (by decide) ?_
    refine vp_callSi (W.runS (As := [.int x2, .int 0, .int 50]) (rest := []) ⟨hx, hb, hml, hown, hta⟩ (c_X15_in l x2 0 50) (va_cwS 3 hta (gWS mw174 mw175 mw176 mw173) rfl rfl rfl (by decide +kernel) ⟨Nat.le_of_ble_eq_true rfl, Nat.le_of_ble_eq_true rfl⟩) ⟨fun a U g mk q => ⟨q.1, trivial⟩, fun U hU hW => ⟨rfl, trivial⟩⟩ rfl rfl hl.1 rfl (lv_room (Nat.le_of_ble_eq_true rfl)) dX15_addMachine_14 ⟨Nat.le_of_ble_eq_true rfl, Nat.le_of_ble_eq_true rfl⟩) (fun r4 h5 => ?_)
    obtain rfl : r4 = 1 := h5.trans (by rw [g92]; rfl)
    refine lv_if_eq (tgt := 46) hx hb dX15_addMachine_17 (by decide) (fun c6 => ?_) (fun c6 => ?_)
    · exact absurd c6 (by decide)
    · skip
      refine lv_iload_n hx hb dX15_addMachine_20 rfl (lv_at hl 3 rfl) ?_
      refine lv_iconst (v := 5) hx hb dX15_addMachine_21 (by decide) ?_
      refine lv_sipush (v := 500) hx hb dX15_addMachine_22 (by decide) ?_
      refine vp_callSi (W.runS (As := [.int x3, .int 5, .int 500]) (rest := []) ⟨hx, hb, hml, hown, hta⟩ (c_X15_in l x3 5 500) (va_cwS 3 hta (gWS mw174 mw175 mw176 mw173) rfl rfl rfl (by decide +kernel) ⟨Nat.le_of_ble_eq_true rfl, Nat.le_of_ble_eq_true rfl⟩) ⟨fun a U g mk q => ⟨q.1, trivial⟩, fun U hU hW => ⟨rfl, trivial⟩⟩ rfl rfl hl.1 rfl (lv_room (Nat.le_of_ble_eq_true rfl)) dX15_addMachine_25 ⟨Nat.le_of_ble_eq_true rfl, Nat.le_of_ble_eq_true rfl⟩) (fun r7 h8 => ?_)
      obtain rfl : r7 = 1 := h8.trans (by rw [g93]; rfl)
      refine lv_if_eq (tgt := 46) hx hb dX15_addMachine_28 (by decide) (fun c9 => ?_) (fun c9 => ?_)
      · exact absurd c9 (by decide)
      · skip
        refine lv_iload hx hb dX15_addMachine_31 (lv_at hl 4 rfl) ?_
        refine lv_iconst (v := 1) hx hb dX15_addMachine_33 (by decide) ?_
        refine lv_bipush (v := 99) hx hb dX15_addMachine_34 (by decide) ?_
        refine vp_callSi (W.runS (As := [.int x4, .int 1, .int 99]) (rest := []) ⟨hx, hb, hml, hown, hta⟩ (c_X15_in l x4 1 99) (va_cwS 3 hta (gWS mw174 mw175 mw176 mw173) rfl rfl rfl (by decide +kernel) ⟨Nat.le_of_ble_eq_true rfl, Nat.le_of_ble_eq_true rfl⟩) ⟨fun a U g mk q => ⟨q.1, trivial⟩, fun U hU hW => ⟨rfl, trivial⟩⟩ rfl rfl hl.1 rfl (lv_room (Nat.le_of_ble_eq_true rfl)) dX15_addMachine_36 ⟨Nat.le_of_ble_eq_true rfl, Nat.le_of_ble_eq_true rfl⟩) (fun r10 h11 => ?_)
        obtain rfl : r10 = 1 := h11.trans (by rw [g94]; rfl)
        refine lv_if_eq (tgt := 46) hx hb dX15_addMachine_39 (by decide) (fun c12 => ?_) (fun c12 => ?_)
        · exact absurd c12 (by decide)
        · skip
          refine lv_iconst (v := 1) hx hb dX15_addMachine_42 (by decide) ?_
          refine lv_goto (tgt := 47) hx hb dX15_addMachine_43 (by decide) ?_
          refine lv_istore (lv' := [(5, .int 1), (0, .ref m0), (1, .int x1), (2, .int x2), (3, .int x3), (4, .int x4)]) hx hb dX15_addMachine_47 hl (by decide) rfl (fun ls hl => ?_)
          refine lv_aload_n hx hb dX15_addMachine_49 rfl (lv_at hl 1 rfl) ?_
          refine lv_iload hx hb dX15_addMachine_50 (lv_at hl 0 rfl) ?_
          refine lv_if_ne (tgt := 59) hx hb dX15_addMachine_52 (by decide) (fun c13 => ?_) (fun c13 => ?_)
          · skip
            refine lv_aload_n hx hb dX15_addMachine_59 rfl (lv_at hl 1 rfl) ?_
            refine va_get (D := D) (ci := 20) (v := .ref m1) (C := RX15) (T := TX15) (N := 9) hx hb hta iwX15 hown hK hP 0 rfl rfl 1 (by decide) (hta _ mw177) (fun _ h9 => h9) rfl dX15_addMachine_60 ?_
            have hPc := hP.sub (ws' := [(m1, .inr (4, [.int 0, .ref tE, .int 0]))]) [1] rfl
            have hKc := hK.sub (tys' := []) [] rfl
            refine vp_callSi (W.runV (As := []) (rest := [.ref m0]) ⟨hx, hb, hml, hown, hta⟩ (c_AL_size l ) (cwV 0 hta (gWV mw170 mw171 mw172 mw157 mw169) rfl rfl rfl (by decide +kernel) ⟨Nat.le_of_ble_eq_true rfl, Nat.le_of_ble_eq_true rfl⟩) ⟨gR_blind, va_recv hKc hPc (ci := 4) (q0 := 0) rfl rfl, fun U hU hW => ⟨rfl, by rw [hU]; exact hPc, va_K.moved hW.alike hKc⟩⟩ rfl rfl hl.1 rfl (lv_room (Nat.le_of_ble_eq_true rfl)) dX15_addMachine_63 ⟨Nat.le_of_ble_eq_true rfl, Nat.le_of_ble_eq_true rfl⟩) (fun r14 h15 => ?_)
            obtain rfl : r14 = 0 := h15
            refine lv_iconst (v := 5) hx hb dX15_addMachine_66 (by decide) ?_
            refine lv_icmp_ne (tgt := 74) hx hb dX15_addMachine_67 (by decide) (fun c16 => ?_) (fun c16 => ?_)
            · skip
              refine lv_iconst (v := 0) hx hb dX15_addMachine_74 (by decide) ?_
              have hPc := hP.sub (ws' := (wM tE m0 m1 m2 m3 m4 m5 m6 tc th tm)) [0, 1, 2, 3, 4, 5] rfl
              have hKc := hK.sub (tys' := [(tc, .char)]) [0] rfl
              have hDc := hD.sub (ws' := (wM tE m0 m1 m2 m3 m4 m5 m6 tc th tm)) [0, 1, 2, 3, 4, 5] (by decide) rfl
              have hFc := va_free (wc := (wM tE m0 m1 m2 m3 m4 m5 m6 tc th tm)) hD hS hA [0, 1, 2, 3, 4, 5] rfl
              refine gJ_i (isC := [0, 1, 2, 3, 4, 5]) (isR := []) (wr := []) (va_runV (As := [.int 0]) (rest := []) ⟨hx, hb, hml, hown, hta⟩ (c_X15_fails_0 l ) (cwV 1 hta (gWV mw180 mw181 mw182 mw176 mw179) rfl rfl rfl (by decide +kernel) ⟨Nat.le_of_ble_eq_true rfl, Nat.le_of_ble_eq_true rfl⟩) ⟨gS_blind, va_recv hKc hPc (ci := 20) (q0 := 0) rfl rfl, fun U hU hW => ⟨rfl, by rw [hU], by rw [hU]; exact hPc, va_K.moved hW.alike hKc, hDc.weaken (fun _ _ _ _ => trivial), hG.call hS hU hW hFc⟩⟩ rfl rfl hl.1 rfl (lv_room (Nat.le_of_ble_eq_true rfl)) dX15_addMachine_75 ⟨Nat.le_of_ble_eq_true rfl, Nat.le_of_ble_eq_true rfl⟩) hP hD hS hK hFc rfl rfl (by decide) (by decide) (fun r17 u18 H locs h19 hP hD hS hK => ?_)
              obtain rfl : r17 = 0 := h19
              have hK : va_K D vwCl [(tc, .char)] s := hK
              have hP : va_P D vwCl (wM tE m0 m1 m2 m3 m4 m5 m6 tc 0 tm) H := hP
              have hD : va_D A (wM tE m0 m1 m2 m3 m4 m5 m6 tc 0 tm) := hD
              refine lv_if_eq (tgt := 83) hx hb dX15_addMachine_78 (by decide) (fun c20 => ?_) (fun c20 => ?_)
              · skip
                refine lv_aload_n hx hb dX15_addMachine_83 rfl (lv_at hl 1 rfl) ?_
                refine va_get (D := D) (ci := 20) (v := .ref m1) (C := RX15) (T := TX15) (N := 9) hx hb hta iwX15 hown hK hP 0 rfl rfl 1 (by decide) (hta _ mw177) (fun _ h9 => h9) rfl dX15_addMachine_84 ?_
                refine va_new (ci := 17) (fs := [.int 0, .int 0, .int 0, .int 0, .int 0, .int 0, .int 0, .int 0, .int 0, .null, .int 0]) (C := RX12) (T := TX12) (N := 11) hx hb hta iwX12 tyX12 tyX12_ok hown (hta _ mw245) (hta _ mw246) (hta _ mw247) hK hP hD hS hA rfl (fun j hj => by rcases (show j = 0 ∨ j = 1 ∨ j = 2 ∨ j = 3 ∨ j = 4 ∨ j = 5 ∨ j = 6 ∨ j = 7 ∨ j = 8 ∨ j = 9 ∨ j = 10 by omega) with rfl | rfl | rfl | rfl | rfl | rfl | rfl | rfl | rfl | rfl | rfl <;> rfl) (Nat.le_of_ble_eq_true rfl) (Nat.le_of_ble_eq_true rfl) dX15_addMachine_87 (fun q21 H hP hD hS => ?_)
                have hP : va_P D vwCl [(m0, .inr (20, [.int 0, .ref m1, .ref m2, .ref m3, .ref m4, .int 0, .ref m5, .ref m6, .int tm])), (m1, .inr (4, [.int 0, .ref tE, .int 0])), (m2, .inr (4, [.int 0, .ref tE, .int 0])), (m3, .inr (4, [.int 0, .ref tE, .int 0])), (m4, .inr (4, [.int 0, .ref tE, .int 0])), (m5, .inl (tc, 4, .inl (upd (upd (upd (upd (fun _ => 0) 0 110) 1 110) 2 110) 3 110))), (q21, .inr (17, [.int 0, .int 0, .int 0, .int 0, .int 0, .int 0, .int 0, .int 0, .int 0, .null, .int 0]))] H := hP
                have hD : va_D A [(m0, .inr (20, [.int 0, .ref m1, .ref m2, .ref m3, .ref m4, .int 0, .ref m5, .ref m6, .int tm])), (m1, .inr (4, [.int 0, .ref tE, .int 0])), (m2, .inr (4, [.int 0, .ref tE, .int 0])), (m3, .inr (4, [.int 0, .ref tE, .int 0])), (m4, .inr (4, [.int 0, .ref tE, .int 0])), (m5, .inl (tc, 4, .inl (upd (upd (upd (upd (fun _ => 0) 0 110) 1 110) 2 110) 3 110))), (q21, .inr (17, [.int 0, .int 0, .int 0, .int 0, .int 0, .int 0, .int 0, .int 0, .int 0, .null, .int 0]))] := hD
                refine lv_dup hx hb dX15_addMachine_90 rfl ?_
                refine lv_iload_n hx hb dX15_addMachine_91 rfl (lv_at hl 2 rfl) ?_
                refine lv_iload_n hx hb dX15_addMachine_92 rfl (lv_at hl 3 rfl) ?_
                refine lv_iload_n hx hb dX15_addMachine_93 rfl (lv_at hl 4 rfl) ?_
                refine lv_iload hx hb dX15_addMachine_94 (lv_at hl 5 rfl) ?_
                have hPc := hP.sub (ws' := [(q21, .inr (17, [.int 0, .int 0, .int 0, .int 0, .int 0, .int 0, .int 0, .int 0, .int 0, .null, .int 0]))]) [6] rfl
                have hKc := hK.sub (tys' := []) [] rfl
                have hDc := hD.sub (ws' := [(q21, .inr (17, [.int 0, .int 0, .int 0, .int 0, .int 0, .int 0, .int 0, .int 0, .int 0, .null, .int 0]))]) [6] (by decide) rfl
                have hFc := va_free (wc := [(q21, .inr (17, [.int 0, .int 0, .int 0, .int 0, .int 0, .int 0, .int 0, .int 0, .int 0, .null, .int 0]))]) hD hS hA [6] rfl
                refine gJ_v (isC := [6]) (isR := [0, 1, 2, 3, 4, 5]) (wr := (wM tE m0 m1 m2 m3 m4 m5 m6 tc 0 tm)) (va_runI (As := [.int x1, .int x2, .int x3, .int x4]) (rest := [.ref q21, .ref m1]) ⟨hx, hb, hml, hown, hta⟩ (c_X12_init l ) (cwI 4 hta (gWI mw248) rfl rfl rfl (hta _ mw247) (hta _ mw249) (hta _ mw250) rfl (by decide +kernel) ⟨Nat.le_of_ble_eq_true rfl, Nat.le_of_ble_eq_true rfl⟩) ⟨gS_blind, fun U hU hW => ⟨rfl, by rw [hU], by rw [hU]; exact hPc, va_K.moved hW.alike hKc, hDc.weaken (fun _ _ _ _ => trivial), hG.call hS hU hW hFc⟩⟩ rfl rfl hl.1 rfl (lv_room (Nat.le_of_ble_eq_true rfl)) dX15_addMachine_96 ⟨Nat.le_of_ble_eq_true rfl, Nat.le_of_ble_eq_true rfl⟩) hP hD hS hK hFc rfl rfl (by decide) (by decide) (fun u23 H locs h24 hP hD hS hK => ?_)
                have hK : va_K D vwCl [(tc, .char)] s := hK
                have hP : va_P D vwCl [(m0, .inr (20, [.int 0, .ref m1, .ref m2, .ref m3, .ref m4, .int 0, .ref m5, .ref m6, .int tm])), (m1, .inr (4, [.int 0, .ref tE, .int 0])), (m2, .inr (4, [.int 0, .ref tE, .int 0])), (m3, .inr (4, [.int 0, .ref tE, .int 0])), (m4, .inr (4, [.int 0, .ref tE, .int 0])), (m5, .inl (tc, 4, .inl (upd (upd (upd (upd (fun _ => 0) 0 110) 1 110) 2 110) 3 110))), (q21, .inr (17, [.int x1, .int x2, .int x3, .int x4, .int (-1), .int 0, .int 45, .int 0, .int 0, .null, .int 0]))] H := hP
                have hD : va_D A [(m0, .inr (20, [.int 0, .ref m1, .ref m2, .ref m3, .ref m4, .int 0, .ref m5, .ref m6, .int tm])), (m1, .inr (4, [.int 0, .ref tE, .int 0])), (m2, .inr (4, [.int 0, .ref tE, .int 0])), (m3, .inr (4, [.int 0, .ref tE, .int 0])), (m4, .inr (4, [.int 0, .ref tE, .int 0])), (m5, .inl (tc, 4, .inl (upd (upd (upd (upd (fun _ => 0) 0 110) 1 110) 2 110) 3 110))), (q21, .inr (17, [.int x1, .int x2, .int x3, .int x4, .int (-1), .int 0, .int 45, .int 0, .int 0, .null, .int 0]))] := hD
                have hPc := hP.sub (ws' := [(m1, .inr (4, [.int 0, .ref tE, .int 0])), (q21, .inr (17, [.int x1, .int x2, .int x3, .int x4, .int (-1), .int 0, .int 45, .int 0, .int 0, .null, .int 0]))]) [1, 6] rfl
                have hKc := hK.sub (tys' := []) [] rfl
                have hDc := hD.sub (ws' := [(m1, .inr (4, [.int 0, .ref tE, .int 0])), (q21, .inr (17, [.int x1, .int x2, .int x3, .int x4, .int (-1), .int 0, .int 45, .int 0, .int 0, .null, .int 0]))]) [1, 6] (by decide) rfl
                have hFc := va_free (wc := [(m1, .inr (4, [.int 0, .ref tE, .int 0])), (q21, .inr (17, [.int x1, .int x2, .int x3, .int x4, .int (-1), .int 0, .int 45, .int 0, .int 0, .null, .int 0]))]) hD hS hA [1, 6] rfl
                refine gJ_i (isC := [1, 6]) (isR := [0, 2, 3, 4, 5]) (wr := [(m0, .inr (20, [.int 0, .ref m1, .ref m2, .ref m3, .ref m4, .int 0, .ref m5, .ref m6, .int tm])), (m2, .inr (4, [.int 0, .ref tE, .int 0])), (m3, .inr (4, [.int 0, .ref tE, .int 0])), (m4, .inr (4, [.int 0, .ref tE, .int 0])), (m5, .inl (tc, 4, .inl (upd (upd (upd (upd (fun _ => 0) 0 110) 1 110) 2 110) 3 110)))]) (va_runV (As := [.ref q21]) (rest := []) ⟨hx, hb, hml, hown, hta⟩ (c_AL_add_X12_0 l ) (cwV 1 hta (gWV mw252 mw253 mw254 mw157 mw251) rfl rfl rfl (by decide +kernel) ⟨Nat.le_of_ble_eq_true rfl, Nat.le_of_ble_eq_true rfl⟩) ⟨gS_blind, va_recv hKc hPc (ci := 4) (q0 := 0) rfl rfl, fun U hU hW => ⟨rfl, by rw [hU], by rw [hU]; exact hPc, va_K.moved hW.alike hKc, hDc.weaken (fun _ _ _ _ => trivial), hG.call hS hU hW hFc⟩⟩ rfl rfl hl.1 rfl (lv_room (Nat.le_of_ble_eq_true rfl)) dX15_addMachine_99 ⟨Nat.le_of_ble_eq_true rfl, Nat.le_of_ble_eq_true rfl⟩) hP hD hS hK hFc rfl rfl (by decide) (by decide) (fun r25 u26 H locs h27 hP hD hS hK => ?_)
                obtain rfl : r25 = 1 := h27
                obtain ⟨b28, t29⟩ := u26
                have hK : va_K D vwCl [(tc, .char), (t29, .object "java/lang/Object")] s := hK
                have hP : va_P D vwCl [(m0, .inr (20, [.int 0, .ref m1, .ref m2, .ref m3, .ref m4, .int 0, .ref m5, .ref m6, .int tm])), (m2, .inr (4, [.int 0, .ref tE, .int 0])), (m3, .inr (4, [.int 0, .ref tE, .int 0])), (m4, .inr (4, [.int 0, .ref tE, .int 0])), (m5, .inl (tc, 4, .inl (upd (upd (upd (upd (fun _ => 0) 0 110) 1 110) 2 110) 3 110))), (m1, .inr (4, [.int 1, .ref b28, .int 1])), (b28, .inl (t29, 10, .inr (.inr (.inr (.inr (va_up (fun _ => none) 0 (some q21))))))), (q21, .inr (17, [.int x1, .int x2, .int x3, .int x4, .int (-1), .int 0, .int 45, .int 0, .int 0, .null, .int 0]))] H := hP
                have hD : va_D A [(m0, .inr (20, [.int 0, .ref m1, .ref m2, .ref m3, .ref m4, .int 0, .ref m5, .ref m6, .int tm])), (m2, .inr (4, [.int 0, .ref tE, .int 0])), (m3, .inr (4, [.int 0, .ref tE, .int 0])), (m4, .inr (4, [.int 0, .ref tE, .int 0])), (m5, .inl (tc, 4, .inl (upd (upd (upd (upd (fun _ => 0) 0 110) 1 110) 2 110) 3 110))), (m1, .inr (4, [.int 1, .ref b28, .int 1])), (b28, .inl (t29, 10, .inr (.inr (.inr (.inr (va_up (fun _ => none) 0 (some q21))))))), (q21, .inr (17, [.int x1, .int x2, .int x3, .int x4, .int (-1), .int 0, .int 45, .int 0, .int 0, .null, .int 0]))] := hD
                refine lv_istore (lv' := [(6, .int 1), (5, .int 1), (0, .ref m0), (1, .int x1), (2, .int x2), (3, .int x3), (4, .int x4)]) hx hb dX15_addMachine_102 hl (by decide) rfl (fun ls hl => ?_)
                refine lv_aload_n hx hb dX15_addMachine_104 rfl (lv_at hl 2 rfl) ?_
                refine va_get (D := D) (ci := 20) (v := .ref m1) (C := RX15) (T := TX15) (N := 9) hx hb hta iwX15 hown hK hP 0 rfl rfl 1 (by decide) (hta _ mw177) (fun _ h9 => h9) rfl dX15_addMachine_105 ?_
                have hPc := hP.sub (ws' := [(m1, .inr (4, [.int 1, .ref b28, .int 1]))]) [5] rfl
                have hKc := hK.sub (tys' := []) [] rfl
                refine vp_callSi (W.runV (As := []) (rest := []) ⟨hx, hb, hml, hown, hta⟩ (c_AL_size l ) (cwV 0 hta (gWV mw170 mw171 mw172 mw157 mw169) rfl rfl rfl (by decide +kernel) ⟨Nat.le_of_ble_eq_true rfl, Nat.le_of_ble_eq_true rfl⟩) ⟨gR_blind, va_recv hKc hPc (ci := 4) (q0 := 0) rfl rfl, fun U hU hW => ⟨rfl, by rw [hU]; exact hPc, va_K.moved hW.alike hKc⟩⟩ rfl rfl hl.1 rfl (lv_room (Nat.le_of_ble_eq_true rfl)) dX15_addMachine_108 ⟨Nat.le_of_ble_eq_true rfl, Nat.le_of_ble_eq_true rfl⟩) (fun r30 h31 => ?_)
                obtain rfl : r30 = 1 := h31
                refine lv_iconst (v := 1) hx hb dX15_addMachine_111 (by decide) ?_
                refine lv_isub hx hb dX15_addMachine_112 ?_
                refine lv_topi (fun x32 ex32 => ?_)
                obtain rfl : x32 = 0 := ex32.trans (by decide)
                have hP9 := hP.sub (ws' := [(m0, .inr (20, [.int 0, .ref m1, .ref m2, .ref m3, .ref m4, .int 0, .ref m5, .ref m6, .int tm]))]) [0] rfl
                have hD9 := hD.sub (ws' := [(m0, .inr (20, [.int 0, .ref m1, .ref m2, .ref m3, .ref m4, .int 0, .ref m5, .ref m6, .int tm]))]) [0] (by decide) rfl
                have hK9 := hK.sub (tys' := []) [] rfl
                refine W.widen (k := 2) (n := 21) (Nat.le_of_ble_eq_true rfl) (Nat.le_of_ble_eq_true rfl) ?_
                exact W.iret (v := 0) hx hb hr (fun t ht hWm => ⟨⟨_, [.ref m1, .ref m2, .ref m3, .ref m4, .int 0, .ref m5, .ref m6, .int tm], rfl, rfl, ⟨by rw [ht]; exact hP9, va_K.moved hWm.alike hK9, hD9⟩⟩, hS.F ht⟩) hS.2.2 dX15_addMachine_113
              · exact absurd (by decide) c20
            · exact absurd c16 (by decide)
          · exact absurd c13 (by decide)

set_option maxHeartbeats 4000000 in
set_option maxRecDepth 100000 in
theorem c_X15_addMachine_f (l : Launch) {D : va_G} {tE sz : Nat} {m0 m1 m2 m3 m4 m5 m6 : Nat} {tc : ClassId} {th tm : Int32} {x1 x2 x3 x4 : Int32} (hf : fitM x1 x2 x3 x4 = false) : Met l ⟨"FoundrymarkModel", "addMachine", "(IIII)I"⟩ (wsC ⟨"FoundrymarkModel", "addMachine", "(IIII)I"⟩ cX15_addMachine 7 (some .int)) ({ frames := 1, cells := 0, slots := 0, locals := 22 }) (va_Pc [.ref m0, .int x1, .int x2, .int x3, .int x4] (gS tE D (wM tE m0 m1 m2 m3 m4 m5 m6 tc th tm) [(tc, .char)] sz)) (va_Qi (fun (r : Int32) (_ : Unit) => r = 0) (gO D (fun _ => (wM tE m0 m1 m2 m3 m4 m5 m6 tc 1 tm)) (fun _ => []) (va_A (wM tE m0 m1 m2 m3 m4 m5 m6 tc th tm) sz)) (va_A (wM tE m0 m1 m2 m3 m4 m5 m6 tc th tm) sz)) 0 0 (va_A (wM tE m0 m1 m2 m3 m4 m5 m6 tc th tm) sz) := by
  refine Met.ofW (cc := cX15_addMachine) (maxL := 7) (ret := (some .int)) (by decide) rfl ?_
  intro p e s m args below meth c s₁ B hml hv
  obtain ⟨rfl, hsz, hP, hK, hD0, hG⟩ := hv
  have hx := B.exec
  have hb := B.bytes
  have hr := B.returns
  have hlocks := B.notSynchronized
  have hts := atoms_spec (ws := wsC ⟨"FoundrymarkModel", "addMachine", "(IIII)I"⟩ cX15_addMachine 7 (some .int)) B.pre
  have hta : ∀ w ∈ WA, w.before _ s = true := fun w h => hts w (List.mem_cons_of_mem _ h)
  have hown : s.vm.findClass "FoundrymarkModel" = some m.cls := findClass_of_methodNamed B.named
  subst hsz
  have hD : va_D (va_A (wM tE m0 m1 m2 m3 m4 m5 m6 tc th tm) s.heap.size) (wM tE m0 m1 m2 m3 m4 m5 m6 tc th tm) := hD0.self (sz := s.heap.size)
  generalize hAe : va_A (wM tE m0 m1 m2 m3 m4 m5 m6 tc th tm) s.heap.size = A at hD hG ⊢
  have hA : ∀ q : Nat, s.heap.size ≤ q → A q := fun q h => by rw [← hAe]; exact Or.inr h
  have hS : va_S A s.heap s.heap [] := va_S.rf
  have hP : va_P D vwCl (wM tE m0 m1 m2 m3 m4 m5 m6 tc th tm) s.heap := hP
  have hl := lv_entry ([.ref m0, .int x1, .int x2, .int x3, .int x4]) (n := 7) (Nat.le_of_ble_eq_true rfl)
  rw [lg_entry_eq]
  generalize (lg_sl ([.ref m0, .int x1, .int x2, .int x3, .int x4]) ++ List.replicate (7 - (lg_sl ([.ref m0, .int x1, .int x2, .int x3, .int x4])).length) Slot.unset).toArray = ls at hl ⊢
  have hl : lv_has ls 7 [(0, .ref m0), (1, .int x1), (2, .int x2), (3, .int x3), (4, .int x4)] := hl
  refine lv_iload_n hx hb dX15_addMachine_0 rfl (lv_at hl 1 rfl) ?_
  refine lv_iconst (v := 0) hx hb dX15_addMachine_1 (by decide) ?_
  refine lv_bipush (v := 20) hx hb dX15_addMachine_2 (by decide) ?_
  refine vp_callSi (W.runS (As := [.int x1, .int 0, .int 20]) (rest := []) ⟨hx, hb, hml, hown, hta⟩ (c_X15_in l x1 0 20) (va_cwS 3 hta (gWS mw174 mw175 mw176 mw173) rfl rfl rfl (by decide +kernel) ⟨Nat.le_of_ble_eq_true rfl, Nat.le_of_ble_eq_true rfl⟩) ⟨fun a U g mk q => ⟨q.1, trivial⟩, fun U hU hW => ⟨rfl, trivial⟩⟩ rfl rfl hl.1 rfl (lv_room (Nat.le_of_ble_eq_true rfl)) dX15_addMachine_4 ⟨Nat.le_of_ble_eq_true rfl, Nat.le_of_ble_eq_true rfl⟩) (fun r1 h2 => ?_)
  rcases g3 : inR x1 0 20 with _ | _
  · skip
    obtain rfl : r1 = 0 := h2.trans (by rw [g3]; rfl)
    refine lv_if_eq (tgt := 46) hx hb dX15_addMachine_7 (by decide) (fun c4 => ?_) (fun c4 => ?_)
    · skip
      refine lv_iconst (v := 0) hx hb dX15_addMachine_46 (by decide) ?_
      refine lv_istore (lv' := [(5, .int 0), (0, .ref m0), (1, .int x1), (2, .int x2), (3, .int x3), (4, .int x4)]) hx hb dX15_addMachine_47 hl (by decide) rfl (fun ls hl => ?_)
      refine lv_aload_n hx hb dX15_addMachine_49 rfl (lv_at hl 1 rfl) ?_
      refine lv_iload hx hb dX15_addMachine_50 (lv_at hl 0 rfl) ?_
      refine lv_if_ne (tgt := 59) hx hb dX15_addMachine_52 (by decide) (fun c5 => ?_) (fun c5 => ?_)
      · exact absurd c5 (by decide)
      · skip
        refine lv_iconst (v := 1) hx hb dX15_addMachine_55 (by decide) ?_
        refine lv_goto (tgt := 75) hx hb dX15_addMachine_56 (by decide) ?_
        have hPc := hP.sub (ws' := (wM tE m0 m1 m2 m3 m4 m5 m6 tc th tm)) [0, 1, 2, 3, 4, 5] rfl
        have hKc := hK.sub (tys' := [(tc, .char)]) [0] rfl
        have hDc := hD.sub (ws' := (wM tE m0 m1 m2 m3 m4 m5 m6 tc th tm)) [0, 1, 2, 3, 4, 5] (by decide) rfl
        have hFc := va_free (wc := (wM tE m0 m1 m2 m3 m4 m5 m6 tc th tm)) hD hS hA [0, 1, 2, 3, 4, 5] rfl
        refine gJ_i (isC := [0, 1, 2, 3, 4, 5]) (isR := []) (wr := []) (va_runV (As := [.int 1]) (rest := []) ⟨hx, hb, hml, hown, hta⟩ (c_X15_fails_1 l ) (cwV 1 hta (gWV mw180 mw181 mw182 mw176 mw179) rfl rfl rfl (by decide +kernel) ⟨Nat.le_of_ble_eq_true rfl, Nat.le_of_ble_eq_true rfl⟩) ⟨gS_blind, va_recv hKc hPc (ci := 20) (q0 := 0) rfl rfl, fun U hU hW => ⟨rfl, by rw [hU], by rw [hU]; exact hPc, va_K.moved hW.alike hKc, hDc.weaken (fun _ _ _ _ => trivial), hG.call hS hU hW hFc⟩⟩ rfl rfl hl.1 rfl (lv_room (Nat.le_of_ble_eq_true rfl)) dX15_addMachine_75 ⟨Nat.le_of_ble_eq_true rfl, Nat.le_of_ble_eq_true rfl⟩) hP hD hS hK hFc rfl rfl (by decide) (by decide) (fun r6 u7 H locs h8 hP hD hS hK => ?_)
        obtain rfl : r6 = 1 := h8
        have hK : va_K D vwCl [(tc, .char)] s := hK
        have hP : va_P D vwCl (wM tE m0 m1 m2 m3 m4 m5 m6 tc 1 tm) H := hP
        have hD : va_D A (wM tE m0 m1 m2 m3 m4 m5 m6 tc 1 tm) := hD
        refine lv_if_eq (tgt := 83) hx hb dX15_addMachine_78 (by decide) (fun c9 => ?_) (fun c9 => ?_)
        · exact absurd c9 (by decide)
        · skip
          refine lv_iconst (v := 0) hx hb dX15_addMachine_81 (by decide) ?_
          have hP9 := hP.sub (ws' := (wM tE m0 m1 m2 m3 m4 m5 m6 tc 1 tm)) [0, 1, 2, 3, 4, 5] rfl
          have hD9 := hD.sub (ws' := (wM tE m0 m1 m2 m3 m4 m5 m6 tc 1 tm)) [0, 1, 2, 3, 4, 5] (by decide) rfl
          have hK9 := hK.sub (tys' := []) [] rfl
          refine W.widen (k := 0) (n := 0) (Nat.le_of_ble_eq_true rfl) (Nat.le_of_ble_eq_true rfl) ?_
          exact W.iret (v := 0) hx hb hr (fun t ht hWm => ⟨⟨_, (), rfl, rfl, ⟨by rw [ht]; exact hP9, va_K.moved hWm.alike hK9, hD9⟩⟩, hS.F ht⟩) hS.2.2 dX15_addMachine_82
    · exact absurd (by decide) c4
  · skip
    obtain rfl : r1 = 1 := h2.trans (by rw [g3]; rfl)
    refine lv_if_eq (tgt := 46) hx hb dX15_addMachine_7 (by decide) (fun c10 => ?_) (fun c10 => ?_)
    · exact absurd c10 (by decide)
    · skip
      refine lv_iload_n hx hb dX15_addMachine_10 rfl (lv_at hl 2 rfl) ?_
      refine lv_iconst (v := 0) hx hb dX15_addMachine_11 (by decide) ?_
      refine lv_bipush (v := 50) hx hb dX15_addMachine_12 (by decide) ?_
      refine vp_callSi (W.runS (As := [.int x2, .int 0, .int 50]) (rest := []) ⟨hx, hb, hml, hown, hta⟩ (c_X15_in l x2 0 50) (va_cwS 3 hta (gWS mw174 mw175 mw176 mw173) rfl rfl rfl (by decide +kernel) ⟨Nat.le_of_ble_eq_true rfl, Nat.le_of_ble_eq_true rfl⟩) ⟨fun a U g mk q => ⟨q.1, trivial⟩, fun U hU hW => ⟨rfl, trivial⟩⟩ rfl rfl hl.1 rfl (lv_room (Nat.le_of_ble_eq_true rfl)) dX15_addMachine_14 ⟨Nat.le_of_ble_eq_true rfl, Nat.le_of_ble_eq_true rfl⟩) (fun r11 h12 => ?_)
      rcases g13 : inR x2 0 50 with _ | _
      · skip
        obtain rfl : r11 = 0 := h12.trans (by rw [g13]; rfl)
        refine lv_if_eq (tgt := 46) hx hb dX15_addMachine_17 (by decide) (fun c14 => ?_) (fun c14 => ?_)
        · skip
          refine lv_iconst (v := 0) hx hb dX15_addMachine_46 (by decide) ?_
          refine lv_istore (lv' := [(5, .int 0), (0, .ref m0), (1, .int x1), (2, .int x2), (3, .int x3), (4, .int x4)]) hx hb dX15_addMachine_47 hl (by decide) rfl (fun ls hl => ?_)
          refine lv_aload_n hx hb dX15_addMachine_49 rfl (lv_at hl 1 rfl) ?_
          refine lv_iload hx hb dX15_addMachine_50 (lv_at hl 0 rfl) ?_
          refine lv_if_ne (tgt := 59) hx hb dX15_addMachine_52 (by decide) (fun c15 => ?_) (fun c15 => ?_)
          · exact absurd c15 (by decide)
          · skip
            refine lv_iconst (v := 1) hx hb dX15_addMachine_55 (by decide) ?_
            refine lv_goto (tgt := 75) hx hb dX15_addMachine_56 (by decide) ?_
            have hPc := hP.sub (ws' := (wM tE m0 m1 m2 m3 m4 m5 m6 tc th tm)) [0, 1, 2, 3, 4, 5] rfl
            have hKc := hK.sub (tys' := [(tc, .char)]) [0] rfl
            have hDc := hD.sub (ws' := (wM tE m0 m1 m2 m3 m4 m5 m6 tc th tm)) [0, 1, 2, 3, 4, 5] (by decide) rfl
            have hFc := va_free (wc := (wM tE m0 m1 m2 m3 m4 m5 m6 tc th tm)) hD hS hA [0, 1, 2, 3, 4, 5] rfl
            refine gJ_i (isC := [0, 1, 2, 3, 4, 5]) (isR := []) (wr := []) (va_runV (As := [.int 1]) (rest := []) ⟨hx, hb, hml, hown, hta⟩ (c_X15_fails_1 l ) (cwV 1 hta (gWV mw180 mw181 mw182 mw176 mw179) rfl rfl rfl (by decide +kernel) ⟨Nat.le_of_ble_eq_true rfl, Nat.le_of_ble_eq_true rfl⟩) ⟨gS_blind, va_recv hKc hPc (ci := 20) (q0 := 0) rfl rfl, fun U hU hW => ⟨rfl, by rw [hU], by rw [hU]; exact hPc, va_K.moved hW.alike hKc, hDc.weaken (fun _ _ _ _ => trivial), hG.call hS hU hW hFc⟩⟩ rfl rfl hl.1 rfl (lv_room (Nat.le_of_ble_eq_true rfl)) dX15_addMachine_75 ⟨Nat.le_of_ble_eq_true rfl, Nat.le_of_ble_eq_true rfl⟩) hP hD hS hK hFc rfl rfl (by decide) (by decide) (fun r16 u17 H locs h18 hP hD hS hK => ?_)
            obtain rfl : r16 = 1 := h18
            have hK : va_K D vwCl [(tc, .char)] s := hK
            have hP : va_P D vwCl (wM tE m0 m1 m2 m3 m4 m5 m6 tc 1 tm) H := hP
            have hD : va_D A (wM tE m0 m1 m2 m3 m4 m5 m6 tc 1 tm) := hD
            refine lv_if_eq (tgt := 83) hx hb dX15_addMachine_78 (by decide) (fun c19 => ?_) (fun c19 => ?_)
            · exact absurd c19 (by decide)
            · skip
              refine lv_iconst (v := 0) hx hb dX15_addMachine_81 (by decide) ?_
              have hP9 := hP.sub (ws' := (wM tE m0 m1 m2 m3 m4 m5 m6 tc 1 tm)) [0, 1, 2, 3, 4, 5] rfl
              have hD9 := hD.sub (ws' := (wM tE m0 m1 m2 m3 m4 m5 m6 tc 1 tm)) [0, 1, 2, 3, 4, 5] (by decide) rfl
              have hK9 := hK.sub (tys' := []) [] rfl
              refine W.widen (k := 0) (n := 0) (Nat.le_of_ble_eq_true rfl) (Nat.le_of_ble_eq_true rfl) ?_
              exact W.iret (v := 0) hx hb hr (fun t ht hWm => ⟨⟨_, (), rfl, rfl, ⟨by rw [ht]; exact hP9, va_K.moved hWm.alike hK9, hD9⟩⟩, hS.F ht⟩) hS.2.2 dX15_addMachine_82
        · exact absurd (by decide) c14
      · skip
        obtain rfl : r11 = 1 := h12.trans (by rw [g13]; rfl)
        refine lv_if_eq (tgt := 46) hx hb dX15_addMachine_17 (by decide) (fun c20 => ?_) (fun c20 => ?_)
        · exact absurd c20 (by decide)
        · skip
          refine lv_iload_n hx hb dX15_addMachine_20 rfl (lv_at hl 3 rfl) ?_
          refine lv_iconst (v := 5) hx hb dX15_addMachine_21 (by decide) ?_
          refine lv_sipush (v := 500) hx hb dX15_addMachine_22 (by decide) ?_
          refine vp_callSi (W.runS (As := [.int x3, .int 5, .int 500]) (rest := []) ⟨hx, hb, hml, hown, hta⟩ (c_X15_in l x3 5 500) (va_cwS 3 hta (gWS mw174 mw175 mw176 mw173) rfl rfl rfl (by decide +kernel) ⟨Nat.le_of_ble_eq_true rfl, Nat.le_of_ble_eq_true rfl⟩) ⟨fun a U g mk q => ⟨q.1, trivial⟩, fun U hU hW => ⟨rfl, trivial⟩⟩ rfl rfl hl.1 rfl (lv_room (Nat.le_of_ble_eq_true rfl)) dX15_addMachine_25 ⟨Nat.le_of_ble_eq_true rfl, Nat.le_of_ble_eq_true rfl⟩) (fun r21 h22 => ?_)
          rcases g23 : inR x3 5 500 with _ | _
          · skip
            obtain rfl : r21 = 0 := h22.trans (by rw [g23]; rfl)
            refine lv_if_eq (tgt := 46) hx hb dX15_addMachine_28 (by decide) (fun c24 => ?_) (fun c24 => ?_)
            · skip
              refine lv_iconst (v := 0) hx hb dX15_addMachine_46 (by decide) ?_
              refine lv_istore (lv' := [(5, .int 0), (0, .ref m0), (1, .int x1), (2, .int x2), (3, .int x3), (4, .int x4)]) hx hb dX15_addMachine_47 hl (by decide) rfl (fun ls hl => ?_)
              refine lv_aload_n hx hb dX15_addMachine_49 rfl (lv_at hl 1 rfl) ?_
              refine lv_iload hx hb dX15_addMachine_50 (lv_at hl 0 rfl) ?_
              refine lv_if_ne (tgt := 59) hx hb dX15_addMachine_52 (by decide) (fun c25 => ?_) (fun c25 => ?_)
              · exact absurd c25 (by decide)
              · skip
                refine lv_iconst (v := 1) hx hb dX15_addMachine_55 (by decide) ?_
                refine lv_goto (tgt := 75) hx hb dX15_addMachine_56 (by decide) ?_
                have hPc := hP.sub (ws' := (wM tE m0 m1 m2 m3 m4 m5 m6 tc th tm)) [0, 1, 2, 3, 4, 5] rfl
                have hKc := hK.sub (tys' := [(tc, .char)]) [0] rfl
                have hDc := hD.sub (ws' := (wM tE m0 m1 m2 m3 m4 m5 m6 tc th tm)) [0, 1, 2, 3, 4, 5] (by decide) rfl
                have hFc := va_free (wc := (wM tE m0 m1 m2 m3 m4 m5 m6 tc th tm)) hD hS hA [0, 1, 2, 3, 4, 5] rfl
                refine gJ_i (isC := [0, 1, 2, 3, 4, 5]) (isR := []) (wr := []) (va_runV (As := [.int 1]) (rest := []) ⟨hx, hb, hml, hown, hta⟩ (c_X15_fails_1 l ) (cwV 1 hta (gWV mw180 mw181 mw182 mw176 mw179) rfl rfl rfl (by decide +kernel) ⟨Nat.le_of_ble_eq_true rfl, Nat.le_of_ble_eq_true rfl⟩) ⟨gS_blind, va_recv hKc hPc (ci := 20) (q0 := 0) rfl rfl, fun U hU hW => ⟨rfl, by rw [hU], by rw [hU]; exact hPc, va_K.moved hW.alike hKc, hDc.weaken (fun _ _ _ _ => trivial), hG.call hS hU hW hFc⟩⟩ rfl rfl hl.1 rfl (lv_room (Nat.le_of_ble_eq_true rfl)) dX15_addMachine_75 ⟨Nat.le_of_ble_eq_true rfl, Nat.le_of_ble_eq_true rfl⟩) hP hD hS hK hFc rfl rfl (by decide) (by decide) (fun r26 u27 H locs h28 hP hD hS hK => ?_)
                obtain rfl : r26 = 1 := h28
                have hK : va_K D vwCl [(tc, .char)] s := hK
                have hP : va_P D vwCl (wM tE m0 m1 m2 m3 m4 m5 m6 tc 1 tm) H := hP
                have hD : va_D A (wM tE m0 m1 m2 m3 m4 m5 m6 tc 1 tm) := hD
                refine lv_if_eq (tgt := 83) hx hb dX15_addMachine_78 (by decide) (fun c29 => ?_) (fun c29 => ?_)
                · exact absurd c29 (by decide)
                · skip
                  refine lv_iconst (v := 0) hx hb dX15_addMachine_81 (by decide) ?_
                  have hP9 := hP.sub (ws' := (wM tE m0 m1 m2 m3 m4 m5 m6 tc 1 tm)) [0, 1, 2, 3, 4, 5] rfl
                  have hD9 := hD.sub (ws' := (wM tE m0 m1 m2 m3 m4 m5 m6 tc 1 tm)) [0, 1, 2, 3, 4, 5] (by decide) rfl
                  have hK9 := hK.sub (tys' := []) [] rfl
                  refine W.widen (k := 0) (n := 0) (Nat.le_of_ble_eq_true rfl) (Nat.le_of_ble_eq_true rfl) ?_
                  exact W.iret (v := 0) hx hb hr (fun t ht hWm => ⟨⟨_, (), rfl, rfl, ⟨by rw [ht]; exact hP9, va_K.moved hWm.alike hK9, hD9⟩⟩, hS.F ht⟩) hS.2.2 dX15_addMachine_82
            · exact absurd (by decide) c24
          · skip
            obtain rfl : r21 = 1 := h22.trans (by rw [g23]; rfl)
            refine lv_if_eq (tgt := 46) hx hb dX15_addMachine_28 (by decide) (fun c30 => ?_) (fun c30 => ?_)
            · exact absurd c30 (by decide)
            · skip
              refine lv_iload hx hb dX15_addMachine_31 (lv_at hl 4 rfl) ?_
              refine lv_iconst (v := 1) hx hb dX15_addMachine_33 (by decide) ?_
              refine lv_bipush (v := 99) hx hb dX15_addMachine_34 (by decide) ?_
              refine vp_callSi (W.runS (As := [.int x4, .int 1, .int 99]) (rest := []) ⟨hx, hb, hml, hown, hta⟩ (c_X15_in l x4 1 99) (va_cwS 3 hta (gWS mw174 mw175 mw176 mw173) rfl rfl rfl (by decide +kernel) ⟨Nat.le_of_ble_eq_true rfl, Nat.le_of_ble_eq_true rfl⟩) ⟨fun a U g mk q => ⟨q.1, trivial⟩, fun U hU hW => ⟨rfl, trivial⟩⟩ rfl rfl hl.1 rfl (lv_room (Nat.le_of_ble_eq_true rfl)) dX15_addMachine_36 ⟨Nat.le_of_ble_eq_true rfl, Nat.le_of_ble_eq_true rfl⟩) (fun r31 h32 => ?_)
              rcases g33 : inR x4 1 99 with _ | _
              · skip
                obtain rfl : r31 = 0 := h32.trans (by rw [g33]; rfl)
                refine lv_if_eq (tgt := 46) hx hb dX15_addMachine_39 (by decide) (fun c34 => ?_) (fun c34 => ?_)
                · skip
                  refine lv_iconst (v := 0) hx hb dX15_addMachine_46 (by decide) ?_
                  refine lv_istore (lv' := [(5, .int 0), (0, .ref m0), (1, .int x1), (2, .int x2), (3, .int x3), (4, .int x4)]) hx hb dX15_addMachine_47 hl (by decide) rfl (fun ls hl => ?_)
                  refine lv_aload_n hx hb dX15_addMachine_49 rfl (lv_at hl 1 rfl) ?_
                  refine lv_iload hx hb dX15_addMachine_50 (lv_at hl 0 rfl) ?_
                  refine lv_if_ne (tgt := 59) hx hb dX15_addMachine_52 (by decide) (fun c35 => ?_) (fun c35 => ?_)
                  · exact absurd c35 (by decide)
                  · skip
                    refine lv_iconst (v := 1) hx hb dX15_addMachine_55 (by decide) ?_
                    refine lv_goto (tgt := 75) hx hb dX15_addMachine_56 (by decide) ?_
                    have hPc := hP.sub (ws' := (wM tE m0 m1 m2 m3 m4 m5 m6 tc th tm)) [0, 1, 2, 3, 4, 5] rfl
                    have hKc := hK.sub (tys' := [(tc, .char)]) [0] rfl
                    have hDc := hD.sub (ws' := (wM tE m0 m1 m2 m3 m4 m5 m6 tc th tm)) [0, 1, 2, 3, 4, 5] (by decide) rfl
                    have hFc := va_free (wc := (wM tE m0 m1 m2 m3 m4 m5 m6 tc th tm)) hD hS hA [0, 1, 2, 3, 4, 5] rfl
                    refine gJ_i (isC := [0, 1, 2, 3, 4, 5]) (isR := []) (wr := []) (va_runV (As := [.int 1]) (rest := []) ⟨hx, hb, hml, hown, hta⟩ (c_X15_fails_1 l ) (cwV 1 hta (gWV mw180 mw181 mw182 mw176 mw179) rfl rfl rfl (by decide +kernel) ⟨Nat.le_of_ble_eq_true rfl, Nat.le_of_ble_eq_true rfl⟩) ⟨gS_blind, va_recv hKc hPc (ci := 20) (q0 := 0) rfl rfl, fun U hU hW => ⟨rfl, by rw [hU], by rw [hU]; exact hPc, va_K.moved hW.alike hKc, hDc.weaken (fun _ _ _ _ => trivial), hG.call hS hU hW hFc⟩⟩ rfl rfl hl.1 rfl (lv_room (Nat.le_of_ble_eq_true rfl)) dX15_addMachine_75 ⟨Nat.le_of_ble_eq_true rfl, Nat.le_of_ble_eq_true rfl⟩) hP hD hS hK hFc rfl rfl (by decide) (by decide) (fun r36 u37 H locs h38 hP hD hS hK => ?_)
                    obtain rfl : r36 = 1 := h38
                    have hK : va_K D vwCl [(tc, .char)] s := hK
                    have hP : va_P D vwCl (wM tE m0 m1 m2 m3 m4 m5 m6 tc 1 tm) H := hP
                    have hD : va_D A (wM tE m0 m1 m2 m3 m4 m5 m6 tc 1 tm) := hD
                    refine lv_if_eq (tgt := 83) hx hb dX15_addMachine_78 (by decide) (fun c39 => ?_) (fun c39 => ?_)
                    · exact absurd c39 (by decide)
                    · skip
                      refine lv_iconst (v := 0) hx hb dX15_addMachine_81 (by decide) ?_
                      have hP9 := hP.sub (ws' := (wM tE m0 m1 m2 m3 m4 m5 m6 tc 1 tm)) [0, 1, 2, 3, 4, 5] rfl
                      have hD9 := hD.sub (ws' := (wM tE m0 m1 m2 m3 m4 m5 m6 tc 1 tm)) [0, 1, 2, 3, 4, 5] (by decide) rfl
                      have hK9 := hK.sub (tys' := []) [] rfl
                      refine W.widen (k := 0) (n := 0) (Nat.le_of_ble_eq_true rfl) (Nat.le_of_ble_eq_true rfl) ?_
                      exact W.iret (v := 0) hx hb hr (fun t ht hWm => ⟨⟨_, (), rfl, rfl, ⟨by rw [ht]; exact hP9, va_K.moved hWm.alike hK9, hD9⟩⟩, hS.F ht⟩) hS.2.2 dX15_addMachine_82
                · exact absurd (by decide) c34
              · skip
                obtain rfl : r31 = 1 := h32.trans (by rw [g33]; rfl)
                exact absurd hf (by simp [fitM, g3, g13, g23, g33])

set_option maxHeartbeats 4000000 in
set_option maxRecDepth 100000 in
theorem c_X15_addPart_t0 (l : Launch) {D : va_G} {tE sz : Nat} {m0 m1 m2 m3 m4 m5 m6 : Nat} {tc : ClassId} {th tm : Int32} {f : Int32} (g91 : inR f 0 3 = true) : Met l ⟨"FoundrymarkModel", "addPart", "(ZI)I"⟩ (wsC ⟨"FoundrymarkModel", "addPart", "(ZI)I"⟩ cX15_addPart 4 (some .int)) ({ frames := 5, cells := 4, slots := 25, locals := 108 }) (va_Pc [.ref m0, .int 0, .int f] (gS tE D (wM tE m0 m1 m2 m3 m4 m5 m6 tc th tm) [(tc, .char)] sz)) (va_Qi (fun (r : Int32) (_ : List Value) => r = 0) (gO D (fun u => [(m0, .inr (20, .int 0 :: u))]) (fun _ => []) (va_A (wM tE m0 m1 m2 m3 m4 m5 m6 tc th tm) sz)) (va_A (wM tE m0 m1 m2 m3 m4 m5 m6 tc th tm) sz)) 4 25 (va_A (wM tE m0 m1 m2 m3 m4 m5 m6 tc th tm) sz) := by
  refine Met.ofW (cc := cX15_addPart) (maxL := 4) (ret := (some .int)) (by decide) rfl ?_
  intro p e s m args below meth c s₁ B hml hv
  obtain ⟨rfl, hsz, hP, hK, hD0, hG⟩ := hv
  have hx := B.exec
  have hb := B.bytes
  have hr := B.returns
  have hlocks := B.notSynchronized
  have hts := atoms_spec (ws := wsC ⟨"FoundrymarkModel", "addPart", "(ZI)I"⟩ cX15_addPart 4 (some .int)) B.pre
  have hta : ∀ w ∈ WA, w.before _ s = true := fun w h => hts w (List.mem_cons_of_mem _ h)
  have hown : s.vm.findClass "FoundrymarkModel" = some m.cls := findClass_of_methodNamed B.named
  subst hsz
  have hD : va_D (va_A (wM tE m0 m1 m2 m3 m4 m5 m6 tc th tm) s.heap.size) (wM tE m0 m1 m2 m3 m4 m5 m6 tc th tm) := hD0.self (sz := s.heap.size)
  generalize hAe : va_A (wM tE m0 m1 m2 m3 m4 m5 m6 tc th tm) s.heap.size = A at hD hG ⊢
  have hA : ∀ q : Nat, s.heap.size ≤ q → A q := fun q h => by rw [← hAe]; exact Or.inr h
  have hS : va_S A s.heap s.heap [] := va_S.rf
  have hP : va_P D vwCl (wM tE m0 m1 m2 m3 m4 m5 m6 tc th tm) s.heap := hP
  have hl := lv_entry ([.ref m0, .int 0, .int f]) (n := 4) (Nat.le_of_ble_eq_true rfl)
  rw [lg_entry_eq]
  generalize (lg_sl ([.ref m0, .int 0, .int f]) ++ List.replicate (4 - (lg_sl ([.ref m0, .int 0, .int f])).length) Slot.unset).toArray = ls at hl ⊢
  have hl : lv_has ls 4 [(0, .ref m0), (1, .int 0), (2, .int f)] := hl
  refine lv_aload_n hx hb dX15_addPart_0 rfl (lv_at hl 0 rfl) ?_
  refine lv_iload_n hx hb dX15_addPart_1 rfl (lv_at hl 2 rfl) ?_
  refine lv_iconst (v := 0) hx hb dX15_addPart_2 (by decide) ?_
  refine lv_iconst (v := 3) hx hb dX15_addPart_3 (by decide) ?_
  refine vp_callSi (W.runS (As := [.int f, .int 0, .int 3]) (rest := [.ref m0]) ⟨hx, hb, hml, hown, hta⟩ (c_X15_in l f 0 3) (va_cwS 3 hta (gWS mw174 mw175 mw176 mw173) rfl rfl rfl (by decide +kernel) ⟨Nat.le_of_ble_eq_true rfl, Nat.le_of_ble_eq_true rfl⟩) ⟨fun a U g mk q => ⟨q.1, trivial⟩, fun U hU hW => ⟨rfl, trivial⟩⟩ rfl rfl hl.1 rfl (lv_room (Nat.le_of_ble_eq_true rfl)) dX15_addPart_4 ⟨Nat.le_of_ble_eq_true rfl, Nat.le_of_ble_eq_true rfl⟩) (fun r1 h2 => ?_)
  obtain rfl : r1 = 1 := h2.trans (by rw [g91]; rfl)
  refine lv_if_ne (tgt := 14) hx hb dX15_addPart_7 (by decide) (fun c3 => ?_) (fun c3 => ?_)
  · skip
    refine lv_aload_n hx hb dX15_addPart_14 rfl (lv_at hl 0 rfl) ?_
    refine va_get (D := D) (ci := 20) (v := .ref m2) (C := RX15) (T := TX15) (N := 9) hx hb hta iwX15 hown hK hP 0 rfl rfl 2 (by decide) (hta _ mw168) (fun _ h9 => h9) rfl dX15_addPart_15 ?_
    have hPc := hP.sub (ws' := [(m2, .inr (4, [.int 0, .ref tE, .int 0]))]) [2] rfl
    have hKc := hK.sub (tys' := []) [] rfl
    refine vp_callSi (W.runV (As := []) (rest := [.ref m0]) ⟨hx, hb, hml, hown, hta⟩ (c_AL_size l ) (cwV 0 hta (gWV mw170 mw171 mw172 mw157 mw169) rfl rfl rfl (by decide +kernel) ⟨Nat.le_of_ble_eq_true rfl, Nat.le_of_ble_eq_true rfl⟩) ⟨gR_blind, va_recv hKc hPc (ci := 4) (q0 := 0) rfl rfl, fun U hU hW => ⟨rfl, by rw [hU]; exact hPc, va_K.moved hW.alike hKc⟩⟩ rfl rfl hl.1 rfl (lv_room (Nat.le_of_ble_eq_true rfl)) dX15_addPart_18 ⟨Nat.le_of_ble_eq_true rfl, Nat.le_of_ble_eq_true rfl⟩) (fun r4 h5 => ?_)
    obtain rfl : r4 = 0 := h5
    refine lv_bipush (v := 12) hx hb dX15_addPart_21 (by decide) ?_
    refine lv_icmp_ne (tgt := 30) hx hb dX15_addPart_23 (by decide) (fun c6 => ?_) (fun c6 => ?_)
    · skip
      refine lv_iconst (v := 0) hx hb dX15_addPart_30 (by decide) ?_
      have hPc := hP.sub (ws' := (wM tE m0 m1 m2 m3 m4 m5 m6 tc th tm)) [0, 1, 2, 3, 4, 5] rfl
      have hKc := hK.sub (tys' := [(tc, .char)]) [0] rfl
      have hDc := hD.sub (ws' := (wM tE m0 m1 m2 m3 m4 m5 m6 tc th tm)) [0, 1, 2, 3, 4, 5] (by decide) rfl
      have hFc := va_free (wc := (wM tE m0 m1 m2 m3 m4 m5 m6 tc th tm)) hD hS hA [0, 1, 2, 3, 4, 5] rfl
      refine gJ_i (isC := [0, 1, 2, 3, 4, 5]) (isR := []) (wr := []) (va_runV (As := [.int 0]) (rest := []) ⟨hx, hb, hml, hown, hta⟩ (c_X15_fails_0 l ) (cwV 1 hta (gWV mw180 mw181 mw182 mw176 mw179) rfl rfl rfl (by decide +kernel) ⟨Nat.le_of_ble_eq_true rfl, Nat.le_of_ble_eq_true rfl⟩) ⟨gS_blind, va_recv hKc hPc (ci := 20) (q0 := 0) rfl rfl, fun U hU hW => ⟨rfl, by rw [hU], by rw [hU]; exact hPc, va_K.moved hW.alike hKc, hDc.weaken (fun _ _ _ _ => trivial), hG.call hS hU hW hFc⟩⟩ rfl rfl hl.1 rfl (lv_room (Nat.le_of_ble_eq_true rfl)) dX15_addPart_31 ⟨Nat.le_of_ble_eq_true rfl, Nat.le_of_ble_eq_true rfl⟩) hP hD hS hK hFc rfl rfl (by decide) (by decide) (fun r7 u8 H locs h9 hP hD hS hK => ?_)
      obtain rfl : r7 = 0 := h9
      have hK : va_K D vwCl [(tc, .char)] s := hK
      have hP : va_P D vwCl (wM tE m0 m1 m2 m3 m4 m5 m6 tc 0 tm) H := hP
      have hD : va_D A (wM tE m0 m1 m2 m3 m4 m5 m6 tc 0 tm) := hD
      refine lv_if_eq (tgt := 39) hx hb dX15_addPart_34 (by decide) (fun c10 => ?_) (fun c10 => ?_)
      · skip
        refine lv_aload_n hx hb dX15_addPart_39 rfl (lv_at hl 0 rfl) ?_
        refine va_get (D := D) (ci := 20) (v := .ref m2) (C := RX15) (T := TX15) (N := 9) hx hb hta iwX15 hown hK hP 0 rfl rfl 2 (by decide) (hta _ mw168) (fun _ h9 => h9) rfl dX15_addPart_40 ?_
        refine va_new (ci := 19) (fs := [.int 0, .int 0, .null, .null, .int 0, .int 0, .int 0, .int 0, .int 0]) (C := RX14) (T := TX14) (N := 9) hx hb hta iwX14 tyX14 tyX14_ok hown (hta _ mw255) (hta _ mw256) (hta _ mw257) hK hP hD hS hA rfl (fun j hj => by rcases (show j = 0 ∨ j = 1 ∨ j = 2 ∨ j = 3 ∨ j = 4 ∨ j = 5 ∨ j = 6 ∨ j = 7 ∨ j = 8 by omega) with rfl | rfl | rfl | rfl | rfl | rfl | rfl | rfl | rfl <;> rfl) (Nat.le_of_ble_eq_true rfl) (Nat.le_of_ble_eq_true rfl) dX15_addPart_43 (fun q11 H hP hD hS => ?_)
        have hP : va_P D vwCl [(m0, .inr (20, [.int 0, .ref m1, .ref m2, .ref m3, .ref m4, .int 0, .ref m5, .ref m6, .int tm])), (m1, .inr (4, [.int 0, .ref tE, .int 0])), (m2, .inr (4, [.int 0, .ref tE, .int 0])), (m3, .inr (4, [.int 0, .ref tE, .int 0])), (m4, .inr (4, [.int 0, .ref tE, .int 0])), (m5, .inl (tc, 4, .inl (upd (upd (upd (upd (fun _ => 0) 0 110) 1 110) 2 110) 3 110))), (q11, .inr (19, [.int 0, .int 0, .null, .null, .int 0, .int 0, .int 0, .int 0, .int 0]))] H := hP
        have hD : va_D A [(m0, .inr (20, [.int 0, .ref m1, .ref m2, .ref m3, .ref m4, .int 0, .ref m5, .ref m6, .int tm])), (m1, .inr (4, [.int 0, .ref tE, .int 0])), (m2, .inr (4, [.int 0, .ref tE, .int 0])), (m3, .inr (4, [.int 0, .ref tE, .int 0])), (m4, .inr (4, [.int 0, .ref tE, .int 0])), (m5, .inl (tc, 4, .inl (upd (upd (upd (upd (fun _ => 0) 0 110) 1 110) 2 110) 3 110))), (q11, .inr (19, [.int 0, .int 0, .null, .null, .int 0, .int 0, .int 0, .int 0, .int 0]))] := hD
        refine lv_dup hx hb dX15_addPart_46 rfl ?_
        refine lv_iload_n hx hb dX15_addPart_47 rfl (lv_at hl 1 rfl) ?_
        refine lv_iload_n hx hb dX15_addPart_48 rfl (lv_at hl 2 rfl) ?_
        have hPc := hP.sub (ws' := [(q11, .inr (19, [.int 0, .int 0, .null, .null, .int 0, .int 0, .int 0, .int 0, .int 0]))]) [6] rfl
        have hKc := hK.sub (tys' := []) [] rfl
        have hDc := hD.sub (ws' := [(q11, .inr (19, [.int 0, .int 0, .null, .null, .int 0, .int 0, .int 0, .int 0, .int 0]))]) [6] (by decide) rfl
        have hFc := va_free (wc := [(q11, .inr (19, [.int 0, .int 0, .null, .null, .int 0, .int 0, .int 0, .int 0, .int 0]))]) hD hS hA [6] rfl
        refine gJ_v (isC := [6]) (isR := [0, 1, 2, 3, 4, 5]) (wr := (wM tE m0 m1 m2 m3 m4 m5 m6 tc 0 tm)) (va_runI (As := [.int 0, .int f]) (rest := [.ref q11, .ref m2]) ⟨hx, hb, hml, hown, hta⟩ (c_X14_init_0 l ) (cwI 2 hta (gWI mw258) rfl rfl rfl (hta _ mw257) (hta _ mw259) (hta _ mw260) rfl (by decide +kernel) ⟨Nat.le_of_ble_eq_true rfl, Nat.le_of_ble_eq_true rfl⟩) ⟨gS_blind, fun U hU hW => ⟨rfl, by rw [hU], by rw [hU]; exact hPc, va_K.moved hW.alike hKc, hDc.weaken (fun _ _ _ _ => trivial), hG.call hS hU hW hFc⟩⟩ rfl rfl hl.1 rfl (lv_room (Nat.le_of_ble_eq_true rfl)) dX15_addPart_49 ⟨Nat.le_of_ble_eq_true rfl, Nat.le_of_ble_eq_true rfl⟩) hP hD hS hK hFc rfl rfl (by decide) (by decide) (fun u13 H locs h14 hP hD hS hK => ?_)
        have hK : va_K D vwCl [(tc, .char)] s := hK
        have hP : va_P D vwCl [(m0, .inr (20, [.int 0, .ref m1, .ref m2, .ref m3, .ref m4, .int 0, .ref m5, .ref m6, .int tm])), (m1, .inr (4, [.int 0, .ref tE, .int 0])), (m2, .inr (4, [.int 0, .ref tE, .int 0])), (m3, .inr (4, [.int 0, .ref tE, .int 0])), (m4, .inr (4, [.int 0, .ref tE, .int 0])), (m5, .inl (tc, 4, .inl (upd (upd (upd (upd (fun _ => 0) 0 110) 1 110) 2 110) 3 110))), (q11, .inr (19, u13))] H := hP
        have hD : va_D A [(m0, .inr (20, [.int 0, .ref m1, .ref m2, .ref m3, .ref m4, .int 0, .ref m5, .ref m6, .int tm])), (m1, .inr (4, [.int 0, .ref tE, .int 0])), (m2, .inr (4, [.int 0, .ref tE, .int 0])), (m3, .inr (4, [.int 0, .ref tE, .int 0])), (m4, .inr (4, [.int 0, .ref tE, .int 0])), (m5, .inl (tc, 4, .inl (upd (upd (upd (upd (fun _ => 0) 0 110) 1 110) 2 110) 3 110))), (q11, .inr (19, u13))] := hD
        have hPc := hP.sub (ws' := [(m2, .inr (4, [.int 0, .ref tE, .int 0])), (q11, .inr (19, u13))]) [2, 6] rfl
        have hKc := hK.sub (tys' := []) [] rfl
        have hDc := hD.sub (ws' := [(m2, .inr (4, [.int 0, .ref tE, .int 0])), (q11, .inr (19, u13))]) [2, 6] (by decide) rfl
        have hFc := va_free (wc := [(m2, .inr (4, [.int 0, .ref tE, .int 0])), (q11, .inr (19, u13))]) hD hS hA [2, 6] rfl
        refine gJ_i (isC := [2, 6]) (isR := [0, 1, 3, 4, 5]) (wr := [(m0, .inr (20, [.int 0, .ref m1, .ref m2, .ref m3, .ref m4, .int 0, .ref m5, .ref m6, .int tm])), (m1, .inr (4, [.int 0, .ref tE, .int 0])), (m3, .inr (4, [.int 0, .ref tE, .int 0])), (m4, .inr (4, [.int 0, .ref tE, .int 0])), (m5, .inl (tc, 4, .inl (upd (upd (upd (upd (fun _ => 0) 0 110) 1 110) 2 110) 3 110)))]) (va_runV (As := [.ref q11]) (rest := []) ⟨hx, hb, hml, hown, hta⟩ (c_AL_add_X14_0 l ) (cwV 1 hta (gWV mw252 mw253 mw254 mw157 mw251) rfl rfl rfl (by decide +kernel) ⟨Nat.le_of_ble_eq_true rfl, Nat.le_of_ble_eq_true rfl⟩) ⟨gS_blind, va_recv hKc hPc (ci := 4) (q0 := 0) rfl rfl, fun U hU hW => ⟨rfl, by rw [hU], by rw [hU]; exact hPc, va_K.moved hW.alike hKc, hDc.weaken (fun _ _ _ _ => trivial), hG.call hS hU hW hFc⟩⟩ rfl rfl hl.1 rfl (lv_room (Nat.le_of_ble_eq_true rfl)) dX15_addPart_52 ⟨Nat.le_of_ble_eq_true rfl, Nat.le_of_ble_eq_true rfl⟩) hP hD hS hK hFc rfl rfl (by decide) (by decide) (fun r15 u16 H locs h17 hP hD hS hK => ?_)
        obtain rfl : r15 = 1 := h17
        obtain ⟨b18, t19⟩ := u16
        have hK : va_K D vwCl [(tc, .char), (t19, .object "java/lang/Object")] s := hK
        have hP : va_P D vwCl [(m0, .inr (20, [.int 0, .ref m1, .ref m2, .ref m3, .ref m4, .int 0, .ref m5, .ref m6, .int tm])), (m1, .inr (4, [.int 0, .ref tE, .int 0])), (m3, .inr (4, [.int 0, .ref tE, .int 0])), (m4, .inr (4, [.int 0, .ref tE, .int 0])), (m5, .inl (tc, 4, .inl (upd (upd (upd (upd (fun _ => 0) 0 110) 1 110) 2 110) 3 110))), (m2, .inr (4, [.int 1, .ref b18, .int 1])), (b18, .inl (t19, 10, .inr (.inr (.inr (.inr (va_up (fun _ => none) 0 (some q11))))))), (q11, .inr (19, u13))] H := hP
        have hD : va_D A [(m0, .inr (20, [.int 0, .ref m1, .ref m2, .ref m3, .ref m4, .int 0, .ref m5, .ref m6, .int tm])), (m1, .inr (4, [.int 0, .ref tE, .int 0])), (m3, .inr (4, [.int 0, .ref tE, .int 0])), (m4, .inr (4, [.int 0, .ref tE, .int 0])), (m5, .inl (tc, 4, .inl (upd (upd (upd (upd (fun _ => 0) 0 110) 1 110) 2 110) 3 110))), (m2, .inr (4, [.int 1, .ref b18, .int 1])), (b18, .inl (t19, 10, .inr (.inr (.inr (.inr (va_up (fun _ => none) 0 (some q11))))))), (q11, .inr (19, u13))] := hD
        refine lv_istore_n (lv' := [(3, .int 1), (0, .ref m0), (1, .int 0), (2, .int f)]) hx hb dX15_addPart_55 rfl hl (by decide) rfl (fun ls hl => ?_)
        refine lv_aload_n hx hb dX15_addPart_56 rfl (lv_at hl 1 rfl) ?_
        refine va_get (D := D) (ci := 20) (v := .ref m2) (C := RX15) (T := TX15) (N := 9) hx hb hta iwX15 hown hK hP 0 rfl rfl 2 (by decide) (hta _ mw168) (fun _ h9 => h9) rfl dX15_addPart_57 ?_
        have hPc := hP.sub (ws' := [(m2, .inr (4, [.int 1, .ref b18, .int 1]))]) [5] rfl
        have hKc := hK.sub (tys' := []) [] rfl
        refine vp_callSi (W.runV (As := []) (rest := []) ⟨hx, hb, hml, hown, hta⟩ (c_AL_size l ) (cwV 0 hta (gWV mw170 mw171 mw172 mw157 mw169) rfl rfl rfl (by decide +kernel) ⟨Nat.le_of_ble_eq_true rfl, Nat.le_of_ble_eq_true rfl⟩) ⟨gR_blind, va_recv hKc hPc (ci := 4) (q0 := 0) rfl rfl, fun U hU hW => ⟨rfl, by rw [hU]; exact hPc, va_K.moved hW.alike hKc⟩⟩ rfl rfl hl.1 rfl (lv_room (Nat.le_of_ble_eq_true rfl)) dX15_addPart_60 ⟨Nat.le_of_ble_eq_true rfl, Nat.le_of_ble_eq_true rfl⟩) (fun r20 h21 => ?_)
        obtain rfl : r20 = 1 := h21
        refine lv_iconst (v := 1) hx hb dX15_addPart_63 (by decide) ?_
        refine lv_isub hx hb dX15_addPart_64 ?_
        refine lv_topi (fun x22 ex22 => ?_)
        obtain rfl : x22 = 0 := ex22.trans (by decide)
        have hP9 := hP.sub (ws' := [(m0, .inr (20, [.int 0, .ref m1, .ref m2, .ref m3, .ref m4, .int 0, .ref m5, .ref m6, .int tm]))]) [0] rfl
        have hD9 := hD.sub (ws' := [(m0, .inr (20, [.int 0, .ref m1, .ref m2, .ref m3, .ref m4, .int 0, .ref m5, .ref m6, .int tm]))]) [0] (by decide) rfl
        have hK9 := hK.sub (tys' := []) [] rfl
        refine W.widen (k := 4) (n := 25) (Nat.le_of_ble_eq_true rfl) (Nat.le_of_ble_eq_true rfl) ?_
        exact W.iret (v := 0) hx hb hr (fun t ht hWm => ⟨⟨_, [.ref m1, .ref m2, .ref m3, .ref m4, .int 0, .ref m5, .ref m6, .int tm], rfl, rfl, ⟨by rw [ht]; exact hP9, va_K.moved hWm.alike hK9, hD9⟩⟩, hS.F ht⟩) hS.2.2 dX15_addPart_65
      · exact absurd (by decide) c10
    · exact absurd c6 (by decide)
  · exact absurd c3 (by decide)

set_option maxHeartbeats 4000000 in
set_option maxRecDepth 100000 in
theorem c_X15_addPart_t1 (l : Launch) {D : va_G} {tE sz : Nat} {m0 m1 m2 m3 m4 m5 m6 : Nat} {tc : ClassId} {th tm : Int32} {f : Int32} (g91 : inR f 0 3 = true) : Met l ⟨"FoundrymarkModel", "addPart", "(ZI)I"⟩ (wsC ⟨"FoundrymarkModel", "addPart", "(ZI)I"⟩ cX15_addPart 4 (some .int)) ({ frames := 5, cells := 4, slots := 25, locals := 108 }) (va_Pc [.ref m0, .int 1, .int f] (gS tE D (wM tE m0 m1 m2 m3 m4 m5 m6 tc th tm) [(tc, .char)] sz)) (va_Qi (fun (r : Int32) (_ : List Value) => r = 0) (gO D (fun u => [(m0, .inr (20, .int 0 :: u))]) (fun _ => []) (va_A (wM tE m0 m1 m2 m3 m4 m5 m6 tc th tm) sz)) (va_A (wM tE m0 m1 m2 m3 m4 m5 m6 tc th tm) sz)) 4 25 (va_A (wM tE m0 m1 m2 m3 m4 m5 m6 tc th tm) sz) := by
  refine Met.ofW (cc := cX15_addPart) (maxL := 4) (ret := (some .int)) (by decide) rfl ?_
  intro p e s m args below meth c s₁ B hml hv
  obtain ⟨rfl, hsz, hP, hK, hD0, hG⟩ := hv
  have hx := B.exec
  have hb := B.bytes
  have hr := B.returns
  have hlocks := B.notSynchronized
  have hts := atoms_spec (ws := wsC ⟨"FoundrymarkModel", "addPart", "(ZI)I"⟩ cX15_addPart 4 (some .int)) B.pre
  have hta : ∀ w ∈ WA, w.before _ s = true := fun w h => hts w (List.mem_cons_of_mem _ h)
  have hown : s.vm.findClass "FoundrymarkModel" = some m.cls := findClass_of_methodNamed B.named
  subst hsz
  have hD : va_D (va_A (wM tE m0 m1 m2 m3 m4 m5 m6 tc th tm) s.heap.size) (wM tE m0 m1 m2 m3 m4 m5 m6 tc th tm) := hD0.self (sz := s.heap.size)
  generalize hAe : va_A (wM tE m0 m1 m2 m3 m4 m5 m6 tc th tm) s.heap.size = A at hD hG ⊢
  have hA : ∀ q : Nat, s.heap.size ≤ q → A q := fun q h => by rw [← hAe]; exact Or.inr h
  have hS : va_S A s.heap s.heap [] := va_S.rf
  have hP : va_P D vwCl (wM tE m0 m1 m2 m3 m4 m5 m6 tc th tm) s.heap := hP
  have hl := lv_entry ([.ref m0, .int 1, .int f]) (n := 4) (Nat.le_of_ble_eq_true rfl)
  rw [lg_entry_eq]
  generalize (lg_sl ([.ref m0, .int 1, .int f]) ++ List.replicate (4 - (lg_sl ([.ref m0, .int 1, .int f])).length) Slot.unset).toArray = ls at hl ⊢
  have hl : lv_has ls 4 [(0, .ref m0), (1, .int 1), (2, .int f)] := hl
  refine lv_aload_n hx hb dX15_addPart_0 rfl (lv_at hl 0 rfl) ?_
  refine lv_iload_n hx hb dX15_addPart_1 rfl (lv_at hl 2 rfl) ?_
  refine lv_iconst (v := 0) hx hb dX15_addPart_2 (by decide) ?_
  refine lv_iconst (v := 3) hx hb dX15_addPart_3 (by decide) ?_
  refine vp_callSi (W.runS (As := [.int f, .int 0, .int 3]) (rest := [.ref m0]) ⟨hx, hb, hml, hown, hta⟩ (c_X15_in l f 0 3) (va_cwS 3 hta (gWS mw174 mw175 mw176 mw173) rfl rfl rfl (by decide +kernel) ⟨Nat.le_of_ble_eq_true rfl, Nat.le_of_ble_eq_true rfl⟩) ⟨fun a U g mk q => ⟨q.1, trivial⟩, fun U hU hW => ⟨rfl, trivial⟩⟩ rfl rfl hl.1 rfl (lv_room (Nat.le_of_ble_eq_true rfl)) dX15_addPart_4 ⟨Nat.le_of_ble_eq_true rfl, Nat.le_of_ble_eq_true rfl⟩) (fun r1 h2 => ?_)
  obtain rfl : r1 = 1 := h2.trans (by rw [g91]; rfl)
  refine lv_if_ne (tgt := 14) hx hb dX15_addPart_7 (by decide) (fun c3 => ?_) (fun c3 => ?_)
  · skip
    refine lv_aload_n hx hb dX15_addPart_14 rfl (lv_at hl 0 rfl) ?_
    refine va_get (D := D) (ci := 20) (v := .ref m2) (C := RX15) (T := TX15) (N := 9) hx hb hta iwX15 hown hK hP 0 rfl rfl 2 (by decide) (hta _ mw168) (fun _ h9 => h9) rfl dX15_addPart_15 ?_
    have hPc := hP.sub (ws' := [(m2, .inr (4, [.int 0, .ref tE, .int 0]))]) [2] rfl
    have hKc := hK.sub (tys' := []) [] rfl
    refine vp_callSi (W.runV (As := []) (rest := [.ref m0]) ⟨hx, hb, hml, hown, hta⟩ (c_AL_size l ) (cwV 0 hta (gWV mw170 mw171 mw172 mw157 mw169) rfl rfl rfl (by decide +kernel) ⟨Nat.le_of_ble_eq_true rfl, Nat.le_of_ble_eq_true rfl⟩) ⟨gR_blind, va_recv hKc hPc (ci := 4) (q0 := 0) rfl rfl, fun U hU hW => ⟨rfl, by rw [hU]; exact hPc, va_K.moved hW.alike hKc⟩⟩ rfl rfl hl.1 rfl (lv_room (Nat.le_of_ble_eq_true rfl)) dX15_addPart_18 ⟨Nat.le_of_ble_eq_true rfl, Nat.le_of_ble_eq_true rfl⟩) (fun r4 h5 => ?_)
    obtain rfl : r4 = 0 := h5
    refine lv_bipush (v := 12) hx hb dX15_addPart_21 (by decide) ?_
    refine lv_icmp_ne (tgt := 30) hx hb dX15_addPart_23 (by decide) (fun c6 => ?_) (fun c6 => ?_)
    · skip
      refine lv_iconst (v := 0) hx hb dX15_addPart_30 (by decide) ?_
      have hPc := hP.sub (ws' := (wM tE m0 m1 m2 m3 m4 m5 m6 tc th tm)) [0, 1, 2, 3, 4, 5] rfl
      have hKc := hK.sub (tys' := [(tc, .char)]) [0] rfl
      have hDc := hD.sub (ws' := (wM tE m0 m1 m2 m3 m4 m5 m6 tc th tm)) [0, 1, 2, 3, 4, 5] (by decide) rfl
      have hFc := va_free (wc := (wM tE m0 m1 m2 m3 m4 m5 m6 tc th tm)) hD hS hA [0, 1, 2, 3, 4, 5] rfl
      refine gJ_i (isC := [0, 1, 2, 3, 4, 5]) (isR := []) (wr := []) (va_runV (As := [.int 0]) (rest := []) ⟨hx, hb, hml, hown, hta⟩ (c_X15_fails_0 l ) (cwV 1 hta (gWV mw180 mw181 mw182 mw176 mw179) rfl rfl rfl (by decide +kernel) ⟨Nat.le_of_ble_eq_true rfl, Nat.le_of_ble_eq_true rfl⟩) ⟨gS_blind, va_recv hKc hPc (ci := 20) (q0 := 0) rfl rfl, fun U hU hW => ⟨rfl, by rw [hU], by rw [hU]; exact hPc, va_K.moved hW.alike hKc, hDc.weaken (fun _ _ _ _ => trivial), hG.call hS hU hW hFc⟩⟩ rfl rfl hl.1 rfl (lv_room (Nat.le_of_ble_eq_true rfl)) dX15_addPart_31 ⟨Nat.le_of_ble_eq_true rfl, Nat.le_of_ble_eq_true rfl⟩) hP hD hS hK hFc rfl rfl (by decide) (by decide) (fun r7 u8 H locs h9 hP hD hS hK => ?_)
      obtain rfl : r7 = 0 := h9
      have hK : va_K D vwCl [(tc, .char)] s := hK
      have hP : va_P D vwCl (wM tE m0 m1 m2 m3 m4 m5 m6 tc 0 tm) H := hP
      have hD : va_D A (wM tE m0 m1 m2 m3 m4 m5 m6 tc 0 tm) := hD
      refine lv_if_eq (tgt := 39) hx hb dX15_addPart_34 (by decide) (fun c10 => ?_) (fun c10 => ?_)
      · skip
        refine lv_aload_n hx hb dX15_addPart_39 rfl (lv_at hl 0 rfl) ?_
        refine va_get (D := D) (ci := 20) (v := .ref m2) (C := RX15) (T := TX15) (N := 9) hx hb hta iwX15 hown hK hP 0 rfl rfl 2 (by decide) (hta _ mw168) (fun _ h9 => h9) rfl dX15_addPart_40 ?_
        refine va_new (ci := 19) (fs := [.int 0, .int 0, .null, .null, .int 0, .int 0, .int 0, .int 0, .int 0]) (C := RX14) (T := TX14) (N := 9) hx hb hta iwX14 tyX14 tyX14_ok hown (hta _ mw255) (hta _ mw256) (hta _ mw257) hK hP hD hS hA rfl (fun j hj => by rcases (show j = 0 ∨ j = 1 ∨ j = 2 ∨ j = 3 ∨ j = 4 ∨ j = 5 ∨ j = 6 ∨ j = 7 ∨ j = 8 by omega) with rfl | rfl | rfl | rfl | rfl | rfl | rfl | rfl | rfl <;> rfl) (Nat.le_of_ble_eq_true rfl) (Nat.le_of_ble_eq_true rfl) dX15_addPart_43 (fun q11 H hP hD hS => ?_)
        have hP : va_P D vwCl [(m0, .inr (20, [.int 0, .ref m1, .ref m2, .ref m3, .ref m4, .int 0, .ref m5, .ref m6, .int tm])), (m1, .inr (4, [.int 0, .ref tE, .int 0])), (m2, .inr (4, [.int 0, .ref tE, .int 0])), (m3, .inr (4, [.int 0, .ref tE, .int 0])), (m4, .inr (4, [.int 0, .ref tE, .int 0])), (m5, .inl (tc, 4, .inl (upd (upd (upd (upd (fun _ => 0) 0 110) 1 110) 2 110) 3 110))), (q11, .inr (19, [.int 0, .int 0, .null, .null, .int 0, .int 0, .int 0, .int 0, .int 0]))] H := hP
        have hD : va_D A [(m0, .inr (20, [.int 0, .ref m1, .ref m2, .ref m3, .ref m4, .int 0, .ref m5, .ref m6, .int tm])), (m1, .inr (4, [.int 0, .ref tE, .int 0])), (m2, .inr (4, [.int 0, .ref tE, .int 0])), (m3, .inr (4, [.int 0, .ref tE, .int 0])), (m4, .inr (4, [.int 0, .ref tE, .int 0])), (m5, .inl (tc, 4, .inl (upd (upd (upd (upd (fun _ => 0) 0 110) 1 110) 2 110) 3 110))), (q11, .inr (19, [.int 0, .int 0, .null, .null, .int 0, .int 0, .int 0, .int 0, .int 0]))] := hD
        refine lv_dup hx hb dX15_addPart_46 rfl ?_
        refine lv_iload_n hx hb dX15_addPart_47 rfl (lv_at hl 1 rfl) ?_
        refine lv_iload_n hx hb dX15_addPart_48 rfl (lv_at hl 2 rfl) ?_
        have hPc := hP.sub (ws' := [(q11, .inr (19, [.int 0, .int 0, .null, .null, .int 0, .int 0, .int 0, .int 0, .int 0]))]) [6] rfl
        have hKc := hK.sub (tys' := []) [] rfl
        have hDc := hD.sub (ws' := [(q11, .inr (19, [.int 0, .int 0, .null, .null, .int 0, .int 0, .int 0, .int 0, .int 0]))]) [6] (by decide) rfl
        have hFc := va_free (wc := [(q11, .inr (19, [.int 0, .int 0, .null, .null, .int 0, .int 0, .int 0, .int 0, .int 0]))]) hD hS hA [6] rfl
        refine gJ_v (isC := [6]) (isR := [0, 1, 2, 3, 4, 5]) (wr := (wM tE m0 m1 m2 m3 m4 m5 m6 tc 0 tm)) (va_runI (As := [.int 1, .int f]) (rest := [.ref q11, .ref m2]) ⟨hx, hb, hml, hown, hta⟩ (c_X14_init_1 l ) (cwI 2 hta (gWI mw258) rfl rfl rfl (hta _ mw257) (hta _ mw259) (hta _ mw260) rfl (by decide +kernel) ⟨Nat.le_of_ble_eq_true rfl, Nat.le_of_ble_eq_true rfl⟩) ⟨gS_blind, fun U hU hW => ⟨rfl, by rw [hU], by rw [hU]; exact hPc, va_K.moved hW.alike hKc, hDc.weaken (fun _ _ _ _ => trivial), hG.call hS hU hW hFc⟩⟩ rfl rfl hl.1 rfl (lv_room (Nat.le_of_ble_eq_true rfl)) dX15_addPart_49 ⟨Nat.le_of_ble_eq_true rfl, Nat.le_of_ble_eq_true rfl⟩) hP hD hS hK hFc rfl rfl (by decide) (by decide) (fun u13 H locs h14 hP hD hS hK => ?_)
        have hK : va_K D vwCl [(tc, .char)] s := hK
        have hP : va_P D vwCl [(m0, .inr (20, [.int 0, .ref m1, .ref m2, .ref m3, .ref m4, .int 0, .ref m5, .ref m6, .int tm])), (m1, .inr (4, [.int 0, .ref tE, .int 0])), (m2, .inr (4, [.int 0, .ref tE, .int 0])), (m3, .inr (4, [.int 0, .ref tE, .int 0])), (m4, .inr (4, [.int 0, .ref tE, .int 0])), (m5, .inl (tc, 4, .inl (upd (upd (upd (upd (fun _ => 0) 0 110) 1 110) 2 110) 3 110))), (q11, .inr (19, u13))] H := hP
        have hD : va_D A [(m0, .inr (20, [.int 0, .ref m1, .ref m2, .ref m3, .ref m4, .int 0, .ref m5, .ref m6, .int tm])), (m1, .inr (4, [.int 0, .ref tE, .int 0])), (m2, .inr (4, [.int 0, .ref tE, .int 0])), (m3, .inr (4, [.int 0, .ref tE, .int 0])), (m4, .inr (4, [.int 0, .ref tE, .int 0])), (m5, .inl (tc, 4, .inl (upd (upd (upd (upd (fun _ => 0) 0 110) 1 110) 2 110) 3 110))), (q11, .inr (19, u13))] := hD
        have hPc := hP.sub (ws' := [(m2, .inr (4, [.int 0, .ref tE, .int 0])), (q11, .inr (19, u13))]) [2, 6] rfl
        have hKc := hK.sub (tys' := []) [] rfl
        have hDc := hD.sub (ws' := [(m2, .inr (4, [.int 0, .ref tE, .int 0])), (q11, .inr (19, u13))]) [2, 6] (by decide) rfl
        have hFc := va_free (wc := [(m2, .inr (4, [.int 0, .ref tE, .int 0])), (q11, .inr (19, u13))]) hD hS hA [2, 6] rfl
        refine gJ_i (isC := [2, 6]) (isR := [0, 1, 3, 4, 5]) (wr := [(m0, .inr (20, [.int 0, .ref m1, .ref m2, .ref m3, .ref m4, .int 0, .ref m5, .ref m6, .int tm])), (m1, .inr (4, [.int 0, .ref tE, .int 0])), (m3, .inr (4, [.int 0, .ref tE, .int 0])), (m4, .inr (4, [.int 0, .ref tE, .int 0])), (m5, .inl (tc, 4, .inl (upd (upd (upd (upd (fun _ => 0) 0 110) 1 110) 2 110) 3 110)))]) (va_runV (As := [.ref q11]) (rest := []) ⟨hx, hb, hml, hown, hta⟩ (c_AL_add_X14_0 l ) (cwV 1 hta (gWV mw252 mw253 mw254 mw157 mw251) rfl rfl rfl (by decide +kernel) ⟨Nat.le_of_ble_eq_true rfl, Nat.le_of_ble_eq_true rfl⟩) ⟨gS_blind, va_recv hKc hPc (ci := 4) (q0 := 0) rfl rfl, fun U hU hW => ⟨rfl, by rw [hU], by rw [hU]; exact hPc, va_K.moved hW.alike hKc, hDc.weaken (fun _ _ _ _ => trivial), hG.call hS hU hW hFc⟩⟩ rfl rfl hl.1 rfl (lv_room (Nat.le_of_ble_eq_true rfl)) dX15_addPart_52 ⟨Nat.le_of_ble_eq_true rfl, Nat.le_of_ble_eq_true rfl⟩) hP hD hS hK hFc rfl rfl (by decide) (by decide) (fun r15 u16 H locs h17 hP hD hS hK => ?_)
        obtain rfl : r15 = 1 := h17
        obtain ⟨b18, t19⟩ := u16
        have hK : va_K D vwCl [(tc, .char), (t19, .object "java/lang/Object")] s := hK
        have hP : va_P D vwCl [(m0, .inr (20, [.int 0, .ref m1, .ref m2, .ref m3, .ref m4, .int 0, .ref m5, .ref m6, .int tm])), (m1, .inr (4, [.int 0, .ref tE, .int 0])), (m3, .inr (4, [.int 0, .ref tE, .int 0])), (m4, .inr (4, [.int 0, .ref tE, .int 0])), (m5, .inl (tc, 4, .inl (upd (upd (upd (upd (fun _ => 0) 0 110) 1 110) 2 110) 3 110))), (m2, .inr (4, [.int 1, .ref b18, .int 1])), (b18, .inl (t19, 10, .inr (.inr (.inr (.inr (va_up (fun _ => none) 0 (some q11))))))), (q11, .inr (19, u13))] H := hP
        have hD : va_D A [(m0, .inr (20, [.int 0, .ref m1, .ref m2, .ref m3, .ref m4, .int 0, .ref m5, .ref m6, .int tm])), (m1, .inr (4, [.int 0, .ref tE, .int 0])), (m3, .inr (4, [.int 0, .ref tE, .int 0])), (m4, .inr (4, [.int 0, .ref tE, .int 0])), (m5, .inl (tc, 4, .inl (upd (upd (upd (upd (fun _ => 0) 0 110) 1 110) 2 110) 3 110))), (m2, .inr (4, [.int 1, .ref b18, .int 1])), (b18, .inl (t19, 10, .inr (.inr (.inr (.inr (va_up (fun _ => none) 0 (some q11))))))), (q11, .inr (19, u13))] := hD
        refine lv_istore_n (lv' := [(3, .int 1), (0, .ref m0), (1, .int 1), (2, .int f)]) hx hb dX15_addPart_55 rfl hl (by decide) rfl (fun ls hl => ?_)
        refine lv_aload_n hx hb dX15_addPart_56 rfl (lv_at hl 1 rfl) ?_
        refine va_get (D := D) (ci := 20) (v := .ref m2) (C := RX15) (T := TX15) (N := 9) hx hb hta iwX15 hown hK hP 0 rfl rfl 2 (by decide) (hta _ mw168) (fun _ h9 => h9) rfl dX15_addPart_57 ?_
        have hPc := hP.sub (ws' := [(m2, .inr (4, [.int 1, .ref b18, .int 1]))]) [5] rfl
        have hKc := hK.sub (tys' := []) [] rfl
        refine vp_callSi (W.runV (As := []) (rest := []) ⟨hx, hb, hml, hown, hta⟩ (c_AL_size l ) (cwV 0 hta (gWV mw170 mw171 mw172 mw157 mw169) rfl rfl rfl (by decide +kernel) ⟨Nat.le_of_ble_eq_true rfl, Nat.le_of_ble_eq_true rfl⟩) ⟨gR_blind, va_recv hKc hPc (ci := 4) (q0 := 0) rfl rfl, fun U hU hW => ⟨rfl, by rw [hU]; exact hPc, va_K.moved hW.alike hKc⟩⟩ rfl rfl hl.1 rfl (lv_room (Nat.le_of_ble_eq_true rfl)) dX15_addPart_60 ⟨Nat.le_of_ble_eq_true rfl, Nat.le_of_ble_eq_true rfl⟩) (fun r20 h21 => ?_)
        obtain rfl : r20 = 1 := h21
        refine lv_iconst (v := 1) hx hb dX15_addPart_63 (by decide) ?_
        refine lv_isub hx hb dX15_addPart_64 ?_
        refine lv_topi (fun x22 ex22 => ?_)
        obtain rfl : x22 = 0 := ex22.trans (by decide)
        have hP9 := hP.sub (ws' := [(m0, .inr (20, [.int 0, .ref m1, .ref m2, .ref m3, .ref m4, .int 0, .ref m5, .ref m6, .int tm]))]) [0] rfl
        have hD9 := hD.sub (ws' := [(m0, .inr (20, [.int 0, .ref m1, .ref m2, .ref m3, .ref m4, .int 0, .ref m5, .ref m6, .int tm]))]) [0] (by decide) rfl
        have hK9 := hK.sub (tys' := []) [] rfl
        refine W.widen (k := 4) (n := 25) (Nat.le_of_ble_eq_true rfl) (Nat.le_of_ble_eq_true rfl) ?_
        exact W.iret (v := 0) hx hb hr (fun t ht hWm => ⟨⟨_, [.ref m1, .ref m2, .ref m3, .ref m4, .int 0, .ref m5, .ref m6, .int tm], rfl, rfl, ⟨by rw [ht]; exact hP9, va_K.moved hWm.alike hK9, hD9⟩⟩, hS.F ht⟩) hS.2.2 dX15_addPart_65
      · exact absurd (by decide) c10
    · exact absurd c6 (by decide)
  · exact absurd c3 (by decide)

set_option maxHeartbeats 4000000 in
set_option maxRecDepth 100000 in
theorem c_X15_addPart_f (l : Launch) {D : va_G} {tE sz : Nat} {m0 m1 m2 m3 m4 m5 m6 : Nat} {tc : ClassId} {th tm : Int32} {z f : Int32} (hf : inR f 0 3 = false) : Met l ⟨"FoundrymarkModel", "addPart", "(ZI)I"⟩ (wsC ⟨"FoundrymarkModel", "addPart", "(ZI)I"⟩ cX15_addPart 4 (some .int)) ({ frames := 1, cells := 0, slots := 0, locals := 22 }) (va_Pc [.ref m0, .int z, .int f] (gS tE D (wM tE m0 m1 m2 m3 m4 m5 m6 tc th tm) [(tc, .char)] sz)) (va_Qi (fun (r : Int32) (_ : Unit) => r = 0) (gO D (fun _ => (wM tE m0 m1 m2 m3 m4 m5 m6 tc 1 tm)) (fun _ => []) (va_A (wM tE m0 m1 m2 m3 m4 m5 m6 tc th tm) sz)) (va_A (wM tE m0 m1 m2 m3 m4 m5 m6 tc th tm) sz)) 0 0 (va_A (wM tE m0 m1 m2 m3 m4 m5 m6 tc th tm) sz) := by
  refine Met.ofW (cc := cX15_addPart) (maxL := 4) (ret := (some .int)) (by decide) rfl ?_
  intro p e s m args below meth c s₁ B hml hv
  obtain ⟨rfl, hsz, hP, hK, hD0, hG⟩ := hv
  have hx := B.exec
  have hb := B.bytes
  have hr := B.returns
  have hlocks := B.notSynchronized
  have hts := atoms_spec (ws := wsC ⟨"FoundrymarkModel", "addPart", "(ZI)I"⟩ cX15_addPart 4 (some .int)) B.pre
  have hta : ∀ w ∈ WA, w.before _ s = true := fun w h => hts w (List.mem_cons_of_mem _ h)
  have hown : s.vm.findClass "FoundrymarkModel" = some m.cls := findClass_of_methodNamed B.named
  subst hsz
  have hD : va_D (va_A (wM tE m0 m1 m2 m3 m4 m5 m6 tc th tm) s.heap.size) (wM tE m0 m1 m2 m3 m4 m5 m6 tc th tm) := hD0.self (sz := s.heap.size)
  generalize hAe : va_A (wM tE m0 m1 m2 m3 m4 m5 m6 tc th tm) s.heap.size = A at hD hG ⊢
  have hA : ∀ q : Nat, s.heap.size ≤ q → A q := fun q h => by rw [← hAe]; exact Or.inr h
  have hS : va_S A s.heap s.heap [] := va_S.rf
  have hP : va_P D vwCl (wM tE m0 m1 m2 m3 m4 m5 m6 tc th tm) s.heap := hP
  have hl := lv_entry ([.ref m0, .int z, .int f]) (n := 4) (Nat.le_of_ble_eq_true rfl)
  rw [lg_entry_eq]
  generalize (lg_sl ([.ref m0, .int z, .int f]) ++ List.replicate (4 - (lg_sl ([.ref m0, .int z, .int f])).length) Slot.unset).toArray = ls at hl ⊢
  have hl : lv_has ls 4 [(0, .ref m0), (1, .int z), (2, .int f)] := hl
  refine lv_aload_n hx hb dX15_addPart_0 rfl (lv_at hl 0 rfl) ?_
  refine lv_iload_n hx hb dX15_addPart_1 rfl (lv_at hl 2 rfl) ?_
  refine lv_iconst (v := 0) hx hb dX15_addPart_2 (by decide) ?_
  refine lv_iconst (v := 3) hx hb dX15_addPart_3 (by decide) ?_
  refine vp_callSi (W.runS (As := [.int f, .int 0, .int 3]) (rest := [.ref m0]) ⟨hx, hb, hml, hown, hta⟩ (c_X15_in l f 0 3) (va_cwS 3 hta (gWS mw174 mw175 mw176 mw173) rfl rfl rfl (by decide +kernel) ⟨Nat.le_of_ble_eq_true rfl, Nat.le_of_ble_eq_true rfl⟩) ⟨fun a U g mk q => ⟨q.1, trivial⟩, fun U hU hW => ⟨rfl, trivial⟩⟩ rfl rfl hl.1 rfl (lv_room (Nat.le_of_ble_eq_true rfl)) dX15_addPart_4 ⟨Nat.le_of_ble_eq_true rfl, Nat.le_of_ble_eq_true rfl⟩) (fun r1 h2 => ?_)
  obtain rfl : r1 = 0 := h2.trans (by rw [hf]; rfl)
  refine lv_if_ne (tgt := 14) hx hb dX15_addPart_7 (by decide) (fun c3 => ?_) (fun c3 => ?_)
  · exact absurd c3 (by decide)
  · skip
    refine lv_iconst (v := 1) hx hb dX15_addPart_10 (by decide) ?_
    refine lv_goto (tgt := 31) hx hb dX15_addPart_11 (by decide) ?_
    have hPc := hP.sub (ws' := (wM tE m0 m1 m2 m3 m4 m5 m6 tc th tm)) [0, 1, 2, 3, 4, 5] rfl
    have hKc := hK.sub (tys' := [(tc, .char)]) [0] rfl
    have hDc := hD.sub (ws' := (wM tE m0 m1 m2 m3 m4 m5 m6 tc th tm)) [0, 1, 2, 3, 4, 5] (by decide) rfl
    have hFc := va_free (wc := (wM tE m0 m1 m2 m3 m4 m5 m6 tc th tm)) hD hS hA [0, 1, 2, 3, 4, 5] rfl
    refine gJ_i (isC := [0, 1, 2, 3, 4, 5]) (isR := []) (wr := []) (va_runV (As := [.int 1]) (rest := []) ⟨hx, hb, hml, hown, hta⟩ (c_X15_fails_1 l ) (cwV 1 hta (gWV mw180 mw181 mw182 mw176 mw179) rfl rfl rfl (by decide +kernel) ⟨Nat.le_of_ble_eq_true rfl, Nat.le_of_ble_eq_true rfl⟩) ⟨gS_blind, va_recv hKc hPc (ci := 20) (q0 := 0) rfl rfl, fun U hU hW => ⟨rfl, by rw [hU], by rw [hU]; exact hPc, va_K.moved hW.alike hKc, hDc.weaken (fun _ _ _ _ => trivial), hG.call hS hU hW hFc⟩⟩ rfl rfl hl.1 rfl (lv_room (Nat.le_of_ble_eq_true rfl)) dX15_addPart_31 ⟨Nat.le_of_ble_eq_true rfl, Nat.le_of_ble_eq_true rfl⟩) hP hD hS hK hFc rfl rfl (by decide) (by decide) (fun r4 u5 H locs h6 hP hD hS hK => ?_)
    obtain rfl : r4 = 1 := h6
    have hK : va_K D vwCl [(tc, .char)] s := hK
    have hP : va_P D vwCl (wM tE m0 m1 m2 m3 m4 m5 m6 tc 1 tm) H := hP
    have hD : va_D A (wM tE m0 m1 m2 m3 m4 m5 m6 tc 1 tm) := hD
    refine lv_if_eq (tgt := 39) hx hb dX15_addPart_34 (by decide) (fun c7 => ?_) (fun c7 => ?_)
    · exact absurd c7 (by decide)
    · skip
      refine lv_iconst (v := 0) hx hb dX15_addPart_37 (by decide) ?_
      have hP9 := hP.sub (ws' := (wM tE m0 m1 m2 m3 m4 m5 m6 tc 1 tm)) [0, 1, 2, 3, 4, 5] rfl
      have hD9 := hD.sub (ws' := (wM tE m0 m1 m2 m3 m4 m5 m6 tc 1 tm)) [0, 1, 2, 3, 4, 5] (by decide) rfl
      have hK9 := hK.sub (tys' := []) [] rfl
      refine W.widen (k := 0) (n := 0) (Nat.le_of_ble_eq_true rfl) (Nat.le_of_ble_eq_true rfl) ?_
      exact W.iret (v := 0) hx hb hr (fun t ht hWm => ⟨⟨_, (), rfl, rfl, ⟨by rw [ht]; exact hP9, va_K.moved hWm.alike hK9, hD9⟩⟩, hS.F ht⟩) hS.2.2 dX15_addPart_38
