set_option maxHeartbeats 4000000 in
set_option maxRecDepth 100000 in
theorem c_X5_init (l : Launch) {D : va_G} {tE sz : Nat} {q : Nat}  : Met l ⟨"Foundrymark$NumberSet", "<init>", "()V"⟩ (wsC ⟨"Foundrymark$NumberSet", "<init>", "()V"⟩ cX5_init 1 none) ({ frames := 1, cells := 0, slots := 0, locals := 20 }) (va_Pc [.ref q] (gS tE D [(q, .inr (10, [.long 0, .long 0]))] [] sz)) (va_Qv (fun _ : Unit => True) (gO D (fun _ => [(q, .inr (10, [.long 0, .long 0]))]) (fun _ => []) (va_A [(q, .inr (10, [.long 0, .long 0]))] sz)) (va_A [(q, .inr (10, [.long 0, .long 0]))] sz)) 0 0 (va_A [(q, .inr (10, [.long 0, .long 0]))] sz) := by
  refine Met.ofW (cc := cX5_init) (maxL := 1) (ret := none) (by decide) rfl ?_
  intro p e s m args below meth c s₁ B hml hv
  obtain ⟨rfl, hsz, hP, hK, hD0, hG⟩ := hv
  have hx := B.exec
  have hb := B.bytes
  have hr := B.returns
  have hlocks := B.notSynchronized
  have hts := atoms_spec (ws := wsC ⟨"Foundrymark$NumberSet", "<init>", "()V"⟩ cX5_init 1 none) B.pre
  have hta : ∀ w ∈ WA, w.before _ s = true := fun w h => hts w (List.mem_cons_of_mem _ h)
  have hown : s.vm.findClass "Foundrymark$NumberSet" = some m.cls := findClass_of_methodNamed B.named
  have hin : meth.name = "<init>" := (name_of_methodNamed B.named B.method).1
  subst hsz
  have hD : va_D (va_A [(q, .inr (10, [.long 0, .long 0]))] s.heap.size) [(q, .inr (10, [.long 0, .long 0]))] := hD0.self (sz := s.heap.size)
  generalize hAe : va_A [(q, .inr (10, [.long 0, .long 0]))] s.heap.size = A at hD hG ⊢
  have hA : ∀ q : Nat, s.heap.size ≤ q → A q := fun q h => by rw [← hAe]; exact Or.inr h
  have hS : va_S A s.heap s.heap [] := va_S.rf
  have hP : va_P D vwCl [(q, .inr (10, [.long 0, .long 0]))] s.heap := hP
  have hl := lv_entry ([.ref q]) (n := 1) (Nat.le_of_ble_eq_true rfl)
  rw [lg_entry_eq]
  generalize (lg_sl ([.ref q]) ++ List.replicate (1 - (lg_sl ([.ref q])).length) Slot.unset).toArray = ls at hl ⊢
  have hl : lv_has ls 1 [(0, .ref q)] := hl
  refine lv_aload_n hx hb dX5_init_0 rfl (lv_at hl 0 rfl) ?_
  refine W.objInit hx hb hown (hta _ mw65) (hta _ mw66) (hta _ mw67) rfl (by rw [hml]; exact hl.1) rfl dX5_init_1 (Nat.le_of_ble_eq_true rfl) (Nat.le_of_ble_eq_true rfl) ?_
  refine W.eq (g2 := F0 m 4 ls []) rfl ?_
  have hP9 := hP.sub (ws' := [(q, .inr (10, [.long 0, .long 0]))]) [0] rfl
  have hD9 := hD.sub (ws' := [(q, .inr (10, [.long 0, .long 0]))]) [0] (by decide) rfl
  have hK9 := hK.sub (tys' := []) [] rfl
  refine W.widen (k := 0) (n := 0) (Nat.le_of_ble_eq_true rfl) (Nat.le_of_ble_eq_true rfl) ?_
  exact W.vret hx hb hr (fun t ht hWm => ⟨⟨(), rfl, trivial, ⟨by rw [ht]; exact hP9, va_K.moved hWm.alike hK9, hD9⟩⟩, hS.F ht⟩) hS.2.2 dX5_init_4

set_option maxHeartbeats 4000000 in
set_option maxRecDepth 100000 in
theorem c_X9_init (l : Launch) {D : va_G} {tE sz : Nat} {q : Nat}  : Met l ⟨"Foundrymark$Supplier", "<init>", "()V"⟩ (wsC ⟨"Foundrymark$Supplier", "<init>", "()V"⟩ cX9_init 1 none) ({ frames := 1, cells := 0, slots := 0, locals := 20 }) (va_Pc [.ref q] (gS tE D [(q, .inr (14, [.int 0, .int 0, .int 0]))] [] sz)) (va_Qv (fun _ : Unit => True) (gO D (fun _ => [(q, .inr (14, [.int 110, .int 0, .int 0]))]) (fun _ => []) (va_A [(q, .inr (14, [.int 0, .int 0, .int 0]))] sz)) (va_A [(q, .inr (14, [.int 0, .int 0, .int 0]))] sz)) 0 0 (va_A [(q, .inr (14, [.int 0, .int 0, .int 0]))] sz) := by
  refine Met.ofW (cc := cX9_init) (maxL := 1) (ret := none) (by decide) rfl ?_
  intro p e s m args below meth c s₁ B hml hv
  obtain ⟨rfl, hsz, hP, hK, hD0, hG⟩ := hv
  have hx := B.exec
  have hb := B.bytes
  have hr := B.returns
  have hlocks := B.notSynchronized
  have hts := atoms_spec (ws := wsC ⟨"Foundrymark$Supplier", "<init>", "()V"⟩ cX9_init 1 none) B.pre
  have hta : ∀ w ∈ WA, w.before _ s = true := fun w h => hts w (List.mem_cons_of_mem _ h)
  have hown : s.vm.findClass "Foundrymark$Supplier" = some m.cls := findClass_of_methodNamed B.named
  have hin : meth.name = "<init>" := (name_of_methodNamed B.named B.method).1
  subst hsz
  have hD : va_D (va_A [(q, .inr (14, [.int 0, .int 0, .int 0]))] s.heap.size) [(q, .inr (14, [.int 0, .int 0, .int 0]))] := hD0.self (sz := s.heap.size)
  generalize hAe : va_A [(q, .inr (14, [.int 0, .int 0, .int 0]))] s.heap.size = A at hD hG ⊢
  have hA : ∀ q : Nat, s.heap.size ≤ q → A q := fun q h => by rw [← hAe]; exact Or.inr h
  have hS : va_S A s.heap s.heap [] := va_S.rf
  have hP : va_P D vwCl [(q, .inr (14, [.int 0, .int 0, .int 0]))] s.heap := hP
  have hl := lv_entry ([.ref q]) (n := 1) (Nat.le_of_ble_eq_true rfl)
  rw [lg_entry_eq]
  generalize (lg_sl ([.ref q]) ++ List.replicate (1 - (lg_sl ([.ref q])).length) Slot.unset).toArray = ls at hl ⊢
  have hl : lv_has ls 1 [(0, .ref q)] := hl
  refine lv_aload_n hx hb dX9_init_0 rfl (lv_at hl 0 rfl) ?_
  refine W.objInit hx hb hown (hta _ mw68) (hta _ mw66) (hta _ mw67) rfl (by rw [hml]; exact hl.1) rfl dX9_init_1 (Nat.le_of_ble_eq_true rfl) (Nat.le_of_ble_eq_true rfl) ?_
  refine W.eq (g2 := F0 m 4 ls []) rfl ?_
  refine lv_aload_n hx hb dX9_init_4 rfl (lv_at hl 0 rfl) ?_
  refine lv_bipush (v := 110) hx hb dX9_init_5 (by decide) ?_
  refine va_put (D := D) (ci := 14) (v := .int 110) (ty := .char) (C := RX9) (T := TX9) (N := 3) hx hb hta iwX9 tyX9 tyX9_ok nmX9 hown hK hP hD hS 0 rfl rfl 0 (by decide) (hta _ mw69) (fun _ h9 => h9) rfl (by decide +kernel) (by decide) (by decide) (Nat.le_of_ble_eq_true rfl) dX9_init_7 (fun H locs hP hD hS => ?_)
  have hP : va_P D vwCl [(q, .inr (14, [.int 110, .int 0, .int 0]))] H := hP
  have hD : va_D A [(q, .inr (14, [.int 110, .int 0, .int 0]))] := hD
  have hP9 := hP.sub (ws' := [(q, .inr (14, [.int 110, .int 0, .int 0]))]) [0] rfl
  have hD9 := hD.sub (ws' := [(q, .inr (14, [.int 110, .int 0, .int 0]))]) [0] (by decide) rfl
  have hK9 := hK.sub (tys' := []) [] rfl
  refine W.widen (k := 0) (n := 0) (Nat.le_of_ble_eq_true rfl) (Nat.le_of_ble_eq_true rfl) ?_
  exact W.vret hx hb hr (fun t ht hWm => ⟨⟨(), rfl, trivial, ⟨by rw [ht]; exact hP9, va_K.moved hWm.alike hK9, hD9⟩⟩, hS.F ht⟩) hS.2.2 dX9_init_10

set_option maxHeartbeats 4000000 in
set_option maxRecDepth 100000 in
theorem c_X0_init (l : Launch) {D : va_G} {tE sz : Nat} {q : Nat}  : Met l ⟨"Foundrymark$Chart", "<init>", "()V"⟩ (wsC ⟨"Foundrymark$Chart", "<init>", "()V"⟩ cX0_init 1 none) ({ frames := 1, cells := 0, slots := 0, locals := 20 }) (va_Pc [.ref q] (gS tE D [(q, .inr (5, [.int 0, .int 0, .int 0, .int 0, .int 0]))] [] sz)) (va_Qv (fun _ : Unit => True) (gO D (fun _ => [(q, .inr (5, [.int 100, .int 10, .int 0, .int 0, .int 0]))]) (fun _ => []) (va_A [(q, .inr (5, [.int 0, .int 0, .int 0, .int 0, .int 0]))] sz)) (va_A [(q, .inr (5, [.int 0, .int 0, .int 0, .int 0, .int 0]))] sz)) 0 0 (va_A [(q, .inr (5, [.int 0, .int 0, .int 0, .int 0, .int 0]))] sz) := by
  refine Met.ofW (cc := cX0_init) (maxL := 1) (ret := none) (by decide) rfl ?_
  intro p e s m args below meth c s₁ B hml hv
  obtain ⟨rfl, hsz, hP, hK, hD0, hG⟩ := hv
  have hx := B.exec
  have hb := B.bytes
  have hr := B.returns
  have hlocks := B.notSynchronized
  have hts := atoms_spec (ws := wsC ⟨"Foundrymark$Chart", "<init>", "()V"⟩ cX0_init 1 none) B.pre
  have hta : ∀ w ∈ WA, w.before _ s = true := fun w h => hts w (List.mem_cons_of_mem _ h)
  have hown : s.vm.findClass "Foundrymark$Chart" = some m.cls := findClass_of_methodNamed B.named
  have hin : meth.name = "<init>" := (name_of_methodNamed B.named B.method).1
  subst hsz
  have hD : va_D (va_A [(q, .inr (5, [.int 0, .int 0, .int 0, .int 0, .int 0]))] s.heap.size) [(q, .inr (5, [.int 0, .int 0, .int 0, .int 0, .int 0]))] := hD0.self (sz := s.heap.size)
  generalize hAe : va_A [(q, .inr (5, [.int 0, .int 0, .int 0, .int 0, .int 0]))] s.heap.size = A at hD hG ⊢
  have hA : ∀ q : Nat, s.heap.size ≤ q → A q := fun q h => by rw [← hAe]; exact Or.inr h
  have hS : va_S A s.heap s.heap [] := va_S.rf
  have hP : va_P D vwCl [(q, .inr (5, [.int 0, .int 0, .int 0, .int 0, .int 0]))] s.heap := hP
  have hl := lv_entry ([.ref q]) (n := 1) (Nat.le_of_ble_eq_true rfl)
  rw [lg_entry_eq]
  generalize (lg_sl ([.ref q]) ++ List.replicate (1 - (lg_sl ([.ref q])).length) Slot.unset).toArray = ls at hl ⊢
  have hl : lv_has ls 1 [(0, .ref q)] := hl
  refine lv_aload_n hx hb dX0_init_0 rfl (lv_at hl 0 rfl) ?_
  refine W.objInit hx hb hown (hta _ mw70) (hta _ mw66) (hta _ mw67) rfl (by rw [hml]; exact hl.1) rfl dX0_init_1 (Nat.le_of_ble_eq_true rfl) (Nat.le_of_ble_eq_true rfl) ?_
  refine W.eq (g2 := F0 m 4 ls []) rfl ?_
  refine lv_aload_n hx hb dX0_init_4 rfl (lv_at hl 0 rfl) ?_
  refine lv_bipush (v := 100) hx hb dX0_init_5 (by decide) ?_
  refine va_put (D := D) (ci := 5) (v := .int 100) (ty := .int) (C := RX0) (T := TX0) (N := 5) hx hb hta iwX0 tyX0 tyX0_ok nmX0 hown hK hP hD hS 0 rfl rfl 0 (by decide) (hta _ mw71) (fun _ h9 => h9) rfl (by decide +kernel) rfl rfl (Nat.le_of_ble_eq_true rfl) dX0_init_7 (fun H locs hP hD hS => ?_)
  have hP : va_P D vwCl [(q, .inr (5, [.int 100, .int 0, .int 0, .int 0, .int 0]))] H := hP
  have hD : va_D A [(q, .inr (5, [.int 100, .int 0, .int 0, .int 0, .int 0]))] := hD
  refine lv_aload_n hx hb dX0_init_10 rfl (lv_at hl 0 rfl) ?_
  refine lv_bipush (v := 10) hx hb dX0_init_11 (by decide) ?_
  refine va_put (D := D) (ci := 5) (v := .int 10) (ty := .int) (C := RX0) (T := TX0) (N := 5) hx hb hta iwX0 tyX0 tyX0_ok nmX0 hown hK hP hD hS 0 rfl rfl 1 (by decide) (hta _ mw72) (fun _ h9 => h9) rfl (by decide +kernel) rfl rfl (Nat.le_of_ble_eq_true rfl) dX0_init_13 (fun H locs hP hD hS => ?_)
  have hP : va_P D vwCl [(q, .inr (5, [.int 100, .int 10, .int 0, .int 0, .int 0]))] H := hP
  have hD : va_D A [(q, .inr (5, [.int 100, .int 10, .int 0, .int 0, .int 0]))] := hD
  have hP9 := hP.sub (ws' := [(q, .inr (5, [.int 100, .int 10, .int 0, .int 0, .int 0]))]) [0] rfl
  have hD9 := hD.sub (ws' := [(q, .inr (5, [.int 100, .int 10, .int 0, .int 0, .int 0]))]) [0] (by decide) rfl
  have hK9 := hK.sub (tys' := []) [] rfl
  refine W.widen (k := 0) (n := 0) (Nat.le_of_ble_eq_true rfl) (Nat.le_of_ble_eq_true rfl) ?_
  exact W.vret hx hb hr (fun t ht hWm => ⟨⟨(), rfl, trivial, ⟨by rw [ht]; exact hP9, va_K.moved hWm.alike hK9, hD9⟩⟩, hS.F ht⟩) hS.2.2 dX0_init_16

set_option maxHeartbeats 4000000 in
set_option maxRecDepth 100000 in
theorem c_X4_init (l : Launch) {D : va_G} {tE sz : Nat} {q : Nat} {x1 x2 x3 x4 : Int32} : Met l ⟨"Foundrymark$Machine", "<init>", "(IIII)V"⟩ (wsC ⟨"Foundrymark$Machine", "<init>", "(IIII)V"⟩ cX4_init 5 none) ({ frames := 1, cells := 0, slots := 0, locals := 20 }) (va_Pc [.ref q, .int x1, .int x2, .int x3, .int x4] (gS tE D [(q, .inr (9, [.int 0, .int 0, .int 0, .int 0, .int 0, .int 0, .int 0, .int 0, .int 0, .int 0, .null]))] [] sz)) (va_Qv (fun _ : Unit => True) (gO D (fun _ => [(q, .inr (9, [.int x1, .int x2, .int x3, .int x4, .int 45, .int (-1), .int 0, .int 0, .int (-1), .int 0, .null]))]) (fun _ => []) (va_A [(q, .inr (9, [.int 0, .int 0, .int 0, .int 0, .int 0, .int 0, .int 0, .int 0, .int 0, .int 0, .null]))] sz)) (va_A [(q, .inr (9, [.int 0, .int 0, .int 0, .int 0, .int 0, .int 0, .int 0, .int 0, .int 0, .int 0, .null]))] sz)) 0 0 (va_A [(q, .inr (9, [.int 0, .int 0, .int 0, .int 0, .int 0, .int 0, .int 0, .int 0, .int 0, .int 0, .null]))] sz) := by
  refine Met.ofW (cc := cX4_init) (maxL := 5) (ret := none) (by decide) rfl ?_
  intro p e s m args below meth c s₁ B hml hv
  obtain ⟨rfl, hsz, hP, hK, hD0, hG⟩ := hv
  have hx := B.exec
  have hb := B.bytes
  have hr := B.returns
  have hlocks := B.notSynchronized
  have hts := atoms_spec (ws := wsC ⟨"Foundrymark$Machine", "<init>", "(IIII)V"⟩ cX4_init 5 none) B.pre
  have hta : ∀ w ∈ WA, w.before _ s = true := fun w h => hts w (List.mem_cons_of_mem _ h)
  have hown : s.vm.findClass "Foundrymark$Machine" = some m.cls := findClass_of_methodNamed B.named
  have hin : meth.name = "<init>" := (name_of_methodNamed B.named B.method).1
  subst hsz
  have hD : va_D (va_A [(q, .inr (9, [.int 0, .int 0, .int 0, .int 0, .int 0, .int 0, .int 0, .int 0, .int 0, .int 0, .null]))] s.heap.size) [(q, .inr (9, [.int 0, .int 0, .int 0, .int 0, .int 0, .int 0, .int 0, .int 0, .int 0, .int 0, .null]))] := hD0.self (sz := s.heap.size)
  generalize hAe : va_A [(q, .inr (9, [.int 0, .int 0, .int 0, .int 0, .int 0, .int 0, .int 0, .int 0, .int 0, .int 0, .null]))] s.heap.size = A at hD hG ⊢
  have hA : ∀ q : Nat, s.heap.size ≤ q → A q := fun q h => by rw [← hAe]; exact Or.inr h
  have hS : va_S A s.heap s.heap [] := va_S.rf
  have hP : va_P D vwCl [(q, .inr (9, [.int 0, .int 0, .int 0, .int 0, .int 0, .int 0, .int 0, .int 0, .int 0, .int 0, .null]))] s.heap := hP
  have hl := lv_entry ([.ref q, .int x1, .int x2, .int x3, .int x4]) (n := 5) (Nat.le_of_ble_eq_true rfl)
  rw [lg_entry_eq]
  generalize (lg_sl ([.ref q, .int x1, .int x2, .int x3, .int x4]) ++ List.replicate (5 - (lg_sl ([.ref q, .int x1, .int x2, .int x3, .int x4])).length) Slot.unset).toArray = ls at hl ⊢
  have hl : lv_has ls 5 [(0, .ref q), (1, .int x1), (2, .int x2), (3, .int x3), (4, .int x4)] := hl
  refine lv_aload_n hx hb dX4_init_0 rfl (lv_at hl 0 rfl) ?_
  refine W.objInit hx hb hown (hta _ mw73) (hta _ mw66) (hta _ mw67) rfl (by rw [hml]; exact hl.1) rfl dX4_init_1 (Nat.le_of_ble_eq_true rfl) (Nat.le_of_ble_eq_true rfl) ?_
  refine W.eq (g2 := F0 m 4 ls []) rfl ?_
  refine lv_aload_n hx hb dX4_init_4 rfl (lv_at hl 0 rfl) ?_
  refine lv_bipush (v := 45) hx hb dX4_init_5 (by decide) ?_
  refine va_put (D := D) (ci := 9) (v := .int 45) (ty := .char) (C := RX4) (T := TX4) (N := 11) hx hb hta iwX4 tyX4 tyX4_ok nmX4 hown hK hP hD hS 0 rfl rfl 4 (by decide) (hta _ mw74) (fun _ h9 => h9) rfl (by decide +kernel) (by decide) (by decide) (Nat.le_of_ble_eq_true rfl) dX4_init_7 (fun H locs hP hD hS => ?_)
  have hP : va_P D vwCl [(q, .inr (9, [.int 0, .int 0, .int 0, .int 0, .int 45, .int 0, .int 0, .int 0, .int 0, .int 0, .null]))] H := hP
  have hD : va_D A [(q, .inr (9, [.int 0, .int 0, .int 0, .int 0, .int 45, .int 0, .int 0, .int 0, .int 0, .int 0, .null]))] := hD
  refine lv_aload_n hx hb dX4_init_10 rfl (lv_at hl 0 rfl) ?_
  refine lv_iconst (v := -1) hx hb dX4_init_11 (by decide) ?_
  refine va_put (D := D) (ci := 9) (v := .int (-1)) (ty := .int) (C := RX4) (T := TX4) (N := 11) hx hb hta iwX4 tyX4 tyX4_ok nmX4 hown hK hP hD hS 0 rfl rfl 5 (by decide) (hta _ mw75) (fun _ h9 => h9) rfl (by decide +kernel) rfl rfl (Nat.le_of_ble_eq_true rfl) dX4_init_12 (fun H locs hP hD hS => ?_)
  have hP : va_P D vwCl [(q, .inr (9, [.int 0, .int 0, .int 0, .int 0, .int 45, .int (-1), .int 0, .int 0, .int 0, .int 0, .null]))] H := hP
  have hD : va_D A [(q, .inr (9, [.int 0, .int 0, .int 0, .int 0, .int 45, .int (-1), .int 0, .int 0, .int 0, .int 0, .null]))] := hD
  refine lv_aload_n hx hb dX4_init_15 rfl (lv_at hl 0 rfl) ?_
  refine lv_iconst (v := -1) hx hb dX4_init_16 (by decide) ?_
  refine va_put (D := D) (ci := 9) (v := .int (-1)) (ty := .int) (C := RX4) (T := TX4) (N := 11) hx hb hta iwX4 tyX4 tyX4_ok nmX4 hown hK hP hD hS 0 rfl rfl 8 (by decide) (hta _ mw76) (fun _ h9 => h9) rfl (by decide +kernel) rfl rfl (Nat.le_of_ble_eq_true rfl) dX4_init_17 (fun H locs hP hD hS => ?_)
  have hP : va_P D vwCl [(q, .inr (9, [.int 0, .int 0, .int 0, .int 0, .int 45, .int (-1), .int 0, .int 0, .int (-1), .int 0, .null]))] H := hP
  have hD : va_D A [(q, .inr (9, [.int 0, .int 0, .int 0, .int 0, .int 45, .int (-1), .int 0, .int 0, .int (-1), .int 0, .null]))] := hD
  refine lv_aload_n hx hb dX4_init_20 rfl (lv_at hl 0 rfl) ?_
  refine lv_iload_n hx hb dX4_init_21 rfl (lv_at hl 1 rfl) ?_
  refine va_putF (D := D) (ci := 9) (v := .int x1) (ty := .int) (C := RX4) (T := TX4) (N := 11) hx hb hta iwX4 tyX4 tyX4_ok nmX4 hown hK hP hD hS 0 rfl rfl 0 (by decide) (hta _ mw77) (fun _ h9 => h9) rfl hin rfl (by decide +kernel) rfl rfl (Nat.le_of_ble_eq_true rfl) dX4_init_22 (fun H locs hP hD hS => ?_)
  have hP : va_P D vwCl [(q, .inr (9, [.int x1, .int 0, .int 0, .int 0, .int 45, .int (-1), .int 0, .int 0, .int (-1), .int 0, .null]))] H := hP
  have hD : va_D A [(q, .inr (9, [.int x1, .int 0, .int 0, .int 0, .int 45, .int (-1), .int 0, .int 0, .int (-1), .int 0, .null]))] := hD
  refine lv_aload_n hx hb dX4_init_25 rfl (lv_at hl 0 rfl) ?_
  refine lv_iload_n hx hb dX4_init_26 rfl (lv_at hl 2 rfl) ?_
  refine va_putF (D := D) (ci := 9) (v := .int x2) (ty := .int) (C := RX4) (T := TX4) (N := 11) hx hb hta iwX4 tyX4 tyX4_ok nmX4 hown hK hP hD hS 0 rfl rfl 1 (by decide) (hta _ mw78) (fun _ h9 => h9) rfl hin rfl (by decide +kernel) rfl rfl (Nat.le_of_ble_eq_true rfl) dX4_init_27 (fun H locs hP hD hS => ?_)
  have hP : va_P D vwCl [(q, .inr (9, [.int x1, .int x2, .int 0, .int 0, .int 45, .int (-1), .int 0, .int 0, .int (-1), .int 0, .null]))] H := hP
  have hD : va_D A [(q, .inr (9, [.int x1, .int x2, .int 0, .int 0, .int 45, .int (-1), .int 0, .int 0, .int (-1), .int 0, .null]))] := hD
  refine lv_aload_n hx hb dX4_init_30 rfl (lv_at hl 0 rfl) ?_
  refine lv_iload_n hx hb dX4_init_31 rfl (lv_at hl 3 rfl) ?_
  refine va_putF (D := D) (ci := 9) (v := .int x3) (ty := .int) (C := RX4) (T := TX4) (N := 11) hx hb hta iwX4 tyX4 tyX4_ok nmX4 hown hK hP hD hS 0 rfl rfl 2 (by decide) (hta _ mw79) (fun _ h9 => h9) rfl hin rfl (by decide +kernel) rfl rfl (Nat.le_of_ble_eq_true rfl) dX4_init_32 (fun H locs hP hD hS => ?_)
  have hP : va_P D vwCl [(q, .inr (9, [.int x1, .int x2, .int x3, .int 0, .int 45, .int (-1), .int 0, .int 0, .int (-1), .int 0, .null]))] H := hP
  have hD : va_D A [(q, .inr (9, [.int x1, .int x2, .int x3, .int 0, .int 45, .int (-1), .int 0, .int 0, .int (-1), .int 0, .null]))] := hD
  refine lv_aload_n hx hb dX4_init_35 rfl (lv_at hl 0 rfl) ?_
  refine lv_iload hx hb dX4_init_36 (lv_at hl 4 rfl) ?_
  refine va_putF (D := D) (ci := 9) (v := .int x4) (ty := .int) (C := RX4) (T := TX4) (N := 11) hx hb hta iwX4 tyX4 tyX4_ok nmX4 hown hK hP hD hS 0 rfl rfl 3 (by decide) (hta _ mw80) (fun _ h9 => h9) rfl hin rfl (by decide +kernel) rfl rfl (Nat.le_of_ble_eq_true rfl) dX4_init_38 (fun H locs hP hD hS => ?_)
  have hP : va_P D vwCl [(q, .inr (9, [.int x1, .int x2, .int x3, .int x4, .int 45, .int (-1), .int 0, .int 0, .int (-1), .int 0, .null]))] H := hP
  have hD : va_D A [(q, .inr (9, [.int x1, .int x2, .int x3, .int x4, .int 45, .int (-1), .int 0, .int 0, .int (-1), .int 0, .null]))] := hD
  have hP9 := hP.sub (ws' := [(q, .inr (9, [.int x1, .int x2, .int x3, .int x4, .int 45, .int (-1), .int 0, .int 0, .int (-1), .int 0, .null]))]) [0] rfl
  have hD9 := hD.sub (ws' := [(q, .inr (9, [.int x1, .int x2, .int x3, .int x4, .int 45, .int (-1), .int 0, .int 0, .int (-1), .int 0, .null]))]) [0] (by decide) rfl
  have hK9 := hK.sub (tys' := []) [] rfl
  refine W.widen (k := 0) (n := 0) (Nat.le_of_ble_eq_true rfl) (Nat.le_of_ble_eq_true rfl) ?_
  exact W.vret hx hb hr (fun t ht hWm => ⟨⟨(), rfl, trivial, ⟨by rw [ht]; exact hP9, va_K.moved hWm.alike hK9, hD9⟩⟩, hS.F ht⟩) hS.2.2 dX4_init_41

set_option maxHeartbeats 4000000 in
set_option maxRecDepth 100000 in
theorem c_X8_init_0 (l : Launch) {D : va_G} {tE sz : Nat} {q : Nat} {n f : Int32} : Met l ⟨"Foundrymark$Part", "<init>", "(IZI)V"⟩ (wsC ⟨"Foundrymark$Part", "<init>", "(IZI)V"⟩ cX8_init 4 none) ({ frames := 2, cells := 3, slots := 12, locals := 40 }) (va_Pc [.ref q, .int n, .int 0, .int f] (gS tE D [(q, .inr (13, [.int 0, .int 0, .int 0, .null, .null, .null, .int 0, .int 0]))] [] sz)) (va_Qv (fun _ : List Value => True) (gO D (fun u => [(q, .inr (13, u))]) (fun _ => []) (va_A [(q, .inr (13, [.int 0, .int 0, .int 0, .null, .null, .null, .int 0, .int 0]))] sz)) (va_A [(q, .inr (13, [.int 0, .int 0, .int 0, .null, .null, .null, .int 0, .int 0]))] sz)) 3 12 (va_A [(q, .inr (13, [.int 0, .int 0, .int 0, .null, .null, .null, .int 0, .int 0]))] sz) := by
  refine Met.ofW (cc := cX8_init) (maxL := 4) (ret := none) (by decide) rfl ?_
  intro p e s m args below meth c s₁ B hml hv
  obtain ⟨rfl, hsz, hP, hK, hD0, hG⟩ := hv
  have hx := B.exec
  have hb := B.bytes
  have hr := B.returns
  have hlocks := B.notSynchronized
  have hts := atoms_spec (ws := wsC ⟨"Foundrymark$Part", "<init>", "(IZI)V"⟩ cX8_init 4 none) B.pre
  have hta : ∀ w ∈ WA, w.before _ s = true := fun w h => hts w (List.mem_cons_of_mem _ h)
  have hown : s.vm.findClass "Foundrymark$Part" = some m.cls := findClass_of_methodNamed B.named
  have hin : meth.name = "<init>" := (name_of_methodNamed B.named B.method).1
  subst hsz
  have hD : va_D (va_A [(q, .inr (13, [.int 0, .int 0, .int 0, .null, .null, .null, .int 0, .int 0]))] s.heap.size) [(q, .inr (13, [.int 0, .int 0, .int 0, .null, .null, .null, .int 0, .int 0]))] := hD0.self (sz := s.heap.size)
  generalize hAe : va_A [(q, .inr (13, [.int 0, .int 0, .int 0, .null, .null, .null, .int 0, .int 0]))] s.heap.size = A at hD hG ⊢
  have hA : ∀ q : Nat, s.heap.size ≤ q → A q := fun q h => by rw [← hAe]; exact Or.inr h
  have hS : va_S A s.heap s.heap [] := va_S.rf
  have hP : va_P D vwCl [(q, .inr (13, [.int 0, .int 0, .int 0, .null, .null, .null, .int 0, .int 0]))] s.heap := hP
  have hl := lv_entry ([.ref q, .int n, .int 0, .int f]) (n := 4) (Nat.le_of_ble_eq_true rfl)
  rw [lg_entry_eq]
  generalize (lg_sl ([.ref q, .int n, .int 0, .int f]) ++ List.replicate (4 - (lg_sl ([.ref q, .int n, .int 0, .int f])).length) Slot.unset).toArray = ls at hl ⊢
  have hl : lv_has ls 4 [(0, .ref q), (1, .int n), (2, .int 0), (3, .int f)] := hl
  refine lv_aload_n hx hb dX8_init_0 rfl (lv_at hl 0 rfl) ?_
  refine W.objInit hx hb hown (hta _ mw81) (hta _ mw66) (hta _ mw67) rfl (by rw [hml]; exact hl.1) rfl dX8_init_1 (Nat.le_of_ble_eq_true rfl) (Nat.le_of_ble_eq_true rfl) ?_
  refine W.eq (g2 := F0 m 4 ls []) rfl ?_
  refine lv_aload_n hx hb dX8_init_4 rfl (lv_at hl 0 rfl) ?_
  refine lv_iconst (v := 4) hx hb dX8_init_5 (by decide) ?_
  refine va_newq (N' := 4) (C := "Foundrymark$Component") hx hb hown (hta _ mw82) (hG.O "Foundrymark$Component" (by decide)) hK hP hD hS hA (by decide) (by decide) (by decide) (Nat.le_of_ble_eq_true rfl) (Nat.le_of_ble_eq_true rfl) dX8_init_6 (fun q1 t2 H hK hP hD hS => ?_)
  have hK : va_K D vwCl [(t2, .object "Foundrymark$Component")] s := hK
  have hP : va_P D vwCl [(q, .inr (13, [.int 0, .int 0, .int 0, .null, .null, .null, .int 0, .int 0])), (q1, .inl (t2, 4, .inr (.inr (.inr (.inr (fun _ => none))))))] H := hP
  have hD : va_D A [(q, .inr (13, [.int 0, .int 0, .int 0, .null, .null, .null, .int 0, .int 0])), (q1, .inl (t2, 4, .inr (.inr (.inr (.inr (fun _ => none))))))] := hD
  refine va_putF (D := D) (ci := 13) (v := .ref q1) (ty := .array (.object "Foundrymark$Component")) (C := RX8) (T := TX8) (N := 8) hx hb hta iwX8 tyX8 tyX8_ok nmX8 hown hK hP hD hS 0 rfl rfl 3 (by decide) (hta _ mw83) (fun _ h9 => h9) rfl hin rfl (by decide +kernel) rfl rfl (Nat.le_of_ble_eq_true rfl) dX8_init_9 (fun H locs hP hD hS => ?_)
  have hP : va_P D vwCl [(q, .inr (13, [.int 0, .int 0, .int 0, .ref q1, .null, .null, .int 0, .int 0])), (q1, .inl (t2, 4, .inr (.inr (.inr (.inr (fun _ => none))))))] H := hP
  have hD : va_D A [(q, .inr (13, [.int 0, .int 0, .int 0, .ref q1, .null, .null, .int 0, .int 0])), (q1, .inl (t2, 4, .inr (.inr (.inr (.inr (fun _ => none))))))] := hD
  refine lv_aload_n hx hb dX8_init_12 rfl (lv_at hl 0 rfl) ?_
  refine lv_iconst (v := 3) hx hb dX8_init_13 (by decide) ?_
  refine va_newq (N' := 3) (C := "Foundrymark$Operation") hx hb hown (hta _ mw84) (hG.O "Foundrymark$Operation" (by decide)) hK hP hD hS hA (by decide) (by decide) (by decide) (Nat.le_of_ble_eq_true rfl) (Nat.le_of_ble_eq_true rfl) dX8_init_14 (fun q3 t4 H hK hP hD hS => ?_)
  have hK : va_K D vwCl [(t2, .object "Foundrymark$Component"), (t4, .object "Foundrymark$Operation")] s := hK
  have hP : va_P D vwCl [(q, .inr (13, [.int 0, .int 0, .int 0, .ref q1, .null, .null, .int 0, .int 0])), (q1, .inl (t2, 4, .inr (.inr (.inr (.inr (fun _ => none)))))), (q3, .inl (t4, 3, .inr (.inr (.inr (.inr (fun _ => none))))))] H := hP
  have hD : va_D A [(q, .inr (13, [.int 0, .int 0, .int 0, .ref q1, .null, .null, .int 0, .int 0])), (q1, .inl (t2, 4, .inr (.inr (.inr (.inr (fun _ => none)))))), (q3, .inl (t4, 3, .inr (.inr (.inr (.inr (fun _ => none))))))] := hD
  refine va_putF (D := D) (ci := 13) (v := .ref q3) (ty := .array (.object "Foundrymark$Operation")) (C := RX8) (T := TX8) (N := 8) hx hb hta iwX8 tyX8 tyX8_ok nmX8 hown hK hP hD hS 0 rfl rfl 4 (by decide) (hta _ mw85) (fun _ h9 => h9) rfl hin rfl (by decide +kernel) rfl rfl (Nat.le_of_ble_eq_true rfl) dX8_init_17 (fun H locs hP hD hS => ?_)
  have hP : va_P D vwCl [(q, .inr (13, [.int 0, .int 0, .int 0, .ref q1, .ref q3, .null, .int 0, .int 0])), (q1, .inl (t2, 4, .inr (.inr (.inr (.inr (fun _ => none)))))), (q3, .inl (t4, 3, .inr (.inr (.inr (.inr (fun _ => none))))))] H := hP
  have hD : va_D A [(q, .inr (13, [.int 0, .int 0, .int 0, .ref q1, .ref q3, .null, .int 0, .int 0])), (q1, .inl (t2, 4, .inr (.inr (.inr (.inr (fun _ => none)))))), (q3, .inl (t4, 3, .inr (.inr (.inr (.inr (fun _ => none))))))] := hD
  refine lv_aload_n hx hb dX8_init_20 rfl (lv_at hl 0 rfl) ?_
  refine va_new (ci := 5) (fs := [.int 0, .int 0, .int 0, .int 0, .int 0]) (C := RX0) (T := TX0) (N := 5) hx hb hta iwX0 tyX0 tyX0_ok hown (hta _ mw86) (hta _ mw87) (hta _ mw88) hK hP hD hS hA rfl (fun j hj => by rcases (show j = 0 ∨ j = 1 ∨ j = 2 ∨ j = 3 ∨ j = 4 by omega) with rfl | rfl | rfl | rfl | rfl <;> rfl) (Nat.le_of_ble_eq_true rfl) (Nat.le_of_ble_eq_true rfl) dX8_init_21 (fun q5 H hP hD hS => ?_)
  have hP : va_P D vwCl [(q, .inr (13, [.int 0, .int 0, .int 0, .ref q1, .ref q3, .null, .int 0, .int 0])), (q1, .inl (t2, 4, .inr (.inr (.inr (.inr (fun _ => none)))))), (q3, .inl (t4, 3, .inr (.inr (.inr (.inr (fun _ => none)))))), (q5, .inr (5, [.int 0, .int 0, .int 0, .int 0, .int 0]))] H := hP
  have hD : va_D A [(q, .inr (13, [.int 0, .int 0, .int 0, .ref q1, .ref q3, .null, .int 0, .int 0])), (q1, .inl (t2, 4, .inr (.inr (.inr (.inr (fun _ => none)))))), (q3, .inl (t4, 3, .inr (.inr (.inr (.inr (fun _ => none)))))), (q5, .inr (5, [.int 0, .int 0, .int 0, .int 0, .int 0]))] := hD
  refine lv_dup hx hb dX8_init_24 rfl ?_
  have hPc := hP.sub (ws' := [(q5, .inr (5, [.int 0, .int 0, .int 0, .int 0, .int 0]))]) [3] rfl
  have hKc := hK.sub (tys' := []) [] rfl
  have hDc := hD.sub (ws' := [(q5, .inr (5, [.int 0, .int 0, .int 0, .int 0, .int 0]))]) [3] (by decide) rfl
  have hFc := va_free (wc := [(q5, .inr (5, [.int 0, .int 0, .int 0, .int 0, .int 0]))]) hD hS hA [3] rfl
  refine gJ_v (isC := [3]) (isR := [0, 1, 2]) (wr := [(q, .inr (13, [.int 0, .int 0, .int 0, .ref q1, .ref q3, .null, .int 0, .int 0])), (q1, .inl (t2, 4, .inr (.inr (.inr (.inr (fun _ => none)))))), (q3, .inl (t4, 3, .inr (.inr (.inr (.inr (fun _ => none))))))]) (va_runIN (As := []) (rest := [.ref q5, .ref q]) ⟨hx, hb, hml, hown, hta⟩ (c_X0_init l ) ⟨va_cnB 0 hta (gWI mw89) rfl rfl rfl (hG.M ("Foundrymark$Part", 25, ⟨"Foundrymark$Chart", "<init>", "()V"⟩) (by decide)) (hta _ mw88) (by decide +kernel) ⟨Nat.le_of_ble_eq_true rfl, Nat.le_of_ble_eq_true rfl⟩, rfl, (hta _ mw90)⟩ ⟨gS_blind, fun U hU hW => ⟨rfl, by rw [hU], by rw [hU]; exact hPc, va_K.moved hW.alike hKc, hDc.weaken (fun _ _ _ _ => trivial), hG.call hS hU hW hFc⟩⟩ rfl rfl hl.1 rfl (lv_room (Nat.le_of_ble_eq_true rfl)) dX8_init_25 ⟨Nat.le_of_ble_eq_true rfl, Nat.le_of_ble_eq_true rfl⟩) hP hD hS hK hFc rfl rfl (by decide) (by decide) (fun u7 H locs h8 hP hD hS hK => ?_)
  have hK : va_K D vwCl [(t2, .object "Foundrymark$Component"), (t4, .object "Foundrymark$Operation")] s := hK
  have hP : va_P D vwCl [(q, .inr (13, [.int 0, .int 0, .int 0, .ref q1, .ref q3, .null, .int 0, .int 0])), (q1, .inl (t2, 4, .inr (.inr (.inr (.inr (fun _ => none)))))), (q3, .inl (t4, 3, .inr (.inr (.inr (.inr (fun _ => none)))))), (q5, .inr (5, [.int 100, .int 10, .int 0, .int 0, .int 0]))] H := hP
  have hD : va_D A [(q, .inr (13, [.int 0, .int 0, .int 0, .ref q1, .ref q3, .null, .int 0, .int 0])), (q1, .inl (t2, 4, .inr (.inr (.inr (.inr (fun _ => none)))))), (q3, .inl (t4, 3, .inr (.inr (.inr (.inr (fun _ => none)))))), (q5, .inr (5, [.int 100, .int 10, .int 0, .int 0, .int 0]))] := hD
  refine va_putF (D := D) (ci := 13) (v := .ref q5) (ty := .object "Foundrymark$Chart") (C := RX8) (T := TX8) (N := 8) hx hb hta iwX8 tyX8 tyX8_ok nmX8 hown hK hP hD hS 0 rfl rfl 5 (by decide) (hta _ mw91) (fun _ h9 => h9) rfl hin rfl (by decide +kernel) rfl rfl (Nat.le_of_ble_eq_true rfl) dX8_init_28 (fun H locs hP hD hS => ?_)
  have hP : va_P D vwCl [(q, .inr (13, [.int 0, .int 0, .int 0, .ref q1, .ref q3, .ref q5, .int 0, .int 0])), (q1, .inl (t2, 4, .inr (.inr (.inr (.inr (fun _ => none)))))), (q3, .inl (t4, 3, .inr (.inr (.inr (.inr (fun _ => none)))))), (q5, .inr (5, [.int 100, .int 10, .int 0, .int 0, .int 0]))] H := hP
  have hD : va_D A [(q, .inr (13, [.int 0, .int 0, .int 0, .ref q1, .ref q3, .ref q5, .int 0, .int 0])), (q1, .inl (t2, 4, .inr (.inr (.inr (.inr (fun _ => none)))))), (q3, .inl (t4, 3, .inr (.inr (.inr (.inr (fun _ => none)))))), (q5, .inr (5, [.int 100, .int 10, .int 0, .int 0, .int 0]))] := hD
  refine lv_aload_n hx hb dX8_init_31 rfl (lv_at hl 0 rfl) ?_
  refine lv_iload_n hx hb dX8_init_32 rfl (lv_at hl 1 rfl) ?_
  refine va_putF (D := D) (ci := 13) (v := .int n) (ty := .int) (C := RX8) (T := TX8) (N := 8) hx hb hta iwX8 tyX8 tyX8_ok nmX8 hown hK hP hD hS 0 rfl rfl 0 (by decide) (hta _ mw92) (fun _ h9 => h9) rfl hin rfl (by decide +kernel) rfl rfl (Nat.le_of_ble_eq_true rfl) dX8_init_33 (fun H locs hP hD hS => ?_)
  have hP : va_P D vwCl [(q, .inr (13, [.int n, .int 0, .int 0, .ref q1, .ref q3, .ref q5, .int 0, .int 0])), (q1, .inl (t2, 4, .inr (.inr (.inr (.inr (fun _ => none)))))), (q3, .inl (t4, 3, .inr (.inr (.inr (.inr (fun _ => none)))))), (q5, .inr (5, [.int 100, .int 10, .int 0, .int 0, .int 0]))] H := hP
  have hD : va_D A [(q, .inr (13, [.int n, .int 0, .int 0, .ref q1, .ref q3, .ref q5, .int 0, .int 0])), (q1, .inl (t2, 4, .inr (.inr (.inr (.inr (fun _ => none)))))), (q3, .inl (t4, 3, .inr (.inr (.inr (.inr (fun _ => none)))))), (q5, .inr (5, [.int 100, .int 10, .int 0, .int 0, .int 0]))] := hD
  refine lv_aload_n hx hb dX8_init_36 rfl (lv_at hl 0 rfl) ?_
  refine lv_iload_n hx hb dX8_init_37 rfl (lv_at hl 2 rfl) ?_
  refine va_putF (D := D) (ci := 13) (v := .int 0) (ty := .boolean) (C := RX8) (T := TX8) (N := 8) hx hb hta iwX8 tyX8 tyX8_ok nmX8 hown hK hP hD hS 0 rfl rfl 1 (by decide) (hta _ mw93) (fun _ h9 => h9) rfl hin rfl (by decide +kernel) (by decide) (by decide) (Nat.le_of_ble_eq_true rfl) dX8_init_38 (fun H locs hP hD hS => ?_)
  have hP : va_P D vwCl [(q, .inr (13, [.int n, .int 0, .int 0, .ref q1, .ref q3, .ref q5, .int 0, .int 0])), (q1, .inl (t2, 4, .inr (.inr (.inr (.inr (fun _ => none)))))), (q3, .inl (t4, 3, .inr (.inr (.inr (.inr (fun _ => none)))))), (q5, .inr (5, [.int 100, .int 10, .int 0, .int 0, .int 0]))] H := hP
  have hD : va_D A [(q, .inr (13, [.int n, .int 0, .int 0, .ref q1, .ref q3, .ref q5, .int 0, .int 0])), (q1, .inl (t2, 4, .inr (.inr (.inr (.inr (fun _ => none)))))), (q3, .inl (t4, 3, .inr (.inr (.inr (.inr (fun _ => none)))))), (q5, .inr (5, [.int 100, .int 10, .int 0, .int 0, .int 0]))] := hD
  refine lv_aload_n hx hb dX8_init_41 rfl (lv_at hl 0 rfl) ?_
  refine lv_iload_n hx hb dX8_init_42 rfl (lv_at hl 3 rfl) ?_
  refine va_putF (D := D) (ci := 13) (v := .int f) (ty := .int) (C := RX8) (T := TX8) (N := 8) hx hb hta iwX8 tyX8 tyX8_ok nmX8 hown hK hP hD hS 0 rfl rfl 2 (by decide) (hta _ mw94) (fun _ h9 => h9) rfl hin rfl (by decide +kernel) rfl rfl (Nat.le_of_ble_eq_true rfl) dX8_init_43 (fun H locs hP hD hS => ?_)
  have hP : va_P D vwCl [(q, .inr (13, [.int n, .int 0, .int f, .ref q1, .ref q3, .ref q5, .int 0, .int 0])), (q1, .inl (t2, 4, .inr (.inr (.inr (.inr (fun _ => none)))))), (q3, .inl (t4, 3, .inr (.inr (.inr (.inr (fun _ => none)))))), (q5, .inr (5, [.int 100, .int 10, .int 0, .int 0, .int 0]))] H := hP
  have hD : va_D A [(q, .inr (13, [.int n, .int 0, .int f, .ref q1, .ref q3, .ref q5, .int 0, .int 0])), (q1, .inl (t2, 4, .inr (.inr (.inr (.inr (fun _ => none)))))), (q3, .inl (t4, 3, .inr (.inr (.inr (.inr (fun _ => none)))))), (q5, .inr (5, [.int 100, .int 10, .int 0, .int 0, .int 0]))] := hD
  have hP9 := hP.sub (ws' := [(q, .inr (13, [.int n, .int 0, .int f, .ref q1, .ref q3, .ref q5, .int 0, .int 0]))]) [0] rfl
  have hD9 := hD.sub (ws' := [(q, .inr (13, [.int n, .int 0, .int f, .ref q1, .ref q3, .ref q5, .int 0, .int 0]))]) [0] (by decide) rfl
  have hK9 := hK.sub (tys' := []) [] rfl
  refine W.widen (k := 3) (n := 12) (Nat.le_of_ble_eq_true rfl) (Nat.le_of_ble_eq_true rfl) ?_
  exact W.vret hx hb hr (fun t ht hWm => ⟨⟨[.int n, .int 0, .int f, .ref q1, .ref q3, .ref q5, .int 0, .int 0], rfl, trivial, ⟨by rw [ht]; exact hP9, va_K.moved hWm.alike hK9, hD9⟩⟩, hS.F ht⟩) hS.2.2 dX8_init_46

set_option maxHeartbeats 4000000 in
set_option maxRecDepth 100000 in
theorem c_X8_init_1 (l : Launch) {D : va_G} {tE sz : Nat} {q : Nat} {n f : Int32} : Met l ⟨"Foundrymark$Part", "<init>", "(IZI)V"⟩ (wsC ⟨"Foundrymark$Part", "<init>", "(IZI)V"⟩ cX8_init 4 none) ({ frames := 2, cells := 3, slots := 12, locals := 40 }) (va_Pc [.ref q, .int n, .int 1, .int f] (gS tE D [(q, .inr (13, [.int 0, .int 0, .int 0, .null, .null, .null, .int 0, .int 0]))] [] sz)) (va_Qv (fun _ : List Value => True) (gO D (fun u => [(q, .inr (13, u))]) (fun _ => []) (va_A [(q, .inr (13, [.int 0, .int 0, .int 0, .null, .null, .null, .int 0, .int 0]))] sz)) (va_A [(q, .inr (13, [.int 0, .int 0, .int 0, .null, .null, .null, .int 0, .int 0]))] sz)) 3 12 (va_A [(q, .inr (13, [.int 0, .int 0, .int 0, .null, .null, .null, .int 0, .int 0]))] sz) := by
  refine Met.ofW (cc := cX8_init) (maxL := 4) (ret := none) (by decide) rfl ?_
  intro p e s m args below meth c s₁ B hml hv
  obtain ⟨rfl, hsz, hP, hK, hD0, hG⟩ := hv
  have hx := B.exec
  have hb := B.bytes
  have hr := B.returns
  have hlocks := B.notSynchronized
  have hts := atoms_spec (ws := wsC ⟨"Foundrymark$Part", "<init>", "(IZI)V"⟩ cX8_init 4 none) B.pre
  have hta : ∀ w ∈ WA, w.before _ s = true := fun w h => hts w (List.mem_cons_of_mem _ h)
  have hown : s.vm.findClass "Foundrymark$Part" = some m.cls := findClass_of_methodNamed B.named
  have hin : meth.name = "<init>" := (name_of_methodNamed B.named B.method).1
  subst hsz
  have hD : va_D (va_A [(q, .inr (13, [.int 0, .int 0, .int 0, .null, .null, .null, .int 0, .int 0]))] s.heap.size) [(q, .inr (13, [.int 0, .int 0, .int 0, .null, .null, .null, .int 0, .int 0]))] := hD0.self (sz := s.heap.size)
  generalize hAe : va_A [(q, .inr (13, [.int 0, .int 0, .int 0, .null, .null, .null, .int 0, .int 0]))] s.heap.size = A at hD hG ⊢
  have hA : ∀ q : Nat, s.heap.size ≤ q → A q := fun q h => by rw [← hAe]; exact Or.inr h
  have hS : va_S A s.heap s.heap [] := va_S.rf
  have hP : va_P D vwCl [(q, .inr (13, [.int 0, .int 0, .int 0, .null, .null, .null, .int 0, .int 0]))] s.heap := hP
  have hl := lv_entry ([.ref q, .int n, .int 1, .int f]) (n := 4) (Nat.le_of_ble_eq_true rfl)
  rw [lg_entry_eq]
  generalize (lg_sl ([.ref q, .int n, .int 1, .int f]) ++ List.replicate (4 - (lg_sl ([.ref q, .int n, .int 1, .int f])).length) Slot.unset).toArray = ls at hl ⊢
  have hl : lv_has ls 4 [(0, .ref q), (1, .int n), (2, .int 1), (3, .int f)] := hl
  refine lv_aload_n hx hb dX8_init_0 rfl (lv_at hl 0 rfl) ?_
  refine W.objInit hx hb hown (hta _ mw81) (hta _ mw66) (hta _ mw67) rfl (by rw [hml]; exact hl.1) rfl dX8_init_1 (Nat.le_of_ble_eq_true rfl) (Nat.le_of_ble_eq_true rfl) ?_
  refine W.eq (g2 := F0 m 4 ls []) rfl ?_
  refine lv_aload_n hx hb dX8_init_4 rfl (lv_at hl 0 rfl) ?_
  refine lv_iconst (v := 4) hx hb dX8_init_5 (by decide) ?_
  refine va_newq (N' := 4) (C := "Foundrymark$Component") hx hb hown (hta _ mw82) (hG.O "Foundrymark$Component" (by decide)) hK hP hD hS hA (by decide) (by decide) (by decide) (Nat.le_of_ble_eq_true rfl) (Nat.le_of_ble_eq_true rfl) dX8_init_6 (fun q1 t2 H hK hP hD hS => ?_)
  have hK : va_K D vwCl [(t2, .object "Foundrymark$Component")] s := hK
  have hP : va_P D vwCl [(q, .inr (13, [.int 0, .int 0, .int 0, .null, .null, .null, .int 0, .int 0])), (q1, .inl (t2, 4, .inr (.inr (.inr (.inr (fun _ => none))))))] H := hP
  have hD : va_D A [(q, .inr (13, [.int 0, .int 0, .int 0, .null, .null, .null, .int 0, .int 0])), (q1, .inl (t2, 4, .inr (.inr (.inr (.inr (fun _ => none))))))] := hD
  refine va_putF (D := D) (ci := 13) (v := .ref q1) (ty := .array (.object "Foundrymark$Component")) (C := RX8) (T := TX8) (N := 8) hx hb hta iwX8 tyX8 tyX8_ok nmX8 hown hK hP hD hS 0 rfl rfl 3 (by decide) (hta _ mw83) (fun _ h9 => h9) rfl hin rfl (by decide +kernel) rfl rfl (Nat.le_of_ble_eq_true rfl) dX8_init_9 (fun H locs hP hD hS => ?_)
  have hP : va_P D vwCl [(q, .inr (13, [.int 0, .int 0, .int 0, .ref q1, .null, .null, .int 0, .int 0])), (q1, .inl (t2, 4, .inr (.inr (.inr (.inr (fun _ => none))))))] H := hP
  have hD : va_D A [(q, .inr (13, [.int 0, .int 0, .int 0, .ref q1, .null, .null, .int 0, .int 0])), (q1, .inl (t2, 4, .inr (.inr (.inr (.inr (fun _ => none))))))] := hD
  refine lv_aload_n hx hb dX8_init_12 rfl (lv_at hl 0 rfl) ?_
  refine lv_iconst (v := 3) hx hb dX8_init_13 (by decide) ?_
  refine va_newq (N' := 3) (C := "Foundrymark$Operation") hx hb hown (hta _ mw84) (hG.O "Foundrymark$Operation" (by decide)) hK hP hD hS hA (by decide) (by decide) (by decide) (Nat.le_of_ble_eq_true rfl) (Nat.le_of_ble_eq_true rfl) dX8_init_14 (fun q3 t4 H hK hP hD hS => ?_)
  have hK : va_K D vwCl [(t2, .object "Foundrymark$Component"), (t4, .object "Foundrymark$Operation")] s := hK
  have hP : va_P D vwCl [(q, .inr (13, [.int 0, .int 0, .int 0, .ref q1, .null, .null, .int 0, .int 0])), (q1, .inl (t2, 4, .inr (.inr (.inr (.inr (fun _ => none)))))), (q3, .inl (t4, 3, .inr (.inr (.inr (.inr (fun _ => none))))))] H := hP
  have hD : va_D A [(q, .inr (13, [.int 0, .int 0, .int 0, .ref q1, .null, .null, .int 0, .int 0])), (q1, .inl (t2, 4, .inr (.inr (.inr (.inr (fun _ => none)))))), (q3, .inl (t4, 3, .inr (.inr (.inr (.inr (fun _ => none))))))] := hD
  refine va_putF (D := D) (ci := 13) (v := .ref q3) (ty := .array (.object "Foundrymark$Operation")) (C := RX8) (T := TX8) (N := 8) hx hb hta iwX8 tyX8 tyX8_ok nmX8 hown hK hP hD hS 0 rfl rfl 4 (by decide) (hta _ mw85) (fun _ h9 => h9) rfl hin rfl (by decide +kernel) rfl rfl (Nat.le_of_ble_eq_true rfl) dX8_init_17 (fun H locs hP hD hS => ?_)
  have hP : va_P D vwCl [(q, .inr (13, [.int 0, .int 0, .int 0, .ref q1, .ref q3, .null, .int 0, .int 0])), (q1, .inl (t2, 4, .inr (.inr (.inr (.inr (fun _ => none)))))), (q3, .inl (t4, 3, .inr (.inr (.inr (.inr (fun _ => none))))))] H := hP
  have hD : va_D A [(q, .inr (13, [.int 0, .int 0, .int 0, .ref q1, .ref q3, .null, .int 0, .int 0])), (q1, .inl (t2, 4, .inr (.inr (.inr (.inr (fun _ => none)))))), (q3, .inl (t4, 3, .inr (.inr (.inr (.inr (fun _ => none))))))] := hD
  refine lv_aload_n hx hb dX8_init_20 rfl (lv_at hl 0 rfl) ?_
  refine va_new (ci := 5) (fs := [.int 0, .int 0, .int 0, .int 0, .int 0]) (C := RX0) (T := TX0) (N := 5) hx hb hta iwX0 tyX0 tyX0_ok hown (hta _ mw86) (hta _ mw87) (hta _ mw88) hK hP hD hS hA rfl (fun j hj => by rcases (show j = 0 ∨ j = 1 ∨ j = 2 ∨ j = 3 ∨ j = 4 by omega) with rfl | rfl | rfl | rfl | rfl <;> rfl) (Nat.le_of_ble_eq_true rfl) (Nat.le_of_ble_eq_true rfl) dX8_init_21 (fun q5 H hP hD hS => ?_)
  have hP : va_P D vwCl [(q, .inr (13, [.int 0, .int 0, .int 0, .ref q1, .ref q3, .null, .int 0, .int 0])), (q1, .inl (t2, 4, .inr (.inr (.inr (.inr (fun _ => none)))))), (q3, .inl (t4, 3, .inr (.inr (.inr (.inr (fun _ => none)))))), (q5, .inr (5, [.int 0, .int 0, .int 0, .int 0, .int 0]))] H := hP
  have hD : va_D A [(q, .inr (13, [.int 0, .int 0, .int 0, .ref q1, .ref q3, .null, .int 0, .int 0])), (q1, .inl (t2, 4, .inr (.inr (.inr (.inr (fun _ => none)))))), (q3, .inl (t4, 3, .inr (.inr (.inr (.inr (fun _ => none)))))), (q5, .inr (5, [.int 0, .int 0, .int 0, .int 0, .int 0]))] := hD
  refine lv_dup hx hb dX8_init_24 rfl ?_
  have hPc := hP.sub (ws' := [(q5, .inr (5, [.int 0, .int 0, .int 0, .int 0, .int 0]))]) [3] rfl
  have hKc := hK.sub (tys' := []) [] rfl
  have hDc := hD.sub (ws' := [(q5, .inr (5, [.int 0, .int 0, .int 0, .int 0, .int 0]))]) [3] (by decide) rfl
  have hFc := va_free (wc := [(q5, .inr (5, [.int 0, .int 0, .int 0, .int 0, .int 0]))]) hD hS hA [3] rfl
  refine gJ_v (isC := [3]) (isR := [0, 1, 2]) (wr := [(q, .inr (13, [.int 0, .int 0, .int 0, .ref q1, .ref q3, .null, .int 0, .int 0])), (q1, .inl (t2, 4, .inr (.inr (.inr (.inr (fun _ => none)))))), (q3, .inl (t4, 3, .inr (.inr (.inr (.inr (fun _ => none))))))]) (va_runIN (As := []) (rest := [.ref q5, .ref q]) ⟨hx, hb, hml, hown, hta⟩ (c_X0_init l ) ⟨va_cnB 0 hta (gWI mw89) rfl rfl rfl (hG.M ("Foundrymark$Part", 25, ⟨"Foundrymark$Chart", "<init>", "()V"⟩) (by decide)) (hta _ mw88) (by decide +kernel) ⟨Nat.le_of_ble_eq_true rfl, Nat.le_of_ble_eq_true rfl⟩, rfl, (hta _ mw90)⟩ ⟨gS_blind, fun U hU hW => ⟨rfl, by rw [hU], by rw [hU]; exact hPc, va_K.moved hW.alike hKc, hDc.weaken (fun _ _ _ _ => trivial), hG.call hS hU hW hFc⟩⟩ rfl rfl hl.1 rfl (lv_room (Nat.le_of_ble_eq_true rfl)) dX8_init_25 ⟨Nat.le_of_ble_eq_true rfl, Nat.le_of_ble_eq_true rfl⟩) hP hD hS hK hFc rfl rfl (by decide) (by decide) (fun u7 H locs h8 hP hD hS hK => ?_)
  have hK : va_K D vwCl [(t2, .object "Foundrymark$Component"), (t4, .object "Foundrymark$Operation")] s := hK
  have hP : va_P D vwCl [(q, .inr (13, [.int 0, .int 0, .int 0, .ref q1, .ref q3, .null, .int 0, .int 0])), (q1, .inl (t2, 4, .inr (.inr (.inr (.inr (fun _ => none)))))), (q3, .inl (t4, 3, .inr (.inr (.inr (.inr (fun _ => none)))))), (q5, .inr (5, [.int 100, .int 10, .int 0, .int 0, .int 0]))] H := hP
  have hD : va_D A [(q, .inr (13, [.int 0, .int 0, .int 0, .ref q1, .ref q3, .null, .int 0, .int 0])), (q1, .inl (t2, 4, .inr (.inr (.inr (.inr (fun _ => none)))))), (q3, .inl (t4, 3, .inr (.inr (.inr (.inr (fun _ => none)))))), (q5, .inr (5, [.int 100, .int 10, .int 0, .int 0, .int 0]))] := hD
  refine va_putF (D := D) (ci := 13) (v := .ref q5) (ty := .object "Foundrymark$Chart") (C := RX8) (T := TX8) (N := 8) hx hb hta iwX8 tyX8 tyX8_ok nmX8 hown hK hP hD hS 0 rfl rfl 5 (by decide) (hta _ mw91) (fun _ h9 => h9) rfl hin rfl (by decide +kernel) rfl rfl (Nat.le_of_ble_eq_true rfl) dX8_init_28 (fun H locs hP hD hS => ?_)
  have hP : va_P D vwCl [(q, .inr (13, [.int 0, .int 0, .int 0, .ref q1, .ref q3, .ref q5, .int 0, .int 0])), (q1, .inl (t2, 4, .inr (.inr (.inr (.inr (fun _ => none)))))), (q3, .inl (t4, 3, .inr (.inr (.inr (.inr (fun _ => none)))))), (q5, .inr (5, [.int 100, .int 10, .int 0, .int 0, .int 0]))] H := hP
  have hD : va_D A [(q, .inr (13, [.int 0, .int 0, .int 0, .ref q1, .ref q3, .ref q5, .int 0, .int 0])), (q1, .inl (t2, 4, .inr (.inr (.inr (.inr (fun _ => none)))))), (q3, .inl (t4, 3, .inr (.inr (.inr (.inr (fun _ => none)))))), (q5, .inr (5, [.int 100, .int 10, .int 0, .int 0, .int 0]))] := hD
  refine lv_aload_n hx hb dX8_init_31 rfl (lv_at hl 0 rfl) ?_
  refine lv_iload_n hx hb dX8_init_32 rfl (lv_at hl 1 rfl) ?_
  refine va_putF (D := D) (ci := 13) (v := .int n) (ty := .int) (C := RX8) (T := TX8) (N := 8) hx hb hta iwX8 tyX8 tyX8_ok nmX8 hown hK hP hD hS 0 rfl rfl 0 (by decide) (hta _ mw92) (fun _ h9 => h9) rfl hin rfl (by decide +kernel) rfl rfl (Nat.le_of_ble_eq_true rfl) dX8_init_33 (fun H locs hP hD hS => ?_)
  have hP : va_P D vwCl [(q, .inr (13, [.int n, .int 0, .int 0, .ref q1, .ref q3, .ref q5, .int 0, .int 0])), (q1, .inl (t2, 4, .inr (.inr (.inr (.inr (fun _ => none)))))), (q3, .inl (t4, 3, .inr (.inr (.inr (.inr (fun _ => none)))))), (q5, .inr (5, [.int 100, .int 10, .int 0, .int 0, .int 0]))] H := hP
  have hD : va_D A [(q, .inr (13, [.int n, .int 0, .int 0, .ref q1, .ref q3, .ref q5, .int 0, .int 0])), (q1, .inl (t2, 4, .inr (.inr (.inr (.inr (fun _ => none)))))), (q3, .inl (t4, 3, .inr (.inr (.inr (.inr (fun _ => none)))))), (q5, .inr (5, [.int 100, .int 10, .int 0, .int 0, .int 0]))] := hD
  refine lv_aload_n hx hb dX8_init_36 rfl (lv_at hl 0 rfl) ?_
  refine lv_iload_n hx hb dX8_init_37 rfl (lv_at hl 2 rfl) ?_
  refine va_putF (D := D) (ci := 13) (v := .int 1) (ty := .boolean) (C := RX8) (T := TX8) (N := 8) hx hb hta iwX8 tyX8 tyX8_ok nmX8 hown hK hP hD hS 0 rfl rfl 1 (by decide) (hta _ mw93) (fun _ h9 => h9) rfl hin rfl (by decide +kernel) (by decide) (by decide) (Nat.le_of_ble_eq_true rfl) dX8_init_38 (fun H locs hP hD hS => ?_)
  have hP : va_P D vwCl [(q, .inr (13, [.int n, .int 1, .int 0, .ref q1, .ref q3, .ref q5, .int 0, .int 0])), (q1, .inl (t2, 4, .inr (.inr (.inr (.inr (fun _ => none)))))), (q3, .inl (t4, 3, .inr (.inr (.inr (.inr (fun _ => none)))))), (q5, .inr (5, [.int 100, .int 10, .int 0, .int 0, .int 0]))] H := hP
  have hD : va_D A [(q, .inr (13, [.int n, .int 1, .int 0, .ref q1, .ref q3, .ref q5, .int 0, .int 0])), (q1, .inl (t2, 4, .inr (.inr (.inr (.inr (fun _ => none)))))), (q3, .inl (t4, 3, .inr (.inr (.inr (.inr (fun _ => none)))))), (q5, .inr (5, [.int 100, .int 10, .int 0, .int 0, .int 0]))] := hD
  refine lv_aload_n hx hb dX8_init_41 rfl (lv_at hl 0 rfl) ?_
  refine lv_iload_n hx hb dX8_init_42 rfl (lv_at hl 3 rfl) ?_
  refine va_putF (D := D) (ci := 13) (v := .int f) (ty := .int) (C := RX8) (T := TX8) (N := 8) hx hb hta iwX8 tyX8 tyX8_ok nmX8 hown hK hP hD hS 0 rfl rfl 2 (by decide) (hta _ mw94) (fun _ h9 => h9) rfl hin rfl (by decide +kernel) rfl rfl (Nat.le_of_ble_eq_true rfl) dX8_init_43 (fun H locs hP hD hS => ?_)
  have hP : va_P D vwCl [(q, .inr (13, [.int n, .int 1, .int f, .ref q1, .ref q3, .ref q5, .int 0, .int 0])), (q1, .inl (t2, 4, .inr (.inr (.inr (.inr (fun _ => none)))))), (q3, .inl (t4, 3, .inr (.inr (.inr (.inr (fun _ => none)))))), (q5, .inr (5, [.int 100, .int 10, .int 0, .int 0, .int 0]))] H := hP
  have hD : va_D A [(q, .inr (13, [.int n, .int 1, .int f, .ref q1, .ref q3, .ref q5, .int 0, .int 0])), (q1, .inl (t2, 4, .inr (.inr (.inr (.inr (fun _ => none)))))), (q3, .inl (t4, 3, .inr (.inr (.inr (.inr (fun _ => none)))))), (q5, .inr (5, [.int 100, .int 10, .int 0, .int 0, .int 0]))] := hD
  have hP9 := hP.sub (ws' := [(q, .inr (13, [.int n, .int 1, .int f, .ref q1, .ref q3, .ref q5, .int 0, .int 0]))]) [0] rfl
  have hD9 := hD.sub (ws' := [(q, .inr (13, [.int n, .int 1, .int f, .ref q1, .ref q3, .ref q5, .int 0, .int 0]))]) [0] (by decide) rfl
  have hK9 := hK.sub (tys' := []) [] rfl
  refine W.widen (k := 3) (n := 12) (Nat.le_of_ble_eq_true rfl) (Nat.le_of_ble_eq_true rfl) ?_
  exact W.vret hx hb hr (fun t ht hWm => ⟨⟨[.int n, .int 1, .int f, .ref q1, .ref q3, .ref q5, .int 0, .int 0], rfl, trivial, ⟨by rw [ht]; exact hP9, va_K.moved hWm.alike hK9, hD9⟩⟩, hS.F ht⟩) hS.2.2 dX8_init_46
