set_option maxHeartbeats 4000000 in
set_option maxRecDepth 100000 in
theorem c_AbsColl_init (l : Launch) {D : va_G} {tE sz : Nat} {q : Nat} : Met l ⟨"java/util/AbstractCollection", "<init>", "()V"⟩ (wsC ⟨"java/util/AbstractCollection", "<init>", "()V"⟩ cJxa1e45_init_da8c8 1 none) ({ frames := 1, cells := 0, slots := 0, locals := 20 }) (va_Pc [.ref q] (gS tE D [(q, .inr (4, [.int 0, .null, .int 0]))] [] sz)) (va_Qv (fun _ : Unit => True) (gO D (fun _ => [(q, .inr (4, [.int 0, .null, .int 0]))]) (fun _ => []) (va_A [(q, .inr (4, [.int 0, .null, .int 0]))] sz)) (va_A [(q, .inr (4, [.int 0, .null, .int 0]))] sz)) 0 0 (va_A [(q, .inr (4, [.int 0, .null, .int 0]))] sz) := by
  refine Met.ofW (cc := cJxa1e45_init_da8c8) (maxL := 1) (ret := none) (by decide) rfl ?_
  intro p e s m args below meth c s₁ B hml hv
  obtain ⟨rfl, hsz, hP, hK, hD0, hG⟩ := hv
  have hx := B.exec
  have hb := B.bytes
  have hr := B.returns
  have hlocks := B.notSynchronized
  have hts := atoms_spec (ws := wsC ⟨"java/util/AbstractCollection", "<init>", "()V"⟩ cJxa1e45_init_da8c8 1 none) B.pre
  have hta : ∀ w ∈ WA, w.before _ s = true := fun w h => hts w (List.mem_cons_of_mem _ h)
  have hown : s.vm.findClass "java/util/AbstractCollection" = some m.cls := findClass_of_methodNamed B.named
  have hin : meth.name = "<init>" := (name_of_methodNamed B.named B.method).1
  subst hsz
  have hD : va_D (va_A [(q, .inr (4, [.int 0, .null, .int 0]))] s.heap.size) [(q, .inr (4, [.int 0, .null, .int 0]))] := hD0.self (sz := s.heap.size)
  generalize hAe : va_A [(q, .inr (4, [.int 0, .null, .int 0]))] s.heap.size = A at hD hG ⊢
  have hA : ∀ q : Nat, s.heap.size ≤ q → A q := fun q h => by rw [← hAe]; exact Or.inr h
  have hS : va_S A s.heap s.heap [] := va_S.rf
  have hP : va_P D vwCl [(q, .inr (4, [.int 0, .null, .int 0]))] s.heap := hP
  have hl := lv_entry ([.ref q]) (n := 1) (Nat.le_of_ble_eq_true rfl)
  rw [lg_entry_eq]
  generalize (lg_sl ([.ref q]) ++ List.replicate (1 - (lg_sl ([.ref q])).length) Slot.unset).toArray = ls at hl ⊢
  have hl : lv_has ls 1 [(0, .ref q)] := hl
  refine lv_aload_n hx hb dJxa1e45_init_da8c8_0 rfl (lv_at hl 0 rfl) ?_
  refine W.objInit hx hb hown (hta _ mw136) (hta _ mw66) (hta _ mw67) rfl (by rw [hml]; exact hl.1) rfl dJxa1e45_init_da8c8_1 (Nat.le_of_ble_eq_true rfl) (Nat.le_of_ble_eq_true rfl) ?_
  refine W.eq (g2 := F0 m 4 ls []) rfl ?_
  have hP9 := hP.sub (ws' := [(q, .inr (4, [.int 0, .null, .int 0]))]) [0] rfl
  have hD9 := hD.sub (ws' := [(q, .inr (4, [.int 0, .null, .int 0]))]) [0] (by decide) rfl
  have hK9 := hK.sub (tys' := []) [] rfl
  refine W.widen (k := 0) (n := 0) (Nat.le_of_ble_eq_true rfl) (Nat.le_of_ble_eq_true rfl) ?_
  exact W.vret hx hb hr (fun t ht hWm => ⟨⟨(), rfl, trivial, ⟨by rw [ht]; exact hP9, va_K.moved hWm.alike hK9, hD9⟩⟩, hS.F ht⟩) hS.2.2 dJxa1e45_init_da8c8_4

set_option maxHeartbeats 4000000 in
set_option maxRecDepth 100000 in
theorem c_AbsList_init (l : Launch) {D : va_G} {tE sz : Nat} {q : Nat} : Met l ⟨"java/util/AbstractList", "<init>", "()V"⟩ (wsC ⟨"java/util/AbstractList", "<init>", "()V"⟩ cJxc12de_init_da8c8 1 none) ({ frames := 2, cells := 0, slots := 0, locals := 40 }) (va_Pc [.ref q] (gS tE D [(q, .inr (4, [.int 0, .null, .int 0]))] [] sz)) (va_Qv (fun _ : Unit => True) (gO D (fun _ => [(q, .inr (4, [.int 0, .null, .int 0]))]) (fun _ => []) (va_A [(q, .inr (4, [.int 0, .null, .int 0]))] sz)) (va_A [(q, .inr (4, [.int 0, .null, .int 0]))] sz)) 0 0 (va_A [(q, .inr (4, [.int 0, .null, .int 0]))] sz) := by
  refine Met.ofW (cc := cJxc12de_init_da8c8) (maxL := 1) (ret := none) (by decide) rfl ?_
  intro p e s m args below meth c s₁ B hml hv
  obtain ⟨rfl, hsz, hP, hK, hD0, hG⟩ := hv
  have hx := B.exec
  have hb := B.bytes
  have hr := B.returns
  have hlocks := B.notSynchronized
  have hts := atoms_spec (ws := wsC ⟨"java/util/AbstractList", "<init>", "()V"⟩ cJxc12de_init_da8c8 1 none) B.pre
  have hta : ∀ w ∈ WA, w.before _ s = true := fun w h => hts w (List.mem_cons_of_mem _ h)
  have hown : s.vm.findClass "java/util/AbstractList" = some m.cls := findClass_of_methodNamed B.named
  have hin : meth.name = "<init>" := (name_of_methodNamed B.named B.method).1
  subst hsz
  have hD : va_D (va_A [(q, .inr (4, [.int 0, .null, .int 0]))] s.heap.size) [(q, .inr (4, [.int 0, .null, .int 0]))] := hD0.self (sz := s.heap.size)
  generalize hAe : va_A [(q, .inr (4, [.int 0, .null, .int 0]))] s.heap.size = A at hD hG ⊢
  have hA : ∀ q : Nat, s.heap.size ≤ q → A q := fun q h => by rw [← hAe]; exact Or.inr h
  have hS : va_S A s.heap s.heap [] := va_S.rf
  have hP : va_P D vwCl [(q, .inr (4, [.int 0, .null, .int 0]))] s.heap := hP
  have hl := lv_entry ([.ref q]) (n := 1) (Nat.le_of_ble_eq_true rfl)
  rw [lg_entry_eq]
  generalize (lg_sl ([.ref q]) ++ List.replicate (1 - (lg_sl ([.ref q])).length) Slot.unset).toArray = ls at hl ⊢
  have hl : lv_has ls 1 [(0, .ref q)] := hl
  refine lv_aload_n hx hb dJxc12de_init_da8c8_0 rfl (lv_at hl 0 rfl) ?_
  have hPc := hP.sub (ws' := [(q, .inr (4, [.int 0, .null, .int 0]))]) [0] rfl
  have hKc := hK.sub (tys' := []) [] rfl
  have hDc := hD.sub (ws' := [(q, .inr (4, [.int 0, .null, .int 0]))]) [0] (by decide) rfl
  have hFc := va_free (wc := [(q, .inr (4, [.int 0, .null, .int 0]))]) hD hS hA [0] rfl
  refine gJ_v (isC := [0]) (isR := []) (wr := []) (va_runI (As := []) (rest := []) ⟨hx, hb, hml, hown, hta⟩ (c_AbsColl_init l ) (cwI 0 hta (gWI mw137) rfl rfl rfl (hta _ mw138) (hta _ mw139) (hta _ mw140) rfl (by decide +kernel) ⟨Nat.le_of_ble_eq_true rfl, Nat.le_of_ble_eq_true rfl⟩) ⟨gS_blind, fun U hU hW => ⟨rfl, by rw [hU], by rw [hU]; exact hPc, va_K.moved hW.alike hKc, hDc.weaken (fun _ _ _ _ => trivial), hG.call hS hU hW hFc⟩⟩ rfl rfl hl.1 rfl (lv_room (Nat.le_of_ble_eq_true rfl)) dJxc12de_init_da8c8_1 ⟨Nat.le_of_ble_eq_true rfl, Nat.le_of_ble_eq_true rfl⟩) hP hD hS hK hFc rfl rfl (by decide) (by decide) (fun u2 H locs h3 hP hD hS hK => ?_)
  have hK : va_K D vwCl [] s := hK
  have hP : va_P D vwCl [(q, .inr (4, [.int 0, .null, .int 0]))] H := hP
  have hD : va_D A [(q, .inr (4, [.int 0, .null, .int 0]))] := hD
  refine lv_aload_n hx hb dJxc12de_init_da8c8_4 rfl (lv_at hl 0 rfl) ?_
  refine lv_iconst (v := 0) hx hb dJxc12de_init_da8c8_5 (by decide) ?_
  refine va_put (D := D) (ci := 4) (v := .int 0) (ty := .int) (C := RJx4a65c) (T := TJx4a65c) (N := 3) hx hb hta iwJx4a65c tyJx4a65c tyJx4a65c_ok nmJx4a65c hown hK hP hD hS 0 rfl rfl 0 (by decide) (hta _ mw141) (fun _ h9 => h9) rfl (by decide +kernel) rfl rfl (Nat.le_of_ble_eq_true rfl) dJxc12de_init_da8c8_6 (fun H locs hP hD hS => ?_)
  have hP : va_P D vwCl [(q, .inr (4, [.int 0, .null, .int 0]))] H := hP
  have hD : va_D A [(q, .inr (4, [.int 0, .null, .int 0]))] := hD
  have hP9 := hP.sub (ws' := [(q, .inr (4, [.int 0, .null, .int 0]))]) [0] rfl
  have hD9 := hD.sub (ws' := [(q, .inr (4, [.int 0, .null, .int 0]))]) [0] (by decide) rfl
  have hK9 := hK.sub (tys' := []) [] rfl
  refine W.widen (k := 0) (n := 0) (Nat.le_of_ble_eq_true rfl) (Nat.le_of_ble_eq_true rfl) ?_
  exact W.vret hx hb hr (fun t ht hWm => ⟨⟨(), rfl, trivial, ⟨by rw [ht]; exact hP9, va_K.moved hWm.alike hK9, hD9⟩⟩, hS.F ht⟩) hS.2.2 dJxc12de_init_da8c8_9

set_option maxHeartbeats 4000000 in
set_option maxRecDepth 100000 in
theorem c_AL_init (l : Launch) {D : va_G} {tE sz : Nat} {q : Nat} : Met l ⟨"java/util/ArrayList", "<init>", "()V"⟩ (wsC ⟨"java/util/ArrayList", "<init>", "()V"⟩ cJx4a65c_init_da8c8 1 none) ({ frames := 3, cells := 0, slots := 0, locals := 60 }) (va_Pc [.ref q] (gS tE D [(q, .inr (4, [.int 0, .null, .int 0]))] [] sz)) (va_Qv (fun _ : Unit => True) (gO D (fun _ => [(q, .inr (4, [.int 0, .ref tE, .int 0]))]) (fun _ => []) (va_A [(q, .inr (4, [.int 0, .null, .int 0]))] sz)) (va_A [(q, .inr (4, [.int 0, .null, .int 0]))] sz)) 0 0 (va_A [(q, .inr (4, [.int 0, .null, .int 0]))] sz) := by
  refine Met.ofW (cc := cJx4a65c_init_da8c8) (maxL := 1) (ret := none) (by decide) rfl ?_
  intro p e s m args below meth c s₁ B hml hv
  obtain ⟨rfl, hsz, hP, hK, hD0, hG⟩ := hv
  have hx := B.exec
  have hb := B.bytes
  have hr := B.returns
  have hlocks := B.notSynchronized
  have hts := atoms_spec (ws := wsC ⟨"java/util/ArrayList", "<init>", "()V"⟩ cJx4a65c_init_da8c8 1 none) B.pre
  have hta : ∀ w ∈ WA, w.before _ s = true := fun w h => hts w (List.mem_cons_of_mem _ h)
  have hown : s.vm.findClass "java/util/ArrayList" = some m.cls := findClass_of_methodNamed B.named
  have hin : meth.name = "<init>" := (name_of_methodNamed B.named B.method).1
  subst hsz
  have hD : va_D (va_A [(q, .inr (4, [.int 0, .null, .int 0]))] s.heap.size) [(q, .inr (4, [.int 0, .null, .int 0]))] := hD0.self (sz := s.heap.size)
  generalize hAe : va_A [(q, .inr (4, [.int 0, .null, .int 0]))] s.heap.size = A at hD hG ⊢
  have hA : ∀ q : Nat, s.heap.size ≤ q → A q := fun q h => by rw [← hAe]; exact Or.inr h
  have hS : va_S A s.heap s.heap [] := va_S.rf
  have hP : va_P D vwCl [(q, .inr (4, [.int 0, .null, .int 0]))] s.heap := hP
  have hl := lv_entry ([.ref q]) (n := 1) (Nat.le_of_ble_eq_true rfl)
  rw [lg_entry_eq]
  generalize (lg_sl ([.ref q]) ++ List.replicate (1 - (lg_sl ([.ref q])).length) Slot.unset).toArray = ls at hl ⊢
  have hl : lv_has ls 1 [(0, .ref q)] := hl
  refine lv_aload_n hx hb dJx4a65c_init_da8c8_0 rfl (lv_at hl 0 rfl) ?_
  have hPc := hP.sub (ws' := [(q, .inr (4, [.int 0, .null, .int 0]))]) [0] rfl
  have hKc := hK.sub (tys' := []) [] rfl
  have hDc := hD.sub (ws' := [(q, .inr (4, [.int 0, .null, .int 0]))]) [0] (by decide) rfl
  have hFc := va_free (wc := [(q, .inr (4, [.int 0, .null, .int 0]))]) hD hS hA [0] rfl
  refine gJ_v (isC := [0]) (isR := []) (wr := []) (va_runI (As := []) (rest := []) ⟨hx, hb, hml, hown, hta⟩ (c_AbsList_init l ) (cwI 0 hta (gWI mw142) rfl rfl rfl (hta _ mw143) (hta _ mw144) (hta _ mw145) rfl (by decide +kernel) ⟨Nat.le_of_ble_eq_true rfl, Nat.le_of_ble_eq_true rfl⟩) ⟨gS_blind, fun U hU hW => ⟨rfl, by rw [hU], by rw [hU]; exact hPc, va_K.moved hW.alike hKc, hDc.weaken (fun _ _ _ _ => trivial), hG.call hS hU hW hFc⟩⟩ rfl rfl hl.1 rfl (lv_room (Nat.le_of_ble_eq_true rfl)) dJx4a65c_init_da8c8_1 ⟨Nat.le_of_ble_eq_true rfl, Nat.le_of_ble_eq_true rfl⟩) hP hD hS hK hFc rfl rfl (by decide) (by decide) (fun u2 H locs h3 hP hD hS hK => ?_)
  have hK : va_K D vwCl [] s := hK
  have hP : va_P D vwCl [(q, .inr (4, [.int 0, .null, .int 0]))] H := hP
  have hD : va_D A [(q, .inr (4, [.int 0, .null, .int 0]))] := hD
  refine lv_aload_n hx hb dJx4a65c_init_da8c8_4 rfl (lv_at hl 0 rfl) ?_
  refine va_gets (v := .ref tE) hx hb hG.Z hS hown (hta _ mw146) (fun _ h9 => h9) dJx4a65c_init_da8c8_5 ?_
  refine va_put (D := D) (ci := 4) (v := .ref tE) (ty := .array (.object "java/lang/Object")) (C := RJx4a65c) (T := TJx4a65c) (N := 3) hx hb hta iwJx4a65c tyJx4a65c tyJx4a65c_ok nmJx4a65c hown hK hP hD hS 0 rfl rfl 1 (by decide) (hta _ mw147) (fun _ h9 => h9) rfl (by decide +kernel) rfl rfl (Nat.le_of_ble_eq_true rfl) dJx4a65c_init_da8c8_8 (fun H locs hP hD hS => ?_)
  have hP : va_P D vwCl [(q, .inr (4, [.int 0, .ref tE, .int 0]))] H := hP
  have hD : va_D A [(q, .inr (4, [.int 0, .ref tE, .int 0]))] := hD
  have hP9 := hP.sub (ws' := [(q, .inr (4, [.int 0, .ref tE, .int 0]))]) [0] rfl
  have hD9 := hD.sub (ws' := [(q, .inr (4, [.int 0, .ref tE, .int 0]))]) [0] (by decide) rfl
  have hK9 := hK.sub (tys' := []) [] rfl
  refine W.widen (k := 0) (n := 0) (Nat.le_of_ble_eq_true rfl) (Nat.le_of_ble_eq_true rfl) ?_
  exact W.vret hx hb hr (fun t ht hWm => ⟨⟨(), rfl, trivial, ⟨by rw [ht]; exact hP9, va_K.moved hWm.alike hK9, hD9⟩⟩, hS.F ht⟩) hS.2.2 dJx4a65c_init_da8c8_11

set_option maxHeartbeats 4000000 in
set_option maxRecDepth 100000 in
theorem c_AL_grow1 (l : Launch) {D : va_G} {tE sz : Nat} {q : Nat} {a : Int32} : Met l ⟨"java/util/ArrayList", "grow", "(I)[Ljava/lang/Object;"⟩ (wsC ⟨"java/util/ArrayList", "grow", "(I)[Ljava/lang/Object;"⟩ cJx4a65c_grow_92f84 4 (some (.array (.object "java/lang/Object")))) ({ frames := 1, cells := 1, slots := 10, locals := 21 }) (va_Pc [.ref q, .int 1] (gS tE D [(q, .inr (4, [.int a, .ref tE, .int 0]))] [] sz)) (va_Qq (fun (r : Option Nat) (u : Nat × ClassId) => r = some u.1) (gO D (fun u => [(q, .inr (4, [.int a, .ref u.1, .int 0])), (u.1, .inl (u.2, 10, .inr (.inr (.inr (.inr (fun _ => none))))))]) (fun u => [(u.2, .object "java/lang/Object")]) (va_A [(q, .inr (4, [.int a, .ref tE, .int 0]))] sz)) (va_A [(q, .inr (4, [.int a, .ref tE, .int 0]))] sz)) 1 10 (va_A [(q, .inr (4, [.int a, .ref tE, .int 0]))] sz) := by
  refine Met.ofW (cc := cJx4a65c_grow_92f84) (maxL := 4) (ret := (some (.array (.object "java/lang/Object")))) (by decide) rfl ?_
  intro p e s m args below meth c s₁ B hml hv
  obtain ⟨rfl, hsz, hP, hK, hD0, hG⟩ := hv
  have hx := B.exec
  have hb := B.bytes
  have hr := B.returns
  have hlocks := B.notSynchronized
  have hts := atoms_spec (ws := wsC ⟨"java/util/ArrayList", "grow", "(I)[Ljava/lang/Object;"⟩ cJx4a65c_grow_92f84 4 (some (.array (.object "java/lang/Object")))) B.pre
  have hta : ∀ w ∈ WA, w.before _ s = true := fun w h => hts w (List.mem_cons_of_mem _ h)
  have hown : s.vm.findClass "java/util/ArrayList" = some m.cls := findClass_of_methodNamed B.named
  subst hsz
  have hD : va_D (va_A [(q, .inr (4, [.int a, .ref tE, .int 0]))] s.heap.size) [(q, .inr (4, [.int a, .ref tE, .int 0]))] := hD0.self (sz := s.heap.size)
  generalize hAe : va_A [(q, .inr (4, [.int a, .ref tE, .int 0]))] s.heap.size = A at hD hG ⊢
  have hA : ∀ q : Nat, s.heap.size ≤ q → A q := fun q h => by rw [← hAe]; exact Or.inr h
  have hS : va_S A s.heap s.heap [] := va_S.rf
  have hP : va_P D vwCl [(q, .inr (4, [.int a, .ref tE, .int 0]))] s.heap := hP
  have hl := lv_entry ([.ref q, .int 1]) (n := 4) (Nat.le_of_ble_eq_true rfl)
  rw [lg_entry_eq]
  generalize (lg_sl ([.ref q, .int 1]) ++ List.replicate (4 - (lg_sl ([.ref q, .int 1])).length) Slot.unset).toArray = ls at hl ⊢
  have hl : lv_has ls 4 [(0, .ref q), (1, .int 1)] := hl
  refine lv_aload_n hx hb dJx4a65c_grow_92f84_0 rfl (lv_at hl 0 rfl) ?_
  refine va_get (D := D) (ci := 4) (v := .ref tE) (C := RJx4a65c) (T := TJx4a65c) (N := 3) hx hb hta iwJx4a65c hown hK hP 0 rfl rfl 1 (by decide) (hta _ mw147) (fun _ h9 => h9) rfl dJx4a65c_grow_92f84_1 ?_
  refine va_tlen hx hb hG.T hS (v := 0) rfl dJx4a65c_grow_92f84_4 ?_
  refine lv_istore_n (lv' := [(2, .int 0), (0, .ref q), (1, .int 1)]) hx hb dJx4a65c_grow_92f84_5 rfl hl (by decide) rfl (fun ls hl => ?_)
  refine lv_iload_n hx hb dJx4a65c_grow_92f84_6 rfl (lv_at hl 0 rfl) ?_
  refine lv_if_gt (tgt := 20) hx hb dJx4a65c_grow_92f84_7 (by decide) (fun c1 => ?_) (fun c1 => ?_)
  · exact absurd c1 (by decide)
  · skip
    refine lv_aload_n hx hb dJx4a65c_grow_92f84_10 rfl (lv_at hl 1 rfl) ?_
    refine va_get (D := D) (ci := 4) (v := .ref tE) (C := RJx4a65c) (T := TJx4a65c) (N := 3) hx hb hta iwJx4a65c hown hK hP 0 rfl rfl 1 (by decide) (hta _ mw147) (fun _ h9 => h9) rfl dJx4a65c_grow_92f84_11 ?_
    refine va_gets (v := .ref tE) hx hb hG.Z hS hown (hta _ mw146) (fun _ h9 => h9) dJx4a65c_grow_92f84_14 ?_
    refine lv_acmp_eq (rx := some tE) (ry := some tE) (tgt := 45) hx hb dJx4a65c_grow_92f84_17 (by decide) (fun c2 => ?_) (fun c2 => ?_)
    rotate_left
    · exact absurd rfl c2
    refine lv_aload_n hx hb dJx4a65c_grow_92f84_45 rfl (lv_at hl 1 rfl) ?_
    refine lv_bipush (v := 10) hx hb dJx4a65c_grow_92f84_46 (by decide) ?_
    refine lv_iload_n hx hb dJx4a65c_grow_92f84_48 rfl (lv_at hl 2 rfl) ?_
    refine va_mmax hx hb (hml.trans hl.1.symm) hown (hta _ mw148) (hta _ mw149) (hta _ mw150) (hta _ mw151) (Nat.le_of_ble_eq_true rfl) (Nat.le_of_ble_eq_true rfl) (Nat.zero_le _) (Nat.zero_le _) dJx4a65c_grow_92f84_49 ?_
    refine W.eq (g2 := F0 m 52 ls [.int 10, .ref q]) rfl ?_
    refine va_newq (N' := 10) (C := "java/lang/Object") hx hb hown (hta _ mw152) (hG.O "java/lang/Object" (by decide)) hK hP hD hS hA (by decide) (by decide) (by decide) (Nat.le_of_ble_eq_true rfl) (Nat.le_of_ble_eq_true rfl) dJx4a65c_grow_92f84_52 (fun q3 t4 H hK hP hD hS => ?_)
    have hK : va_K D vwCl [(t4, .object "java/lang/Object")] s := hK
    have hP : va_P D vwCl [(q, .inr (4, [.int a, .ref tE, .int 0])), (q3, .inl (t4, 10, .inr (.inr (.inr (.inr (fun _ => none))))))] H := hP
    have hD : va_D A [(q, .inr (4, [.int a, .ref tE, .int 0])), (q3, .inl (t4, 10, .inr (.inr (.inr (.inr (fun _ => none))))))] := hD
    refine lv_dup_x1 hx hb dJx4a65c_grow_92f84_55 rfl rfl ?_
    refine va_put (D := D) (ci := 4) (v := .ref q3) (ty := .array (.object "java/lang/Object")) (C := RJx4a65c) (T := TJx4a65c) (N := 3) hx hb hta iwJx4a65c tyJx4a65c tyJx4a65c_ok nmJx4a65c hown hK hP hD hS 0 rfl rfl 1 (by decide) (hta _ mw147) (fun _ h9 => h9) rfl (by decide +kernel) rfl rfl (Nat.le_of_ble_eq_true rfl) dJx4a65c_grow_92f84_56 (fun H locs hP hD hS => ?_)
    have hP : va_P D vwCl [(q, .inr (4, [.int a, .ref q3, .int 0])), (q3, .inl (t4, 10, .inr (.inr (.inr (.inr (fun _ => none))))))] H := hP
    have hD : va_D A [(q, .inr (4, [.int a, .ref q3, .int 0])), (q3, .inl (t4, 10, .inr (.inr (.inr (.inr (fun _ => none))))))] := hD
    have hP9 := hP.sub (ws' := [(q, .inr (4, [.int a, .ref q3, .int 0])), (q3, .inl (t4, 10, .inr (.inr (.inr (.inr (fun _ => none))))))]) [0, 1] rfl
    have hD9 := hD.sub (ws' := [(q, .inr (4, [.int a, .ref q3, .int 0])), (q3, .inl (t4, 10, .inr (.inr (.inr (.inr (fun _ => none))))))]) [0, 1] (by decide) rfl
    have hK9 := hK.sub (tys' := [(t4, .object "java/lang/Object")]) [0] rfl
    refine W.widen (k := 1) (n := 10) (Nat.le_of_ble_eq_true rfl) (Nat.le_of_ble_eq_true rfl) ?_
    exact W.aret (rt := (.array (.object "java/lang/Object"))) hx hb hr (Or.inr ⟨_, rfl⟩) (Or.inr ⟨_, rfl⟩) (fun t ht hWm => ⟨⟨some q3, (q3, t4), rfl, rfl, ⟨by rw [ht]; exact hP9, va_K.moved hWm.alike hK9, hD9⟩⟩, hS.F ht⟩) hS.2.2 dJx4a65c_grow_92f84_59

set_option maxHeartbeats 4000000 in
set_option maxRecDepth 100000 in
theorem c_AL_grow (l : Launch) {D : va_G} {tE sz : Nat} {q : Nat} {a : Int32} : Met l ⟨"java/util/ArrayList", "grow", "()[Ljava/lang/Object;"⟩ (wsC ⟨"java/util/ArrayList", "grow", "()[Ljava/lang/Object;"⟩ cJx4a65c_grow_d5877 1 (some (.array (.object "java/lang/Object")))) ({ frames := 2, cells := 1, slots := 10, locals := 44 }) (va_Pc [.ref q] (gS tE D [(q, .inr (4, [.int a, .ref tE, .int 0]))] [] sz)) (va_Qq (fun (r : Option Nat) (u : Nat × ClassId) => r = some u.1) (gO D (fun u => [(q, .inr (4, [.int a, .ref u.1, .int 0])), (u.1, .inl (u.2, 10, .inr (.inr (.inr (.inr (fun _ => none))))))]) (fun u => [(u.2, .object "java/lang/Object")]) (va_A [(q, .inr (4, [.int a, .ref tE, .int 0]))] sz)) (va_A [(q, .inr (4, [.int a, .ref tE, .int 0]))] sz)) 1 10 (va_A [(q, .inr (4, [.int a, .ref tE, .int 0]))] sz) := by
  refine Met.ofW (cc := cJx4a65c_grow_d5877) (maxL := 1) (ret := (some (.array (.object "java/lang/Object")))) (by decide) rfl ?_
  intro p e s m args below meth c s₁ B hml hv
  obtain ⟨rfl, hsz, hP, hK, hD0, hG⟩ := hv
  have hx := B.exec
  have hb := B.bytes
  have hr := B.returns
  have hlocks := B.notSynchronized
  have hts := atoms_spec (ws := wsC ⟨"java/util/ArrayList", "grow", "()[Ljava/lang/Object;"⟩ cJx4a65c_grow_d5877 1 (some (.array (.object "java/lang/Object")))) B.pre
  have hta : ∀ w ∈ WA, w.before _ s = true := fun w h => hts w (List.mem_cons_of_mem _ h)
  have hown : s.vm.findClass "java/util/ArrayList" = some m.cls := findClass_of_methodNamed B.named
  subst hsz
  have hD : va_D (va_A [(q, .inr (4, [.int a, .ref tE, .int 0]))] s.heap.size) [(q, .inr (4, [.int a, .ref tE, .int 0]))] := hD0.self (sz := s.heap.size)
  generalize hAe : va_A [(q, .inr (4, [.int a, .ref tE, .int 0]))] s.heap.size = A at hD hG ⊢
  have hA : ∀ q : Nat, s.heap.size ≤ q → A q := fun q h => by rw [← hAe]; exact Or.inr h
  have hS : va_S A s.heap s.heap [] := va_S.rf
  have hP : va_P D vwCl [(q, .inr (4, [.int a, .ref tE, .int 0]))] s.heap := hP
  have hl := lv_entry ([.ref q]) (n := 1) (Nat.le_of_ble_eq_true rfl)
  rw [lg_entry_eq]
  generalize (lg_sl ([.ref q]) ++ List.replicate (1 - (lg_sl ([.ref q])).length) Slot.unset).toArray = ls at hl ⊢
  have hl : lv_has ls 1 [(0, .ref q)] := hl
  refine lv_aload_n hx hb dJx4a65c_grow_d5877_0 rfl (lv_at hl 0 rfl) ?_
  refine lv_aload_n hx hb dJx4a65c_grow_d5877_1 rfl (lv_at hl 0 rfl) ?_
  refine va_get (D := D) (ci := 4) (v := .int 0) (C := RJx4a65c) (T := TJx4a65c) (N := 3) hx hb hta iwJx4a65c hown hK hP 0 rfl rfl 2 (by decide) (hta _ mw122) (fun _ h9 => h9) rfl dJx4a65c_grow_d5877_2 ?_
  refine lv_iconst (v := 1) hx hb dJx4a65c_grow_d5877_5 (by decide) ?_
  refine lv_iadd hx hb dJx4a65c_grow_d5877_6 ?_
  refine lv_topi (fun x1 ex1 => ?_)
  obtain rfl : x1 = 1 := ex1.trans (by decide)
  have hPc := hP.sub (ws' := [(q, .inr (4, [.int a, .ref tE, .int 0]))]) [0] rfl
  have hKc := hK.sub (tys' := []) [] rfl
  have hDc := hD.sub (ws' := [(q, .inr (4, [.int a, .ref tE, .int 0]))]) [0] (by decide) rfl
  have hFc := va_free (wc := [(q, .inr (4, [.int a, .ref tE, .int 0]))]) hD hS hA [0] rfl
  refine gJ_q (isC := [0]) (isR := []) (wr := []) (va_runV (As := [.int 1]) (rest := []) ⟨hx, hb, hml, hown, hta⟩ (c_AL_grow1 l ) (cwV 1 hta (gWV mw154 mw155 mw156 mw157 mw153) rfl rfl rfl (by decide +kernel) ⟨Nat.le_of_ble_eq_true rfl, Nat.le_of_ble_eq_true rfl⟩) ⟨gS_blind, va_recv hKc hPc (ci := 4) (q0 := 0) rfl rfl, fun U hU hW => ⟨rfl, by rw [hU], by rw [hU]; exact hPc, va_K.moved hW.alike hKc, hDc.weaken (fun _ _ _ _ => trivial), hG.call hS hU hW hFc⟩⟩ rfl rfl hl.1 rfl (lv_room (Nat.le_of_ble_eq_true rfl)) dJx4a65c_grow_d5877_7 ⟨Nat.le_of_ble_eq_true rfl, Nat.le_of_ble_eq_true rfl⟩) hP hD hS hK hFc rfl rfl (by decide) (by decide) (fun r2 u3 H locs h4 hP hD hS hK => ?_)
  obtain ⟨b5, t6⟩ := u3
  obtain rfl : r2 = some b5 := h4
  refine W.eq (g2 := F0 m 10 ls [.ref b5]) rfl ?_
  have hK : va_K D vwCl [(t6, .object "java/lang/Object")] s := hK
  have hP : va_P D vwCl [(q, .inr (4, [.int a, .ref b5, .int 0])), (b5, .inl (t6, 10, .inr (.inr (.inr (.inr (fun _ => none))))))] H := hP
  have hD : va_D A [(q, .inr (4, [.int a, .ref b5, .int 0])), (b5, .inl (t6, 10, .inr (.inr (.inr (.inr (fun _ => none))))))] := hD
  have hP9 := hP.sub (ws' := [(q, .inr (4, [.int a, .ref b5, .int 0])), (b5, .inl (t6, 10, .inr (.inr (.inr (.inr (fun _ => none))))))]) [0, 1] rfl
  have hD9 := hD.sub (ws' := [(q, .inr (4, [.int a, .ref b5, .int 0])), (b5, .inl (t6, 10, .inr (.inr (.inr (.inr (fun _ => none))))))]) [0, 1] (by decide) rfl
  have hK9 := hK.sub (tys' := [(t6, .object "java/lang/Object")]) [0] rfl
  refine W.widen (k := 1) (n := 10) (Nat.le_of_ble_eq_true rfl) (Nat.le_of_ble_eq_true rfl) ?_
  exact W.aret (rt := (.array (.object "java/lang/Object"))) hx hb hr (Or.inr ⟨_, rfl⟩) (Or.inr ⟨_, rfl⟩) (fun t ht hWm => ⟨⟨some b5, (b5, t6), rfl, rfl, ⟨by rw [ht]; exact hP9, va_K.moved hWm.alike hK9, hD9⟩⟩, hS.F ht⟩) hS.2.2 dJx4a65c_grow_d5877_10

set_option maxHeartbeats 4000000 in
set_option maxRecDepth 100000 in
theorem c_AL_addp_X12_0 (l : Launch) {D : va_G} {tE sz : Nat} {q v : Nat} {vs : List Value} {a : Int32} : Met l ⟨"java/util/ArrayList", "add", "(Ljava/lang/Object;[Ljava/lang/Object;I)V"⟩ (wsC ⟨"java/util/ArrayList", "add", "(Ljava/lang/Object;[Ljava/lang/Object;I)V"⟩ cJx4a65c_add_72be8 4 none) ({ frames := 3, cells := 1, slots := 10, locals := 64 }) (va_Pc [.ref q, .ref v, .ref tE, .int 0] (gS tE D [(q, .inr (4, [.int a, .ref tE, .int 0])), (v, .inr (17, vs))] [] sz)) (va_Qv (fun _ : Nat × ClassId => True) (gO D (fun u => [(q, .inr (4, [.int a, .ref u.1, .int 1])), (u.1, .inl (u.2, 10, .inr (.inr (.inr (.inr (va_up (fun _ => none) 0 (some v))))))), (v, .inr (17, vs))]) (fun u => [(u.2, .object "java/lang/Object")]) (va_A [(q, .inr (4, [.int a, .ref tE, .int 0])), (v, .inr (17, vs))] sz)) (va_A [(q, .inr (4, [.int a, .ref tE, .int 0])), (v, .inr (17, vs))] sz)) 1 10 (va_A [(q, .inr (4, [.int a, .ref tE, .int 0])), (v, .inr (17, vs))] sz) := by
  refine Met.ofW (cc := cJx4a65c_add_72be8) (maxL := 4) (ret := none) (by decide) rfl ?_
  intro p e s m args below meth c s₁ B hml hv
  obtain ⟨rfl, hsz, hP, hK, hD0, hG⟩ := hv
  have hx := B.exec
  have hb := B.bytes
  have hr := B.returns
  have hlocks := B.notSynchronized
  have hts := atoms_spec (ws := wsC ⟨"java/util/ArrayList", "add", "(Ljava/lang/Object;[Ljava/lang/Object;I)V"⟩ cJx4a65c_add_72be8 4 none) B.pre
  have hta : ∀ w ∈ WA, w.before _ s = true := fun w h => hts w (List.mem_cons_of_mem _ h)
  have hown : s.vm.findClass "java/util/ArrayList" = some m.cls := findClass_of_methodNamed B.named
  subst hsz
  have hD : va_D (va_A [(q, .inr (4, [.int a, .ref tE, .int 0])), (v, .inr (17, vs))] s.heap.size) [(q, .inr (4, [.int a, .ref tE, .int 0])), (v, .inr (17, vs))] := hD0.self (sz := s.heap.size)
  generalize hAe : va_A [(q, .inr (4, [.int a, .ref tE, .int 0])), (v, .inr (17, vs))] s.heap.size = A at hD hG ⊢
  have hA : ∀ q : Nat, s.heap.size ≤ q → A q := fun q h => by rw [← hAe]; exact Or.inr h
  have hS : va_S A s.heap s.heap [] := va_S.rf
  have hP : va_P D vwCl [(q, .inr (4, [.int a, .ref tE, .int 0])), (v, .inr (17, vs))] s.heap := hP
  have hl := lv_entry ([.ref q, .ref v, .ref tE, .int 0]) (n := 4) (Nat.le_of_ble_eq_true rfl)
  rw [lg_entry_eq]
  generalize (lg_sl ([.ref q, .ref v, .ref tE, .int 0]) ++ List.replicate (4 - (lg_sl ([.ref q, .ref v, .ref tE, .int 0])).length) Slot.unset).toArray = ls at hl ⊢
  have hl : lv_has ls 4 [(0, .ref q), (1, .ref v), (2, .ref tE), (3, .int 0)] := hl
  refine lv_iload_n hx hb dJx4a65c_add_72be8_0 rfl (lv_at hl 3 rfl) ?_
  refine lv_aload_n hx hb dJx4a65c_add_72be8_1 rfl (lv_at hl 2 rfl) ?_
  refine va_tlen hx hb hG.T hS (v := 0) rfl dJx4a65c_add_72be8_2 ?_
  refine lv_icmp_ne (tgt := 11) hx hb dJx4a65c_add_72be8_3 (by decide) (fun c1 => ?_) (fun c1 => ?_)
  · exact absurd c1 (by decide)
  · skip
    refine lv_aload_n hx hb dJx4a65c_add_72be8_6 rfl (lv_at hl 0 rfl) ?_
    have hPc := hP.sub (ws' := [(q, .inr (4, [.int a, .ref tE, .int 0]))]) [0] rfl
    have hKc := hK.sub (tys' := []) [] rfl
    have hDc := hD.sub (ws' := [(q, .inr (4, [.int a, .ref tE, .int 0]))]) [0] (by decide) rfl
    have hFc := va_free (wc := [(q, .inr (4, [.int a, .ref tE, .int 0]))]) hD hS hA [0] rfl
    refine gJ_q (isC := [0]) (isR := [1]) (wr := [(v, .inr (17, vs))]) (va_runV (As := []) (rest := []) ⟨hx, hb, hml, hown, hta⟩ (c_AL_grow l ) (cwV 0 hta (gWV mw159 mw160 mw161 mw157 mw158) rfl rfl rfl (by decide +kernel) ⟨Nat.le_of_ble_eq_true rfl, Nat.le_of_ble_eq_true rfl⟩) ⟨gS_blind, va_recv hKc hPc (ci := 4) (q0 := 0) rfl rfl, fun U hU hW => ⟨rfl, by rw [hU], by rw [hU]; exact hPc, va_K.moved hW.alike hKc, hDc.weaken (fun _ _ _ _ => trivial), hG.call hS hU hW hFc⟩⟩ rfl rfl hl.1 rfl (lv_room (Nat.le_of_ble_eq_true rfl)) dJx4a65c_add_72be8_7 ⟨Nat.le_of_ble_eq_true rfl, Nat.le_of_ble_eq_true rfl⟩) hP hD hS hK hFc rfl rfl (by decide) (by decide) (fun r2 u3 H locs h4 hP hD hS hK => ?_)
    obtain ⟨b5, t6⟩ := u3
    obtain rfl : r2 = some b5 := h4
    refine W.eq (g2 := F0 m 10 ls [.ref b5]) rfl ?_
    have hK : va_K D vwCl [(t6, .object "java/lang/Object")] s := hK
    have hP : va_P D vwCl [(v, .inr (17, vs)), (q, .inr (4, [.int a, .ref b5, .int 0])), (b5, .inl (t6, 10, .inr (.inr (.inr (.inr (fun _ => none))))))] H := hP
    have hD : va_D A [(v, .inr (17, vs)), (q, .inr (4, [.int a, .ref b5, .int 0])), (b5, .inl (t6, 10, .inr (.inr (.inr (.inr (fun _ => none))))))] := hD
    refine lv_astore_n (lv' := [(2, .ref b5), (0, .ref q), (1, .ref v), (3, .int 0)]) hx hb dJx4a65c_add_72be8_10 rfl hl (by decide) rfl (fun ls hl => ?_)
    refine lv_aload_n hx hb dJx4a65c_add_72be8_11 rfl (lv_at hl 0 rfl) ?_
    refine lv_iload_n hx hb dJx4a65c_add_72be8_12 rfl (lv_at hl 3 rfl) ?_
    refine lv_aload_n hx hb dJx4a65c_add_72be8_13 rfl (lv_at hl 2 rfl) ?_
    refine va_astqO (r := (RX12, TX12, 11)) (E := "java/lang/Object") hx hb hK hP hD hS 2 0 0 17 rfl rfl (hG.C ("FoundrymarkModel$Machine", "java/lang/Object") (by decide)) rfl rfl (i := 0) (by unfold vp_in; decide) dJx4a65c_add_72be8_14 (fun H locs hP hD hS => ?_)
    have hP : va_P D vwCl [(v, .inr (17, vs)), (q, .inr (4, [.int a, .ref b5, .int 0])), (b5, .inl (t6, 10, .inr (.inr (.inr (.inr (va_up (fun _ => none) 0 (some v)))))))] H := hP
    have hD : va_D A [(v, .inr (17, vs)), (q, .inr (4, [.int a, .ref b5, .int 0])), (b5, .inl (t6, 10, .inr (.inr (.inr (.inr (va_up (fun _ => none) 0 (some v)))))))] := hD
    refine lv_aload_n hx hb dJx4a65c_add_72be8_15 rfl (lv_at hl 1 rfl) ?_
    refine lv_iload_n hx hb dJx4a65c_add_72be8_16 rfl (lv_at hl 3 rfl) ?_
    refine lv_iconst (v := 1) hx hb dJx4a65c_add_72be8_17 (by decide) ?_
    refine lv_iadd hx hb dJx4a65c_add_72be8_18 ?_
    refine lv_topi (fun x7 ex7 => ?_)
    obtain rfl : x7 = 1 := ex7.trans (by decide)
    refine va_put (D := D) (ci := 4) (v := .int 1) (ty := .int) (C := RJx4a65c) (T := TJx4a65c) (N := 3) hx hb hta iwJx4a65c tyJx4a65c tyJx4a65c_ok nmJx4a65c hown hK hP hD hS 1 rfl rfl 2 (by decide) (hta _ mw122) (fun _ h9 => h9) rfl (by decide +kernel) rfl rfl (Nat.le_of_ble_eq_true rfl) dJx4a65c_add_72be8_19 (fun H locs hP hD hS => ?_)
    have hP : va_P D vwCl [(v, .inr (17, vs)), (q, .inr (4, [.int a, .ref b5, .int 1])), (b5, .inl (t6, 10, .inr (.inr (.inr (.inr (va_up (fun _ => none) 0 (some v)))))))] H := hP
    have hD : va_D A [(v, .inr (17, vs)), (q, .inr (4, [.int a, .ref b5, .int 1])), (b5, .inl (t6, 10, .inr (.inr (.inr (.inr (va_up (fun _ => none) 0 (some v)))))))] := hD
    have hP9 := hP.sub (ws' := [(q, .inr (4, [.int a, .ref b5, .int 1])), (b5, .inl (t6, 10, .inr (.inr (.inr (.inr (va_up (fun _ => none) 0 (some v))))))), (v, .inr (17, vs))]) [1, 2, 0] rfl
    have hD9 := hD.sub (ws' := [(q, .inr (4, [.int a, .ref b5, .int 1])), (b5, .inl (t6, 10, .inr (.inr (.inr (.inr (va_up (fun _ => none) 0 (some v))))))), (v, .inr (17, vs))]) [1, 2, 0] (by decide) rfl
    have hK9 := hK.sub (tys' := [(t6, .object "java/lang/Object")]) [0] rfl
    refine W.widen (k := 1) (n := 10) (Nat.le_of_ble_eq_true rfl) (Nat.le_of_ble_eq_true rfl) ?_
    exact W.vret hx hb hr (fun t ht hWm => ⟨⟨(b5, t6), rfl, trivial, ⟨by rw [ht]; exact hP9, va_K.moved hWm.alike hK9, hD9⟩⟩, hS.F ht⟩) hS.2.2 dJx4a65c_add_72be8_22

set_option maxHeartbeats 4000000 in
set_option maxRecDepth 100000 in
theorem c_AL_add_X12_0 (l : Launch) {D : va_G} {tE sz : Nat} {q v : Nat} {vs : List Value} : Met l ⟨"java/util/ArrayList", "add", "(Ljava/lang/Object;)Z"⟩ (wsC ⟨"java/util/ArrayList", "add", "(Ljava/lang/Object;)Z"⟩ cJx4a65c_add_9ea2d 2 (some .boolean)) ({ frames := 4, cells := 1, slots := 10, locals := 87 }) (va_Pc [.ref q, .ref v] (gS tE D [(q, .inr (4, [.int 0, .ref tE, .int 0])), (v, .inr (17, vs))] [] sz)) (va_Qi (fun (r : Int32) (_ : Nat × ClassId) => r = 1) (gO D (fun u => [(q, .inr (4, [.int 1, .ref u.1, .int 1])), (u.1, .inl (u.2, 10, .inr (.inr (.inr (.inr (va_up (fun _ => none) 0 (some v))))))), (v, .inr (17, vs))]) (fun u => [(u.2, .object "java/lang/Object")]) (va_A [(q, .inr (4, [.int 0, .ref tE, .int 0])), (v, .inr (17, vs))] sz)) (va_A [(q, .inr (4, [.int 0, .ref tE, .int 0])), (v, .inr (17, vs))] sz)) 1 10 (va_A [(q, .inr (4, [.int 0, .ref tE, .int 0])), (v, .inr (17, vs))] sz) := by
  refine Met.ofW (cc := cJx4a65c_add_9ea2d) (maxL := 2) (ret := (some .boolean)) (by decide) rfl ?_
  intro p e s m args below meth c s₁ B hml hv
  obtain ⟨rfl, hsz, hP, hK, hD0, hG⟩ := hv
  have hx := B.exec
  have hb := B.bytes
  have hr := B.returns
  have hlocks := B.notSynchronized
  have hts := atoms_spec (ws := wsC ⟨"java/util/ArrayList", "add", "(Ljava/lang/Object;)Z"⟩ cJx4a65c_add_9ea2d 2 (some .boolean)) B.pre
  have hta : ∀ w ∈ WA, w.before _ s = true := fun w h => hts w (List.mem_cons_of_mem _ h)
  have hown : s.vm.findClass "java/util/ArrayList" = some m.cls := findClass_of_methodNamed B.named
  subst hsz
  have hD : va_D (va_A [(q, .inr (4, [.int 0, .ref tE, .int 0])), (v, .inr (17, vs))] s.heap.size) [(q, .inr (4, [.int 0, .ref tE, .int 0])), (v, .inr (17, vs))] := hD0.self (sz := s.heap.size)
  generalize hAe : va_A [(q, .inr (4, [.int 0, .ref tE, .int 0])), (v, .inr (17, vs))] s.heap.size = A at hD hG ⊢
  have hA : ∀ q : Nat, s.heap.size ≤ q → A q := fun q h => by rw [← hAe]; exact Or.inr h
  have hS : va_S A s.heap s.heap [] := va_S.rf
  have hP : va_P D vwCl [(q, .inr (4, [.int 0, .ref tE, .int 0])), (v, .inr (17, vs))] s.heap := hP
  have hl := lv_entry ([.ref q, .ref v]) (n := 2) (Nat.le_of_ble_eq_true rfl)
  rw [lg_entry_eq]
  generalize (lg_sl ([.ref q, .ref v]) ++ List.replicate (2 - (lg_sl ([.ref q, .ref v])).length) Slot.unset).toArray = ls at hl ⊢
  have hl : lv_has ls 2 [(0, .ref q), (1, .ref v)] := hl
  refine lv_aload_n hx hb dJx4a65c_add_9ea2d_0 rfl (lv_at hl 0 rfl) ?_
  refine lv_dup hx hb dJx4a65c_add_9ea2d_1 rfl ?_
  refine va_get (D := D) (ci := 4) (v := .int 0) (C := RJx4a65c) (T := TJx4a65c) (N := 3) hx hb hta iwJx4a65c hown hK hP 0 rfl rfl 0 (by decide) (hta _ mw162) (fun x9 h9 => u_same (hta _ mw127) x9 h9) rfl dJx4a65c_add_9ea2d_2 ?_
  refine lv_iconst (v := 1) hx hb dJx4a65c_add_9ea2d_5 (by decide) ?_
  refine lv_iadd hx hb dJx4a65c_add_9ea2d_6 ?_
  refine lv_topi (fun x1 ex1 => ?_)
  obtain rfl : x1 = 1 := ex1.trans (by decide)
  refine va_put (D := D) (ci := 4) (v := .int 1) (ty := .int) (C := RJx4a65c) (T := TJx4a65c) (N := 3) hx hb hta iwJx4a65c tyJx4a65c tyJx4a65c_ok nmJx4a65c hown hK hP hD hS 0 rfl rfl 0 (by decide) (hta _ mw162) (fun x9 h9 => u_same (hta _ mw127) x9 h9) rfl (by decide +kernel) rfl rfl (Nat.le_of_ble_eq_true rfl) dJx4a65c_add_9ea2d_7 (fun H locs hP hD hS => ?_)
  have hP : va_P D vwCl [(q, .inr (4, [.int 1, .ref tE, .int 0])), (v, .inr (17, vs))] H := hP
  have hD : va_D A [(q, .inr (4, [.int 1, .ref tE, .int 0])), (v, .inr (17, vs))] := hD
  refine lv_aload_n hx hb dJx4a65c_add_9ea2d_10 rfl (lv_at hl 0 rfl) ?_
  refine lv_aload_n hx hb dJx4a65c_add_9ea2d_11 rfl (lv_at hl 1 rfl) ?_
  refine lv_aload_n hx hb dJx4a65c_add_9ea2d_12 rfl (lv_at hl 0 rfl) ?_
  refine va_get (D := D) (ci := 4) (v := .ref tE) (C := RJx4a65c) (T := TJx4a65c) (N := 3) hx hb hta iwJx4a65c hown hK hP 0 rfl rfl 1 (by decide) (hta _ mw147) (fun _ h9 => h9) rfl dJx4a65c_add_9ea2d_13 ?_
  refine lv_aload_n hx hb dJx4a65c_add_9ea2d_16 rfl (lv_at hl 0 rfl) ?_
  refine va_get (D := D) (ci := 4) (v := .int 0) (C := RJx4a65c) (T := TJx4a65c) (N := 3) hx hb hta iwJx4a65c hown hK hP 0 rfl rfl 2 (by decide) (hta _ mw122) (fun _ h9 => h9) rfl dJx4a65c_add_9ea2d_17 ?_
  have hPc := hP.sub (ws' := [(q, .inr (4, [.int 1, .ref tE, .int 0])), (v, .inr (17, vs))]) [0, 1] rfl
  have hKc := hK.sub (tys' := []) [] rfl
  have hDc := hD.sub (ws' := [(q, .inr (4, [.int 1, .ref tE, .int 0])), (v, .inr (17, vs))]) [0, 1] (by decide) rfl
  have hFc := va_free (wc := [(q, .inr (4, [.int 1, .ref tE, .int 0])), (v, .inr (17, vs))]) hD hS hA [0, 1] rfl
  refine gJ_v (isC := [0, 1]) (isR := []) (wr := []) (va_runV (As := [.ref v, .ref tE, .int 0]) (rest := []) ⟨hx, hb, hml, hown, hta⟩ (c_AL_addp_X12_0 l ) (cwV 3 hta (gWV mw164 mw165 mw166 mw157 mw163) rfl rfl rfl (by decide +kernel) ⟨Nat.le_of_ble_eq_true rfl, Nat.le_of_ble_eq_true rfl⟩) ⟨gS_blind, va_recv hKc hPc (ci := 4) (q0 := 0) rfl rfl, fun U hU hW => ⟨rfl, by rw [hU], by rw [hU]; exact hPc, va_K.moved hW.alike hKc, hDc.weaken (fun _ _ _ _ => trivial), hG.call hS hU hW hFc⟩⟩ rfl rfl hl.1 rfl (lv_room (Nat.le_of_ble_eq_true rfl)) dJx4a65c_add_9ea2d_20 ⟨Nat.le_of_ble_eq_true rfl, Nat.le_of_ble_eq_true rfl⟩) hP hD hS hK hFc rfl rfl (by decide) (by decide) (fun u3 H locs h4 hP hD hS hK => ?_)
  obtain ⟨b5, t6⟩ := u3
  have hK : va_K D vwCl [(t6, .object "java/lang/Object")] s := hK
  have hP : va_P D vwCl [(q, .inr (4, [.int 1, .ref b5, .int 1])), (b5, .inl (t6, 10, .inr (.inr (.inr (.inr (va_up (fun _ => none) 0 (some v))))))), (v, .inr (17, vs))] H := hP
  have hD : va_D A [(q, .inr (4, [.int 1, .ref b5, .int 1])), (b5, .inl (t6, 10, .inr (.inr (.inr (.inr (va_up (fun _ => none) 0 (some v))))))), (v, .inr (17, vs))] := hD
  refine lv_iconst (v := 1) hx hb dJx4a65c_add_9ea2d_23 (by decide) ?_
  have hP9 := hP.sub (ws' := [(q, .inr (4, [.int 1, .ref b5, .int 1])), (b5, .inl (t6, 10, .inr (.inr (.inr (.inr (va_up (fun _ => none) 0 (some v))))))), (v, .inr (17, vs))]) [0, 1, 2] rfl
  have hD9 := hD.sub (ws' := [(q, .inr (4, [.int 1, .ref b5, .int 1])), (b5, .inl (t6, 10, .inr (.inr (.inr (.inr (va_up (fun _ => none) 0 (some v))))))), (v, .inr (17, vs))]) [0, 1, 2] (by decide) rfl
  have hK9 := hK.sub (tys' := [(t6, .object "java/lang/Object")]) [0] rfl
  refine W.widen (k := 1) (n := 10) (Nat.le_of_ble_eq_true rfl) (Nat.le_of_ble_eq_true rfl) ?_
  exact W.zret (v := 1) (ty := .boolean) hx hb hr (by decide) (fun t ht hWm => ⟨⟨_, (b5, t6), rfl, rfl, ⟨by rw [ht]; exact hP9, va_K.moved hWm.alike hK9, hD9⟩⟩, hS.F ht⟩) hS.2.2 dJx4a65c_add_9ea2d_24

set_option maxHeartbeats 4000000 in
set_option maxRecDepth 100000 in
theorem c_AL_addp_X14_0 (l : Launch) {D : va_G} {tE sz : Nat} {q v : Nat} {vs : List Value} {a : Int32} : Met l ⟨"java/util/ArrayList", "add", "(Ljava/lang/Object;[Ljava/lang/Object;I)V"⟩ (wsC ⟨"java/util/ArrayList", "add", "(Ljava/lang/Object;[Ljava/lang/Object;I)V"⟩ cJx4a65c_add_72be8 4 none) ({ frames := 3, cells := 1, slots := 10, locals := 64 }) (va_Pc [.ref q, .ref v, .ref tE, .int 0] (gS tE D [(q, .inr (4, [.int a, .ref tE, .int 0])), (v, .inr (19, vs))] [] sz)) (va_Qv (fun _ : Nat × ClassId => True) (gO D (fun u => [(q, .inr (4, [.int a, .ref u.1, .int 1])), (u.1, .inl (u.2, 10, .inr (.inr (.inr (.inr (va_up (fun _ => none) 0 (some v))))))), (v, .inr (19, vs))]) (fun u => [(u.2, .object "java/lang/Object")]) (va_A [(q, .inr (4, [.int a, .ref tE, .int 0])), (v, .inr (19, vs))] sz)) (va_A [(q, .inr (4, [.int a, .ref tE, .int 0])), (v, .inr (19, vs))] sz)) 1 10 (va_A [(q, .inr (4, [.int a, .ref tE, .int 0])), (v, .inr (19, vs))] sz) := by
  refine Met.ofW (cc := cJx4a65c_add_72be8) (maxL := 4) (ret := none) (by decide) rfl ?_
  intro p e s m args below meth c s₁ B hml hv
  obtain ⟨rfl, hsz, hP, hK, hD0, hG⟩ := hv
  have hx := B.exec
  have hb := B.bytes
  have hr := B.returns
  have hlocks := B.notSynchronized
  have hts := atoms_spec (ws := wsC ⟨"java/util/ArrayList", "add", "(Ljava/lang/Object;[Ljava/lang/Object;I)V"⟩ cJx4a65c_add_72be8 4 none) B.pre
  have hta : ∀ w ∈ WA, w.before _ s = true := fun w h => hts w (List.mem_cons_of_mem _ h)
  have hown : s.vm.findClass "java/util/ArrayList" = some m.cls := findClass_of_methodNamed B.named
  subst hsz
  have hD : va_D (va_A [(q, .inr (4, [.int a, .ref tE, .int 0])), (v, .inr (19, vs))] s.heap.size) [(q, .inr (4, [.int a, .ref tE, .int 0])), (v, .inr (19, vs))] := hD0.self (sz := s.heap.size)
  generalize hAe : va_A [(q, .inr (4, [.int a, .ref tE, .int 0])), (v, .inr (19, vs))] s.heap.size = A at hD hG ⊢
  have hA : ∀ q : Nat, s.heap.size ≤ q → A q := fun q h => by rw [← hAe]; exact Or.inr h
  have hS : va_S A s.heap s.heap [] := va_S.rf
  have hP : va_P D vwCl [(q, .inr (4, [.int a, .ref tE, .int 0])), (v, .inr (19, vs))] s.heap := hP
  have hl := lv_entry ([.ref q, .ref v, .ref tE, .int 0]) (n := 4) (Nat.le_of_ble_eq_true rfl)
  rw [lg_entry_eq]
  generalize (lg_sl ([.ref q, .ref v, .ref tE, .int 0]) ++ List.replicate (4 - (lg_sl ([.ref q, .ref v, .ref tE, .int 0])).length) Slot.unset).toArray = ls at hl ⊢
  have hl : lv_has ls 4 [(0, .ref q), (1, .ref v), (2, .ref tE), (3, .int 0)] := hl
  refine lv_iload_n hx hb dJx4a65c_add_72be8_0 rfl (lv_at hl 3 rfl) ?_
  refine lv_aload_n hx hb dJx4a65c_add_72be8_1 rfl (lv_at hl 2 rfl) ?_
  refine va_tlen hx hb hG.T hS (v := 0) rfl dJx4a65c_add_72be8_2 ?_
  refine lv_icmp_ne (tgt := 11) hx hb dJx4a65c_add_72be8_3 (by decide) (fun c1 => ?_) (fun c1 => ?_)
  · exact absurd c1 (by decide)
  · skip
    refine lv_aload_n hx hb dJx4a65c_add_72be8_6 rfl (lv_at hl 0 rfl) ?_
    have hPc := hP.sub (ws' := [(q, .inr (4, [.int a, .ref tE, .int 0]))]) [0] rfl
    have hKc := hK.sub (tys' := []) [] rfl
    have hDc := hD.sub (ws' := [(q, .inr (4, [.int a, .ref tE, .int 0]))]) [0] (by decide) rfl
    have hFc := va_free (wc := [(q, .inr (4, [.int a, .ref tE, .int 0]))]) hD hS hA [0] rfl
    refine gJ_q (isC := [0]) (isR := [1]) (wr := [(v, .inr (19, vs))]) (va_runV (As := []) (rest := []) ⟨hx, hb, hml, hown, hta⟩ (c_AL_grow l ) (cwV 0 hta (gWV mw159 mw160 mw161 mw157 mw158) rfl rfl rfl (by decide +kernel) ⟨Nat.le_of_ble_eq_true rfl, Nat.le_of_ble_eq_true rfl⟩) ⟨gS_blind, va_recv hKc hPc (ci := 4) (q0 := 0) rfl rfl, fun U hU hW => ⟨rfl, by rw [hU], by rw [hU]; exact hPc, va_K.moved hW.alike hKc, hDc.weaken (fun _ _ _ _ => trivial), hG.call hS hU hW hFc⟩⟩ rfl rfl hl.1 rfl (lv_room (Nat.le_of_ble_eq_true rfl)) dJx4a65c_add_72be8_7 ⟨Nat.le_of_ble_eq_true rfl, Nat.le_of_ble_eq_true rfl⟩) hP hD hS hK hFc rfl rfl (by decide) (by decide) (fun r2 u3 H locs h4 hP hD hS hK => ?_)
    obtain ⟨b5, t6⟩ := u3
    obtain rfl : r2 = some b5 := h4
    refine W.eq (g2 := F0 m 10 ls [.ref b5]) rfl ?_
    have hK : va_K D vwCl [(t6, .object "java/lang/Object")] s := hK
    have hP : va_P D vwCl [(v, .inr (19, vs)), (q, .inr (4, [.int a, .ref b5, .int 0])), (b5, .inl (t6, 10, .inr (.inr (.inr (.inr (fun _ => none))))))] H := hP
    have hD : va_D A [(v, .inr (19, vs)), (q, .inr (4, [.int a, .ref b5, .int 0])), (b5, .inl (t6, 10, .inr (.inr (.inr (.inr (fun _ => none))))))] := hD
    refine lv_astore_n (lv' := [(2, .ref b5), (0, .ref q), (1, .ref v), (3, .int 0)]) hx hb dJx4a65c_add_72be8_10 rfl hl (by decide) rfl (fun ls hl => ?_)
    refine lv_aload_n hx hb dJx4a65c_add_72be8_11 rfl (lv_at hl 0 rfl) ?_
    refine lv_iload_n hx hb dJx4a65c_add_72be8_12 rfl (lv_at hl 3 rfl) ?_
    refine lv_aload_n hx hb dJx4a65c_add_72be8_13 rfl (lv_at hl 2 rfl) ?_
    refine va_astqO (r := (RX14, TX14, 9)) (E := "java/lang/Object") hx hb hK hP hD hS 2 0 0 19 rfl rfl (hG.C ("FoundrymarkModel$Part", "java/lang/Object") (by decide)) rfl rfl (i := 0) (by unfold vp_in; decide) dJx4a65c_add_72be8_14 (fun H locs hP hD hS => ?_)
    have hP : va_P D vwCl [(v, .inr (19, vs)), (q, .inr (4, [.int a, .ref b5, .int 0])), (b5, .inl (t6, 10, .inr (.inr (.inr (.inr (va_up (fun _ => none) 0 (some v)))))))] H := hP
    have hD : va_D A [(v, .inr (19, vs)), (q, .inr (4, [.int a, .ref b5, .int 0])), (b5, .inl (t6, 10, .inr (.inr (.inr (.inr (va_up (fun _ => none) 0 (some v)))))))] := hD
    refine lv_aload_n hx hb dJx4a65c_add_72be8_15 rfl (lv_at hl 1 rfl) ?_
    refine lv_iload_n hx hb dJx4a65c_add_72be8_16 rfl (lv_at hl 3 rfl) ?_
    refine lv_iconst (v := 1) hx hb dJx4a65c_add_72be8_17 (by decide) ?_
    refine lv_iadd hx hb dJx4a65c_add_72be8_18 ?_
    refine lv_topi (fun x7 ex7 => ?_)
    obtain rfl : x7 = 1 := ex7.trans (by decide)
    refine va_put (D := D) (ci := 4) (v := .int 1) (ty := .int) (C := RJx4a65c) (T := TJx4a65c) (N := 3) hx hb hta iwJx4a65c tyJx4a65c tyJx4a65c_ok nmJx4a65c hown hK hP hD hS 1 rfl rfl 2 (by decide) (hta _ mw122) (fun _ h9 => h9) rfl (by decide +kernel) rfl rfl (Nat.le_of_ble_eq_true rfl) dJx4a65c_add_72be8_19 (fun H locs hP hD hS => ?_)
    have hP : va_P D vwCl [(v, .inr (19, vs)), (q, .inr (4, [.int a, .ref b5, .int 1])), (b5, .inl (t6, 10, .inr (.inr (.inr (.inr (va_up (fun _ => none) 0 (some v)))))))] H := hP
    have hD : va_D A [(v, .inr (19, vs)), (q, .inr (4, [.int a, .ref b5, .int 1])), (b5, .inl (t6, 10, .inr (.inr (.inr (.inr (va_up (fun _ => none) 0 (some v)))))))] := hD
    have hP9 := hP.sub (ws' := [(q, .inr (4, [.int a, .ref b5, .int 1])), (b5, .inl (t6, 10, .inr (.inr (.inr (.inr (va_up (fun _ => none) 0 (some v))))))), (v, .inr (19, vs))]) [1, 2, 0] rfl
    have hD9 := hD.sub (ws' := [(q, .inr (4, [.int a, .ref b5, .int 1])), (b5, .inl (t6, 10, .inr (.inr (.inr (.inr (va_up (fun _ => none) 0 (some v))))))), (v, .inr (19, vs))]) [1, 2, 0] (by decide) rfl
    have hK9 := hK.sub (tys' := [(t6, .object "java/lang/Object")]) [0] rfl
    refine W.widen (k := 1) (n := 10) (Nat.le_of_ble_eq_true rfl) (Nat.le_of_ble_eq_true rfl) ?_
    exact W.vret hx hb hr (fun t ht hWm => ⟨⟨(b5, t6), rfl, trivial, ⟨by rw [ht]; exact hP9, va_K.moved hWm.alike hK9, hD9⟩⟩, hS.F ht⟩) hS.2.2 dJx4a65c_add_72be8_22

set_option maxHeartbeats 4000000 in
set_option maxRecDepth 100000 in
theorem c_AL_add_X14_0 (l : Launch) {D : va_G} {tE sz : Nat} {q v : Nat} {vs : List Value} : Met l ⟨"java/util/ArrayList", "add", "(Ljava/lang/Object;)Z"⟩ (wsC ⟨"java/util/ArrayList", "add", "(Ljava/lang/Object;)Z"⟩ cJx4a65c_add_9ea2d 2 (some .boolean)) ({ frames := 4, cells := 1, slots := 10, locals := 87 }) (va_Pc [.ref q, .ref v] (gS tE D [(q, .inr (4, [.int 0, .ref tE, .int 0])), (v, .inr (19, vs))] [] sz)) (va_Qi (fun (r : Int32) (_ : Nat × ClassId) => r = 1) (gO D (fun u => [(q, .inr (4, [.int 1, .ref u.1, .int 1])), (u.1, .inl (u.2, 10, .inr (.inr (.inr (.inr (va_up (fun _ => none) 0 (some v))))))), (v, .inr (19, vs))]) (fun u => [(u.2, .object "java/lang/Object")]) (va_A [(q, .inr (4, [.int 0, .ref tE, .int 0])), (v, .inr (19, vs))] sz)) (va_A [(q, .inr (4, [.int 0, .ref tE, .int 0])), (v, .inr (19, vs))] sz)) 1 10 (va_A [(q, .inr (4, [.int 0, .ref tE, .int 0])), (v, .inr (19, vs))] sz) := by
  refine Met.ofW (cc := cJx4a65c_add_9ea2d) (maxL := 2) (ret := (some .boolean)) (by decide) rfl ?_
  intro p e s m args below meth c s₁ B hml hv
  obtain ⟨rfl, hsz, hP, hK, hD0, hG⟩ := hv
  have hx := B.exec
  have hb := B.bytes
  have hr := B.returns
  have hlocks := B.notSynchronized
  have hts := atoms_spec (ws := wsC ⟨"java/util/ArrayList", "add", "(Ljava/lang/Object;)Z"⟩ cJx4a65c_add_9ea2d 2 (some .boolean)) B.pre
  have hta : ∀ w ∈ WA, w.before _ s = true := fun w h => hts w (List.mem_cons_of_mem _ h)
  have hown : s.vm.findClass "java/util/ArrayList" = some m.cls := findClass_of_methodNamed B.named
  subst hsz
  have hD : va_D (va_A [(q, .inr (4, [.int 0, .ref tE, .int 0])), (v, .inr (19, vs))] s.heap.size) [(q, .inr (4, [.int 0, .ref tE, .int 0])), (v, .inr (19, vs))] := hD0.self (sz := s.heap.size)
  generalize hAe : va_A [(q, .inr (4, [.int 0, .ref tE, .int 0])), (v, .inr (19, vs))] s.heap.size = A at hD hG ⊢
  have hA : ∀ q : Nat, s.heap.size ≤ q → A q := fun q h => by rw [← hAe]; exact Or.inr h
  have hS : va_S A s.heap s.heap [] := va_S.rf
  have hP : va_P D vwCl [(q, .inr (4, [.int 0, .ref tE, .int 0])), (v, .inr (19, vs))] s.heap := hP
  have hl := lv_entry ([.ref q, .ref v]) (n := 2) (Nat.le_of_ble_eq_true rfl)
  rw [lg_entry_eq]
  generalize (lg_sl ([.ref q, .ref v]) ++ List.replicate (2 - (lg_sl ([.ref q, .ref v])).length) Slot.unset).toArray = ls at hl ⊢
  have hl : lv_has ls 2 [(0, .ref q), (1, .ref v)] := hl
  refine lv_aload_n hx hb dJx4a65c_add_9ea2d_0 rfl (lv_at hl 0 rfl) ?_
  refine lv_dup hx hb dJx4a65c_add_9ea2d_1 rfl ?_
  refine va_get (D := D) (ci := 4) (v := .int 0) (C := RJx4a65c) (T := TJx4a65c) (N := 3) hx hb hta iwJx4a65c hown hK hP 0 rfl rfl 0 (by decide) (hta _ mw162) (fun x9 h9 => u_same (hta _ mw127) x9 h9) rfl dJx4a65c_add_9ea2d_2 ?_
  refine lv_iconst (v := 1) hx hb dJx4a65c_add_9ea2d_5 (by decide) ?_
  refine lv_iadd hx hb dJx4a65c_add_9ea2d_6 ?_
  refine lv_topi (fun x1 ex1 => ?_)
  obtain rfl : x1 = 1 := ex1.trans (by decide)
  refine va_put (D := D) (ci := 4) (v := .int 1) (ty := .int) (C := RJx4a65c) (T := TJx4a65c) (N := 3) hx hb hta iwJx4a65c tyJx4a65c tyJx4a65c_ok nmJx4a65c hown hK hP hD hS 0 rfl rfl 0 (by decide) (hta _ mw162) (fun x9 h9 => u_same (hta _ mw127) x9 h9) rfl (by decide +kernel) rfl rfl (Nat.le_of_ble_eq_true rfl) dJx4a65c_add_9ea2d_7 (fun H locs hP hD hS => ?_)
  have hP : va_P D vwCl [(q, .inr (4, [.int 1, .ref tE, .int 0])), (v, .inr (19, vs))] H := hP
  have hD : va_D A [(q, .inr (4, [.int 1, .ref tE, .int 0])), (v, .inr (19, vs))] := hD
  refine lv_aload_n hx hb dJx4a65c_add_9ea2d_10 rfl (lv_at hl 0 rfl) ?_
  refine lv_aload_n hx hb dJx4a65c_add_9ea2d_11 rfl (lv_at hl 1 rfl) ?_
  refine lv_aload_n hx hb dJx4a65c_add_9ea2d_12 rfl (lv_at hl 0 rfl) ?_
  refine va_get (D := D) (ci := 4) (v := .ref tE) (C := RJx4a65c) (T := TJx4a65c) (N := 3) hx hb hta iwJx4a65c hown hK hP 0 rfl rfl 1 (by decide) (hta _ mw147) (fun _ h9 => h9) rfl dJx4a65c_add_9ea2d_13 ?_
  refine lv_aload_n hx hb dJx4a65c_add_9ea2d_16 rfl (lv_at hl 0 rfl) ?_
  refine va_get (D := D) (ci := 4) (v := .int 0) (C := RJx4a65c) (T := TJx4a65c) (N := 3) hx hb hta iwJx4a65c hown hK hP 0 rfl rfl 2 (by decide) (hta _ mw122) (fun _ h9 => h9) rfl dJx4a65c_add_9ea2d_17 ?_
  have hPc := hP.sub (ws' := [(q, .inr (4, [.int 1, .ref tE, .int 0])), (v, .inr (19, vs))]) [0, 1] rfl
  have hKc := hK.sub (tys' := []) [] rfl
  have hDc := hD.sub (ws' := [(q, .inr (4, [.int 1, .ref tE, .int 0])), (v, .inr (19, vs))]) [0, 1] (by decide) rfl
  have hFc := va_free (wc := [(q, .inr (4, [.int 1, .ref tE, .int 0])), (v, .inr (19, vs))]) hD hS hA [0, 1] rfl
  refine gJ_v (isC := [0, 1]) (isR := []) (wr := []) (va_runV (As := [.ref v, .ref tE, .int 0]) (rest := []) ⟨hx, hb, hml, hown, hta⟩ (c_AL_addp_X14_0 l ) (cwV 3 hta (gWV mw164 mw165 mw166 mw157 mw163) rfl rfl rfl (by decide +kernel) ⟨Nat.le_of_ble_eq_true rfl, Nat.le_of_ble_eq_true rfl⟩) ⟨gS_blind, va_recv hKc hPc (ci := 4) (q0 := 0) rfl rfl, fun U hU hW => ⟨rfl, by rw [hU], by rw [hU]; exact hPc, va_K.moved hW.alike hKc, hDc.weaken (fun _ _ _ _ => trivial), hG.call hS hU hW hFc⟩⟩ rfl rfl hl.1 rfl (lv_room (Nat.le_of_ble_eq_true rfl)) dJx4a65c_add_9ea2d_20 ⟨Nat.le_of_ble_eq_true rfl, Nat.le_of_ble_eq_true rfl⟩) hP hD hS hK hFc rfl rfl (by decide) (by decide) (fun u3 H locs h4 hP hD hS hK => ?_)
  obtain ⟨b5, t6⟩ := u3
  have hK : va_K D vwCl [(t6, .object "java/lang/Object")] s := hK
  have hP : va_P D vwCl [(q, .inr (4, [.int 1, .ref b5, .int 1])), (b5, .inl (t6, 10, .inr (.inr (.inr (.inr (va_up (fun _ => none) 0 (some v))))))), (v, .inr (19, vs))] H := hP
  have hD : va_D A [(q, .inr (4, [.int 1, .ref b5, .int 1])), (b5, .inl (t6, 10, .inr (.inr (.inr (.inr (va_up (fun _ => none) 0 (some v))))))), (v, .inr (19, vs))] := hD
  refine lv_iconst (v := 1) hx hb dJx4a65c_add_9ea2d_23 (by decide) ?_
  have hP9 := hP.sub (ws' := [(q, .inr (4, [.int 1, .ref b5, .int 1])), (b5, .inl (t6, 10, .inr (.inr (.inr (.inr (va_up (fun _ => none) 0 (some v))))))), (v, .inr (19, vs))]) [0, 1, 2] rfl
  have hD9 := hD.sub (ws' := [(q, .inr (4, [.int 1, .ref b5, .int 1])), (b5, .inl (t6, 10, .inr (.inr (.inr (.inr (va_up (fun _ => none) 0 (some v))))))), (v, .inr (19, vs))]) [0, 1, 2] (by decide) rfl
  have hK9 := hK.sub (tys' := [(t6, .object "java/lang/Object")]) [0] rfl
  refine W.widen (k := 1) (n := 10) (Nat.le_of_ble_eq_true rfl) (Nat.le_of_ble_eq_true rfl) ?_
  exact W.zret (v := 1) (ty := .boolean) hx hb hr (by decide) (fun t ht hWm => ⟨⟨_, (b5, t6), rfl, rfl, ⟨by rw [ht]; exact hP9, va_K.moved hWm.alike hK9, hD9⟩⟩, hS.F ht⟩) hS.2.2 dJx4a65c_add_9ea2d_24

set_option maxHeartbeats 4000000 in
set_option maxRecDepth 100000 in
theorem c_AL_addp_Jx4a65c_0 (l : Launch) {D : va_G} {tE sz : Nat} {q v : Nat} {vs : List Value} {a : Int32} : Met l ⟨"java/util/ArrayList", "add", "(Ljava/lang/Object;[Ljava/lang/Object;I)V"⟩ (wsC ⟨"java/util/ArrayList", "add", "(Ljava/lang/Object;[Ljava/lang/Object;I)V"⟩ cJx4a65c_add_72be8 4 none) ({ frames := 3, cells := 1, slots := 10, locals := 64 }) (va_Pc [.ref q, .ref v, .ref tE, .int 0] (gS tE D [(q, .inr (4, [.int a, .ref tE, .int 0])), (v, .inr (4, vs))] [] sz)) (va_Qv (fun _ : Nat × ClassId => True) (gO D (fun u => [(q, .inr (4, [.int a, .ref u.1, .int 1])), (u.1, .inl (u.2, 10, .inr (.inr (.inr (.inr (va_up (fun _ => none) 0 (some v))))))), (v, .inr (4, vs))]) (fun u => [(u.2, .object "java/lang/Object")]) (va_A [(q, .inr (4, [.int a, .ref tE, .int 0])), (v, .inr (4, vs))] sz)) (va_A [(q, .inr (4, [.int a, .ref tE, .int 0])), (v, .inr (4, vs))] sz)) 1 10 (va_A [(q, .inr (4, [.int a, .ref tE, .int 0])), (v, .inr (4, vs))] sz) := by
  refine Met.ofW (cc := cJx4a65c_add_72be8) (maxL := 4) (ret := none) (by decide) rfl ?_
  intro p e s m args below meth c s₁ B hml hv
  obtain ⟨rfl, hsz, hP, hK, hD0, hG⟩ := hv
  have hx := B.exec
  have hb := B.bytes
  have hr := B.returns
  have hlocks := B.notSynchronized
  have hts := atoms_spec (ws := wsC ⟨"java/util/ArrayList", "add", "(Ljava/lang/Object;[Ljava/lang/Object;I)V"⟩ cJx4a65c_add_72be8 4 none) B.pre
  have hta : ∀ w ∈ WA, w.before _ s = true := fun w h => hts w (List.mem_cons_of_mem _ h)
  have hown : s.vm.findClass "java/util/ArrayList" = some m.cls := findClass_of_methodNamed B.named
  subst hsz
  have hD : va_D (va_A [(q, .inr (4, [.int a, .ref tE, .int 0])), (v, .inr (4, vs))] s.heap.size) [(q, .inr (4, [.int a, .ref tE, .int 0])), (v, .inr (4, vs))] := hD0.self (sz := s.heap.size)
  generalize hAe : va_A [(q, .inr (4, [.int a, .ref tE, .int 0])), (v, .inr (4, vs))] s.heap.size = A at hD hG ⊢
  have hA : ∀ q : Nat, s.heap.size ≤ q → A q := fun q h => by rw [← hAe]; exact Or.inr h
  have hS : va_S A s.heap s.heap [] := va_S.rf
  have hP : va_P D vwCl [(q, .inr (4, [.int a, .ref tE, .int 0])), (v, .inr (4, vs))] s.heap := hP
  have hl := lv_entry ([.ref q, .ref v, .ref tE, .int 0]) (n := 4) (Nat.le_of_ble_eq_true rfl)
  rw [lg_entry_eq]
  generalize (lg_sl ([.ref q, .ref v, .ref tE, .int 0]) ++ List.replicate (4 - (lg_sl ([.ref q, .ref v, .ref tE, .int 0])).length) Slot.unset).toArray = ls at hl ⊢
  have hl : lv_has ls 4 [(0, .ref q), (1, .ref v), (2, .ref tE), (3, .int 0)] := hl
  refine lv_iload_n hx hb dJx4a65c_add_72be8_0 rfl (lv_at hl 3 rfl) ?_
  refine lv_aload_n hx hb dJx4a65c_add_72be8_1 rfl (lv_at hl 2 rfl) ?_
  refine va_tlen hx hb hG.T hS (v := 0) rfl dJx4a65c_add_72be8_2 ?_
  refine lv_icmp_ne (tgt := 11) hx hb dJx4a65c_add_72be8_3 (by decide) (fun c1 => ?_) (fun c1 => ?_)
  · exact absurd c1 (by decide)
  · skip
    refine lv_aload_n hx hb dJx4a65c_add_72be8_6 rfl (lv_at hl 0 rfl) ?_
    have hPc := hP.sub (ws' := [(q, .inr (4, [.int a, .ref tE, .int 0]))]) [0] rfl
    have hKc := hK.sub (tys' := []) [] rfl
    have hDc := hD.sub (ws' := [(q, .inr (4, [.int a, .ref tE, .int 0]))]) [0] (by decide) rfl
    have hFc := va_free (wc := [(q, .inr (4, [.int a, .ref tE, .int 0]))]) hD hS hA [0] rfl
    refine gJ_q (isC := [0]) (isR := [1]) (wr := [(v, .inr (4, vs))]) (va_runV (As := []) (rest := []) ⟨hx, hb, hml, hown, hta⟩ (c_AL_grow l ) (cwV 0 hta (gWV mw159 mw160 mw161 mw157 mw158) rfl rfl rfl (by decide +kernel) ⟨Nat.le_of_ble_eq_true rfl, Nat.le_of_ble_eq_true rfl⟩) ⟨gS_blind, va_recv hKc hPc (ci := 4) (q0 := 0) rfl rfl, fun U hU hW => ⟨rfl, by rw [hU], by rw [hU]; exact hPc, va_K.moved hW.alike hKc, hDc.weaken (fun _ _ _ _ => trivial), hG.call hS hU hW hFc⟩⟩ rfl rfl hl.1 rfl (lv_room (Nat.le_of_ble_eq_true rfl)) dJx4a65c_add_72be8_7 ⟨Nat.le_of_ble_eq_true rfl, Nat.le_of_ble_eq_true rfl⟩) hP hD hS hK hFc rfl rfl (by decide) (by decide) (fun r2 u3 H locs h4 hP hD hS hK => ?_)
    obtain ⟨b5, t6⟩ := u3
    obtain rfl : r2 = some b5 := h4
    refine W.eq (g2 := F0 m 10 ls [.ref b5]) rfl ?_
    have hK : va_K D vwCl [(t6, .object "java/lang/Object")] s := hK
    have hP : va_P D vwCl [(v, .inr (4, vs)), (q, .inr (4, [.int a, .ref b5, .int 0])), (b5, .inl (t6, 10, .inr (.inr (.inr (.inr (fun _ => none))))))] H := hP
    have hD : va_D A [(v, .inr (4, vs)), (q, .inr (4, [.int a, .ref b5, .int 0])), (b5, .inl (t6, 10, .inr (.inr (.inr (.inr (fun _ => none))))))] := hD
    refine lv_astore_n (lv' := [(2, .ref b5), (0, .ref q), (1, .ref v), (3, .int 0)]) hx hb dJx4a65c_add_72be8_10 rfl hl (by decide) rfl (fun ls hl => ?_)
    refine lv_aload_n hx hb dJx4a65c_add_72be8_11 rfl (lv_at hl 0 rfl) ?_
    refine lv_iload_n hx hb dJx4a65c_add_72be8_12 rfl (lv_at hl 3 rfl) ?_
    refine lv_aload_n hx hb dJx4a65c_add_72be8_13 rfl (lv_at hl 2 rfl) ?_
    refine va_astqO (r := (RJx4a65c, TJx4a65c, 3)) (E := "java/lang/Object") hx hb hK hP hD hS 2 0 0 4 rfl rfl (hG.C ("java/util/ArrayList", "java/lang/Object") (by decide)) rfl rfl (i := 0) (by unfold vp_in; decide) dJx4a65c_add_72be8_14 (fun H locs hP hD hS => ?_)
    have hP : va_P D vwCl [(v, .inr (4, vs)), (q, .inr (4, [.int a, .ref b5, .int 0])), (b5, .inl (t6, 10, .inr (.inr (.inr (.inr (va_up (fun _ => none) 0 (some v)))))))] H := hP
    have hD : va_D A [(v, .inr (4, vs)), (q, .inr (4, [.int a, .ref b5, .int 0])), (b5, .inl (t6, 10, .inr (.inr (.inr (.inr (va_up (fun _ => none) 0 (some v)))))))] := hD
    refine lv_aload_n hx hb dJx4a65c_add_72be8_15 rfl (lv_at hl 1 rfl) ?_
    refine lv_iload_n hx hb dJx4a65c_add_72be8_16 rfl (lv_at hl 3 rfl) ?_
    refine lv_iconst (v := 1) hx hb dJx4a65c_add_72be8_17 (by decide) ?_
    refine lv_iadd hx hb dJx4a65c_add_72be8_18 ?_
    refine lv_topi (fun x7 ex7 => ?_)
    obtain rfl : x7 = 1 := ex7.trans (by decide)
    refine va_put (D := D) (ci := 4) (v := .int 1) (ty := .int) (C := RJx4a65c) (T := TJx4a65c) (N := 3) hx hb hta iwJx4a65c tyJx4a65c tyJx4a65c_ok nmJx4a65c hown hK hP hD hS 1 rfl rfl 2 (by decide) (hta _ mw122) (fun _ h9 => h9) rfl (by decide +kernel) rfl rfl (Nat.le_of_ble_eq_true rfl) dJx4a65c_add_72be8_19 (fun H locs hP hD hS => ?_)
    have hP : va_P D vwCl [(v, .inr (4, vs)), (q, .inr (4, [.int a, .ref b5, .int 1])), (b5, .inl (t6, 10, .inr (.inr (.inr (.inr (va_up (fun _ => none) 0 (some v)))))))] H := hP
    have hD : va_D A [(v, .inr (4, vs)), (q, .inr (4, [.int a, .ref b5, .int 1])), (b5, .inl (t6, 10, .inr (.inr (.inr (.inr (va_up (fun _ => none) 0 (some v)))))))] := hD
    have hP9 := hP.sub (ws' := [(q, .inr (4, [.int a, .ref b5, .int 1])), (b5, .inl (t6, 10, .inr (.inr (.inr (.inr (va_up (fun _ => none) 0 (some v))))))), (v, .inr (4, vs))]) [1, 2, 0] rfl
    have hD9 := hD.sub (ws' := [(q, .inr (4, [.int a, .ref b5, .int 1])), (b5, .inl (t6, 10, .inr (.inr (.inr (.inr (va_up (fun _ => none) 0 (some v))))))), (v, .inr (4, vs))]) [1, 2, 0] (by decide) rfl
    have hK9 := hK.sub (tys' := [(t6, .object "java/lang/Object")]) [0] rfl
    refine W.widen (k := 1) (n := 10) (Nat.le_of_ble_eq_true rfl) (Nat.le_of_ble_eq_true rfl) ?_
    exact W.vret hx hb hr (fun t ht hWm => ⟨⟨(b5, t6), rfl, trivial, ⟨by rw [ht]; exact hP9, va_K.moved hWm.alike hK9, hD9⟩⟩, hS.F ht⟩) hS.2.2 dJx4a65c_add_72be8_22

set_option maxHeartbeats 4000000 in
set_option maxRecDepth 100000 in
theorem c_AL_add_Jx4a65c_0 (l : Launch) {D : va_G} {tE sz : Nat} {q v : Nat} {vs : List Value} : Met l ⟨"java/util/ArrayList", "add", "(Ljava/lang/Object;)Z"⟩ (wsC ⟨"java/util/ArrayList", "add", "(Ljava/lang/Object;)Z"⟩ cJx4a65c_add_9ea2d 2 (some .boolean)) ({ frames := 4, cells := 1, slots := 10, locals := 87 }) (va_Pc [.ref q, .ref v] (gS tE D [(q, .inr (4, [.int 0, .ref tE, .int 0])), (v, .inr (4, vs))] [] sz)) (va_Qi (fun (r : Int32) (_ : Nat × ClassId) => r = 1) (gO D (fun u => [(q, .inr (4, [.int 1, .ref u.1, .int 1])), (u.1, .inl (u.2, 10, .inr (.inr (.inr (.inr (va_up (fun _ => none) 0 (some v))))))), (v, .inr (4, vs))]) (fun u => [(u.2, .object "java/lang/Object")]) (va_A [(q, .inr (4, [.int 0, .ref tE, .int 0])), (v, .inr (4, vs))] sz)) (va_A [(q, .inr (4, [.int 0, .ref tE, .int 0])), (v, .inr (4, vs))] sz)) 1 10 (va_A [(q, .inr (4, [.int 0, .ref tE, .int 0])), (v, .inr (4, vs))] sz) := by
  refine Met.ofW (cc := cJx4a65c_add_9ea2d) (maxL := 2) (ret := (some .boolean)) (by decide) rfl ?_
  intro p e s m args below meth c s₁ B hml hv
  obtain ⟨rfl, hsz, hP, hK, hD0, hG⟩ := hv
  have hx := B.exec
  have hb := B.bytes
  have hr := B.returns
  have hlocks := B.notSynchronized
  have hts := atoms_spec (ws := wsC ⟨"java/util/ArrayList", "add", "(Ljava/lang/Object;)Z"⟩ cJx4a65c_add_9ea2d 2 (some .boolean)) B.pre
  have hta : ∀ w ∈ WA, w.before _ s = true := fun w h => hts w (List.mem_cons_of_mem _ h)
  have hown : s.vm.findClass "java/util/ArrayList" = some m.cls := findClass_of_methodNamed B.named
  subst hsz
  have hD : va_D (va_A [(q, .inr (4, [.int 0, .ref tE, .int 0])), (v, .inr (4, vs))] s.heap.size) [(q, .inr (4, [.int 0, .ref tE, .int 0])), (v, .inr (4, vs))] := hD0.self (sz := s.heap.size)
  generalize hAe : va_A [(q, .inr (4, [.int 0, .ref tE, .int 0])), (v, .inr (4, vs))] s.heap.size = A at hD hG ⊢
  have hA : ∀ q : Nat, s.heap.size ≤ q → A q := fun q h => by rw [← hAe]; exact Or.inr h
  have hS : va_S A s.heap s.heap [] := va_S.rf
  have hP : va_P D vwCl [(q, .inr (4, [.int 0, .ref tE, .int 0])), (v, .inr (4, vs))] s.heap := hP
  have hl := lv_entry ([.ref q, .ref v]) (n := 2) (Nat.le_of_ble_eq_true rfl)
  rw [lg_entry_eq]
  generalize (lg_sl ([.ref q, .ref v]) ++ List.replicate (2 - (lg_sl ([.ref q, .ref v])).length) Slot.unset).toArray = ls at hl ⊢
  have hl : lv_has ls 2 [(0, .ref q), (1, .ref v)] := hl
  refine lv_aload_n hx hb dJx4a65c_add_9ea2d_0 rfl (lv_at hl 0 rfl) ?_
  refine lv_dup hx hb dJx4a65c_add_9ea2d_1 rfl ?_
  refine va_get (D := D) (ci := 4) (v := .int 0) (C := RJx4a65c) (T := TJx4a65c) (N := 3) hx hb hta iwJx4a65c hown hK hP 0 rfl rfl 0 (by decide) (hta _ mw162) (fun x9 h9 => u_same (hta _ mw127) x9 h9) rfl dJx4a65c_add_9ea2d_2 ?_
  refine lv_iconst (v := 1) hx hb dJx4a65c_add_9ea2d_5 (by decide) ?_
  refine lv_iadd hx hb dJx4a65c_add_9ea2d_6 ?_
  refine lv_topi (fun x1 ex1 => ?_)
  obtain rfl : x1 = 1 := ex1.trans (by decide)
  refine va_put (D := D) (ci := 4) (v := .int 1) (ty := .int) (C := RJx4a65c) (T := TJx4a65c) (N := 3) hx hb hta iwJx4a65c tyJx4a65c tyJx4a65c_ok nmJx4a65c hown hK hP hD hS 0 rfl rfl 0 (by decide) (hta _ mw162) (fun x9 h9 => u_same (hta _ mw127) x9 h9) rfl (by decide +kernel) rfl rfl (Nat.le_of_ble_eq_true rfl) dJx4a65c_add_9ea2d_7 (fun H locs hP hD hS => ?_)
  have hP : va_P D vwCl [(q, .inr (4, [.int 1, .ref tE, .int 0])), (v, .inr (4, vs))] H := hP
  have hD : va_D A [(q, .inr (4, [.int 1, .ref tE, .int 0])), (v, .inr (4, vs))] := hD
  refine lv_aload_n hx hb dJx4a65c_add_9ea2d_10 rfl (lv_at hl 0 rfl) ?_
  refine lv_aload_n hx hb dJx4a65c_add_9ea2d_11 rfl (lv_at hl 1 rfl) ?_
  refine lv_aload_n hx hb dJx4a65c_add_9ea2d_12 rfl (lv_at hl 0 rfl) ?_
  refine va_get (D := D) (ci := 4) (v := .ref tE) (C := RJx4a65c) (T := TJx4a65c) (N := 3) hx hb hta iwJx4a65c hown hK hP 0 rfl rfl 1 (by decide) (hta _ mw147) (fun _ h9 => h9) rfl dJx4a65c_add_9ea2d_13 ?_
  refine lv_aload_n hx hb dJx4a65c_add_9ea2d_16 rfl (lv_at hl 0 rfl) ?_
  refine va_get (D := D) (ci := 4) (v := .int 0) (C := RJx4a65c) (T := TJx4a65c) (N := 3) hx hb hta iwJx4a65c hown hK hP 0 rfl rfl 2 (by decide) (hta _ mw122) (fun _ h9 => h9) rfl dJx4a65c_add_9ea2d_17 ?_
  have hPc := hP.sub (ws' := [(q, .inr (4, [.int 1, .ref tE, .int 0])), (v, .inr (4, vs))]) [0, 1] rfl
  have hKc := hK.sub (tys' := []) [] rfl
  have hDc := hD.sub (ws' := [(q, .inr (4, [.int 1, .ref tE, .int 0])), (v, .inr (4, vs))]) [0, 1] (by decide) rfl
  have hFc := va_free (wc := [(q, .inr (4, [.int 1, .ref tE, .int 0])), (v, .inr (4, vs))]) hD hS hA [0, 1] rfl
  refine gJ_v (isC := [0, 1]) (isR := []) (wr := []) (va_runV (As := [.ref v, .ref tE, .int 0]) (rest := []) ⟨hx, hb, hml, hown, hta⟩ (c_AL_addp_Jx4a65c_0 l ) (cwV 3 hta (gWV mw164 mw165 mw166 mw157 mw163) rfl rfl rfl (by decide +kernel) ⟨Nat.le_of_ble_eq_true rfl, Nat.le_of_ble_eq_true rfl⟩) ⟨gS_blind, va_recv hKc hPc (ci := 4) (q0 := 0) rfl rfl, fun U hU hW => ⟨rfl, by rw [hU], by rw [hU]; exact hPc, va_K.moved hW.alike hKc, hDc.weaken (fun _ _ _ _ => trivial), hG.call hS hU hW hFc⟩⟩ rfl rfl hl.1 rfl (lv_room (Nat.le_of_ble_eq_true rfl)) dJx4a65c_add_9ea2d_20 ⟨Nat.le_of_ble_eq_true rfl, Nat.le_of_ble_eq_true rfl⟩) hP hD hS hK hFc rfl rfl (by decide) (by decide) (fun u3 H locs h4 hP hD hS hK => ?_)
  obtain ⟨b5, t6⟩ := u3
  have hK : va_K D vwCl [(t6, .object "java/lang/Object")] s := hK
  have hP : va_P D vwCl [(q, .inr (4, [.int 1, .ref b5, .int 1])), (b5, .inl (t6, 10, .inr (.inr (.inr (.inr (va_up (fun _ => none) 0 (some v))))))), (v, .inr (4, vs))] H := hP
  have hD : va_D A [(q, .inr (4, [.int 1, .ref b5, .int 1])), (b5, .inl (t6, 10, .inr (.inr (.inr (.inr (va_up (fun _ => none) 0 (some v))))))), (v, .inr (4, vs))] := hD
  refine lv_iconst (v := 1) hx hb dJx4a65c_add_9ea2d_23 (by decide) ?_
  have hP9 := hP.sub (ws' := [(q, .inr (4, [.int 1, .ref b5, .int 1])), (b5, .inl (t6, 10, .inr (.inr (.inr (.inr (va_up (fun _ => none) 0 (some v))))))), (v, .inr (4, vs))]) [0, 1, 2] rfl
  have hD9 := hD.sub (ws' := [(q, .inr (4, [.int 1, .ref b5, .int 1])), (b5, .inl (t6, 10, .inr (.inr (.inr (.inr (va_up (fun _ => none) 0 (some v))))))), (v, .inr (4, vs))]) [0, 1, 2] (by decide) rfl
  have hK9 := hK.sub (tys' := [(t6, .object "java/lang/Object")]) [0] rfl
  refine W.widen (k := 1) (n := 10) (Nat.le_of_ble_eq_true rfl) (Nat.le_of_ble_eq_true rfl) ?_
  exact W.zret (v := 1) (ty := .boolean) hx hb hr (by decide) (fun t ht hWm => ⟨⟨_, (b5, t6), rfl, rfl, ⟨by rw [ht]; exact hP9, va_K.moved hWm.alike hK9, hD9⟩⟩, hS.F ht⟩) hS.2.2 dJx4a65c_add_9ea2d_24

set_option maxHeartbeats 4000000 in
set_option maxRecDepth 100000 in
theorem c_AL_addp_Jx4a65c_1 (l : Launch) {D : va_G} {tE sz : Nat} {q v : Nat} {vs : List Value} {a : Int32} {b : Nat} {t9 : ClassId} {g : Nat → Option Nat} : Met l ⟨"java/util/ArrayList", "add", "(Ljava/lang/Object;[Ljava/lang/Object;I)V"⟩ (wsC ⟨"java/util/ArrayList", "add", "(Ljava/lang/Object;[Ljava/lang/Object;I)V"⟩ cJx4a65c_add_72be8 4 none) ({ frames := 0, cells := 0, slots := 0, locals := 0 }) (va_Pc [.ref q, .ref v, .ref b, .int 1] (gS tE D [(q, .inr (4, [.int a, .ref b, .int 1])), (b, .inl (t9, 10, .inr (.inr (.inr (.inr (g)))))), (v, .inr (4, vs))] [(t9, .object "java/lang/Object")] sz)) (va_Qv (fun _ : Unit => True) (gO D (fun _ => [(q, .inr (4, [.int a, .ref b, .int 2])), (b, .inl (t9, 10, .inr (.inr (.inr (.inr (va_up (g) 1 (some v))))))), (v, .inr (4, vs))]) (fun _ => []) (va_A [(q, .inr (4, [.int a, .ref b, .int 1])), (b, .inl (t9, 10, .inr (.inr (.inr (.inr (g)))))), (v, .inr (4, vs))] sz)) (va_A [(q, .inr (4, [.int a, .ref b, .int 1])), (b, .inl (t9, 10, .inr (.inr (.inr (.inr (g)))))), (v, .inr (4, vs))] sz)) 0 0 (va_A [(q, .inr (4, [.int a, .ref b, .int 1])), (b, .inl (t9, 10, .inr (.inr (.inr (.inr (g)))))), (v, .inr (4, vs))] sz) := by
  refine Met.ofW (cc := cJx4a65c_add_72be8) (maxL := 4) (ret := none) (by decide) rfl ?_
  intro p e s m args below meth c s₁ B hml hv
  obtain ⟨rfl, hsz, hP, hK, hD0, hG⟩ := hv
  have hx := B.exec
  have hb := B.bytes
  have hr := B.returns
  have hlocks := B.notSynchronized
  have hts := atoms_spec (ws := wsC ⟨"java/util/ArrayList", "add", "(Ljava/lang/Object;[Ljava/lang/Object;I)V"⟩ cJx4a65c_add_72be8 4 none) B.pre
  have hta : ∀ w ∈ WA, w.before _ s = true := fun w h => hts w (List.mem_cons_of_mem _ h)
  have hown : s.vm.findClass "java/util/ArrayList" = some m.cls := findClass_of_methodNamed B.named
  subst hsz
  have hD : va_D (va_A [(q, .inr (4, [.int a, .ref b, .int 1])), (b, .inl (t9, 10, .inr (.inr (.inr (.inr (g)))))), (v, .inr (4, vs))] s.heap.size) [(q, .inr (4, [.int a, .ref b, .int 1])), (b, .inl (t9, 10, .inr (.inr (.inr (.inr (g)))))), (v, .inr (4, vs))] := hD0.self (sz := s.heap.size)
  generalize hAe : va_A [(q, .inr (4, [.int a, .ref b, .int 1])), (b, .inl (t9, 10, .inr (.inr (.inr (.inr (g)))))), (v, .inr (4, vs))] s.heap.size = A at hD hG ⊢
  have hA : ∀ q : Nat, s.heap.size ≤ q → A q := fun q h => by rw [← hAe]; exact Or.inr h
  have hS : va_S A s.heap s.heap [] := va_S.rf
  have hP : va_P D vwCl [(q, .inr (4, [.int a, .ref b, .int 1])), (b, .inl (t9, 10, .inr (.inr (.inr (.inr (g)))))), (v, .inr (4, vs))] s.heap := hP
  have hl := lv_entry ([.ref q, .ref v, .ref b, .int 1]) (n := 4) (Nat.le_of_ble_eq_true rfl)
  rw [lg_entry_eq]
  generalize (lg_sl ([.ref q, .ref v, .ref b, .int 1]) ++ List.replicate (4 - (lg_sl ([.ref q, .ref v, .ref b, .int 1])).length) Slot.unset).toArray = ls at hl ⊢
  have hl : lv_has ls 4 [(0, .ref q), (1, .ref v), (2, .ref b), (3, .int 1)] := hl
  refine lv_iload_n hx hb dJx4a65c_add_72be8_0 rfl (lv_at hl 3 rfl) ?_
  refine lv_aload_n hx hb dJx4a65c_add_72be8_1 rfl (lv_at hl 2 rfl) ?_
  refine va_alen hx hb hK hP 1 0 rfl rfl (v := 10) rfl dJx4a65c_add_72be8_2 ?_
  refine lv_icmp_ne (tgt := 11) hx hb dJx4a65c_add_72be8_3 (by decide) (fun c1 => ?_) (fun c1 => ?_)
  · skip
    refine lv_aload_n hx hb dJx4a65c_add_72be8_11 rfl (lv_at hl 2 rfl) ?_
    refine lv_iload_n hx hb dJx4a65c_add_72be8_12 rfl (lv_at hl 3 rfl) ?_
    refine lv_aload_n hx hb dJx4a65c_add_72be8_13 rfl (lv_at hl 1 rfl) ?_
    refine va_astqO (r := (RJx4a65c, TJx4a65c, 3)) (E := "java/lang/Object") hx hb hK hP hD hS 1 0 2 4 rfl rfl (hG.C ("java/util/ArrayList", "java/lang/Object") (by decide)) rfl rfl (i := 1) (by unfold vp_in; decide) dJx4a65c_add_72be8_14 (fun H locs hP hD hS => ?_)
    have hP : va_P D vwCl [(q, .inr (4, [.int a, .ref b, .int 1])), (b, .inl (t9, 10, .inr (.inr (.inr (.inr (va_up (g) 1 (some v))))))), (v, .inr (4, vs))] H := hP
    have hD : va_D A [(q, .inr (4, [.int a, .ref b, .int 1])), (b, .inl (t9, 10, .inr (.inr (.inr (.inr (va_up (g) 1 (some v))))))), (v, .inr (4, vs))] := hD
    refine lv_aload_n hx hb dJx4a65c_add_72be8_15 rfl (lv_at hl 0 rfl) ?_
    refine lv_iload_n hx hb dJx4a65c_add_72be8_16 rfl (lv_at hl 3 rfl) ?_
    refine lv_iconst (v := 1) hx hb dJx4a65c_add_72be8_17 (by decide) ?_
    refine lv_iadd hx hb dJx4a65c_add_72be8_18 ?_
    refine lv_topi (fun x2 ex2 => ?_)
    obtain rfl : x2 = 2 := ex2.trans (by decide)
    refine va_put (D := D) (ci := 4) (v := .int 2) (ty := .int) (C := RJx4a65c) (T := TJx4a65c) (N := 3) hx hb hta iwJx4a65c tyJx4a65c tyJx4a65c_ok nmJx4a65c hown hK hP hD hS 0 rfl rfl 2 (by decide) (hta _ mw122) (fun _ h9 => h9) rfl (by decide +kernel) rfl rfl (Nat.le_of_ble_eq_true rfl) dJx4a65c_add_72be8_19 (fun H locs hP hD hS => ?_)
    have hP : va_P D vwCl [(q, .inr (4, [.int a, .ref b, .int 2])), (b, .inl (t9, 10, .inr (.inr (.inr (.inr (va_up (g) 1 (some v))))))), (v, .inr (4, vs))] H := hP
    have hD : va_D A [(q, .inr (4, [.int a, .ref b, .int 2])), (b, .inl (t9, 10, .inr (.inr (.inr (.inr (va_up (g) 1 (some v))))))), (v, .inr (4, vs))] := hD
    have hP9 := hP.sub (ws' := [(q, .inr (4, [.int a, .ref b, .int 2])), (b, .inl (t9, 10, .inr (.inr (.inr (.inr (va_up (g) 1 (some v))))))), (v, .inr (4, vs))]) [0, 1, 2] rfl
    have hD9 := hD.sub (ws' := [(q, .inr (4, [.int a, .ref b, .int 2])), (b, .inl (t9, 10, .inr (.inr (.inr (.inr (va_up (g) 1 (some v))))))), (v, .inr (4, vs))]) [0, 1, 2] (by decide) rfl
    have hK9 := hK.sub (tys' := []) [] rfl
    refine W.widen (k := 0) (n := 0) (Nat.le_of_ble_eq_true rfl) (Nat.le_of_ble_eq_true rfl) ?_
    exact W.vret hx hb hr (fun t ht hWm => ⟨⟨(), rfl, trivial, ⟨by rw [ht]; exact hP9, va_K.moved hWm.alike hK9, hD9⟩⟩, hS.F ht⟩) hS.2.2 dJx4a65c_add_72be8_22
  · exact absurd c1 (by decide)

set_option maxHeartbeats 4000000 in
set_option maxRecDepth 100000 in
theorem c_AL_add_Jx4a65c_1 (l : Launch) {D : va_G} {tE sz : Nat} {q v : Nat} {vs : List Value} {b : Nat} {t9 : ClassId} {g : Nat → Option Nat} : Met l ⟨"java/util/ArrayList", "add", "(Ljava/lang/Object;)Z"⟩ (wsC ⟨"java/util/ArrayList", "add", "(Ljava/lang/Object;)Z"⟩ cJx4a65c_add_9ea2d 2 (some .boolean)) ({ frames := 1, cells := 0, slots := 0, locals := 23 }) (va_Pc [.ref q, .ref v] (gS tE D [(q, .inr (4, [.int 1, .ref b, .int 1])), (b, .inl (t9, 10, .inr (.inr (.inr (.inr (g)))))), (v, .inr (4, vs))] [(t9, .object "java/lang/Object")] sz)) (va_Qi (fun (r : Int32) (_ : Unit) => r = 1) (gO D (fun _ => [(q, .inr (4, [.int 2, .ref b, .int 2])), (b, .inl (t9, 10, .inr (.inr (.inr (.inr (va_up (g) 1 (some v))))))), (v, .inr (4, vs))]) (fun _ => []) (va_A [(q, .inr (4, [.int 1, .ref b, .int 1])), (b, .inl (t9, 10, .inr (.inr (.inr (.inr (g)))))), (v, .inr (4, vs))] sz)) (va_A [(q, .inr (4, [.int 1, .ref b, .int 1])), (b, .inl (t9, 10, .inr (.inr (.inr (.inr (g)))))), (v, .inr (4, vs))] sz)) 0 0 (va_A [(q, .inr (4, [.int 1, .ref b, .int 1])), (b, .inl (t9, 10, .inr (.inr (.inr (.inr (g)))))), (v, .inr (4, vs))] sz) := by
  refine Met.ofW (cc := cJx4a65c_add_9ea2d) (maxL := 2) (ret := (some .boolean)) (by decide) rfl ?_
  intro p e s m args below meth c s₁ B hml hv
  obtain ⟨rfl, hsz, hP, hK, hD0, hG⟩ := hv
  have hx := B.exec
  have hb := B.bytes
  have hr := B.returns
  have hlocks := B.notSynchronized
  have hts := atoms_spec (ws := wsC ⟨"java/util/ArrayList", "add", "(Ljava/lang/Object;)Z"⟩ cJx4a65c_add_9ea2d 2 (some .boolean)) B.pre
  have hta : ∀ w ∈ WA, w.before _ s = true := fun w h => hts w (List.mem_cons_of_mem _ h)
  have hown : s.vm.findClass "java/util/ArrayList" = some m.cls := findClass_of_methodNamed B.named
  subst hsz
  have hD : va_D (va_A [(q, .inr (4, [.int 1, .ref b, .int 1])), (b, .inl (t9, 10, .inr (.inr (.inr (.inr (g)))))), (v, .inr (4, vs))] s.heap.size) [(q, .inr (4, [.int 1, .ref b, .int 1])), (b, .inl (t9, 10, .inr (.inr (.inr (.inr (g)))))), (v, .inr (4, vs))] := hD0.self (sz := s.heap.size)
  generalize hAe : va_A [(q, .inr (4, [.int 1, .ref b, .int 1])), (b, .inl (t9, 10, .inr (.inr (.inr (.inr (g)))))), (v, .inr (4, vs))] s.heap.size = A at hD hG ⊢
  have hA : ∀ q : Nat, s.heap.size ≤ q → A q := fun q h => by rw [← hAe]; exact Or.inr h
  have hS : va_S A s.heap s.heap [] := va_S.rf
  have hP : va_P D vwCl [(q, .inr (4, [.int 1, .ref b, .int 1])), (b, .inl (t9, 10, .inr (.inr (.inr (.inr (g)))))), (v, .inr (4, vs))] s.heap := hP
  have hl := lv_entry ([.ref q, .ref v]) (n := 2) (Nat.le_of_ble_eq_true rfl)
  rw [lg_entry_eq]
  generalize (lg_sl ([.ref q, .ref v]) ++ List.replicate (2 - (lg_sl ([.ref q, .ref v])).length) Slot.unset).toArray = ls at hl ⊢
  have hl : lv_has ls 2 [(0, .ref q), (1, .ref v)] := hl
  refine lv_aload_n hx hb dJx4a65c_add_9ea2d_0 rfl (lv_at hl 0 rfl) ?_
  refine lv_dup hx hb dJx4a65c_add_9ea2d_1 rfl ?_
  refine va_get (D := D) (ci := 4) (v := .int 1) (C := RJx4a65c) (T := TJx4a65c) (N := 3) hx hb hta iwJx4a65c hown hK hP 0 rfl rfl 0 (by decide) (hta _ mw162) (fun x9 h9 => u_same (hta _ mw127) x9 h9) rfl dJx4a65c_add_9ea2d_2 ?_
  refine lv_iconst (v := 1) hx hb dJx4a65c_add_9ea2d_5 (by decide) ?_
  refine lv_iadd hx hb dJx4a65c_add_9ea2d_6 ?_
  refine lv_topi (fun x1 ex1 => ?_)
  obtain rfl : x1 = 2 := ex1.trans (by decide)
  refine va_put (D := D) (ci := 4) (v := .int 2) (ty := .int) (C := RJx4a65c) (T := TJx4a65c) (N := 3) hx hb hta iwJx4a65c tyJx4a65c tyJx4a65c_ok nmJx4a65c hown hK hP hD hS 0 rfl rfl 0 (by decide) (hta _ mw162) (fun x9 h9 => u_same (hta _ mw127) x9 h9) rfl (by decide +kernel) rfl rfl (Nat.le_of_ble_eq_true rfl) dJx4a65c_add_9ea2d_7 (fun H locs hP hD hS => ?_)
  have hP : va_P D vwCl [(q, .inr (4, [.int 2, .ref b, .int 1])), (b, .inl (t9, 10, .inr (.inr (.inr (.inr (g)))))), (v, .inr (4, vs))] H := hP
  have hD : va_D A [(q, .inr (4, [.int 2, .ref b, .int 1])), (b, .inl (t9, 10, .inr (.inr (.inr (.inr (g)))))), (v, .inr (4, vs))] := hD
  refine lv_aload_n hx hb dJx4a65c_add_9ea2d_10 rfl (lv_at hl 0 rfl) ?_
  refine lv_aload_n hx hb dJx4a65c_add_9ea2d_11 rfl (lv_at hl 1 rfl) ?_
  refine lv_aload_n hx hb dJx4a65c_add_9ea2d_12 rfl (lv_at hl 0 rfl) ?_
  refine va_get (D := D) (ci := 4) (v := .ref b) (C := RJx4a65c) (T := TJx4a65c) (N := 3) hx hb hta iwJx4a65c hown hK hP 0 rfl rfl 1 (by decide) (hta _ mw147) (fun _ h9 => h9) rfl dJx4a65c_add_9ea2d_13 ?_
  refine lv_aload_n hx hb dJx4a65c_add_9ea2d_16 rfl (lv_at hl 0 rfl) ?_
  refine va_get (D := D) (ci := 4) (v := .int 1) (C := RJx4a65c) (T := TJx4a65c) (N := 3) hx hb hta iwJx4a65c hown hK hP 0 rfl rfl 2 (by decide) (hta _ mw122) (fun _ h9 => h9) rfl dJx4a65c_add_9ea2d_17 ?_
  have hPc := hP.sub (ws' := [(q, .inr (4, [.int 2, .ref b, .int 1])), (b, .inl (t9, 10, .inr (.inr (.inr (.inr (g)))))), (v, .inr (4, vs))]) [0, 1, 2] rfl
  have hKc := hK.sub (tys' := [(t9, .object "java/lang/Object")]) [0] rfl
  have hDc := hD.sub (ws' := [(q, .inr (4, [.int 2, .ref b, .int 1])), (b, .inl (t9, 10, .inr (.inr (.inr (.inr (g)))))), (v, .inr (4, vs))]) [0, 1, 2] (by decide) rfl
  have hFc := va_free (wc := [(q, .inr (4, [.int 2, .ref b, .int 1])), (b, .inl (t9, 10, .inr (.inr (.inr (.inr (g)))))), (v, .inr (4, vs))]) hD hS hA [0, 1, 2] rfl
  refine gJ_v (isC := [0, 1, 2]) (isR := []) (wr := []) (va_runV (As := [.ref v, .ref b, .int 1]) (rest := []) ⟨hx, hb, hml, hown, hta⟩ (c_AL_addp_Jx4a65c_1 l ) (cwV 3 hta (gWV mw164 mw165 mw166 mw157 mw163) rfl rfl rfl (by decide +kernel) ⟨Nat.le_of_ble_eq_true rfl, Nat.le_of_ble_eq_true rfl⟩) ⟨gS_blind, va_recv hKc hPc (ci := 4) (q0 := 0) rfl rfl, fun U hU hW => ⟨rfl, by rw [hU], by rw [hU]; exact hPc, va_K.moved hW.alike hKc, hDc.weaken (fun _ _ _ _ => trivial), hG.call hS hU hW hFc⟩⟩ rfl rfl hl.1 rfl (lv_room (Nat.le_of_ble_eq_true rfl)) dJx4a65c_add_9ea2d_20 ⟨Nat.le_of_ble_eq_true rfl, Nat.le_of_ble_eq_true rfl⟩) hP hD hS hK hFc rfl rfl (by decide) (by decide) (fun u3 H locs h4 hP hD hS hK => ?_)
  have hK : va_K D vwCl [(t9, .object "java/lang/Object")] s := hK
  have hP : va_P D vwCl [(q, .inr (4, [.int 2, .ref b, .int 2])), (b, .inl (t9, 10, .inr (.inr (.inr (.inr (va_up (g) 1 (some v))))))), (v, .inr (4, vs))] H := hP
  have hD : va_D A [(q, .inr (4, [.int 2, .ref b, .int 2])), (b, .inl (t9, 10, .inr (.inr (.inr (.inr (va_up (g) 1 (some v))))))), (v, .inr (4, vs))] := hD
  refine lv_iconst (v := 1) hx hb dJx4a65c_add_9ea2d_23 (by decide) ?_
  have hP9 := hP.sub (ws' := [(q, .inr (4, [.int 2, .ref b, .int 2])), (b, .inl (t9, 10, .inr (.inr (.inr (.inr (va_up (g) 1 (some v))))))), (v, .inr (4, vs))]) [0, 1, 2] rfl
  have hD9 := hD.sub (ws' := [(q, .inr (4, [.int 2, .ref b, .int 2])), (b, .inl (t9, 10, .inr (.inr (.inr (.inr (va_up (g) 1 (some v))))))), (v, .inr (4, vs))]) [0, 1, 2] (by decide) rfl
  have hK9 := hK.sub (tys' := []) [] rfl
  refine W.widen (k := 0) (n := 0) (Nat.le_of_ble_eq_true rfl) (Nat.le_of_ble_eq_true rfl) ?_
  exact W.zret (v := 1) (ty := .boolean) hx hb hr (by decide) (fun t ht hWm => ⟨⟨_, (), rfl, rfl, ⟨by rw [ht]; exact hP9, va_K.moved hWm.alike hK9, hD9⟩⟩, hS.F ht⟩) hS.2.2 dJx4a65c_add_9ea2d_24

set_option maxHeartbeats 4000000 in
set_option maxRecDepth 100000 in
theorem c_AL_addp_Jx4a65c_2 (l : Launch) {D : va_G} {tE sz : Nat} {q v : Nat} {vs : List Value} {a : Int32} {b : Nat} {t9 : ClassId} {g : Nat → Option Nat} : Met l ⟨"java/util/ArrayList", "add", "(Ljava/lang/Object;[Ljava/lang/Object;I)V"⟩ (wsC ⟨"java/util/ArrayList", "add", "(Ljava/lang/Object;[Ljava/lang/Object;I)V"⟩ cJx4a65c_add_72be8 4 none) ({ frames := 0, cells := 0, slots := 0, locals := 0 }) (va_Pc [.ref q, .ref v, .ref b, .int 2] (gS tE D [(q, .inr (4, [.int a, .ref b, .int 2])), (b, .inl (t9, 10, .inr (.inr (.inr (.inr (g)))))), (v, .inr (4, vs))] [(t9, .object "java/lang/Object")] sz)) (va_Qv (fun _ : Unit => True) (gO D (fun _ => [(q, .inr (4, [.int a, .ref b, .int 3])), (b, .inl (t9, 10, .inr (.inr (.inr (.inr (va_up (g) 2 (some v))))))), (v, .inr (4, vs))]) (fun _ => []) (va_A [(q, .inr (4, [.int a, .ref b, .int 2])), (b, .inl (t9, 10, .inr (.inr (.inr (.inr (g)))))), (v, .inr (4, vs))] sz)) (va_A [(q, .inr (4, [.int a, .ref b, .int 2])), (b, .inl (t9, 10, .inr (.inr (.inr (.inr (g)))))), (v, .inr (4, vs))] sz)) 0 0 (va_A [(q, .inr (4, [.int a, .ref b, .int 2])), (b, .inl (t9, 10, .inr (.inr (.inr (.inr (g)))))), (v, .inr (4, vs))] sz) := by
  refine Met.ofW (cc := cJx4a65c_add_72be8) (maxL := 4) (ret := none) (by decide) rfl ?_
  intro p e s m args below meth c s₁ B hml hv
  obtain ⟨rfl, hsz, hP, hK, hD0, hG⟩ := hv
  have hx := B.exec
  have hb := B.bytes
  have hr := B.returns
  have hlocks := B.notSynchronized
  have hts := atoms_spec (ws := wsC ⟨"java/util/ArrayList", "add", "(Ljava/lang/Object;[Ljava/lang/Object;I)V"⟩ cJx4a65c_add_72be8 4 none) B.pre
  have hta : ∀ w ∈ WA, w.before _ s = true := fun w h => hts w (List.mem_cons_of_mem _ h)
  have hown : s.vm.findClass "java/util/ArrayList" = some m.cls := findClass_of_methodNamed B.named
  subst hsz
  have hD : va_D (va_A [(q, .inr (4, [.int a, .ref b, .int 2])), (b, .inl (t9, 10, .inr (.inr (.inr (.inr (g)))))), (v, .inr (4, vs))] s.heap.size) [(q, .inr (4, [.int a, .ref b, .int 2])), (b, .inl (t9, 10, .inr (.inr (.inr (.inr (g)))))), (v, .inr (4, vs))] := hD0.self (sz := s.heap.size)
  generalize hAe : va_A [(q, .inr (4, [.int a, .ref b, .int 2])), (b, .inl (t9, 10, .inr (.inr (.inr (.inr (g)))))), (v, .inr (4, vs))] s.heap.size = A at hD hG ⊢
  have hA : ∀ q : Nat, s.heap.size ≤ q → A q := fun q h => by rw [← hAe]; exact Or.inr h
  have hS : va_S A s.heap s.heap [] := va_S.rf
  have hP : va_P D vwCl [(q, .inr (4, [.int a, .ref b, .int 2])), (b, .inl (t9, 10, .inr (.inr (.inr (.inr (g)))))), (v, .inr (4, vs))] s.heap := hP
  have hl := lv_entry ([.ref q, .ref v, .ref b, .int 2]) (n := 4) (Nat.le_of_ble_eq_true rfl)
  rw [lg_entry_eq]
  generalize (lg_sl ([.ref q, .ref v, .ref b, .int 2]) ++ List.replicate (4 - (lg_sl ([.ref q, .ref v, .ref b, .int 2])).length) Slot.unset).toArray = ls at hl ⊢
  have hl : lv_has ls 4 [(0, .ref q), (1, .ref v), (2, .ref b), (3, .int 2)] := hl
  refine lv_iload_n hx hb dJx4a65c_add_72be8_0 rfl (lv_at hl 3 rfl) ?_
  refine lv_aload_n hx hb dJx4a65c_add_72be8_1 rfl (lv_at hl 2 rfl) ?_
  refine va_alen hx hb hK hP 1 0 rfl rfl (v := 10) rfl dJx4a65c_add_72be8_2 ?_
  refine lv_icmp_ne (tgt := 11) hx hb dJx4a65c_add_72be8_3 (by decide) (fun c1 => ?_) (fun c1 => ?_)
  · skip
    refine lv_aload_n hx hb dJx4a65c_add_72be8_11 rfl (lv_at hl 2 rfl) ?_
    refine lv_iload_n hx hb dJx4a65c_add_72be8_12 rfl (lv_at hl 3 rfl) ?_
    refine lv_aload_n hx hb dJx4a65c_add_72be8_13 rfl (lv_at hl 1 rfl) ?_
    refine va_astqO (r := (RJx4a65c, TJx4a65c, 3)) (E := "java/lang/Object") hx hb hK hP hD hS 1 0 2 4 rfl rfl (hG.C ("java/util/ArrayList", "java/lang/Object") (by decide)) rfl rfl (i := 2) (by unfold vp_in; decide) dJx4a65c_add_72be8_14 (fun H locs hP hD hS => ?_)
    have hP : va_P D vwCl [(q, .inr (4, [.int a, .ref b, .int 2])), (b, .inl (t9, 10, .inr (.inr (.inr (.inr (va_up (g) 2 (some v))))))), (v, .inr (4, vs))] H := hP
    have hD : va_D A [(q, .inr (4, [.int a, .ref b, .int 2])), (b, .inl (t9, 10, .inr (.inr (.inr (.inr (va_up (g) 2 (some v))))))), (v, .inr (4, vs))] := hD
    refine lv_aload_n hx hb dJx4a65c_add_72be8_15 rfl (lv_at hl 0 rfl) ?_
    refine lv_iload_n hx hb dJx4a65c_add_72be8_16 rfl (lv_at hl 3 rfl) ?_
    refine lv_iconst (v := 1) hx hb dJx4a65c_add_72be8_17 (by decide) ?_
    refine lv_iadd hx hb dJx4a65c_add_72be8_18 ?_
    refine lv_topi (fun x2 ex2 => ?_)
    obtain rfl : x2 = 3 := ex2.trans (by decide)
    refine va_put (D := D) (ci := 4) (v := .int 3) (ty := .int) (C := RJx4a65c) (T := TJx4a65c) (N := 3) hx hb hta iwJx4a65c tyJx4a65c tyJx4a65c_ok nmJx4a65c hown hK hP hD hS 0 rfl rfl 2 (by decide) (hta _ mw122) (fun _ h9 => h9) rfl (by decide +kernel) rfl rfl (Nat.le_of_ble_eq_true rfl) dJx4a65c_add_72be8_19 (fun H locs hP hD hS => ?_)
    have hP : va_P D vwCl [(q, .inr (4, [.int a, .ref b, .int 3])), (b, .inl (t9, 10, .inr (.inr (.inr (.inr (va_up (g) 2 (some v))))))), (v, .inr (4, vs))] H := hP
    have hD : va_D A [(q, .inr (4, [.int a, .ref b, .int 3])), (b, .inl (t9, 10, .inr (.inr (.inr (.inr (va_up (g) 2 (some v))))))), (v, .inr (4, vs))] := hD
    have hP9 := hP.sub (ws' := [(q, .inr (4, [.int a, .ref b, .int 3])), (b, .inl (t9, 10, .inr (.inr (.inr (.inr (va_up (g) 2 (some v))))))), (v, .inr (4, vs))]) [0, 1, 2] rfl
    have hD9 := hD.sub (ws' := [(q, .inr (4, [.int a, .ref b, .int 3])), (b, .inl (t9, 10, .inr (.inr (.inr (.inr (va_up (g) 2 (some v))))))), (v, .inr (4, vs))]) [0, 1, 2] (by decide) rfl
    have hK9 := hK.sub (tys' := []) [] rfl
    refine W.widen (k := 0) (n := 0) (Nat.le_of_ble_eq_true rfl) (Nat.le_of_ble_eq_true rfl) ?_
    exact W.vret hx hb hr (fun t ht hWm => ⟨⟨(), rfl, trivial, ⟨by rw [ht]; exact hP9, va_K.moved hWm.alike hK9, hD9⟩⟩, hS.F ht⟩) hS.2.2 dJx4a65c_add_72be8_22
  · exact absurd c1 (by decide)

set_option maxHeartbeats 4000000 in
set_option maxRecDepth 100000 in
theorem c_AL_add_Jx4a65c_2 (l : Launch) {D : va_G} {tE sz : Nat} {q v : Nat} {vs : List Value} {b : Nat} {t9 : ClassId} {g : Nat → Option Nat} : Met l ⟨"java/util/ArrayList", "add", "(Ljava/lang/Object;)Z"⟩ (wsC ⟨"java/util/ArrayList", "add", "(Ljava/lang/Object;)Z"⟩ cJx4a65c_add_9ea2d 2 (some .boolean)) ({ frames := 1, cells := 0, slots := 0, locals := 23 }) (va_Pc [.ref q, .ref v] (gS tE D [(q, .inr (4, [.int 2, .ref b, .int 2])), (b, .inl (t9, 10, .inr (.inr (.inr (.inr (g)))))), (v, .inr (4, vs))] [(t9, .object "java/lang/Object")] sz)) (va_Qi (fun (r : Int32) (_ : Unit) => r = 1) (gO D (fun _ => [(q, .inr (4, [.int 3, .ref b, .int 3])), (b, .inl (t9, 10, .inr (.inr (.inr (.inr (va_up (g) 2 (some v))))))), (v, .inr (4, vs))]) (fun _ => []) (va_A [(q, .inr (4, [.int 2, .ref b, .int 2])), (b, .inl (t9, 10, .inr (.inr (.inr (.inr (g)))))), (v, .inr (4, vs))] sz)) (va_A [(q, .inr (4, [.int 2, .ref b, .int 2])), (b, .inl (t9, 10, .inr (.inr (.inr (.inr (g)))))), (v, .inr (4, vs))] sz)) 0 0 (va_A [(q, .inr (4, [.int 2, .ref b, .int 2])), (b, .inl (t9, 10, .inr (.inr (.inr (.inr (g)))))), (v, .inr (4, vs))] sz) := by
  refine Met.ofW (cc := cJx4a65c_add_9ea2d) (maxL := 2) (ret := (some .boolean)) (by decide) rfl ?_
  intro p e s m args below meth c s₁ B hml hv
  obtain ⟨rfl, hsz, hP, hK, hD0, hG⟩ := hv
  have hx := B.exec
  have hb := B.bytes
  have hr := B.returns
  have hlocks := B.notSynchronized
  have hts := atoms_spec (ws := wsC ⟨"java/util/ArrayList", "add", "(Ljava/lang/Object;)Z"⟩ cJx4a65c_add_9ea2d 2 (some .boolean)) B.pre
  have hta : ∀ w ∈ WA, w.before _ s = true := fun w h => hts w (List.mem_cons_of_mem _ h)
  have hown : s.vm.findClass "java/util/ArrayList" = some m.cls := findClass_of_methodNamed B.named
  subst hsz
  have hD : va_D (va_A [(q, .inr (4, [.int 2, .ref b, .int 2])), (b, .inl (t9, 10, .inr (.inr (.inr (.inr (g)))))), (v, .inr (4, vs))] s.heap.size) [(q, .inr (4, [.int 2, .ref b, .int 2])), (b, .inl (t9, 10, .inr (.inr (.inr (.inr (g)))))), (v, .inr (4, vs))] := hD0.self (sz := s.heap.size)
  generalize hAe : va_A [(q, .inr (4, [.int 2, .ref b, .int 2])), (b, .inl (t9, 10, .inr (.inr (.inr (.inr (g)))))), (v, .inr (4, vs))] s.heap.size = A at hD hG ⊢
  have hA : ∀ q : Nat, s.heap.size ≤ q → A q := fun q h => by rw [← hAe]; exact Or.inr h
  have hS : va_S A s.heap s.heap [] := va_S.rf
  have hP : va_P D vwCl [(q, .inr (4, [.int 2, .ref b, .int 2])), (b, .inl (t9, 10, .inr (.inr (.inr (.inr (g)))))), (v, .inr (4, vs))] s.heap := hP
  have hl := lv_entry ([.ref q, .ref v]) (n := 2) (Nat.le_of_ble_eq_true rfl)
  rw [lg_entry_eq]
  generalize (lg_sl ([.ref q, .ref v]) ++ List.replicate (2 - (lg_sl ([.ref q, .ref v])).length) Slot.unset).toArray = ls at hl ⊢
  have hl : lv_has ls 2 [(0, .ref q), (1, .ref v)] := hl
  refine lv_aload_n hx hb dJx4a65c_add_9ea2d_0 rfl (lv_at hl 0 rfl) ?_
  refine lv_dup hx hb dJx4a65c_add_9ea2d_1 rfl ?_
  refine va_get (D := D) (ci := 4) (v := .int 2) (C := RJx4a65c) (T := TJx4a65c) (N := 3) hx hb hta iwJx4a65c hown hK hP 0 rfl rfl 0 (by decide) (hta _ mw162) (fun x9 h9 => u_same (hta _ mw127) x9 h9) rfl dJx4a65c_add_9ea2d_2 ?_
  refine lv_iconst (v := 1) hx hb dJx4a65c_add_9ea2d_5 (by decide) ?_
  refine lv_iadd hx hb dJx4a65c_add_9ea2d_6 ?_
  refine lv_topi (fun x1 ex1 => ?_)
  obtain rfl : x1 = 3 := ex1.trans (by decide)
  refine va_put (D := D) (ci := 4) (v := .int 3) (ty := .int) (C := RJx4a65c) (T := TJx4a65c) (N := 3) hx hb hta iwJx4a65c tyJx4a65c tyJx4a65c_ok nmJx4a65c hown hK hP hD hS 0 rfl rfl 0 (by decide) (hta _ mw162) (fun x9 h9 => u_same (hta _ mw127) x9 h9) rfl (by decide +kernel) rfl rfl (Nat.le_of_ble_eq_true rfl) dJx4a65c_add_9ea2d_7 (fun H locs hP hD hS => ?_)
  have hP : va_P D vwCl [(q, .inr (4, [.int 3, .ref b, .int 2])), (b, .inl (t9, 10, .inr (.inr (.inr (.inr (g)))))), (v, .inr (4, vs))] H := hP
  have hD : va_D A [(q, .inr (4, [.int 3, .ref b, .int 2])), (b, .inl (t9, 10, .inr (.inr (.inr (.inr (g)))))), (v, .inr (4, vs))] := hD
  refine lv_aload_n hx hb dJx4a65c_add_9ea2d_10 rfl (lv_at hl 0 rfl) ?_
  refine lv_aload_n hx hb dJx4a65c_add_9ea2d_11 rfl (lv_at hl 1 rfl) ?_
  refine lv_aload_n hx hb dJx4a65c_add_9ea2d_12 rfl (lv_at hl 0 rfl) ?_
  refine va_get (D := D) (ci := 4) (v := .ref b) (C := RJx4a65c) (T := TJx4a65c) (N := 3) hx hb hta iwJx4a65c hown hK hP 0 rfl rfl 1 (by decide) (hta _ mw147) (fun _ h9 => h9) rfl dJx4a65c_add_9ea2d_13 ?_
  refine lv_aload_n hx hb dJx4a65c_add_9ea2d_16 rfl (lv_at hl 0 rfl) ?_
  refine va_get (D := D) (ci := 4) (v := .int 2) (C := RJx4a65c) (T := TJx4a65c) (N := 3) hx hb hta iwJx4a65c hown hK hP 0 rfl rfl 2 (by decide) (hta _ mw122) (fun _ h9 => h9) rfl dJx4a65c_add_9ea2d_17 ?_
  have hPc := hP.sub (ws' := [(q, .inr (4, [.int 3, .ref b, .int 2])), (b, .inl (t9, 10, .inr (.inr (.inr (.inr (g)))))), (v, .inr (4, vs))]) [0, 1, 2] rfl
  have hKc := hK.sub (tys' := [(t9, .object "java/lang/Object")]) [0] rfl
  have hDc := hD.sub (ws' := [(q, .inr (4, [.int 3, .ref b, .int 2])), (b, .inl (t9, 10, .inr (.inr (.inr (.inr (g)))))), (v, .inr (4, vs))]) [0, 1, 2] (by decide) rfl
  have hFc := va_free (wc := [(q, .inr (4, [.int 3, .ref b, .int 2])), (b, .inl (t9, 10, .inr (.inr (.inr (.inr (g)))))), (v, .inr (4, vs))]) hD hS hA [0, 1, 2] rfl
  refine gJ_v (isC := [0, 1, 2]) (isR := []) (wr := []) (va_runV (As := [.ref v, .ref b, .int 2]) (rest := []) ⟨hx, hb, hml, hown, hta⟩ (c_AL_addp_Jx4a65c_2 l ) (cwV 3 hta (gWV mw164 mw165 mw166 mw157 mw163) rfl rfl rfl (by decide +kernel) ⟨Nat.le_of_ble_eq_true rfl, Nat.le_of_ble_eq_true rfl⟩) ⟨gS_blind, va_recv hKc hPc (ci := 4) (q0 := 0) rfl rfl, fun U hU hW => ⟨rfl, by rw [hU], by rw [hU]; exact hPc, va_K.moved hW.alike hKc, hDc.weaken (fun _ _ _ _ => trivial), hG.call hS hU hW hFc⟩⟩ rfl rfl hl.1 rfl (lv_room (Nat.le_of_ble_eq_true rfl)) dJx4a65c_add_9ea2d_20 ⟨Nat.le_of_ble_eq_true rfl, Nat.le_of_ble_eq_true rfl⟩) hP hD hS hK hFc rfl rfl (by decide) (by decide) (fun u3 H locs h4 hP hD hS hK => ?_)
  have hK : va_K D vwCl [(t9, .object "java/lang/Object")] s := hK
  have hP : va_P D vwCl [(q, .inr (4, [.int 3, .ref b, .int 3])), (b, .inl (t9, 10, .inr (.inr (.inr (.inr (va_up (g) 2 (some v))))))), (v, .inr (4, vs))] H := hP
  have hD : va_D A [(q, .inr (4, [.int 3, .ref b, .int 3])), (b, .inl (t9, 10, .inr (.inr (.inr (.inr (va_up (g) 2 (some v))))))), (v, .inr (4, vs))] := hD
  refine lv_iconst (v := 1) hx hb dJx4a65c_add_9ea2d_23 (by decide) ?_
  have hP9 := hP.sub (ws' := [(q, .inr (4, [.int 3, .ref b, .int 3])), (b, .inl (t9, 10, .inr (.inr (.inr (.inr (va_up (g) 2 (some v))))))), (v, .inr (4, vs))]) [0, 1, 2] rfl
  have hD9 := hD.sub (ws' := [(q, .inr (4, [.int 3, .ref b, .int 3])), (b, .inl (t9, 10, .inr (.inr (.inr (.inr (va_up (g) 2 (some v))))))), (v, .inr (4, vs))]) [0, 1, 2] (by decide) rfl
  have hK9 := hK.sub (tys' := []) [] rfl
  refine W.widen (k := 0) (n := 0) (Nat.le_of_ble_eq_true rfl) (Nat.le_of_ble_eq_true rfl) ?_
  exact W.zret (v := 1) (ty := .boolean) hx hb hr (by decide) (fun t ht hWm => ⟨⟨_, (), rfl, rfl, ⟨by rw [ht]; exact hP9, va_K.moved hWm.alike hK9, hD9⟩⟩, hS.F ht⟩) hS.2.2 dJx4a65c_add_9ea2d_24

set_option maxHeartbeats 4000000 in
set_option maxRecDepth 100000 in
theorem c_AL_addp_Jx4a65c_3 (l : Launch) {D : va_G} {tE sz : Nat} {q v : Nat} {vs : List Value} {a : Int32} {b : Nat} {t9 : ClassId} {g : Nat → Option Nat} : Met l ⟨"java/util/ArrayList", "add", "(Ljava/lang/Object;[Ljava/lang/Object;I)V"⟩ (wsC ⟨"java/util/ArrayList", "add", "(Ljava/lang/Object;[Ljava/lang/Object;I)V"⟩ cJx4a65c_add_72be8 4 none) ({ frames := 0, cells := 0, slots := 0, locals := 0 }) (va_Pc [.ref q, .ref v, .ref b, .int 3] (gS tE D [(q, .inr (4, [.int a, .ref b, .int 3])), (b, .inl (t9, 10, .inr (.inr (.inr (.inr (g)))))), (v, .inr (4, vs))] [(t9, .object "java/lang/Object")] sz)) (va_Qv (fun _ : Unit => True) (gO D (fun _ => [(q, .inr (4, [.int a, .ref b, .int 4])), (b, .inl (t9, 10, .inr (.inr (.inr (.inr (va_up (g) 3 (some v))))))), (v, .inr (4, vs))]) (fun _ => []) (va_A [(q, .inr (4, [.int a, .ref b, .int 3])), (b, .inl (t9, 10, .inr (.inr (.inr (.inr (g)))))), (v, .inr (4, vs))] sz)) (va_A [(q, .inr (4, [.int a, .ref b, .int 3])), (b, .inl (t9, 10, .inr (.inr (.inr (.inr (g)))))), (v, .inr (4, vs))] sz)) 0 0 (va_A [(q, .inr (4, [.int a, .ref b, .int 3])), (b, .inl (t9, 10, .inr (.inr (.inr (.inr (g)))))), (v, .inr (4, vs))] sz) := by
  refine Met.ofW (cc := cJx4a65c_add_72be8) (maxL := 4) (ret := none) (by decide) rfl ?_
  intro p e s m args below meth c s₁ B hml hv
  obtain ⟨rfl, hsz, hP, hK, hD0, hG⟩ := hv
  have hx := B.exec
  have hb := B.bytes
  have hr := B.returns
  have hlocks := B.notSynchronized
  have hts := atoms_spec (ws := wsC ⟨"java/util/ArrayList", "add", "(Ljava/lang/Object;[Ljava/lang/Object;I)V"⟩ cJx4a65c_add_72be8 4 none) B.pre
  have hta : ∀ w ∈ WA, w.before _ s = true := fun w h => hts w (List.mem_cons_of_mem _ h)
  have hown : s.vm.findClass "java/util/ArrayList" = some m.cls := findClass_of_methodNamed B.named
  subst hsz
  have hD : va_D (va_A [(q, .inr (4, [.int a, .ref b, .int 3])), (b, .inl (t9, 10, .inr (.inr (.inr (.inr (g)))))), (v, .inr (4, vs))] s.heap.size) [(q, .inr (4, [.int a, .ref b, .int 3])), (b, .inl (t9, 10, .inr (.inr (.inr (.inr (g)))))), (v, .inr (4, vs))] := hD0.self (sz := s.heap.size)
  generalize hAe : va_A [(q, .inr (4, [.int a, .ref b, .int 3])), (b, .inl (t9, 10, .inr (.inr (.inr (.inr (g)))))), (v, .inr (4, vs))] s.heap.size = A at hD hG ⊢
  have hA : ∀ q : Nat, s.heap.size ≤ q → A q := fun q h => by rw [← hAe]; exact Or.inr h
  have hS : va_S A s.heap s.heap [] := va_S.rf
  have hP : va_P D vwCl [(q, .inr (4, [.int a, .ref b, .int 3])), (b, .inl (t9, 10, .inr (.inr (.inr (.inr (g)))))), (v, .inr (4, vs))] s.heap := hP
  have hl := lv_entry ([.ref q, .ref v, .ref b, .int 3]) (n := 4) (Nat.le_of_ble_eq_true rfl)
  rw [lg_entry_eq]
  generalize (lg_sl ([.ref q, .ref v, .ref b, .int 3]) ++ List.replicate (4 - (lg_sl ([.ref q, .ref v, .ref b, .int 3])).length) Slot.unset).toArray = ls at hl ⊢
  have hl : lv_has ls 4 [(0, .ref q), (1, .ref v), (2, .ref b), (3, .int 3)] := hl
  refine lv_iload_n hx hb dJx4a65c_add_72be8_0 rfl (lv_at hl 3 rfl) ?_
  refine lv_aload_n hx hb dJx4a65c_add_72be8_1 rfl (lv_at hl 2 rfl) ?_
  refine va_alen hx hb hK hP 1 0 rfl rfl (v := 10) rfl dJx4a65c_add_72be8_2 ?_
  refine lv_icmp_ne (tgt := 11) hx hb dJx4a65c_add_72be8_3 (by decide) (fun c1 => ?_) (fun c1 => ?_)
  · skip
    refine lv_aload_n hx hb dJx4a65c_add_72be8_11 rfl (lv_at hl 2 rfl) ?_
    refine lv_iload_n hx hb dJx4a65c_add_72be8_12 rfl (lv_at hl 3 rfl) ?_
    refine lv_aload_n hx hb dJx4a65c_add_72be8_13 rfl (lv_at hl 1 rfl) ?_
    refine va_astqO (r := (RJx4a65c, TJx4a65c, 3)) (E := "java/lang/Object") hx hb hK hP hD hS 1 0 2 4 rfl rfl (hG.C ("java/util/ArrayList", "java/lang/Object") (by decide)) rfl rfl (i := 3) (by unfold vp_in; decide) dJx4a65c_add_72be8_14 (fun H locs hP hD hS => ?_)
    have hP : va_P D vwCl [(q, .inr (4, [.int a, .ref b, .int 3])), (b, .inl (t9, 10, .inr (.inr (.inr (.inr (va_up (g) 3 (some v))))))), (v, .inr (4, vs))] H := hP
    have hD : va_D A [(q, .inr (4, [.int a, .ref b, .int 3])), (b, .inl (t9, 10, .inr (.inr (.inr (.inr (va_up (g) 3 (some v))))))), (v, .inr (4, vs))] := hD
    refine lv_aload_n hx hb dJx4a65c_add_72be8_15 rfl (lv_at hl 0 rfl) ?_
    refine lv_iload_n hx hb dJx4a65c_add_72be8_16 rfl (lv_at hl 3 rfl) ?_
    refine lv_iconst (v := 1) hx hb dJx4a65c_add_72be8_17 (by decide) ?_
    refine lv_iadd hx hb dJx4a65c_add_72be8_18 ?_
    refine lv_topi (fun x2 ex2 => ?_)
    obtain rfl : x2 = 4 := ex2.trans (by decide)
    refine va_put (D := D) (ci := 4) (v := .int 4) (ty := .int) (C := RJx4a65c) (T := TJx4a65c) (N := 3) hx hb hta iwJx4a65c tyJx4a65c tyJx4a65c_ok nmJx4a65c hown hK hP hD hS 0 rfl rfl 2 (by decide) (hta _ mw122) (fun _ h9 => h9) rfl (by decide +kernel) rfl rfl (Nat.le_of_ble_eq_true rfl) dJx4a65c_add_72be8_19 (fun H locs hP hD hS => ?_)
    have hP : va_P D vwCl [(q, .inr (4, [.int a, .ref b, .int 4])), (b, .inl (t9, 10, .inr (.inr (.inr (.inr (va_up (g) 3 (some v))))))), (v, .inr (4, vs))] H := hP
    have hD : va_D A [(q, .inr (4, [.int a, .ref b, .int 4])), (b, .inl (t9, 10, .inr (.inr (.inr (.inr (va_up (g) 3 (some v))))))), (v, .inr (4, vs))] := hD
    have hP9 := hP.sub (ws' := [(q, .inr (4, [.int a, .ref b, .int 4])), (b, .inl (t9, 10, .inr (.inr (.inr (.inr (va_up (g) 3 (some v))))))), (v, .inr (4, vs))]) [0, 1, 2] rfl
    have hD9 := hD.sub (ws' := [(q, .inr (4, [.int a, .ref b, .int 4])), (b, .inl (t9, 10, .inr (.inr (.inr (.inr (va_up (g) 3 (some v))))))), (v, .inr (4, vs))]) [0, 1, 2] (by decide) rfl
    have hK9 := hK.sub (tys' := []) [] rfl
    refine W.widen (k := 0) (n := 0) (Nat.le_of_ble_eq_true rfl) (Nat.le_of_ble_eq_true rfl) ?_
    exact W.vret hx hb hr (fun t ht hWm => ⟨⟨(), rfl, trivial, ⟨by rw [ht]; exact hP9, va_K.moved hWm.alike hK9, hD9⟩⟩, hS.F ht⟩) hS.2.2 dJx4a65c_add_72be8_22
  · exact absurd c1 (by decide)

set_option maxHeartbeats 4000000 in
set_option maxRecDepth 100000 in
theorem c_AL_add_Jx4a65c_3 (l : Launch) {D : va_G} {tE sz : Nat} {q v : Nat} {vs : List Value} {b : Nat} {t9 : ClassId} {g : Nat → Option Nat} : Met l ⟨"java/util/ArrayList", "add", "(Ljava/lang/Object;)Z"⟩ (wsC ⟨"java/util/ArrayList", "add", "(Ljava/lang/Object;)Z"⟩ cJx4a65c_add_9ea2d 2 (some .boolean)) ({ frames := 1, cells := 0, slots := 0, locals := 23 }) (va_Pc [.ref q, .ref v] (gS tE D [(q, .inr (4, [.int 3, .ref b, .int 3])), (b, .inl (t9, 10, .inr (.inr (.inr (.inr (g)))))), (v, .inr (4, vs))] [(t9, .object "java/lang/Object")] sz)) (va_Qi (fun (r : Int32) (_ : Unit) => r = 1) (gO D (fun _ => [(q, .inr (4, [.int 4, .ref b, .int 4])), (b, .inl (t9, 10, .inr (.inr (.inr (.inr (va_up (g) 3 (some v))))))), (v, .inr (4, vs))]) (fun _ => []) (va_A [(q, .inr (4, [.int 3, .ref b, .int 3])), (b, .inl (t9, 10, .inr (.inr (.inr (.inr (g)))))), (v, .inr (4, vs))] sz)) (va_A [(q, .inr (4, [.int 3, .ref b, .int 3])), (b, .inl (t9, 10, .inr (.inr (.inr (.inr (g)))))), (v, .inr (4, vs))] sz)) 0 0 (va_A [(q, .inr (4, [.int 3, .ref b, .int 3])), (b, .inl (t9, 10, .inr (.inr (.inr (.inr (g)))))), (v, .inr (4, vs))] sz) := by
  refine Met.ofW (cc := cJx4a65c_add_9ea2d) (maxL := 2) (ret := (some .boolean)) (by decide) rfl ?_
  intro p e s m args below meth c s₁ B hml hv
  obtain ⟨rfl, hsz, hP, hK, hD0, hG⟩ := hv
  have hx := B.exec
  have hb := B.bytes
  have hr := B.returns
  have hlocks := B.notSynchronized
  have hts := atoms_spec (ws := wsC ⟨"java/util/ArrayList", "add", "(Ljava/lang/Object;)Z"⟩ cJx4a65c_add_9ea2d 2 (some .boolean)) B.pre
  have hta : ∀ w ∈ WA, w.before _ s = true := fun w h => hts w (List.mem_cons_of_mem _ h)
  have hown : s.vm.findClass "java/util/ArrayList" = some m.cls := findClass_of_methodNamed B.named
  subst hsz
  have hD : va_D (va_A [(q, .inr (4, [.int 3, .ref b, .int 3])), (b, .inl (t9, 10, .inr (.inr (.inr (.inr (g)))))), (v, .inr (4, vs))] s.heap.size) [(q, .inr (4, [.int 3, .ref b, .int 3])), (b, .inl (t9, 10, .inr (.inr (.inr (.inr (g)))))), (v, .inr (4, vs))] := hD0.self (sz := s.heap.size)
  generalize hAe : va_A [(q, .inr (4, [.int 3, .ref b, .int 3])), (b, .inl (t9, 10, .inr (.inr (.inr (.inr (g)))))), (v, .inr (4, vs))] s.heap.size = A at hD hG ⊢
  have hA : ∀ q : Nat, s.heap.size ≤ q → A q := fun q h => by rw [← hAe]; exact Or.inr h
  have hS : va_S A s.heap s.heap [] := va_S.rf
  have hP : va_P D vwCl [(q, .inr (4, [.int 3, .ref b, .int 3])), (b, .inl (t9, 10, .inr (.inr (.inr (.inr (g)))))), (v, .inr (4, vs))] s.heap := hP
  have hl := lv_entry ([.ref q, .ref v]) (n := 2) (Nat.le_of_ble_eq_true rfl)
  rw [lg_entry_eq]
  generalize (lg_sl ([.ref q, .ref v]) ++ List.replicate (2 - (lg_sl ([.ref q, .ref v])).length) Slot.unset).toArray = ls at hl ⊢
  have hl : lv_has ls 2 [(0, .ref q), (1, .ref v)] := hl
  refine lv_aload_n hx hb dJx4a65c_add_9ea2d_0 rfl (lv_at hl 0 rfl) ?_
  refine lv_dup hx hb dJx4a65c_add_9ea2d_1 rfl ?_
  refine va_get (D := D) (ci := 4) (v := .int 3) (C := RJx4a65c) (T := TJx4a65c) (N := 3) hx hb hta iwJx4a65c hown hK hP 0 rfl rfl 0 (by decide) (hta _ mw162) (fun x9 h9 => u_same (hta _ mw127) x9 h9) rfl dJx4a65c_add_9ea2d_2 ?_
  refine lv_iconst (v := 1) hx hb dJx4a65c_add_9ea2d_5 (by decide) ?_
  refine lv_iadd hx hb dJx4a65c_add_9ea2d_6 ?_
  refine lv_topi (fun x1 ex1 => ?_)
  obtain rfl : x1 = 4 := ex1.trans (by decide)
  refine va_put (D := D) (ci := 4) (v := .int 4) (ty := .int) (C := RJx4a65c) (T := TJx4a65c) (N := 3) hx hb hta iwJx4a65c tyJx4a65c tyJx4a65c_ok nmJx4a65c hown hK hP hD hS 0 rfl rfl 0 (by decide) (hta _ mw162) (fun x9 h9 => u_same (hta _ mw127) x9 h9) rfl (by decide +kernel) rfl rfl (Nat.le_of_ble_eq_true rfl) dJx4a65c_add_9ea2d_7 (fun H locs hP hD hS => ?_)
  have hP : va_P D vwCl [(q, .inr (4, [.int 4, .ref b, .int 3])), (b, .inl (t9, 10, .inr (.inr (.inr (.inr (g)))))), (v, .inr (4, vs))] H := hP
  have hD : va_D A [(q, .inr (4, [.int 4, .ref b, .int 3])), (b, .inl (t9, 10, .inr (.inr (.inr (.inr (g)))))), (v, .inr (4, vs))] := hD
  refine lv_aload_n hx hb dJx4a65c_add_9ea2d_10 rfl (lv_at hl 0 rfl) ?_
  refine lv_aload_n hx hb dJx4a65c_add_9ea2d_11 rfl (lv_at hl 1 rfl) ?_
  refine lv_aload_n hx hb dJx4a65c_add_9ea2d_12 rfl (lv_at hl 0 rfl) ?_
  refine va_get (D := D) (ci := 4) (v := .ref b) (C := RJx4a65c) (T := TJx4a65c) (N := 3) hx hb hta iwJx4a65c hown hK hP 0 rfl rfl 1 (by decide) (hta _ mw147) (fun _ h9 => h9) rfl dJx4a65c_add_9ea2d_13 ?_
  refine lv_aload_n hx hb dJx4a65c_add_9ea2d_16 rfl (lv_at hl 0 rfl) ?_
  refine va_get (D := D) (ci := 4) (v := .int 3) (C := RJx4a65c) (T := TJx4a65c) (N := 3) hx hb hta iwJx4a65c hown hK hP 0 rfl rfl 2 (by decide) (hta _ mw122) (fun _ h9 => h9) rfl dJx4a65c_add_9ea2d_17 ?_
  have hPc := hP.sub (ws' := [(q, .inr (4, [.int 4, .ref b, .int 3])), (b, .inl (t9, 10, .inr (.inr (.inr (.inr (g)))))), (v, .inr (4, vs))]) [0, 1, 2] rfl
  have hKc := hK.sub (tys' := [(t9, .object "java/lang/Object")]) [0] rfl
  have hDc := hD.sub (ws' := [(q, .inr (4, [.int 4, .ref b, .int 3])), (b, .inl (t9, 10, .inr (.inr (.inr (.inr (g)))))), (v, .inr (4, vs))]) [0, 1, 2] (by decide) rfl
  have hFc := va_free (wc := [(q, .inr (4, [.int 4, .ref b, .int 3])), (b, .inl (t9, 10, .inr (.inr (.inr (.inr (g)))))), (v, .inr (4, vs))]) hD hS hA [0, 1, 2] rfl
  refine gJ_v (isC := [0, 1, 2]) (isR := []) (wr := []) (va_runV (As := [.ref v, .ref b, .int 3]) (rest := []) ⟨hx, hb, hml, hown, hta⟩ (c_AL_addp_Jx4a65c_3 l ) (cwV 3 hta (gWV mw164 mw165 mw166 mw157 mw163) rfl rfl rfl (by decide +kernel) ⟨Nat.le_of_ble_eq_true rfl, Nat.le_of_ble_eq_true rfl⟩) ⟨gS_blind, va_recv hKc hPc (ci := 4) (q0 := 0) rfl rfl, fun U hU hW => ⟨rfl, by rw [hU], by rw [hU]; exact hPc, va_K.moved hW.alike hKc, hDc.weaken (fun _ _ _ _ => trivial), hG.call hS hU hW hFc⟩⟩ rfl rfl hl.1 rfl (lv_room (Nat.le_of_ble_eq_true rfl)) dJx4a65c_add_9ea2d_20 ⟨Nat.le_of_ble_eq_true rfl, Nat.le_of_ble_eq_true rfl⟩) hP hD hS hK hFc rfl rfl (by decide) (by decide) (fun u3 H locs h4 hP hD hS hK => ?_)
  have hK : va_K D vwCl [(t9, .object "java/lang/Object")] s := hK
  have hP : va_P D vwCl [(q, .inr (4, [.int 4, .ref b, .int 4])), (b, .inl (t9, 10, .inr (.inr (.inr (.inr (va_up (g) 3 (some v))))))), (v, .inr (4, vs))] H := hP
  have hD : va_D A [(q, .inr (4, [.int 4, .ref b, .int 4])), (b, .inl (t9, 10, .inr (.inr (.inr (.inr (va_up (g) 3 (some v))))))), (v, .inr (4, vs))] := hD
  refine lv_iconst (v := 1) hx hb dJx4a65c_add_9ea2d_23 (by decide) ?_
  have hP9 := hP.sub (ws' := [(q, .inr (4, [.int 4, .ref b, .int 4])), (b, .inl (t9, 10, .inr (.inr (.inr (.inr (va_up (g) 3 (some v))))))), (v, .inr (4, vs))]) [0, 1, 2] rfl
  have hD9 := hD.sub (ws' := [(q, .inr (4, [.int 4, .ref b, .int 4])), (b, .inl (t9, 10, .inr (.inr (.inr (.inr (va_up (g) 3 (some v))))))), (v, .inr (4, vs))]) [0, 1, 2] (by decide) rfl
  have hK9 := hK.sub (tys' := []) [] rfl
  refine W.widen (k := 0) (n := 0) (Nat.le_of_ble_eq_true rfl) (Nat.le_of_ble_eq_true rfl) ?_
  exact W.zret (v := 1) (ty := .boolean) hx hb hr (by decide) (fun t ht hWm => ⟨⟨_, (), rfl, rfl, ⟨by rw [ht]; exact hP9, va_K.moved hWm.alike hK9, hD9⟩⟩, hS.F ht⟩) hS.2.2 dJx4a65c_add_9ea2d_24
