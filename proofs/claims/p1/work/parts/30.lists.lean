set_option maxHeartbeats 4000000 in
set_option maxRecDepth 100000 in
theorem c_AL_size (l : Launch) {D : va_G} {q : Nat} {a n : Int32} {el : Value} : Met l ⟨"java/util/ArrayList", "size", "()I"⟩ (wsC ⟨"java/util/ArrayList", "size", "()I"⟩ cJx4a65c_size_8abf5 1 (some .int)) ({ frames := 0, cells := 0, slots := 0, locals := 0 }) (va_Pc [.ref q] (gR D [(q, .inr (4, [.int a, el, .int n]))] [])) (vp_Si (fun r => r = n)) 0 0 (fun _ => False) := by
  refine Met.ofW (cc := cJx4a65c_size_8abf5) (maxL := 1) (ret := (some .int)) (by decide) rfl ?_
  intro p e s m args below meth c s₁ B hml hv
  obtain ⟨rfl, hP, hK⟩ := hv
  have hx := B.exec
  have hb := B.bytes
  have hr := B.returns
  have hlocks := B.notSynchronized
  have hts := atoms_spec (ws := wsC ⟨"java/util/ArrayList", "size", "()I"⟩ cJx4a65c_size_8abf5 1 (some .int)) B.pre
  have hta : ∀ w ∈ WA, w.before _ s = true := fun w h => hts w (List.mem_cons_of_mem _ h)
  have hown : s.vm.findClass "java/util/ArrayList" = some m.cls := findClass_of_methodNamed B.named
  have hP : va_P D vwCl [(q, .inr (4, [.int a, el, .int n]))] s.heap := hP
  have hl := lv_entry ([.ref q]) (n := 1) (Nat.le_of_ble_eq_true rfl)
  rw [lg_entry_eq]
  generalize (lg_sl ([.ref q]) ++ List.replicate (1 - (lg_sl ([.ref q])).length) Slot.unset).toArray = ls at hl ⊢
  have hl : lv_has ls 1 [(0, .ref q)] := hl
  refine lv_aload_n hx hb dJx4a65c_size_8abf5_0 rfl (lv_at hl 0 rfl) ?_
  refine va_get (D := D) (ci := 4) (v := .int n) (C := RJx4a65c) (T := TJx4a65c) (N := 3) hx hb hta iwJx4a65c hown hK hP 0 rfl rfl 2 (by decide) (hta _ mw122) (fun _ h9 => h9) rfl dJx4a65c_size_8abf5_1 ?_
  exact W.iret (v := n) hx hb hr (fun t ht hWm => ⟨_, rfl, rfl, ht⟩) (fun q h => absurd h List.not_mem_nil) dJx4a65c_size_8abf5_4

set_option maxHeartbeats 4000000 in
set_option maxRecDepth 100000 in
theorem c_AL_isEmpty (l : Launch) {D : va_G} {q : Nat} {a : Int32} {el : Value} : Met l ⟨"java/util/ArrayList", "isEmpty", "()Z"⟩ (wsC ⟨"java/util/ArrayList", "isEmpty", "()Z"⟩ cJx4a65c_isEmpty_aae02 1 (some .boolean)) ({ frames := 0, cells := 0, slots := 0, locals := 0 }) (va_Pc [.ref q] (gR D [(q, .inr (4, [.int a, el, .int 0]))] [])) (vp_Si (fun r => r = 1)) 0 0 (fun _ => False) := by
  refine Met.ofW (cc := cJx4a65c_isEmpty_aae02) (maxL := 1) (ret := (some .boolean)) (by decide) rfl ?_
  intro p e s m args below meth c s₁ B hml hv
  obtain ⟨rfl, hP, hK⟩ := hv
  have hx := B.exec
  have hb := B.bytes
  have hr := B.returns
  have hlocks := B.notSynchronized
  have hts := atoms_spec (ws := wsC ⟨"java/util/ArrayList", "isEmpty", "()Z"⟩ cJx4a65c_isEmpty_aae02 1 (some .boolean)) B.pre
  have hta : ∀ w ∈ WA, w.before _ s = true := fun w h => hts w (List.mem_cons_of_mem _ h)
  have hown : s.vm.findClass "java/util/ArrayList" = some m.cls := findClass_of_methodNamed B.named
  have hP : va_P D vwCl [(q, .inr (4, [.int a, el, .int 0]))] s.heap := hP
  have hl := lv_entry ([.ref q]) (n := 1) (Nat.le_of_ble_eq_true rfl)
  rw [lg_entry_eq]
  generalize (lg_sl ([.ref q]) ++ List.replicate (1 - (lg_sl ([.ref q])).length) Slot.unset).toArray = ls at hl ⊢
  have hl : lv_has ls 1 [(0, .ref q)] := hl
  refine lv_aload_n hx hb dJx4a65c_isEmpty_aae02_0 rfl (lv_at hl 0 rfl) ?_
  refine va_get (D := D) (ci := 4) (v := .int 0) (C := RJx4a65c) (T := TJx4a65c) (N := 3) hx hb hta iwJx4a65c hown hK hP 0 rfl rfl 2 (by decide) (hta _ mw122) (fun _ h9 => h9) rfl dJx4a65c_isEmpty_aae02_1 ?_
  refine lv_if_ne (tgt := 11) hx hb dJx4a65c_isEmpty_aae02_4 (by decide) (fun c1 => ?_) (fun c1 => ?_)
  · exact absurd c1 (by decide)
  · skip
    refine lv_iconst (v := 1) hx hb dJx4a65c_isEmpty_aae02_7 (by decide) ?_
    refine lv_goto (tgt := 12) hx hb dJx4a65c_isEmpty_aae02_8 (by decide) ?_
    exact W.zret (v := 1) (ty := .boolean) hx hb hr (by decide) (fun t ht hWm => ⟨_, rfl, rfl, ht⟩) (fun q h => absurd h List.not_mem_nil) dJx4a65c_isEmpty_aae02_12

set_option maxHeartbeats 4000000 in
set_option maxRecDepth 100000 in
theorem c_Itr_init (l : Launch) {D : va_G} {tE sz : Nat} {z : Nat} {q : Nat} {a n : Int32} {el : Value} : Met l ⟨"java/util/ArrayList$Itr", "<init>", "(Ljava/util/ArrayList;)V"⟩ (wsC ⟨"java/util/ArrayList$Itr", "<init>", "(Ljava/util/ArrayList;)V"⟩ cJx35411_init_45d68 2 none) ({ frames := 1, cells := 0, slots := 0, locals := 20 }) (va_Pc [.ref z, .ref q] (gS tE D [(z, .inr (3, [.int 0, .int 0, .int 0, .null])), (q, .inr (4, [.int a, el, .int n]))] [] sz)) (va_Qv (fun _ : Unit => True) (gO D (fun _ => [(z, .inr (3, [.int 0, .int (-1), .int a, .ref q])), (q, .inr (4, [.int a, el, .int n]))]) (fun _ => []) (va_A [(z, .inr (3, [.int 0, .int 0, .int 0, .null])), (q, .inr (4, [.int a, el, .int n]))] sz)) (va_A [(z, .inr (3, [.int 0, .int 0, .int 0, .null])), (q, .inr (4, [.int a, el, .int n]))] sz)) 0 0 (va_A [(z, .inr (3, [.int 0, .int 0, .int 0, .null])), (q, .inr (4, [.int a, el, .int n]))] sz) := by
  refine Met.ofW (cc := cJx35411_init_45d68) (maxL := 2) (ret := none) (by decide) rfl ?_
  intro p e s m args below meth c s₁ B hml hv
  obtain ⟨rfl, hsz, hP, hK, hD0, hG⟩ := hv
  have hx := B.exec
  have hb := B.bytes
  have hr := B.returns
  have hlocks := B.notSynchronized
  have hts := atoms_spec (ws := wsC ⟨"java/util/ArrayList$Itr", "<init>", "(Ljava/util/ArrayList;)V"⟩ cJx35411_init_45d68 2 none) B.pre
  have hta : ∀ w ∈ WA, w.before _ s = true := fun w h => hts w (List.mem_cons_of_mem _ h)
  have hown : s.vm.findClass "java/util/ArrayList$Itr" = some m.cls := findClass_of_methodNamed B.named
  have hin : meth.name = "<init>" := (name_of_methodNamed B.named B.method).1
  subst hsz
  have hD : va_D (va_A [(z, .inr (3, [.int 0, .int 0, .int 0, .null])), (q, .inr (4, [.int a, el, .int n]))] s.heap.size) [(z, .inr (3, [.int 0, .int 0, .int 0, .null])), (q, .inr (4, [.int a, el, .int n]))] := hD0.self (sz := s.heap.size)
  generalize hAe : va_A [(z, .inr (3, [.int 0, .int 0, .int 0, .null])), (q, .inr (4, [.int a, el, .int n]))] s.heap.size = A at hD hG ⊢
  have hA : ∀ q : Nat, s.heap.size ≤ q → A q := fun q h => by rw [← hAe]; exact Or.inr h
  have hS : va_S A s.heap s.heap [] := va_S.rf
  have hP : va_P D vwCl [(z, .inr (3, [.int 0, .int 0, .int 0, .null])), (q, .inr (4, [.int a, el, .int n]))] s.heap := hP
  have hl := lv_entry ([.ref z, .ref q]) (n := 2) (Nat.le_of_ble_eq_true rfl)
  rw [lg_entry_eq]
  generalize (lg_sl ([.ref z, .ref q]) ++ List.replicate (2 - (lg_sl ([.ref z, .ref q])).length) Slot.unset).toArray = ls at hl ⊢
  have hl : lv_has ls 2 [(0, .ref z), (1, .ref q)] := hl
  refine lv_aload_n hx hb dJx35411_init_45d68_0 rfl (lv_at hl 0 rfl) ?_
  refine lv_aload_n hx hb dJx35411_init_45d68_1 rfl (lv_at hl 1 rfl) ?_
  refine va_putF (D := D) (ci := 3) (v := .ref q) (ty := .object "java/util/ArrayList") (C := RJx35411) (T := TJx35411) (N := 4) hx hb hta iwJx35411 tyJx35411 tyJx35411_ok nmJx35411 hown hK hP hD hS 0 rfl rfl 3 (by decide) (hta _ mw123) (fun _ h9 => h9) rfl hin rfl (by decide +kernel) rfl rfl (Nat.le_of_ble_eq_true rfl) dJx35411_init_45d68_2 (fun H locs hP hD hS => ?_)
  have hP : va_P D vwCl [(z, .inr (3, [.int 0, .int 0, .int 0, .ref q])), (q, .inr (4, [.int a, el, .int n]))] H := hP
  have hD : va_D A [(z, .inr (3, [.int 0, .int 0, .int 0, .ref q])), (q, .inr (4, [.int a, el, .int n]))] := hD
  refine lv_aload_n hx hb dJx35411_init_45d68_5 rfl (lv_at hl 0 rfl) ?_
  refine W.objInit hx hb hown (hta _ mw124) (hta _ mw66) (hta _ mw67) rfl (by rw [hml]; exact hl.1) rfl dJx35411_init_45d68_6 (Nat.le_of_ble_eq_true rfl) (Nat.le_of_ble_eq_true rfl) ?_
  refine W.eq (g2 := F0 m 9 ls []) rfl ?_
  refine lv_aload_n hx hb dJx35411_init_45d68_9 rfl (lv_at hl 0 rfl) ?_
  refine lv_iconst (v := -1) hx hb dJx35411_init_45d68_10 (by decide) ?_
  refine va_put (D := D) (ci := 3) (v := .int (-1)) (ty := .int) (C := RJx35411) (T := TJx35411) (N := 4) hx hb hta iwJx35411 tyJx35411 tyJx35411_ok nmJx35411 hown hK hP hD hS 0 rfl rfl 1 (by decide) (hta _ mw125) (fun _ h9 => h9) rfl (by decide +kernel) rfl rfl (Nat.le_of_ble_eq_true rfl) dJx35411_init_45d68_11 (fun H locs hP hD hS => ?_)
  have hP : va_P D vwCl [(z, .inr (3, [.int 0, .int (-1), .int 0, .ref q])), (q, .inr (4, [.int a, el, .int n]))] H := hP
  have hD : va_D A [(z, .inr (3, [.int 0, .int (-1), .int 0, .ref q])), (q, .inr (4, [.int a, el, .int n]))] := hD
  refine lv_aload_n hx hb dJx35411_init_45d68_14 rfl (lv_at hl 0 rfl) ?_
  refine lv_aload_n hx hb dJx35411_init_45d68_15 rfl (lv_at hl 0 rfl) ?_
  refine va_get (D := D) (ci := 3) (v := .ref q) (C := RJx35411) (T := TJx35411) (N := 4) hx hb hta iwJx35411 hown hK hP 0 rfl rfl 3 (by decide) (hta _ mw123) (fun _ h9 => h9) rfl dJx35411_init_45d68_16 ?_
  refine va_get (D := D) (ci := 4) (v := .int a) (C := RJx4a65c) (T := TJx4a65c) (N := 3) hx hb hta iwJx4a65c hown hK hP 1 rfl rfl 0 (by decide) (hta _ mw126) (fun x9 h9 => u_same (hta _ mw127) x9 h9) rfl dJx35411_init_45d68_19 ?_
  refine va_put (D := D) (ci := 3) (v := .int a) (ty := .int) (C := RJx35411) (T := TJx35411) (N := 4) hx hb hta iwJx35411 tyJx35411 tyJx35411_ok nmJx35411 hown hK hP hD hS 0 rfl rfl 2 (by decide) (hta _ mw128) (fun _ h9 => h9) rfl (by decide +kernel) rfl rfl (Nat.le_of_ble_eq_true rfl) dJx35411_init_45d68_22 (fun H locs hP hD hS => ?_)
  have hP : va_P D vwCl [(z, .inr (3, [.int 0, .int (-1), .int a, .ref q])), (q, .inr (4, [.int a, el, .int n]))] H := hP
  have hD : va_D A [(z, .inr (3, [.int 0, .int (-1), .int a, .ref q])), (q, .inr (4, [.int a, el, .int n]))] := hD
  have hP9 := hP.sub (ws' := [(z, .inr (3, [.int 0, .int (-1), .int a, .ref q])), (q, .inr (4, [.int a, el, .int n]))]) [0, 1] rfl
  have hD9 := hD.sub (ws' := [(z, .inr (3, [.int 0, .int (-1), .int a, .ref q])), (q, .inr (4, [.int a, el, .int n]))]) [0, 1] (by decide) rfl
  have hK9 := hK.sub (tys' := []) [] rfl
  refine W.widen (k := 0) (n := 0) (Nat.le_of_ble_eq_true rfl) (Nat.le_of_ble_eq_true rfl) ?_
  exact W.vret hx hb hr (fun t ht hWm => ⟨⟨(), rfl, trivial, ⟨by rw [ht]; exact hP9, va_K.moved hWm.alike hK9, hD9⟩⟩, hS.F ht⟩) hS.2.2 dJx35411_init_45d68_25

set_option maxHeartbeats 4000000 in
set_option maxRecDepth 100000 in
theorem c_AL_iterator (l : Launch) {D : va_G} {tE sz : Nat} {q : Nat} {a n : Int32} {el : Value} : Met l ⟨"java/util/ArrayList", "iterator", "()Ljava/util/Iterator;"⟩ (wsC ⟨"java/util/ArrayList", "iterator", "()Ljava/util/Iterator;"⟩ cJx4a65c_iterator_32c93 1 (some (.object "java/util/Iterator"))) ({ frames := 2, cells := 1, slots := 4, locals := 41 }) (va_Pc [.ref q] (gS tE D [(q, .inr (4, [.int a, el, .int n]))] [] sz)) (va_Qq (fun (r : Option Nat) (u : Nat) => r = some u) (gO D (fun u => [(q, .inr (4, [.int a, el, .int n])), (u, .inr (3, [.int 0, .int (-1), .int a, .ref q]))]) (fun _ => []) (va_A [(q, .inr (4, [.int a, el, .int n]))] sz)) (va_A [(q, .inr (4, [.int a, el, .int n]))] sz)) 1 4 (va_A [(q, .inr (4, [.int a, el, .int n]))] sz) := by
  refine Met.ofW (cc := cJx4a65c_iterator_32c93) (maxL := 1) (ret := (some (.object "java/util/Iterator"))) (by decide) rfl ?_
  intro p e s m args below meth c s₁ B hml hv
  obtain ⟨rfl, hsz, hP, hK, hD0, hG⟩ := hv
  have hx := B.exec
  have hb := B.bytes
  have hr := B.returns
  have hlocks := B.notSynchronized
  have hts := atoms_spec (ws := wsC ⟨"java/util/ArrayList", "iterator", "()Ljava/util/Iterator;"⟩ cJx4a65c_iterator_32c93 1 (some (.object "java/util/Iterator"))) B.pre
  have hta : ∀ w ∈ WA, w.before _ s = true := fun w h => hts w (List.mem_cons_of_mem _ h)
  have hown : s.vm.findClass "java/util/ArrayList" = some m.cls := findClass_of_methodNamed B.named
  subst hsz
  have hD : va_D (va_A [(q, .inr (4, [.int a, el, .int n]))] s.heap.size) [(q, .inr (4, [.int a, el, .int n]))] := hD0.self (sz := s.heap.size)
  generalize hAe : va_A [(q, .inr (4, [.int a, el, .int n]))] s.heap.size = A at hD hG ⊢
  have hA : ∀ q : Nat, s.heap.size ≤ q → A q := fun q h => by rw [← hAe]; exact Or.inr h
  have hS : va_S A s.heap s.heap [] := va_S.rf
  have hP : va_P D vwCl [(q, .inr (4, [.int a, el, .int n]))] s.heap := hP
  have hl := lv_entry ([.ref q]) (n := 1) (Nat.le_of_ble_eq_true rfl)
  rw [lg_entry_eq]
  generalize (lg_sl ([.ref q]) ++ List.replicate (1 - (lg_sl ([.ref q])).length) Slot.unset).toArray = ls at hl ⊢
  have hl : lv_has ls 1 [(0, .ref q)] := hl
  refine va_new (ci := 3) (fs := [.int 0, .int 0, .int 0, .null]) (C := RJx35411) (T := TJx35411) (N := 4) hx hb hta iwJx35411 tyJx35411 tyJx35411_ok hown (hta _ mw129) (hta _ mw130) (hta _ mw131) hK hP hD hS hA rfl (fun j hj => by rcases (show j = 0 ∨ j = 1 ∨ j = 2 ∨ j = 3 by omega) with rfl | rfl | rfl | rfl <;> rfl) (Nat.le_of_ble_eq_true rfl) (Nat.le_of_ble_eq_true rfl) dJx4a65c_iterator_32c93_0 (fun q1 H hP hD hS => ?_)
  have hP : va_P D vwCl [(q, .inr (4, [.int a, el, .int n])), (q1, .inr (3, [.int 0, .int 0, .int 0, .null]))] H := hP
  have hD : va_D A [(q, .inr (4, [.int a, el, .int n])), (q1, .inr (3, [.int 0, .int 0, .int 0, .null]))] := hD
  refine lv_dup hx hb dJx4a65c_iterator_32c93_3 rfl ?_
  refine lv_aload_n hx hb dJx4a65c_iterator_32c93_4 rfl (lv_at hl 0 rfl) ?_
  have hPc := hP.sub (ws' := [(q1, .inr (3, [.int 0, .int 0, .int 0, .null])), (q, .inr (4, [.int a, el, .int n]))]) [1, 0] rfl
  have hKc := hK.sub (tys' := []) [] rfl
  have hDc := hD.sub (ws' := [(q1, .inr (3, [.int 0, .int 0, .int 0, .null])), (q, .inr (4, [.int a, el, .int n]))]) [1, 0] (by decide) rfl
  have hFc := va_free (wc := [(q1, .inr (3, [.int 0, .int 0, .int 0, .null])), (q, .inr (4, [.int a, el, .int n]))]) hD hS hA [1, 0] rfl
  refine gJ_v (isC := [1, 0]) (isR := []) (wr := []) (va_runI (As := [.ref q]) (rest := [.ref q1]) ⟨hx, hb, hml, hown, hta⟩ (c_Itr_init l ) (cwI 1 hta (gWI mw132) rfl rfl rfl (hta _ mw131) (hta _ mw133) (hta _ mw134) rfl (by decide +kernel) ⟨Nat.le_of_ble_eq_true rfl, Nat.le_of_ble_eq_true rfl⟩) ⟨gS_blind, fun U hU hW => ⟨rfl, by rw [hU], by rw [hU]; exact hPc, va_K.moved hW.alike hKc, hDc.weaken (fun _ _ _ _ => trivial), hG.call hS hU hW hFc⟩⟩ rfl rfl hl.1 rfl (lv_room (Nat.le_of_ble_eq_true rfl)) dJx4a65c_iterator_32c93_5 ⟨Nat.le_of_ble_eq_true rfl, Nat.le_of_ble_eq_true rfl⟩) hP hD hS hK hFc rfl rfl (by decide) (by decide) (fun u3 H locs h4 hP hD hS hK => ?_)
  have hK : va_K D vwCl [] s := hK
  have hP : va_P D vwCl [(q1, .inr (3, [.int 0, .int (-1), .int a, .ref q])), (q, .inr (4, [.int a, el, .int n]))] H := hP
  have hD : va_D A [(q1, .inr (3, [.int 0, .int (-1), .int a, .ref q])), (q, .inr (4, [.int a, el, .int n]))] := hD
  have hP9 := hP.sub (ws' := [(q, .inr (4, [.int a, el, .int n])), (q1, .inr (3, [.int 0, .int (-1), .int a, .ref q]))]) [1, 0] rfl
  have hD9 := hD.sub (ws' := [(q, .inr (4, [.int a, el, .int n])), (q1, .inr (3, [.int 0, .int (-1), .int a, .ref q]))]) [1, 0] (by decide) rfl
  have hK9 := hK.sub (tys' := []) [] rfl
  refine W.widen (k := 1) (n := 4) (Nat.le_of_ble_eq_true rfl) (Nat.le_of_ble_eq_true rfl) ?_
  exact W.aret (rt := (.object "java/util/Iterator")) hx hb hr (Or.inl ⟨_, rfl⟩) (Or.inr ⟨_, rfl⟩) (fun t ht hWm => ⟨⟨some q1, q1, rfl, rfl, ⟨by rw [ht]; exact hP9, va_K.moved hWm.alike hK9, hD9⟩⟩, hS.F ht⟩) hS.2.2 dJx4a65c_iterator_32c93_8

set_option maxHeartbeats 4000000 in
set_option maxRecDepth 100000 in
theorem c_Itr_hasNext (l : Launch) {D : va_G} {z q : Nat} {r0 e0 a : Int32} {el : Value} : Met l ⟨"java/util/ArrayList$Itr", "hasNext", "()Z"⟩ (wsC ⟨"java/util/ArrayList$Itr", "hasNext", "()Z"⟩ cJx35411_hasNext_aae02 1 (some .boolean)) ({ frames := 0, cells := 0, slots := 0, locals := 0 }) (va_Pc [.ref z] (fun U => gR D [(z, .inr (3, [.int 0, .int r0, .int e0, .ref q])), (q, .inr (4, [.int a, el, .int 0]))] [] U ∧ va_Nw (.fieldLinkNest "java/util/ArrayList$Itr" 28 "java/util/ArrayList" "size" "I" "java/util/ArrayList") U)) (vp_Si (fun r => r = 0)) 0 0 (fun _ => False) := by
  refine Met.ofW (cc := cJx35411_hasNext_aae02) (maxL := 1) (ret := (some .boolean)) (by decide) rfl ?_
  intro p e s m args below meth c s₁ B hml hv
  obtain ⟨rfl, ⟨hP, hK⟩, hNx⟩ := hv
  have hx := B.exec
  have hb := B.bytes
  have hr := B.returns
  have hlocks := B.notSynchronized
  have hts := atoms_spec (ws := wsC ⟨"java/util/ArrayList$Itr", "hasNext", "()Z"⟩ cJx35411_hasNext_aae02 1 (some .boolean)) B.pre
  have hta : ∀ w ∈ WA, w.before _ s = true := fun w h => hts w (List.mem_cons_of_mem _ h)
  have hown : s.vm.findClass "java/util/ArrayList$Itr" = some m.cls := findClass_of_methodNamed B.named
  have hP : va_P D vwCl [(z, .inr (3, [.int 0, .int r0, .int e0, .ref q])), (q, .inr (4, [.int a, el, .int 0]))] s.heap := hP
  have hl := lv_entry ([.ref z]) (n := 1) (Nat.le_of_ble_eq_true rfl)
  rw [lg_entry_eq]
  generalize (lg_sl ([.ref z]) ++ List.replicate (1 - (lg_sl ([.ref z])).length) Slot.unset).toArray = ls at hl ⊢
  have hl : lv_has ls 1 [(0, .ref z)] := hl
  refine lv_aload_n hx hb dJx35411_hasNext_aae02_0 rfl (lv_at hl 0 rfl) ?_
  refine va_get (D := D) (ci := 3) (v := .int 0) (C := RJx35411) (T := TJx35411) (N := 4) hx hb hta iwJx35411 hown hK hP 0 rfl rfl 0 (by decide) (hta _ mw135) (fun _ h9 => h9) rfl dJx35411_hasNext_aae02_1 ?_
  refine lv_aload_n hx hb dJx35411_hasNext_aae02_4 rfl (lv_at hl 0 rfl) ?_
  refine va_get (D := D) (ci := 3) (v := .ref q) (C := RJx35411) (T := TJx35411) (N := 4) hx hb hta iwJx35411 hown hK hP 0 rfl rfl 3 (by decide) (hta _ mw123) (fun _ h9 => h9) rfl dJx35411_hasNext_aae02_5 ?_
  refine va_getN (D := D) (ci := 4) (v := .int 0) (C := RJx4a65c) (T := TJx4a65c) (N := 3) hx hb hta iwJx4a65c hown hK hP 1 rfl rfl 2 (by decide) (va_Nw.use rfl hNx) (fun _ h9 => h9) rfl dJx35411_hasNext_aae02_8 ?_
  refine lv_icmp_eq (tgt := 18) hx hb dJx35411_hasNext_aae02_11 (by decide) (fun c1 => ?_) (fun c1 => ?_)
  · skip
    refine lv_iconst (v := 0) hx hb dJx35411_hasNext_aae02_18 (by decide) ?_
    exact W.zret (v := 0) (ty := .boolean) hx hb hr (by decide) (fun t ht hWm => ⟨_, rfl, rfl, ht⟩) (fun q h => absurd h List.not_mem_nil) dJx35411_hasNext_aae02_19
  · exact absurd (by decide) c1
