/-! the law's methods that call the class (made by wip/gen/spec_w.py) -/
set_option maxHeartbeats 4000000 in
set_option maxRecDepth 100000 in
theorem c_L_partOf (l : Launch) {D : va_G} {tA : Nat → ClassId} {S : St} {ad : Nat → Nat → Nat} {L : List Nat} {f : Nat → va_E} (hR : Rep tA S ad L f) (hW : WT S) {i : Nat} (hi : i < sN S 2 0) : Met l yL_partOf (wsW yL_partOf cL_partOf 3 (some .int) [(0, 5, 6, 32)]) ({ frames := 2, cells := 0, slots := 0, locals := 43 }) (va_Pc [.ref (ad 0 0), .int (nI i)] (gB D tA L f)) (vp_Si (fun r => r = nI (sN S 6 i))) 0 0 (fun _ => False) := by
  refine va_MetW (cc := cL_partOf) (maxL := 3) (ret := (some .int)) (hh := [(0, 5, 6, 32)]) (by decide) rfl ?_
  intro p e s m args below meth c s₁ B hml hv
  obtain ⟨rfl, hP, hK, hD⟩ := hv
  have hx := B.exec
  have hb := B.bytes
  have hr := B.returns
  have hlocks := B.notSynchronized
  have hts9 := atoms_spec (ws := (wsW yL_partOf cL_partOf 3 (some .int) [(0, 5, 6, 32)])) B.pre
  have hta : ∀ w ∈ WA, w.before _ s = true := fun w h => hts9 w (List.mem_cons_of_mem _ h)
  have hown : s.vm.findClass RL = some m.cls := findClass_of_methodNamed B.named
  have hP : va_P D vwCl (va_pl L f) s.heap := hP
  have hl := lv_entry ([.ref (ad 0 0), .int (nI i)]) (n := 3) (Nat.le_of_ble_eq_true rfl)
  rw [lg_entry_eq]
  generalize (lg_sl ([.ref (ad 0 0), .int (nI i)]) ++ List.replicate (3 - (lg_sl ([.ref (ad 0 0), .int (nI i)])).length) Slot.unset).toArray = ls at hl ⊢
  have hl : lv_has ls 3 [(0, .ref (ad 0 0)), (1, .int (nI i))] := hl
  refine lv_aload_n hx hb dL_partOf_0 rfl (lv_at hl 0 rfl) ?_
  refine lv_iload_n hx hb dL_partOf_1 rfl (lv_at hl 1 rfl) ?_
  obtain ⟨q1, e2⟩ := cell_0 hR (rfl : (0 : Nat) = 0)
  refine gro_i (ci := 12) (As := [.int (nI i)]) (rest := []) ⟨hx, hb, hml, hown, hta⟩ (c_X10_partOf l hR hW hi) (cwV 1 hta (gWV mw767 mw768 mw769 mw40 mw770) rfl rfl rfl (by decide +kernel) ⟨Nat.le_of_ble_eq_true rfl, Nat.le_of_ble_eq_true rfl⟩) hK hP hD rfl e2 rfl hl.1 rfl (Nat.le_of_ble_eq_true rfl) dL_partOf_2 ⟨Nat.zero_le _, Nat.zero_le _⟩ (fun r3 c4 => ?_)
  obtain rfl := c4
  exact W.iret (v := (nI (sN S 6 i))) hx hb hr (fun t ht hWm => ⟨_, rfl, rfl, ht⟩) (fun q h => absurd h List.not_mem_nil) dL_partOf_5

set_option maxHeartbeats 4000000 in
set_option maxRecDepth 100000 in
theorem c_L_rest (l : Launch) {D : va_G} {tA : Nat → ClassId} {S : St} {ad : Nat → Nat → Nat} {L : List Nat} {f : Nat → va_E} (hR : Rep tA S ad L f) (hW : WT S) {i : Nat} (hi : i < sN S 2 0) : Met l yL_rest (wsW yL_rest cL_rest 3 (some .int) [(0, 5, 6, 32)]) ({ frames := 2, cells := 0, slots := 0, locals := 43 }) (va_Pc [.ref (ad 0 0), .int (nI i)] (gB D tA L f)) (vp_Si (fun r => r = sI S 41 i)) 0 0 (fun _ => False) := by
  refine va_MetW (cc := cL_rest) (maxL := 3) (ret := (some .int)) (hh := [(0, 5, 6, 32)]) (by decide) rfl ?_
  intro p e s m args below meth c s₁ B hml hv
  obtain ⟨rfl, hP, hK, hD⟩ := hv
  have hx := B.exec
  have hb := B.bytes
  have hr := B.returns
  have hlocks := B.notSynchronized
  have hts9 := atoms_spec (ws := (wsW yL_rest cL_rest 3 (some .int) [(0, 5, 6, 32)])) B.pre
  have hta : ∀ w ∈ WA, w.before _ s = true := fun w h => hts9 w (List.mem_cons_of_mem _ h)
  have hown : s.vm.findClass RL = some m.cls := findClass_of_methodNamed B.named
  have hP : va_P D vwCl (va_pl L f) s.heap := hP
  have hl := lv_entry ([.ref (ad 0 0), .int (nI i)]) (n := 3) (Nat.le_of_ble_eq_true rfl)
  rw [lg_entry_eq]
  generalize (lg_sl ([.ref (ad 0 0), .int (nI i)]) ++ List.replicate (3 - (lg_sl ([.ref (ad 0 0), .int (nI i)])).length) Slot.unset).toArray = ls at hl ⊢
  have hl : lv_has ls 3 [(0, .ref (ad 0 0)), (1, .int (nI i))] := hl
  refine lv_aload_n hx hb dL_rest_0 rfl (lv_at hl 0 rfl) ?_
  refine lv_iload_n hx hb dL_rest_1 rfl (lv_at hl 1 rfl) ?_
  obtain ⟨q1, e2⟩ := cell_0 hR (rfl : (0 : Nat) = 0)
  refine gro_i (ci := 12) (As := [.int (nI i)]) (rest := []) ⟨hx, hb, hml, hown, hta⟩ (c_X10_rest l hR hW hi) (cwV 1 hta (gWV mw480 mw481 mw482 mw40 mw483) rfl rfl rfl (by decide +kernel) ⟨Nat.le_of_ble_eq_true rfl, Nat.le_of_ble_eq_true rfl⟩) hK hP hD rfl e2 rfl hl.1 rfl (Nat.le_of_ble_eq_true rfl) dL_rest_2 ⟨Nat.zero_le _, Nat.zero_le _⟩ (fun r3 c4 => ?_)
  obtain rfl := c4
  exact W.iret (v := (sI S 41 i)) hx hb hr (fun t ht hWm => ⟨_, rfl, rfl, ht⟩) (fun q h => absurd h List.not_mem_nil) dL_rest_5

set_option maxHeartbeats 4000000 in
set_option maxRecDepth 100000 in
theorem c_L_reserved (l : Launch) {D : va_G} {tA : Nat → ClassId} {S : St} {ad : Nat → Nat → Nat} {L : List Nat} {f : Nat → va_E} (hR : Rep tA S ad L f) (hW : WT S) {i : Nat} (hi : i < sN S 2 0) : Met l yL_reserved (wsW yL_reserved cL_reserved 3 (some .int) [(0, 5, 6, 32)]) ({ frames := 2, cells := 0, slots := 0, locals := 43 }) (va_Pc [.ref (ad 0 0), .int (nI i)] (gB D tA L f)) (vp_Si (fun r => r = sI S 42 i)) 0 0 (fun _ => False) := by
  refine va_MetW (cc := cL_reserved) (maxL := 3) (ret := (some .int)) (hh := [(0, 5, 6, 32)]) (by decide) rfl ?_
  intro p e s m args below meth c s₁ B hml hv
  obtain ⟨rfl, hP, hK, hD⟩ := hv
  have hx := B.exec
  have hb := B.bytes
  have hr := B.returns
  have hlocks := B.notSynchronized
  have hts9 := atoms_spec (ws := (wsW yL_reserved cL_reserved 3 (some .int) [(0, 5, 6, 32)])) B.pre
  have hta : ∀ w ∈ WA, w.before _ s = true := fun w h => hts9 w (List.mem_cons_of_mem _ h)
  have hown : s.vm.findClass RL = some m.cls := findClass_of_methodNamed B.named
  have hP : va_P D vwCl (va_pl L f) s.heap := hP
  have hl := lv_entry ([.ref (ad 0 0), .int (nI i)]) (n := 3) (Nat.le_of_ble_eq_true rfl)
  rw [lg_entry_eq]
  generalize (lg_sl ([.ref (ad 0 0), .int (nI i)]) ++ List.replicate (3 - (lg_sl ([.ref (ad 0 0), .int (nI i)])).length) Slot.unset).toArray = ls at hl ⊢
  have hl : lv_has ls 3 [(0, .ref (ad 0 0)), (1, .int (nI i))] := hl
  refine lv_aload_n hx hb dL_reserved_0 rfl (lv_at hl 0 rfl) ?_
  refine lv_iload_n hx hb dL_reserved_1 rfl (lv_at hl 1 rfl) ?_
  obtain ⟨q1, e2⟩ := cell_0 hR (rfl : (0 : Nat) = 0)
  refine gro_i (ci := 12) (As := [.int (nI i)]) (rest := []) ⟨hx, hb, hml, hown, hta⟩ (c_X10_reserved l hR hW hi) (cwV 1 hta (gWV mw487 mw488 mw489 mw40 mw490) rfl rfl rfl (by decide +kernel) ⟨Nat.le_of_ble_eq_true rfl, Nat.le_of_ble_eq_true rfl⟩) hK hP hD rfl e2 rfl hl.1 rfl (Nat.le_of_ble_eq_true rfl) dL_reserved_2 ⟨Nat.zero_le _, Nat.zero_le _⟩ (fun r3 c4 => ?_)
  obtain rfl := c4
  exact W.iret (v := (sI S 42 i)) hx hb hr (fun t ht hWm => ⟨_, rfl, rfl, ht⟩) (fun q h => absurd h List.not_mem_nil) dL_reserved_5

set_option maxHeartbeats 4000000 in
set_option maxRecDepth 100000 in
theorem c_L_costOf (l : Launch) {D : va_G} {tA : Nat → ClassId} {S : St} {ad : Nat → Nat → Nat} {L : List Nat} {f : Nat → va_E} (hR : Rep tA S ad L f) (hW : WT S) {i : Nat} (hi : i < sN S 2 0) : Met l yL_costOf (wsW yL_costOf cL_costOf 3 (some .long) [(0, 5, 6, 32)]) ({ frames := 2, cells := 0, slots := 0, locals := 43 }) (va_Pc [.ref (ad 0 0), .int (nI i)] (gB D tA L f)) (vp_Sl (fun r => r = sJ S 3 i)) 0 0 (fun _ => False) := by
  refine va_MetW (cc := cL_costOf) (maxL := 3) (ret := (some .long)) (hh := [(0, 5, 6, 32)]) (by decide) rfl ?_
  intro p e s m args below meth c s₁ B hml hv
  obtain ⟨rfl, hP, hK, hD⟩ := hv
  have hx := B.exec
  have hb := B.bytes
  have hr := B.returns
  have hlocks := B.notSynchronized
  have hts9 := atoms_spec (ws := (wsW yL_costOf cL_costOf 3 (some .long) [(0, 5, 6, 32)])) B.pre
  have hta : ∀ w ∈ WA, w.before _ s = true := fun w h => hts9 w (List.mem_cons_of_mem _ h)
  have hown : s.vm.findClass RL = some m.cls := findClass_of_methodNamed B.named
  have hP : va_P D vwCl (va_pl L f) s.heap := hP
  have hl := lv_entry ([.ref (ad 0 0), .int (nI i)]) (n := 3) (Nat.le_of_ble_eq_true rfl)
  rw [lg_entry_eq]
  generalize (lg_sl ([.ref (ad 0 0), .int (nI i)]) ++ List.replicate (3 - (lg_sl ([.ref (ad 0 0), .int (nI i)])).length) Slot.unset).toArray = ls at hl ⊢
  have hl : lv_has ls 3 [(0, .ref (ad 0 0)), (1, .int (nI i))] := hl
  refine lv_aload_n hx hb dL_costOf_0 rfl (lv_at hl 0 rfl) ?_
  refine lv_iload_n hx hb dL_costOf_1 rfl (lv_at hl 1 rfl) ?_
  obtain ⟨q1, e2⟩ := cell_0 hR (rfl : (0 : Nat) = 0)
  refine gro_l (ci := 12) (As := [.int (nI i)]) (rest := []) ⟨hx, hb, hml, hown, hta⟩ (c_X10_costOf l hR hW hi) (cwV 1 hta (gWV mw494 mw495 mw496 mw40 mw497) rfl rfl rfl (by decide +kernel) ⟨Nat.le_of_ble_eq_true rfl, Nat.le_of_ble_eq_true rfl⟩) hK hP hD rfl e2 rfl hl.1 rfl (Nat.le_of_ble_eq_true rfl) dL_costOf_2 ⟨Nat.zero_le _, Nat.zero_le _⟩ (fun r3 c4 => ?_)
  obtain rfl := c4
  exact W.lret (v := (sJ S 3 i)) hx hb hr (fun t ht hWm => ⟨_, rfl, rfl, ht⟩) (fun q h => absurd h List.not_mem_nil) dL_costOf_5

set_option maxHeartbeats 4000000 in
set_option maxRecDepth 100000 in
theorem c_L_stateOf (l : Launch) {D : va_G} {tA : Nat → ClassId} {S : St} {ad : Nat → Nat → Nat} {L : List Nat} {f : Nat → va_E} (hR : Rep tA S ad L f) (hW : WT S) {o : Nat} (ho : o < sN S 3 0) (hn : narrow .char (.int (sI S 53 o)) = .int (sI S 53 o)) : Met l yL_stateOf (wsW yL_stateOf cL_stateOf 3 (some .int) [(0, 5, 6, 32)]) ({ frames := 2, cells := 0, slots := 0, locals := 43 }) (va_Pc [.ref (ad 0 0), .int (nI o)] (gB D tA L f)) (vp_Si (fun r => r = sI S 53 o)) 0 0 (fun _ => False) := by
  refine va_MetW (cc := cL_stateOf) (maxL := 3) (ret := (some .int)) (hh := [(0, 5, 6, 32)]) (by decide) rfl ?_
  intro p e s m args below meth c s₁ B hml hv
  obtain ⟨rfl, hP, hK, hD⟩ := hv
  have hx := B.exec
  have hb := B.bytes
  have hr := B.returns
  have hlocks := B.notSynchronized
  have hts9 := atoms_spec (ws := (wsW yL_stateOf cL_stateOf 3 (some .int) [(0, 5, 6, 32)])) B.pre
  have hta : ∀ w ∈ WA, w.before _ s = true := fun w h => hts9 w (List.mem_cons_of_mem _ h)
  have hown : s.vm.findClass RL = some m.cls := findClass_of_methodNamed B.named
  have hP : va_P D vwCl (va_pl L f) s.heap := hP
  have hl := lv_entry ([.ref (ad 0 0), .int (nI o)]) (n := 3) (Nat.le_of_ble_eq_true rfl)
  rw [lg_entry_eq]
  generalize (lg_sl ([.ref (ad 0 0), .int (nI o)]) ++ List.replicate (3 - (lg_sl ([.ref (ad 0 0), .int (nI o)])).length) Slot.unset).toArray = ls at hl ⊢
  have hl : lv_has ls 3 [(0, .ref (ad 0 0)), (1, .int (nI o))] := hl
  refine lv_aload_n hx hb dL_stateOf_0 rfl (lv_at hl 0 rfl) ?_
  refine lv_iload_n hx hb dL_stateOf_1 rfl (lv_at hl 1 rfl) ?_
  obtain ⟨q1, e2⟩ := cell_0 hR (rfl : (0 : Nat) = 0)
  refine gro_i (ci := 12) (As := [.int (nI o)]) (rest := []) ⟨hx, hb, hml, hown, hta⟩ (c_X10_stateOf l hR hW ho hn) (cwV 1 hta (gWV mw630 mw631 mw632 mw40 mw633) rfl rfl rfl (by decide +kernel) ⟨Nat.le_of_ble_eq_true rfl, Nat.le_of_ble_eq_true rfl⟩) hK hP hD rfl e2 rfl hl.1 rfl (Nat.le_of_ble_eq_true rfl) dL_stateOf_2 ⟨Nat.zero_le _, Nat.zero_le _⟩ (fun r3 c4 => ?_)
  obtain rfl := c4
  exact W.iret (v := (sI S 53 o)) hx hb hr (fun t ht hWm => ⟨_, rfl, rfl, ht⟩) (fun q h => absurd h List.not_mem_nil) dL_stateOf_5

set_option maxHeartbeats 4000000 in
set_option maxRecDepth 100000 in
theorem c_L_machineIs (l : Launch) {D : va_G} {tA : Nat → ClassId} {S : St} {ad : Nat → Nat → Nat} {L : List Nat} {f : Nat → va_E} (hR : Rep tA S ad L f) (hW : WT S) {i : Nat} (hi : i < sN S 0 0) (hn : narrow .char (.int (sI S 14 i)) = .int (sI S 14 i)) : Met l yL_machineIs (wsW yL_machineIs cL_machineIs 3 (some .int) [(0, 5, 6, 32)]) ({ frames := 2, cells := 0, slots := 0, locals := 43 }) (va_Pc [.ref (ad 0 0), .int (nI i)] (gB D tA L f)) (vp_Si (fun r => r = sI S 14 i)) 0 0 (fun _ => False) := by
  refine va_MetW (cc := cL_machineIs) (maxL := 3) (ret := (some .int)) (hh := [(0, 5, 6, 32)]) (by decide) rfl ?_
  intro p e s m args below meth c s₁ B hml hv
  obtain ⟨rfl, hP, hK, hD⟩ := hv
  have hx := B.exec
  have hb := B.bytes
  have hr := B.returns
  have hlocks := B.notSynchronized
  have hts9 := atoms_spec (ws := (wsW yL_machineIs cL_machineIs 3 (some .int) [(0, 5, 6, 32)])) B.pre
  have hta : ∀ w ∈ WA, w.before _ s = true := fun w h => hts9 w (List.mem_cons_of_mem _ h)
  have hown : s.vm.findClass RL = some m.cls := findClass_of_methodNamed B.named
  have hP : va_P D vwCl (va_pl L f) s.heap := hP
  have hl := lv_entry ([.ref (ad 0 0), .int (nI i)]) (n := 3) (Nat.le_of_ble_eq_true rfl)
  rw [lg_entry_eq]
  generalize (lg_sl ([.ref (ad 0 0), .int (nI i)]) ++ List.replicate (3 - (lg_sl ([.ref (ad 0 0), .int (nI i)])).length) Slot.unset).toArray = ls at hl ⊢
  have hl : lv_has ls 3 [(0, .ref (ad 0 0)), (1, .int (nI i))] := hl
  refine lv_aload_n hx hb dL_machineIs_0 rfl (lv_at hl 0 rfl) ?_
  refine lv_iload_n hx hb dL_machineIs_1 rfl (lv_at hl 1 rfl) ?_
  obtain ⟨q1, e2⟩ := cell_0 hR (rfl : (0 : Nat) = 0)
  refine gro_i (ci := 12) (As := [.int (nI i)]) (rest := []) ⟨hx, hb, hml, hown, hta⟩ (c_X10_machineIs l hR hW hi hn) (cwV 1 hta (gWV mw660 mw661 mw662 mw40 mw663) rfl rfl rfl (by decide +kernel) ⟨Nat.le_of_ble_eq_true rfl, Nat.le_of_ble_eq_true rfl⟩) hK hP hD rfl e2 rfl hl.1 rfl (Nat.le_of_ble_eq_true rfl) dL_machineIs_2 ⟨Nat.zero_le _, Nat.zero_le _⟩ (fun r3 c4 => ?_)
  obtain rfl := c4
  exact W.iret (v := (sI S 14 i)) hx hb hr (fun t ht hWm => ⟨_, rfl, rfl, ht⟩) (fun q h => absurd h List.not_mem_nil) dL_machineIs_5

set_option maxHeartbeats 4000000 in
set_option maxRecDepth 100000 in
theorem c_L_touched (l : Launch) {D : va_G} {tA : Nat → ClassId} {S : St} {ad : Nat → Nat → Nat} {L : List Nat} {f : Nat → va_E} (hR : Rep tA S ad L f) (hW : WT S) {i : Nat} (hi : i < sN S 2 0) : Met l yL_touched (wsW yL_touched cL_touched 3 (some .int) [(0, 5, 6, 32)]) ({ frames := 3, cells := 0, slots := 0, locals := 62 }) (va_Pc [.ref (ad 0 0), .int (nI i)] (gB D tA L f)) (vp_Si (fun r => r = nsSize (nsLo S 10 i) (nsHi S 10 i))) 0 0 (fun _ => False) := by
  refine va_MetW (cc := cL_touched) (maxL := 3) (ret := (some .int)) (hh := [(0, 5, 6, 32)]) (by decide) rfl ?_
  intro p e s m args below meth c s₁ B hml hv
  obtain ⟨rfl, hP, hK, hD⟩ := hv
  have hx := B.exec
  have hb := B.bytes
  have hr := B.returns
  have hlocks := B.notSynchronized
  have hts9 := atoms_spec (ws := (wsW yL_touched cL_touched 3 (some .int) [(0, 5, 6, 32)])) B.pre
  have hta : ∀ w ∈ WA, w.before _ s = true := fun w h => hts9 w (List.mem_cons_of_mem _ h)
  have hown : s.vm.findClass RL = some m.cls := findClass_of_methodNamed B.named
  have hP : va_P D vwCl (va_pl L f) s.heap := hP
  have hl := lv_entry ([.ref (ad 0 0), .int (nI i)]) (n := 3) (Nat.le_of_ble_eq_true rfl)
  rw [lg_entry_eq]
  generalize (lg_sl ([.ref (ad 0 0), .int (nI i)]) ++ List.replicate (3 - (lg_sl ([.ref (ad 0 0), .int (nI i)])).length) Slot.unset).toArray = ls at hl ⊢
  have hl : lv_has ls 3 [(0, .ref (ad 0 0)), (1, .int (nI i))] := hl
  refine lv_aload_n hx hb dL_touched_0 rfl (lv_at hl 0 rfl) ?_
  refine lv_iload_n hx hb dL_touched_1 rfl (lv_at hl 1 rfl) ?_
  obtain ⟨q1, e2⟩ := cell_0 hR (rfl : (0 : Nat) = 0)
  refine gro_i (ci := 12) (As := [.int (nI i)]) (rest := []) ⟨hx, hb, hml, hown, hta⟩ (c_X10_touched l hR hW hi) (cwV 1 hta (gWV mw750 mw751 mw752 mw40 mw753) rfl rfl rfl (by decide +kernel) ⟨Nat.le_of_ble_eq_true rfl, Nat.le_of_ble_eq_true rfl⟩) hK hP hD rfl e2 rfl hl.1 rfl (Nat.le_of_ble_eq_true rfl) dL_touched_2 ⟨Nat.zero_le _, Nat.zero_le _⟩ (fun r3 c4 => ?_)
  obtain rfl := c4
  exact W.iret (v := (nsSize (nsLo S 10 i) (nsHi S 10 i))) hx hb hr (fun t ht hWm => ⟨_, rfl, rfl, ht⟩) (fun q h => absurd h List.not_mem_nil) dL_touched_5

set_option maxHeartbeats 4000000 in
set_option maxRecDepth 100000 in
theorem c_L_lotsIn (l : Launch) {D : va_G} {tA : Nat → ClassId} {S : St} {ad : Nat → Nat → Nat} {L : List Nat} {f : Nat → va_E} (hR : Rep tA S ad L f) (hW : WT S) {o : Nat} (ho : o < sN S 3 0) : Met l yL_lotsIn (wsW yL_lotsIn cL_lotsIn 3 (some .int) [(0, 5, 6, 32)]) ({ frames := 3, cells := 0, slots := 0, locals := 62 }) (va_Pc [.ref (ad 0 0), .int (nI o)] (gB D tA L f)) (vp_Si (fun r => r = nsSize (nsLo S 13 o) (nsHi S 13 o))) 0 0 (fun _ => False) := by
  refine va_MetW (cc := cL_lotsIn) (maxL := 3) (ret := (some .int)) (hh := [(0, 5, 6, 32)]) (by decide) rfl ?_
  intro p e s m args below meth c s₁ B hml hv
  obtain ⟨rfl, hP, hK, hD⟩ := hv
  have hx := B.exec
  have hb := B.bytes
  have hr := B.returns
  have hlocks := B.notSynchronized
  have hts9 := atoms_spec (ws := (wsW yL_lotsIn cL_lotsIn 3 (some .int) [(0, 5, 6, 32)])) B.pre
  have hta : ∀ w ∈ WA, w.before _ s = true := fun w h => hts9 w (List.mem_cons_of_mem _ h)
  have hown : s.vm.findClass RL = some m.cls := findClass_of_methodNamed B.named
  have hP : va_P D vwCl (va_pl L f) s.heap := hP
  have hl := lv_entry ([.ref (ad 0 0), .int (nI o)]) (n := 3) (Nat.le_of_ble_eq_true rfl)
  rw [lg_entry_eq]
  generalize (lg_sl ([.ref (ad 0 0), .int (nI o)]) ++ List.replicate (3 - (lg_sl ([.ref (ad 0 0), .int (nI o)])).length) Slot.unset).toArray = ls at hl ⊢
  have hl : lv_has ls 3 [(0, .ref (ad 0 0)), (1, .int (nI o))] := hl
  refine lv_aload_n hx hb dL_lotsIn_0 rfl (lv_at hl 0 rfl) ?_
  refine lv_iload_n hx hb dL_lotsIn_1 rfl (lv_at hl 1 rfl) ?_
  obtain ⟨q1, e2⟩ := cell_0 hR (rfl : (0 : Nat) = 0)
  refine gro_i (ci := 12) (As := [.int (nI o)]) (rest := []) ⟨hx, hb, hml, hown, hta⟩ (c_X10_lotsIn l hR hW ho) (cwV 1 hta (gWV mw774 mw775 mw776 mw40 mw777) rfl rfl rfl (by decide +kernel) ⟨Nat.le_of_ble_eq_true rfl, Nat.le_of_ble_eq_true rfl⟩) hK hP hD rfl e2 rfl hl.1 rfl (Nat.le_of_ble_eq_true rfl) dL_lotsIn_2 ⟨Nat.zero_le _, Nat.zero_le _⟩ (fun r3 c4 => ?_)
  obtain rfl := c4
  exact W.iret (v := (nsSize (nsLo S 13 o) (nsHi S 13 o))) hx hb hr (fun t ht hWm => ⟨_, rfl, rfl, ht⟩) (fun q h => absurd h List.not_mem_nil) dL_lotsIn_5

set_option maxHeartbeats 4000000 in
set_option maxRecDepth 100000 in
theorem c_L_isH (l : Launch) {D : va_G} {tA : Nat → ClassId} {S : St} {ad : Nat → Nat → Nat} {L : List Nat} {f : Nat → va_E} (hR : Rep tA S ad L f) (hW : WT S) {i : Nat} (hi : i < sN S 2 0) (z : Int32) : Met l yL_is (wsW yL_is cL_is 5 (some .int) [(0, 100, 101, 32), (0, 100, 106, 19), (0, 100, 111, 35)]) ({ frames := 3, cells := 0, slots := 0, locals := 63 }) (va_Pc [.ref (ad 0 0), .int 104, .int (nI i), .int z] (gB D tA L f)) (vp_Si (fun r => r = bI (barred S i))) 0 0 (fun _ => False) := by
  refine va_MetW (cc := cL_is) (maxL := 5) (ret := (some .int)) (hh := [(0, 100, 101, 32), (0, 100, 106, 19), (0, 100, 111, 35)]) (by decide) rfl ?_
  intro p e s m args below meth c s₁ B hml hv
  obtain ⟨rfl, hP, hK, hD⟩ := hv
  have hx := B.exec
  have hb := B.bytes
  have hr := B.returns
  have hlocks := B.notSynchronized
  have hts9 := atoms_spec (ws := (wsW yL_is cL_is 5 (some .int) [(0, 100, 101, 32), (0, 100, 106, 19), (0, 100, 111, 35)])) B.pre
  have hta : ∀ w ∈ WA, w.before _ s = true := fun w h => hts9 w (List.mem_cons_of_mem _ h)
  have hown : s.vm.findClass RL = some m.cls := findClass_of_methodNamed B.named
  have hP : va_P D vwCl (va_pl L f) s.heap := hP
  have hl := lv_entry ([.ref (ad 0 0), .int 104, .int (nI i), .int z]) (n := 5) (Nat.le_of_ble_eq_true rfl)
  rw [lg_entry_eq]
  generalize (lg_sl ([.ref (ad 0 0), .int 104, .int (nI i), .int z]) ++ List.replicate (5 - (lg_sl ([.ref (ad 0 0), .int 104, .int (nI i), .int z])).length) Slot.unset).toArray = ls at hl ⊢
  have hl : lv_has ls 5 [(0, .ref (ad 0 0)), (1, .int 104), (2, .int (nI i)), (3, .int z)] := hl
  refine lv_iload_n hx hb dL_is_0 rfl (lv_at hl 1 rfl) ?_
  refine lv_bipush (v := 104) hx hb dL_is_1 (by decide) ?_
  refine lv_icmp_ne (tgt := 17) hx hb dL_is_3 (by decide) (fun c1 => ?_) (fun c1 => ?_)
  · exact absurd c1 (by decide)
  · skip
    refine lv_aload_n hx hb dL_is_6 rfl (lv_at hl 0 rfl) ?_
    refine lv_iload_n hx hb dL_is_7 rfl (lv_at hl 2 rfl) ?_
    obtain ⟨q2, e3⟩ := cell_0 hR (rfl : (0 : Nat) = 0)
    refine gro_i (ci := 12) (As := [.int (nI i)]) (rest := []) ⟨hx, hb, hml, hown, hta⟩ (c_X10_isHeld l hR hW hi) (cwV 1 hta (gWV mw675 mw676 mw677 mw40 mw678) rfl rfl rfl (by decide +kernel) ⟨Nat.le_of_ble_eq_true rfl, Nat.le_of_ble_eq_true rfl⟩) hK hP hD rfl e3 rfl hl.1 rfl (Nat.le_of_ble_eq_true rfl) dL_is_8 ⟨Nat.zero_le _, Nat.zero_le _⟩ (fun r4 c5 => ?_)
    obtain rfl := c5
    refine lv_if_eq (tgt := 99) hx hb dL_is_11 (by decide) (fun c6 => ?_) (fun c6 => ?_)
    · skip
      have c6 := bI_f c6
      refine lv_iconst (v := 0) hx hb dL_is_99 (by decide) ?_
      exact W.iret (v := 0) hx hb hr (fun t ht hWm => ⟨_, rfl, (by rw [c6]; rfl), ht⟩) (fun q h => absurd h List.not_mem_nil) dL_is_100
    · skip
      have c6 := bI_t c6
      refine lv_goto (tgt := 95) hx hb dL_is_14 (by decide) ?_
      refine lv_iconst (v := 1) hx hb dL_is_95 (by decide) ?_
      refine lv_goto (tgt := 100) hx hb dL_is_96 (by decide) ?_
      exact W.iret (v := 1) hx hb hr (fun t ht hWm => ⟨_, rfl, (by rw [c6]; rfl), ht⟩) (fun q h => absurd h List.not_mem_nil) dL_is_100

set_option maxHeartbeats 4000000 in
set_option maxRecDepth 100000 in
theorem c_L_isI (l : Launch) {D : va_G} {tA : Nat → ClassId} {S : St} {ad : Nat → Nat → Nat} {L : List Nat} {f : Nat → va_E} (hR : Rep tA S ad L f) (hW : WT S) {i j : Nat} (hi : i < sN S 2 0) (hj : j < sN S 2 0) : Met l yL_is (wsW yL_is cL_is 5 (some .int) [(0, 100, 101, 32), (0, 100, 106, 19), (0, 100, 111, 35)]) ({ frames := 2, cells := 0, slots := 0, locals := 46 }) (va_Pc [.ref (ad 0 0), .int 105, .int (nI i), .int (nI j)] (gB D tA L f)) (vp_Si (fun r => r = bI (nsM S 8 j i))) 0 0 (fun _ => False) := by
  refine va_MetW (cc := cL_is) (maxL := 5) (ret := (some .int)) (hh := [(0, 100, 101, 32), (0, 100, 106, 19), (0, 100, 111, 35)]) (by decide) rfl ?_
  intro p e s m args below meth c s₁ B hml hv
  obtain ⟨rfl, hP, hK, hD⟩ := hv
  have hx := B.exec
  have hb := B.bytes
  have hr := B.returns
  have hlocks := B.notSynchronized
  have hts9 := atoms_spec (ws := (wsW yL_is cL_is 5 (some .int) [(0, 100, 101, 32), (0, 100, 106, 19), (0, 100, 111, 35)])) B.pre
  have hta : ∀ w ∈ WA, w.before _ s = true := fun w h => hts9 w (List.mem_cons_of_mem _ h)
  have hown : s.vm.findClass RL = some m.cls := findClass_of_methodNamed B.named
  have hP : va_P D vwCl (va_pl L f) s.heap := hP
  have hl := lv_entry ([.ref (ad 0 0), .int 105, .int (nI i), .int (nI j)]) (n := 5) (Nat.le_of_ble_eq_true rfl)
  rw [lg_entry_eq]
  generalize (lg_sl ([.ref (ad 0 0), .int 105, .int (nI i), .int (nI j)]) ++ List.replicate (5 - (lg_sl ([.ref (ad 0 0), .int 105, .int (nI i), .int (nI j)])).length) Slot.unset).toArray = ls at hl ⊢
  have hl : lv_has ls 5 [(0, .ref (ad 0 0)), (1, .int 105), (2, .int (nI i)), (3, .int (nI j))] := hl
  refine lv_iload_n hx hb dL_is_0 rfl (lv_at hl 1 rfl) ?_
  refine lv_bipush (v := 104) hx hb dL_is_1 (by decide) ?_
  refine lv_icmp_ne (tgt := 17) hx hb dL_is_3 (by decide) (fun c1 => ?_) (fun c1 => ?_)
  · skip
    refine lv_iload_n hx hb dL_is_17 rfl (lv_at hl 1 rfl) ?_
    refine lv_bipush (v := 109) hx hb dL_is_18 (by decide) ?_
    refine lv_icmp_ne (tgt := 35) hx hb dL_is_20 (by decide) (fun c2 => ?_) (fun c2 => ?_)
    · skip
      refine lv_iload_n hx hb dL_is_35 rfl (lv_at hl 1 rfl) ?_
      refine lv_bipush (v := 112) hx hb dL_is_36 (by decide) ?_
      refine lv_icmp_ne (tgt := 52) hx hb dL_is_38 (by decide) (fun c3 => ?_) (fun c3 => ?_)
      · skip
        refine lv_iload_n hx hb dL_is_52 rfl (lv_at hl 1 rfl) ?_
        refine lv_bipush (v := 114) hx hb dL_is_53 (by decide) ?_
        refine lv_icmp_ne (tgt := 69) hx hb dL_is_55 (by decide) (fun c4 => ?_) (fun c4 => ?_)
        · skip
          refine lv_iload_n hx hb dL_is_69 rfl (lv_at hl 1 rfl) ?_
          refine lv_bipush (v := 100) hx hb dL_is_70 (by decide) ?_
          refine lv_icmp_ne (tgt := 86) hx hb dL_is_72 (by decide) (fun c5 => ?_) (fun c5 => ?_)
          · skip
            refine lv_aload_n hx hb dL_is_86 rfl (lv_at hl 0 rfl) ?_
            refine lv_iload_n hx hb dL_is_87 rfl (lv_at hl 2 rfl) ?_
            refine lv_iload_n hx hb dL_is_88 rfl (lv_at hl 3 rfl) ?_
            obtain ⟨q6, e7⟩ := cell_0 hR (rfl : (0 : Nat) = 0)
            refine gro_i (ci := 12) (As := [.int (nI i), .int (nI j)]) (rest := []) ⟨hx, hb, hml, hown, hta⟩ (c_X10_isIn l hR hW hi hj) (cwV 2 hta (gWV mw740 mw741 mw742 mw40 mw743) rfl rfl rfl (by decide +kernel) ⟨Nat.le_of_ble_eq_true rfl, Nat.le_of_ble_eq_true rfl⟩) hK hP hD rfl e7 rfl hl.1 rfl (Nat.le_of_ble_eq_true rfl) dL_is_89 ⟨Nat.zero_le _, Nat.zero_le _⟩ (fun r8 c9 => ?_)
            obtain rfl := c9
            refine lv_if_eq (tgt := 99) hx hb dL_is_92 (by decide) (fun c10 => ?_) (fun c10 => ?_)
            · skip
              have c10 := bI_f c10
              refine lv_iconst (v := 0) hx hb dL_is_99 (by decide) ?_
              exact W.iret (v := 0) hx hb hr (fun t ht hWm => ⟨_, rfl, (by rw [c10]; rfl), ht⟩) (fun q h => absurd h List.not_mem_nil) dL_is_100
            · skip
              have c10 := bI_t c10
              refine lv_iconst (v := 1) hx hb dL_is_95 (by decide) ?_
              refine lv_goto (tgt := 100) hx hb dL_is_96 (by decide) ?_
              exact W.iret (v := 1) hx hb hr (fun t ht hWm => ⟨_, rfl, (by rw [c10]; rfl), ht⟩) (fun q h => absurd h List.not_mem_nil) dL_is_100
          · exact absurd c5 (by decide)
        · exact absurd c4 (by decide)
      · exact absurd c3 (by decide)
    · exact absurd c2 (by decide)
  · exact absurd c1 (by decide)

set_option maxHeartbeats 4000000 in
set_option maxRecDepth 100000 in
theorem c_L_addMachine (l : Launch) (hl0 : l.stackTraces = false) {D : va_G} {tA : Nat → ClassId} {S : St} {ad : Nat → Nat → Nat} {L : List Nat} {f : Nat → va_E} {sz : Nat} (hR : Rep tA S ad L f) (hW : WT S) (ra se li re : Int32) (hra : inR ra 0 20 = true) (hse : inR se 0 50 = true) (hli : inR li 5 500 = true) (hre : inR re 1 99 = true) (hn : sN S 0 0 < 5) : Met l yL_addMachine (wsW yL_addMachine cL_addMachine 6 (some .int) [(0, 9, 10, 19), (0, 9, 15, 22)]) ({ frames := 3, cells := 1, slots := 11, locals := 68 }) (va_Pc [.ref (ad 0 0), .int ra, .int se, .int li, .int re] (gW D tA L f sz)) (va_Qi (fun (r : Int32) (u : gU) => r = nI (sN S 0 0) ∧ nwMS S ra se li re = u.1 ∧ ∀ k i, V S k i → u.2.1 k i = ad k i) (gE D tA (va_A (va_pl L f) sz)) (va_A (va_pl L f) sz)) 1 11 (va_A (va_pl L f) sz) := by
  refine va_MetW (cc := cL_addMachine) (maxL := 6) (ret := (some .int)) (hh := [(0, 9, 10, 19), (0, 9, 15, 22)]) (by decide) rfl ?_
  intro p e s m args below meth c s₁ B hml hv
  obtain ⟨rfl, ⟨⟨hsz, hP, hK, hD0⟩, hX⟩, hQ⟩ := hv
  have hx := B.exec
  have hb := B.bytes
  have hr := B.returns
  have hlocks := B.notSynchronized
  have hts9 := atoms_spec (ws := (wsW yL_addMachine cL_addMachine 6 (some .int) [(0, 9, 10, 19), (0, 9, 15, 22)])) B.pre
  have hta : ∀ w ∈ WA, w.before _ s = true := fun w h => hts9 w (List.mem_cons_of_mem _ h)
  have hown : s.vm.findClass RL = some m.cls := findClass_of_methodNamed B.named
  have htab := vx_table (x := yL_addMachine) B (hts9 _ List.mem_cons_self)
  subst hsz
  have hD : va_D (va_A (va_pl L f) s.heap.size) (va_pl L f) := hD0.self (sz := s.heap.size)
  generalize hAe : va_A (va_pl L f) s.heap.size = A at hD hQ ⊢
  have hA : ∀ q : Nat, s.heap.size ≤ q → A q := fun q h => by rw [← hAe]; exact Or.inr h
  have hS : va_S A s.heap s.heap [] := va_S.rf
  have hP : va_P D vwCl (va_pl L f) s.heap := hP
  have hl := lv_entry ([.ref (ad 0 0), .int ra, .int se, .int li, .int re]) (n := 6) (Nat.le_of_ble_eq_true rfl)
  rw [lg_entry_eq]
  generalize (lg_sl ([.ref (ad 0 0), .int ra, .int se, .int li, .int re]) ++ List.replicate (6 - (lg_sl ([.ref (ad 0 0), .int ra, .int se, .int li, .int re])).length) Slot.unset).toArray = ls at hl ⊢
  have hl : lv_has ls 6 [(0, .ref (ad 0 0)), (1, .int ra), (2, .int se), (3, .int li), (4, .int re)] := hl
  refine lv_aload_n hx hb dL_addMachine_0 rfl (lv_at hl 0 rfl) ?_
  refine lv_iload_n hx hb dL_addMachine_1 rfl (lv_at hl 1 rfl) ?_
  refine lv_iload_n hx hb dL_addMachine_2 rfl (lv_at hl 2 rfl) ?_
  refine lv_iload_n hx hb dL_addMachine_3 rfl (lv_at hl 3 rfl) ?_
  refine lv_iload hx hb dL_addMachine_4 (lv_at hl 4 rfl) ?_
  obtain ⟨q1, e2⟩ := cell_0 hR (rfl : (0 : Nat) = 0)
  refine gwr_iY (ci := 12) (As := [.int ra, .int se, .int li, .int re]) (rest := []) ⟨hx, hb, hml, hown, hta⟩ (c_X10_addMachine l hR hW ra se li re hra hse hli hre hn) (cwV 4 hta (gWV mw219 mw220 mw221 mw40 mw222) rfl rfl rfl (by decide +kernel) ⟨Nat.le_of_ble_eq_true rfl, Nat.le_of_ble_eq_true rfl⟩) hX hK hP hD hS hA rfl e2 rfl hl.1 rfl (Nat.le_of_ble_eq_true rfl) dL_addMachine_6 ⟨Nat.le_of_ble_eq_true rfl, Nat.le_of_ble_eq_true rfl⟩ (fun r9 u9 H locs hw hR hP hD hS => ?_)
  refine W.widen (k := 1) (n := 11) (Nat.le_of_ble_eq_true rfl) (Nat.le_of_ble_eq_true rfl) ?_
  exact W.iret (v := r9) hx hb hr (fun t ht hWm => gend_i (u := u9) hw hR hP hK hD hS ht hWm) hS.2.2 dL_addMachine_9

set_option maxHeartbeats 4000000 in
set_option maxRecDepth 100000 in
theorem c_L_addPart (l : Launch) (hl0 : l.stackTraces = false) {D : va_G} {tA : Nat → ClassId} {S : St} {ad : Nat → Nat → Nat} {L : List Nat} {f : Nat → va_E} {sz : Nat} (hR : Rep tA S ad L f) (hW : WT S) (mb : Bool) (fa : Int32) (hfa : inR fa 0 3 = true) (hn : sN S 1 0 < 12) : Met l yL_addPart (wsW yL_addPart cL_addPart 4 (some .int) [(0, 6, 7, 19), (0, 6, 11, 22)]) ({ frames := 4, cells := 4, slots := 20, locals := 85 }) (va_Pc [.ref (ad 0 0), .int (bI mb), .int fa] (gW D tA L f sz)) (va_Qi (fun (r : Int32) (u : gU) => r = nI (sN S 1 0) ∧ nwPS S (bI mb) fa = u.1 ∧ ∀ k i, V S k i → u.2.1 k i = ad k i) (gE D tA (va_A (va_pl L f) sz)) (va_A (va_pl L f) sz)) 4 20 (va_A (va_pl L f) sz) := by
  refine va_MetW (cc := cL_addPart) (maxL := 4) (ret := (some .int)) (hh := [(0, 6, 7, 19), (0, 6, 11, 22)]) (by decide) rfl ?_
  intro p e s m args below meth c s₁ B hml hv
  obtain ⟨rfl, ⟨⟨hsz, hP, hK, hD0⟩, hX⟩, hQ⟩ := hv
  have hx := B.exec
  have hb := B.bytes
  have hr := B.returns
  have hlocks := B.notSynchronized
  have hts9 := atoms_spec (ws := (wsW yL_addPart cL_addPart 4 (some .int) [(0, 6, 7, 19), (0, 6, 11, 22)])) B.pre
  have hta : ∀ w ∈ WA, w.before _ s = true := fun w h => hts9 w (List.mem_cons_of_mem _ h)
  have hown : s.vm.findClass RL = some m.cls := findClass_of_methodNamed B.named
  have htab := vx_table (x := yL_addPart) B (hts9 _ List.mem_cons_self)
  subst hsz
  have hD : va_D (va_A (va_pl L f) s.heap.size) (va_pl L f) := hD0.self (sz := s.heap.size)
  generalize hAe : va_A (va_pl L f) s.heap.size = A at hD hQ ⊢
  have hA : ∀ q : Nat, s.heap.size ≤ q → A q := fun q h => by rw [← hAe]; exact Or.inr h
  have hS : va_S A s.heap s.heap [] := va_S.rf
  have hP : va_P D vwCl (va_pl L f) s.heap := hP
  have hl := lv_entry ([.ref (ad 0 0), .int (bI mb), .int fa]) (n := 4) (Nat.le_of_ble_eq_true rfl)
  rw [lg_entry_eq]
  generalize (lg_sl ([.ref (ad 0 0), .int (bI mb), .int fa]) ++ List.replicate (4 - (lg_sl ([.ref (ad 0 0), .int (bI mb), .int fa])).length) Slot.unset).toArray = ls at hl ⊢
  have hl : lv_has ls 4 [(0, .ref (ad 0 0)), (1, .int (bI mb)), (2, .int fa)] := hl
  refine lv_aload_n hx hb dL_addPart_0 rfl (lv_at hl 0 rfl) ?_
  refine lv_iload_n hx hb dL_addPart_1 rfl (lv_at hl 1 rfl) ?_
  refine lv_iload_n hx hb dL_addPart_2 rfl (lv_at hl 2 rfl) ?_
  obtain ⟨q1, e2⟩ := cell_0 hR (rfl : (0 : Nat) = 0)
  refine gwr_iY (ci := 12) (As := [.int (bI mb), .int fa]) (rest := []) ⟨hx, hb, hml, hown, hta⟩ (c_X10_addPart l hR hW mb fa hfa hn) (cwV 2 hta (gWV mw266 mw267 mw268 mw40 mw269) rfl rfl rfl (by decide +kernel) ⟨Nat.le_of_ble_eq_true rfl, Nat.le_of_ble_eq_true rfl⟩) hX hK hP hD hS hA rfl e2 rfl hl.1 rfl (Nat.le_of_ble_eq_true rfl) dL_addPart_3 ⟨Nat.le_of_ble_eq_true rfl, Nat.le_of_ble_eq_true rfl⟩ (fun r9 u9 H locs hw hR hP hD hS => ?_)
  refine W.widen (k := 4) (n := 20) (Nat.le_of_ble_eq_true rfl) (Nat.le_of_ble_eq_true rfl) ?_
  exact W.iret (v := r9) hx hb hr (fun t ht hWm => gend_i (u := u9) hw hR hP hK hD hS ht hWm) hS.2.2 dL_addPart_6

set_option maxHeartbeats 4000000 in
set_option maxRecDepth 100000 in
theorem c_L_addComponent (l : Launch) (hl0 : l.stackTraces = false) {D : va_G} {tA : Nat → ClassId} {S : St} {ad : Nat → Nat → Nat} {L : List Nat} {f : Nat → va_E} {sz : Nat} (hR : Rep tA S ad L f) (hW : WT S) {p9 cz : Nat} (hp : p9 < sN S 1 0) (hc : cz < sN S 1 0) (hcp : cz < p9) (pc9 op : Int32) (hpc : inR pc9 1 9 = true) (hop : inR op (-1) 2 = true) (hm : ¬ sI S 20 p9 = 0) (hcn : sN S 4 p9 < 4) : Met l yL_addComponent (wsW yL_addComponent cL_addComponent 6 (some .int) [(0, 9, 10, 32), (0, 9, 15, 35), (0, 9, 20, 19), (0, 9, 25, 22)]) ({ frames := 3, cells := 1, slots := 3, locals := 69 }) (va_Pc [.ref (ad 0 0), .int (nI p9), .int (nI cz), .int pc9, .int op] (gW D tA L f sz)) (va_Qi (fun (r : Int32) (u : gU) => r = nI (sN S 4 p9 + 1) ∧ nwCS S p9 cz pc9 op = u.1 ∧ ∀ k i, V S k i → u.2.1 k i = ad k i) (gE D tA (va_A (va_pl L f) sz)) (va_A (va_pl L f) sz)) 1 3 (va_A (va_pl L f) sz) := by
  refine va_MetW (cc := cL_addComponent) (maxL := 6) (ret := (some .int)) (hh := [(0, 9, 10, 32), (0, 9, 15, 35), (0, 9, 20, 19), (0, 9, 25, 22)]) (by decide) rfl ?_
  intro p e s m args below meth c s₁ B hml hv
  obtain ⟨rfl, ⟨⟨hsz, hP, hK, hD0⟩, hX⟩, hQ⟩ := hv
  have hx := B.exec
  have hb := B.bytes
  have hr := B.returns
  have hlocks := B.notSynchronized
  have hts9 := atoms_spec (ws := (wsW yL_addComponent cL_addComponent 6 (some .int) [(0, 9, 10, 32), (0, 9, 15, 35), (0, 9, 20, 19), (0, 9, 25, 22)])) B.pre
  have hta : ∀ w ∈ WA, w.before _ s = true := fun w h => hts9 w (List.mem_cons_of_mem _ h)
  have hown : s.vm.findClass RL = some m.cls := findClass_of_methodNamed B.named
  have htab := vx_table (x := yL_addComponent) B (hts9 _ List.mem_cons_self)
  subst hsz
  have hD : va_D (va_A (va_pl L f) s.heap.size) (va_pl L f) := hD0.self (sz := s.heap.size)
  generalize hAe : va_A (va_pl L f) s.heap.size = A at hD hQ ⊢
  have hA : ∀ q : Nat, s.heap.size ≤ q → A q := fun q h => by rw [← hAe]; exact Or.inr h
  have hS : va_S A s.heap s.heap [] := va_S.rf
  have hP : va_P D vwCl (va_pl L f) s.heap := hP
  have hl := lv_entry ([.ref (ad 0 0), .int (nI p9), .int (nI cz), .int pc9, .int op]) (n := 6) (Nat.le_of_ble_eq_true rfl)
  rw [lg_entry_eq]
  generalize (lg_sl ([.ref (ad 0 0), .int (nI p9), .int (nI cz), .int pc9, .int op]) ++ List.replicate (6 - (lg_sl ([.ref (ad 0 0), .int (nI p9), .int (nI cz), .int pc9, .int op])).length) Slot.unset).toArray = ls at hl ⊢
  have hl : lv_has ls 6 [(0, .ref (ad 0 0)), (1, .int (nI p9)), (2, .int (nI cz)), (3, .int pc9), (4, .int op)] := hl
  refine lv_aload_n hx hb dL_addComponent_0 rfl (lv_at hl 0 rfl) ?_
  refine lv_iload_n hx hb dL_addComponent_1 rfl (lv_at hl 1 rfl) ?_
  refine lv_iload_n hx hb dL_addComponent_2 rfl (lv_at hl 2 rfl) ?_
  refine lv_iload_n hx hb dL_addComponent_3 rfl (lv_at hl 3 rfl) ?_
  refine lv_iload hx hb dL_addComponent_4 (lv_at hl 4 rfl) ?_
  obtain ⟨q1, e2⟩ := cell_0 hR (rfl : (0 : Nat) = 0)
  refine gwr_iY (ci := 12) (As := [.int (nI p9), .int (nI cz), .int pc9, .int op]) (rest := []) ⟨hx, hb, hml, hown, hta⟩ (c_X10_addComponent l hR hW hp hc hcp pc9 op hpc hop hm hcn) (cwV 4 hta (gWV mw314 mw315 mw316 mw40 mw317) rfl rfl rfl (by decide +kernel) ⟨Nat.le_of_ble_eq_true rfl, Nat.le_of_ble_eq_true rfl⟩) hX hK hP hD hS hA rfl e2 rfl hl.1 rfl (Nat.le_of_ble_eq_true rfl) dL_addComponent_6 ⟨Nat.le_of_ble_eq_true rfl, Nat.le_of_ble_eq_true rfl⟩ (fun r9 u9 H locs hw hR hP hD hS => ?_)
  refine W.widen (k := 1) (n := 3) (Nat.le_of_ble_eq_true rfl) (Nat.le_of_ble_eq_true rfl) ?_
  exact W.iret (v := r9) hx hb hr (fun t ht hWm => gend_i (u := u9) hw hR hP hK hD hS ht hWm) hS.2.2 dL_addComponent_9

set_option maxHeartbeats 4000000 in
set_option maxRecDepth 100000 in
theorem c_L_addOperationn (l : Launch) (hl0 : l.stackTraces = false) {D : va_G} {tA : Nat → ClassId} {S : St} {ad : Nat → Nat → Nat} {L : List Nat} {f : Nat → va_E} {sz : Nat} (hR : Rep tA S ad L f) (hW : WT S) {p9 m9 : Nat} (hp : p9 < sN S 1 0) (hm9 : m9 < sN S 0 0) (ti : Int32) (hti : inR ti 1 20 = true) (hm : ¬ sI S 20 p9 = 0) (hcn : sN S 5 p9 < 3) : Met l yL_addOperation (wsW yL_addOperation cL_addOperation 6 (some .int) [(0, 9, 10, 32), (0, 9, 15, 35), (0, 9, 20, 19), (0, 9, 25, 22)]) ({ frames := 3, cells := 1, slots := 3, locals := 70 }) (va_Pc [.ref (ad 0 0), .int (nI p9), .int (nI m9), .int (-1), .int ti] (gW D tA L f sz)) (va_Qi (fun (r : Int32) (u : gU) => r = nI (sN S 5 p9 + 1) ∧ nwWS S p9 m9 none ti = u.1 ∧ ∀ k i, V S k i → u.2.1 k i = ad k i) (gE D tA (va_A (va_pl L f) sz)) (va_A (va_pl L f) sz)) 1 3 (va_A (va_pl L f) sz) := by
  refine va_MetW (cc := cL_addOperation) (maxL := 6) (ret := (some .int)) (hh := [(0, 9, 10, 32), (0, 9, 15, 35), (0, 9, 20, 19), (0, 9, 25, 22)]) (by decide) rfl ?_
  intro p e s m args below meth c s₁ B hml hv
  obtain ⟨rfl, ⟨⟨hsz, hP, hK, hD0⟩, hX⟩, hQ⟩ := hv
  have hx := B.exec
  have hb := B.bytes
  have hr := B.returns
  have hlocks := B.notSynchronized
  have hts9 := atoms_spec (ws := (wsW yL_addOperation cL_addOperation 6 (some .int) [(0, 9, 10, 32), (0, 9, 15, 35), (0, 9, 20, 19), (0, 9, 25, 22)])) B.pre
  have hta : ∀ w ∈ WA, w.before _ s = true := fun w h => hts9 w (List.mem_cons_of_mem _ h)
  have hown : s.vm.findClass RL = some m.cls := findClass_of_methodNamed B.named
  have htab := vx_table (x := yL_addOperation) B (hts9 _ List.mem_cons_self)
  subst hsz
  have hD : va_D (va_A (va_pl L f) s.heap.size) (va_pl L f) := hD0.self (sz := s.heap.size)
  generalize hAe : va_A (va_pl L f) s.heap.size = A at hD hQ ⊢
  have hA : ∀ q : Nat, s.heap.size ≤ q → A q := fun q h => by rw [← hAe]; exact Or.inr h
  have hS : va_S A s.heap s.heap [] := va_S.rf
  have hP : va_P D vwCl (va_pl L f) s.heap := hP
  have hl := lv_entry ([.ref (ad 0 0), .int (nI p9), .int (nI m9), .int (-1), .int ti]) (n := 6) (Nat.le_of_ble_eq_true rfl)
  rw [lg_entry_eq]
  generalize (lg_sl ([.ref (ad 0 0), .int (nI p9), .int (nI m9), .int (-1), .int ti]) ++ List.replicate (6 - (lg_sl ([.ref (ad 0 0), .int (nI p9), .int (nI m9), .int (-1), .int ti])).length) Slot.unset).toArray = ls at hl ⊢
  have hl : lv_has ls 6 [(0, .ref (ad 0 0)), (1, .int (nI p9)), (2, .int (nI m9)), (3, .int (-1)), (4, .int ti)] := hl
  refine lv_aload_n hx hb dL_addOperation_0 rfl (lv_at hl 0 rfl) ?_
  refine lv_iload_n hx hb dL_addOperation_1 rfl (lv_at hl 1 rfl) ?_
  refine lv_iload_n hx hb dL_addOperation_2 rfl (lv_at hl 2 rfl) ?_
  refine lv_iload_n hx hb dL_addOperation_3 rfl (lv_at hl 3 rfl) ?_
  refine lv_iload hx hb dL_addOperation_4 (lv_at hl 4 rfl) ?_
  obtain ⟨q1, e2⟩ := cell_0 hR (rfl : (0 : Nat) = 0)
  refine gwr_iY (ci := 12) (As := [.int (nI p9), .int (nI m9), .int (-1), .int ti]) (rest := []) ⟨hx, hb, hml, hown, hta⟩ (c_X10_addOperationn l hR hW hp hm9 ti hti hm hcn) (cwV 4 hta (gWV mw357 mw358 mw359 mw40 mw360) rfl rfl rfl (by decide +kernel) ⟨Nat.le_of_ble_eq_true rfl, Nat.le_of_ble_eq_true rfl⟩) hX hK hP hD hS hA rfl e2 rfl hl.1 rfl (Nat.le_of_ble_eq_true rfl) dL_addOperation_6 ⟨Nat.le_of_ble_eq_true rfl, Nat.le_of_ble_eq_true rfl⟩ (fun r9 u9 H locs hw hR hP hD hS => ?_)
  refine W.widen (k := 1) (n := 3) (Nat.le_of_ble_eq_true rfl) (Nat.le_of_ble_eq_true rfl) ?_
  exact W.iret (v := r9) hx hb hr (fun t ht hWm => gend_i (u := u9) hw hR hP hK hD hS ht hWm) hS.2.2 dL_addOperation_9

set_option maxHeartbeats 4000000 in
set_option maxRecDepth 100000 in
theorem c_L_addOperations (l : Launch) (hl0 : l.stackTraces = false) {D : va_G} {tA : Nat → ClassId} {S : St} {ad : Nat → Nat → Nat} {L : List Nat} {f : Nat → va_E} {sz : Nat} (hR : Rep tA S ad L f) (hW : WT S) {p9 m9 a9 : Nat} (hp : p9 < sN S 1 0) (hm9 : m9 < sN S 0 0) (ha9 : a9 < sN S 0 0) (ti : Int32) (hti : inR ti 1 20 = true) (hm : ¬ sI S 20 p9 = 0) (hcn : sN S 5 p9 < 3) : Met l yL_addOperation (wsW yL_addOperation cL_addOperation 6 (some .int) [(0, 9, 10, 32), (0, 9, 15, 35), (0, 9, 20, 19), (0, 9, 25, 22)]) ({ frames := 3, cells := 1, slots := 3, locals := 70 }) (va_Pc [.ref (ad 0 0), .int (nI p9), .int (nI m9), .int (nI a9), .int ti] (gW D tA L f sz)) (va_Qi (fun (r : Int32) (u : gU) => r = nI (sN S 5 p9 + 1) ∧ nwWS S p9 m9 (some a9) ti = u.1 ∧ ∀ k i, V S k i → u.2.1 k i = ad k i) (gE D tA (va_A (va_pl L f) sz)) (va_A (va_pl L f) sz)) 1 3 (va_A (va_pl L f) sz) := by
  refine va_MetW (cc := cL_addOperation) (maxL := 6) (ret := (some .int)) (hh := [(0, 9, 10, 32), (0, 9, 15, 35), (0, 9, 20, 19), (0, 9, 25, 22)]) (by decide) rfl ?_
  intro p e s m args below meth c s₁ B hml hv
  obtain ⟨rfl, ⟨⟨hsz, hP, hK, hD0⟩, hX⟩, hQ⟩ := hv
  have hx := B.exec
  have hb := B.bytes
  have hr := B.returns
  have hlocks := B.notSynchronized
  have hts9 := atoms_spec (ws := (wsW yL_addOperation cL_addOperation 6 (some .int) [(0, 9, 10, 32), (0, 9, 15, 35), (0, 9, 20, 19), (0, 9, 25, 22)])) B.pre
  have hta : ∀ w ∈ WA, w.before _ s = true := fun w h => hts9 w (List.mem_cons_of_mem _ h)
  have hown : s.vm.findClass RL = some m.cls := findClass_of_methodNamed B.named
  have htab := vx_table (x := yL_addOperation) B (hts9 _ List.mem_cons_self)
  subst hsz
  have hD : va_D (va_A (va_pl L f) s.heap.size) (va_pl L f) := hD0.self (sz := s.heap.size)
  generalize hAe : va_A (va_pl L f) s.heap.size = A at hD hQ ⊢
  have hA : ∀ q : Nat, s.heap.size ≤ q → A q := fun q h => by rw [← hAe]; exact Or.inr h
  have hS : va_S A s.heap s.heap [] := va_S.rf
  have hP : va_P D vwCl (va_pl L f) s.heap := hP
  have hl := lv_entry ([.ref (ad 0 0), .int (nI p9), .int (nI m9), .int (nI a9), .int ti]) (n := 6) (Nat.le_of_ble_eq_true rfl)
  rw [lg_entry_eq]
  generalize (lg_sl ([.ref (ad 0 0), .int (nI p9), .int (nI m9), .int (nI a9), .int ti]) ++ List.replicate (6 - (lg_sl ([.ref (ad 0 0), .int (nI p9), .int (nI m9), .int (nI a9), .int ti])).length) Slot.unset).toArray = ls at hl ⊢
  have hl : lv_has ls 6 [(0, .ref (ad 0 0)), (1, .int (nI p9)), (2, .int (nI m9)), (3, .int (nI a9)), (4, .int ti)] := hl
  refine lv_aload_n hx hb dL_addOperation_0 rfl (lv_at hl 0 rfl) ?_
  refine lv_iload_n hx hb dL_addOperation_1 rfl (lv_at hl 1 rfl) ?_
  refine lv_iload_n hx hb dL_addOperation_2 rfl (lv_at hl 2 rfl) ?_
  refine lv_iload_n hx hb dL_addOperation_3 rfl (lv_at hl 3 rfl) ?_
  refine lv_iload hx hb dL_addOperation_4 (lv_at hl 4 rfl) ?_
  obtain ⟨q1, e2⟩ := cell_0 hR (rfl : (0 : Nat) = 0)
  refine gwr_iY (ci := 12) (As := [.int (nI p9), .int (nI m9), .int (nI a9), .int ti]) (rest := []) ⟨hx, hb, hml, hown, hta⟩ (c_X10_addOperations l hR hW hp hm9 ha9 ti hti hm hcn) (cwV 4 hta (gWV mw357 mw358 mw359 mw40 mw360) rfl rfl rfl (by decide +kernel) ⟨Nat.le_of_ble_eq_true rfl, Nat.le_of_ble_eq_true rfl⟩) hX hK hP hD hS hA rfl e2 rfl hl.1 rfl (Nat.le_of_ble_eq_true rfl) dL_addOperation_6 ⟨Nat.le_of_ble_eq_true rfl, Nat.le_of_ble_eq_true rfl⟩ (fun r9 u9 H locs hw hR hP hD hS => ?_)
  refine W.widen (k := 1) (n := 3) (Nat.le_of_ble_eq_true rfl) (Nat.le_of_ble_eq_true rfl) ?_
  exact W.iret (v := r9) hx hb hr (fun t ht hWm => gend_i (u := u9) hw hR hP hK hD hS ht hWm) hS.2.2 dL_addOperation_9

set_option maxHeartbeats 4000000 in
set_option maxRecDepth 100000 in
theorem c_L_receive (l : Launch) (hl0 : l.stackTraces = false) {D : va_G} {tA : Nat → ClassId} {S : St} {ad : Nat → Nat → Nat} {L : List Nat} {f : Nat → va_E} {sz : Nat} (hR : Rep tA S ad L f) (hW : WT S) {p9 su : Nat} (hp : p9 < sN S 1 0) (hsu : su < 4) (qy co bad : Int32) (hm : sI S 20 p9 = 0) (hqy : inR qy 1 500 = true) (hco : inR co 0 999 = true) (hbad : inR bad 0 20 = true) (hbc : sI S 1 0 < 60) (hn : sN S 2 0 < 90) : Met l yL_receive (wsW yL_receive cL_receive 7 (some .int) [(0, 11, 12, 32), (0, 11, 17, 35), (0, 11, 22, 19), (0, 11, 27, 22)]) ({ frames := 5, cells := 4, slots := 16, locals := 155 }) (va_Pc [.ref (ad 0 0), .int (nI p9), .int qy, .int co, .int (nI su), .int bad] (gW D tA L f sz)) (va_Qi (fun (r : Int32) (u : gU) => r = nI (sN S 2 0) ∧ (∃ T, SupEq (rcT S p9 qy co) T ∧ (u.1 = T ∨ u.1 = sAdd T 14 0 (sN S 2 0))) ∧ ∀ k i, V S k i → u.2.1 k i = ad k i) (gE D tA (va_A (va_pl L f) sz)) (va_A (va_pl L f) sz)) 4 16 (va_A (va_pl L f) sz) := by
  refine va_MetW (cc := cL_receive) (maxL := 7) (ret := (some .int)) (hh := [(0, 11, 12, 32), (0, 11, 17, 35), (0, 11, 22, 19), (0, 11, 27, 22)]) (by decide) rfl ?_
  intro p e s m args below meth c s₁ B hml hv
  obtain ⟨rfl, ⟨⟨hsz, hP, hK, hD0⟩, hX⟩, hQ⟩ := hv
  have hx := B.exec
  have hb := B.bytes
  have hr := B.returns
  have hlocks := B.notSynchronized
  have hts9 := atoms_spec (ws := (wsW yL_receive cL_receive 7 (some .int) [(0, 11, 12, 32), (0, 11, 17, 35), (0, 11, 22, 19), (0, 11, 27, 22)])) B.pre
  have hta : ∀ w ∈ WA, w.before _ s = true := fun w h => hts9 w (List.mem_cons_of_mem _ h)
  have hown : s.vm.findClass RL = some m.cls := findClass_of_methodNamed B.named
  have htab := vx_table (x := yL_receive) B (hts9 _ List.mem_cons_self)
  subst hsz
  have hD : va_D (va_A (va_pl L f) s.heap.size) (va_pl L f) := hD0.self (sz := s.heap.size)
  generalize hAe : va_A (va_pl L f) s.heap.size = A at hD hQ ⊢
  have hA : ∀ q : Nat, s.heap.size ≤ q → A q := fun q h => by rw [← hAe]; exact Or.inr h
  have hS : va_S A s.heap s.heap [] := va_S.rf
  have hP : va_P D vwCl (va_pl L f) s.heap := hP
  have hl := lv_entry ([.ref (ad 0 0), .int (nI p9), .int qy, .int co, .int (nI su), .int bad]) (n := 7) (Nat.le_of_ble_eq_true rfl)
  rw [lg_entry_eq]
  generalize (lg_sl ([.ref (ad 0 0), .int (nI p9), .int qy, .int co, .int (nI su), .int bad]) ++ List.replicate (7 - (lg_sl ([.ref (ad 0 0), .int (nI p9), .int qy, .int co, .int (nI su), .int bad])).length) Slot.unset).toArray = ls at hl ⊢
  have hl : lv_has ls 7 [(0, .ref (ad 0 0)), (1, .int (nI p9)), (2, .int qy), (3, .int co), (4, .int (nI su)), (5, .int bad)] := hl
  refine lv_aload_n hx hb dL_receive_0 rfl (lv_at hl 0 rfl) ?_
  refine lv_iload_n hx hb dL_receive_1 rfl (lv_at hl 1 rfl) ?_
  refine lv_iload_n hx hb dL_receive_2 rfl (lv_at hl 2 rfl) ?_
  refine lv_iload_n hx hb dL_receive_3 rfl (lv_at hl 3 rfl) ?_
  refine lv_iload hx hb dL_receive_4 (lv_at hl 4 rfl) ?_
  refine lv_iload hx hb dL_receive_6 (lv_at hl 5 rfl) ?_
  obtain ⟨q1, e2⟩ := cell_0 hR (rfl : (0 : Nat) = 0)
  refine gwr_iY (ci := 12) (As := [.int (nI p9), .int qy, .int co, .int (nI su), .int bad]) (rest := []) ⟨hx, hb, hml, hown, hta⟩ (c_X10_receive l hR hW hp hsu qy co bad hm hqy hco hbad hbc hn) (cwV 5 hta (gWV mw388 mw389 mw390 mw40 mw391) rfl rfl rfl (by decide +kernel) ⟨Nat.le_of_ble_eq_true rfl, Nat.le_of_ble_eq_true rfl⟩) hX hK hP hD hS hA rfl e2 rfl hl.1 rfl (Nat.le_of_ble_eq_true rfl) dL_receive_8 ⟨Nat.le_of_ble_eq_true rfl, Nat.le_of_ble_eq_true rfl⟩ (fun r9 u9 H locs hw hR hP hD hS => ?_)
  refine W.widen (k := 4) (n := 16) (Nat.le_of_ble_eq_true rfl) (Nat.le_of_ble_eq_true rfl) ?_
  exact W.iret (v := r9) hx hb hr (fun t ht hWm => gend_i (u := u9) hw hR hP hK hD hS ht hWm) hS.2.2 dL_receive_11

set_option maxHeartbeats 4000000 in
set_option maxRecDepth 100000 in
theorem c_L_hold1 (l : Launch) (hl0 : l.stackTraces = false) {D : va_G} {tA : Nat → ClassId} {S : St} {ad : Nat → Nat → Nat} {L : List Nat} {f : Nat → va_E} {sz : Nat} (hR : Rep tA S ad L f) (hW : WT S) {i : Nat} (hi : i < sN S 2 0) : Met l yL_hold (wsW yL_hold cL_hold 4 (some .int) [(0, 6, 7, 32)]) ({ frames := 5, cells := 0, slots := 0, locals := 116 }) (va_Pc [.ref (ad 0 0), .int (nI i), .int 1] (gW D tA L f sz)) (va_Qi (fun (r : Int32) (u : gU) => r = pohR S i ∧ pohS S i = u.1 ∧ ad = u.2.1 ∧ L = u.2.2.1) (gE D tA (va_A (va_pl L f) sz)) (va_A (va_pl L f) sz)) 0 0 (va_A (va_pl L f) sz) := by
  refine va_MetW (cc := cL_hold) (maxL := 4) (ret := (some .int)) (hh := [(0, 6, 7, 32)]) (by decide) rfl ?_
  intro p e s m args below meth c s₁ B hml hv
  obtain ⟨rfl, ⟨⟨hsz, hP, hK, hD0⟩, hX⟩, hQ⟩ := hv
  have hx := B.exec
  have hb := B.bytes
  have hr := B.returns
  have hlocks := B.notSynchronized
  have hts9 := atoms_spec (ws := (wsW yL_hold cL_hold 4 (some .int) [(0, 6, 7, 32)])) B.pre
  have hta : ∀ w ∈ WA, w.before _ s = true := fun w h => hts9 w (List.mem_cons_of_mem _ h)
  have hown : s.vm.findClass RL = some m.cls := findClass_of_methodNamed B.named
  have htab := vx_table (x := yL_hold) B (hts9 _ List.mem_cons_self)
  subst hsz
  have hD : va_D (va_A (va_pl L f) s.heap.size) (va_pl L f) := hD0.self (sz := s.heap.size)
  generalize hAe : va_A (va_pl L f) s.heap.size = A at hD hQ ⊢
  have hA : ∀ q : Nat, s.heap.size ≤ q → A q := fun q h => by rw [← hAe]; exact Or.inr h
  have hS : va_S A s.heap s.heap [] := va_S.rf
  have hP : va_P D vwCl (va_pl L f) s.heap := hP
  have hl := lv_entry ([.ref (ad 0 0), .int (nI i), .int 1]) (n := 4) (Nat.le_of_ble_eq_true rfl)
  rw [lg_entry_eq]
  generalize (lg_sl ([.ref (ad 0 0), .int (nI i), .int 1]) ++ List.replicate (4 - (lg_sl ([.ref (ad 0 0), .int (nI i), .int 1])).length) Slot.unset).toArray = ls at hl ⊢
  have hl : lv_has ls 4 [(0, .ref (ad 0 0)), (1, .int (nI i)), (2, .int 1)] := hl
  refine lv_aload_n hx hb dL_hold_0 rfl (lv_at hl 0 rfl) ?_
  refine lv_iload_n hx hb dL_hold_1 rfl (lv_at hl 1 rfl) ?_
  refine lv_iload_n hx hb dL_hold_2 rfl (lv_at hl 2 rfl) ?_
  obtain ⟨q1, e2⟩ := cell_0 hR (rfl : (0 : Nat) = 0)
  refine gwr_i (ci := 12) (As := [.int (nI i), .int 1]) (rest := []) ⟨hx, hb, hml, hown, hta⟩ (c_X10_hold1 l hR hW hi) (cwV 2 hta (gWV mw452 mw453 mw454 mw40 mw455) rfl rfl rfl (by decide +kernel) ⟨Nat.le_of_ble_eq_true rfl, Nat.le_of_ble_eq_true rfl⟩) hK hP hD hS hA rfl e2 rfl hl.1 rfl (Nat.le_of_ble_eq_true rfl) dL_hold_3 ⟨Nat.le_of_ble_eq_true rfl, Nat.le_of_ble_eq_true rfl⟩ (fun r9 u9 H locs hw hR hP hD hS => ?_)
  refine W.widen (k := 0) (n := 0) (Nat.le_of_ble_eq_true rfl) (Nat.le_of_ble_eq_true rfl) ?_
  exact W.iret (v := r9) hx hb hr (fun t ht hWm => gend_i (u := u9) hw hR hP hK hD hS ht hWm) hS.2.2 dL_hold_6

set_option maxHeartbeats 4000000 in
set_option maxRecDepth 100000 in
theorem c_L_hold0 (l : Launch) (hl0 : l.stackTraces = false) {D : va_G} {tA : Nat → ClassId} {S : St} {ad : Nat → Nat → Nat} {L : List Nat} {f : Nat → va_E} {sz : Nat} (hR : Rep tA S ad L f) (hW : WT S) {i : Nat} (hi : i < sN S 2 0) : Met l yL_hold (wsW yL_hold cL_hold 4 (some .int) [(0, 6, 7, 32)]) ({ frames := 2, cells := 0, slots := 0, locals := 45 }) (va_Pc [.ref (ad 0 0), .int (nI i), .int 0] (gW D tA L f sz)) (va_Qi (fun (r : Int32) (u : gU) => r = 0 ∧ sDel S 14 0 i = u.1 ∧ ad = u.2.1 ∧ L = u.2.2.1) (gE D tA (va_A (va_pl L f) sz)) (va_A (va_pl L f) sz)) 0 0 (va_A (va_pl L f) sz) := by
  refine va_MetW (cc := cL_hold) (maxL := 4) (ret := (some .int)) (hh := [(0, 6, 7, 32)]) (by decide) rfl ?_
  intro p e s m args below meth c s₁ B hml hv
  obtain ⟨rfl, ⟨⟨hsz, hP, hK, hD0⟩, hX⟩, hQ⟩ := hv
  have hx := B.exec
  have hb := B.bytes
  have hr := B.returns
  have hlocks := B.notSynchronized
  have hts9 := atoms_spec (ws := (wsW yL_hold cL_hold 4 (some .int) [(0, 6, 7, 32)])) B.pre
  have hta : ∀ w ∈ WA, w.before _ s = true := fun w h => hts9 w (List.mem_cons_of_mem _ h)
  have hown : s.vm.findClass RL = some m.cls := findClass_of_methodNamed B.named
  have htab := vx_table (x := yL_hold) B (hts9 _ List.mem_cons_self)
  subst hsz
  have hD : va_D (va_A (va_pl L f) s.heap.size) (va_pl L f) := hD0.self (sz := s.heap.size)
  generalize hAe : va_A (va_pl L f) s.heap.size = A at hD hQ ⊢
  have hA : ∀ q : Nat, s.heap.size ≤ q → A q := fun q h => by rw [← hAe]; exact Or.inr h
  have hS : va_S A s.heap s.heap [] := va_S.rf
  have hP : va_P D vwCl (va_pl L f) s.heap := hP
  have hl := lv_entry ([.ref (ad 0 0), .int (nI i), .int 0]) (n := 4) (Nat.le_of_ble_eq_true rfl)
  rw [lg_entry_eq]
  generalize (lg_sl ([.ref (ad 0 0), .int (nI i), .int 0]) ++ List.replicate (4 - (lg_sl ([.ref (ad 0 0), .int (nI i), .int 0])).length) Slot.unset).toArray = ls at hl ⊢
  have hl : lv_has ls 4 [(0, .ref (ad 0 0)), (1, .int (nI i)), (2, .int 0)] := hl
  refine lv_aload_n hx hb dL_hold_0 rfl (lv_at hl 0 rfl) ?_
  refine lv_iload_n hx hb dL_hold_1 rfl (lv_at hl 1 rfl) ?_
  refine lv_iload_n hx hb dL_hold_2 rfl (lv_at hl 2 rfl) ?_
  obtain ⟨q1, e2⟩ := cell_0 hR (rfl : (0 : Nat) = 0)
  refine gwr_i (ci := 12) (As := [.int (nI i), .int 0]) (rest := []) ⟨hx, hb, hml, hown, hta⟩ (c_X10_hold0 l hR hW hi) (cwV 2 hta (gWV mw452 mw453 mw454 mw40 mw455) rfl rfl rfl (by decide +kernel) ⟨Nat.le_of_ble_eq_true rfl, Nat.le_of_ble_eq_true rfl⟩) hK hP hD hS hA rfl e2 rfl hl.1 rfl (Nat.le_of_ble_eq_true rfl) dL_hold_3 ⟨Nat.le_of_ble_eq_true rfl, Nat.le_of_ble_eq_true rfl⟩ (fun r9 u9 H locs hw hR hP hD hS => ?_)
  refine W.widen (k := 0) (n := 0) (Nat.le_of_ble_eq_true rfl) (Nat.le_of_ble_eq_true rfl) ?_
  exact W.iret (v := r9) hx hb hr (fun t ht hWm => gend_i (u := u9) hw hR hP hK hD hS ht hWm) hS.2.2 dL_hold_6

set_option maxHeartbeats 4000000 in
set_option maxRecDepth 100000 in
theorem c_L_order (l : Launch) (hl0 : l.stackTraces = false) {D : va_G} {tA : Nat → ClassId} {S : St} {ad : Nat → Nat → Nat} {L : List Nat} {f : Nat → va_E} {sz : Nat} (hR : Rep tA S ad L f) (hW : WT S) {p9 : Nat} (hp : p9 < sN S 1 0) (qy op du : Int32) (hq : inR qy 1 100 = true) (hop : inR op 0 2 = true) (hdu : inR du 0 9999 = true) (hn : sN S 3 0 < 30) : Met l yL_order (wsW yL_order cL_order 6 (some .int) [(0, 9, 10, 32), (0, 9, 15, 19), (0, 9, 20, 22)]) ({ frames := 4, cells := 4, slots := 111, locals := 90 }) (va_Pc [.ref (ad 0 0), .int (nI p9), .int qy, .int op, .int du] (gW D tA L f sz)) (va_Qi (fun (r : Int32) (u : gU) => r = nI (sN S 3 0) ∧ nwOS S p9 qy op du = u.1 ∧ ∀ k i, V S k i → u.2.1 k i = ad k i) (gE D tA (va_A (va_pl L f) sz)) (va_A (va_pl L f) sz)) 4 111 (va_A (va_pl L f) sz) := by
  refine va_MetW (cc := cL_order) (maxL := 6) (ret := (some .int)) (hh := [(0, 9, 10, 32), (0, 9, 15, 19), (0, 9, 20, 22)]) (by decide) rfl ?_
  intro p e s m args below meth c s₁ B hml hv
  obtain ⟨rfl, ⟨⟨hsz, hP, hK, hD0⟩, hX⟩, hQ⟩ := hv
  have hx := B.exec
  have hb := B.bytes
  have hr := B.returns
  have hlocks := B.notSynchronized
  have hts9 := atoms_spec (ws := (wsW yL_order cL_order 6 (some .int) [(0, 9, 10, 32), (0, 9, 15, 19), (0, 9, 20, 22)])) B.pre
  have hta : ∀ w ∈ WA, w.before _ s = true := fun w h => hts9 w (List.mem_cons_of_mem _ h)
  have hown : s.vm.findClass RL = some m.cls := findClass_of_methodNamed B.named
  have htab := vx_table (x := yL_order) B (hts9 _ List.mem_cons_self)
  subst hsz
  have hD : va_D (va_A (va_pl L f) s.heap.size) (va_pl L f) := hD0.self (sz := s.heap.size)
  generalize hAe : va_A (va_pl L f) s.heap.size = A at hD hQ ⊢
  have hA : ∀ q : Nat, s.heap.size ≤ q → A q := fun q h => by rw [← hAe]; exact Or.inr h
  have hS : va_S A s.heap s.heap [] := va_S.rf
  have hP : va_P D vwCl (va_pl L f) s.heap := hP
  have hl := lv_entry ([.ref (ad 0 0), .int (nI p9), .int qy, .int op, .int du]) (n := 6) (Nat.le_of_ble_eq_true rfl)
  rw [lg_entry_eq]
  generalize (lg_sl ([.ref (ad 0 0), .int (nI p9), .int qy, .int op, .int du]) ++ List.replicate (6 - (lg_sl ([.ref (ad 0 0), .int (nI p9), .int qy, .int op, .int du])).length) Slot.unset).toArray = ls at hl ⊢
  have hl : lv_has ls 6 [(0, .ref (ad 0 0)), (1, .int (nI p9)), (2, .int qy), (3, .int op), (4, .int du)] := hl
  refine lv_aload_n hx hb dL_order_0 rfl (lv_at hl 0 rfl) ?_
  refine lv_iload_n hx hb dL_order_1 rfl (lv_at hl 1 rfl) ?_
  refine lv_iload_n hx hb dL_order_2 rfl (lv_at hl 2 rfl) ?_
  refine lv_iload_n hx hb dL_order_3 rfl (lv_at hl 3 rfl) ?_
  refine lv_iload hx hb dL_order_4 (lv_at hl 4 rfl) ?_
  obtain ⟨q1, e2⟩ := cell_0 hR (rfl : (0 : Nat) = 0)
  refine gwr_iY (ci := 12) (As := [.int (nI p9), .int qy, .int op, .int du]) (rest := []) ⟨hx, hb, hml, hown, hta⟩ (c_X10_order l hR hW hp qy op du hq hop hdu hn) (cwV 4 hta (gWV mw502 mw503 mw504 mw40 mw505) rfl rfl rfl (by decide +kernel) ⟨Nat.le_of_ble_eq_true rfl, Nat.le_of_ble_eq_true rfl⟩) hX hK hP hD hS hA rfl e2 rfl hl.1 rfl (Nat.le_of_ble_eq_true rfl) dL_order_6 ⟨Nat.le_of_ble_eq_true rfl, Nat.le_of_ble_eq_true rfl⟩ (fun r9 u9 H locs hw hR hP hD hS => ?_)
  refine W.widen (k := 4) (n := 111) (Nat.le_of_ble_eq_true rfl) (Nat.le_of_ble_eq_true rfl) ?_
  exact W.iret (v := r9) hx hb hr (fun t ht hWm => gend_i (u := u9) hw hR hP hK hD hS ht hWm) hS.2.2 dL_order_9

set_option maxHeartbeats 4000000 in
set_option maxRecDepth 100000 in
theorem c_L_orderX (l : Launch) (hl0 : l.stackTraces = false) {D : va_G} {tA : Nat → ClassId} {S : St} {ad : Nat → Nat → Nat} {L : List Nat} {f : Nat → va_E} {sz : Nat} (hR : Rep tA S ad L f) (hW : WT S) {p9 : Nat} (hp : p9 < sN S 1 0) (qy op du : Int32) (hq : inR qy 1 100 = true) (hop : inR op 0 2 = true) (hdu : inR du 0 9999 = true) (hn : sN S 3 0 = 30) : Met l yL_order (wsW yL_order cL_order 6 (some .int) [(0, 9, 10, 32), (0, 9, 15, 19), (0, 9, 20, 22)]) ({ frames := 7, cells := 1, slots := 6, locals := 123 }) (va_Pc [.ref (ad 0 0), .int (nI p9), .int qy, .int op, .int du] (gW D tA L f sz)) (va_Qi (fun (r : Int32) (u : gU) => r = -1000000 ∧ S = u.1 ∧ ad = u.2.1 ∧ L = u.2.2.1) (gE D tA (va_A (va_pl L f) sz)) (va_A (va_pl L f) sz)) 1 6 (va_A (va_pl L f) sz) := by
  refine va_MetW (cc := cL_order) (maxL := 6) (ret := (some .int)) (hh := [(0, 9, 10, 32), (0, 9, 15, 19), (0, 9, 20, 22)]) (by decide) rfl ?_
  intro p e s m args below meth c s₁ B hml hv
  obtain ⟨rfl, ⟨⟨hsz, hP, hK, hD0⟩, hX⟩, hQ⟩ := hv
  have hx := B.exec
  have hb := B.bytes
  have hr := B.returns
  have hlocks := B.notSynchronized
  have hts9 := atoms_spec (ws := (wsW yL_order cL_order 6 (some .int) [(0, 9, 10, 32), (0, 9, 15, 19), (0, 9, 20, 22)])) B.pre
  have hta : ∀ w ∈ WA, w.before _ s = true := fun w h => hts9 w (List.mem_cons_of_mem _ h)
  have hown : s.vm.findClass RL = some m.cls := findClass_of_methodNamed B.named
  have htab := vx_table (x := yL_order) B (hts9 _ List.mem_cons_self)
  subst hsz
  have hD : va_D (va_A (va_pl L f) s.heap.size) (va_pl L f) := hD0.self (sz := s.heap.size)
  generalize hAe : va_A (va_pl L f) s.heap.size = A at hD hQ ⊢
  have hA : ∀ q : Nat, s.heap.size ≤ q → A q := fun q h => by rw [← hAe]; exact Or.inr h
  have hS : va_S A s.heap s.heap [] := va_S.rf
  have hP : va_P D vwCl (va_pl L f) s.heap := hP
  have hl := lv_entry ([.ref (ad 0 0), .int (nI p9), .int qy, .int op, .int du]) (n := 6) (Nat.le_of_ble_eq_true rfl)
  rw [lg_entry_eq]
  generalize (lg_sl ([.ref (ad 0 0), .int (nI p9), .int qy, .int op, .int du]) ++ List.replicate (6 - (lg_sl ([.ref (ad 0 0), .int (nI p9), .int qy, .int op, .int du])).length) Slot.unset).toArray = ls at hl ⊢
  have hl : lv_has ls 6 [(0, .ref (ad 0 0)), (1, .int (nI p9)), (2, .int qy), (3, .int op), (4, .int du)] := hl
  refine lv_aload_n hx hb dL_order_0 rfl (lv_at hl 0 rfl) ?_
  refine lv_iload_n hx hb dL_order_1 rfl (lv_at hl 1 rfl) ?_
  refine lv_iload_n hx hb dL_order_2 rfl (lv_at hl 2 rfl) ?_
  refine lv_iload_n hx hb dL_order_3 rfl (lv_at hl 3 rfl) ?_
  refine lv_iload hx hb dL_order_4 (lv_at hl 4 rfl) ?_
  obtain ⟨q1, e2⟩ := cell_0 hR (rfl : (0 : Nat) = 0)
  refine gX9 (ci := 12) (As := [.int (nI p9), .int qy, .int op, .int du]) (rest := []) ⟨hx, hb, hml, hown, hta⟩ (x_X10_order l hl0 hR hW hp qy op du hq hop hdu hn) (cwV 4 hta (gWV mw502 mw503 mw504 mw40 mw505) rfl rfl rfl (by decide +kernel) ⟨Nat.le_of_ble_eq_true rfl, Nat.le_of_ble_eq_true rfl⟩) hQ hK hP hD hS hA rfl e2 rfl hl.1 rfl (Nat.le_of_ble_eq_true rfl) dL_order_6 ⟨Nat.le_of_ble_eq_true rfl, Nat.le_of_ble_eq_true rfl⟩ (fun ce q9 H locs hP hS hc9 hv9 hcl9 => ?_)
  refine vx_catch (own := RL) (name := "java/lang/IllegalStateException") hown [⟨0, 9, 10, 32⟩, ⟨0, 9, 15, 19⟩] ⟨0, 9, 20, 22⟩ [] (by rw [htab]; rfl) (fun z hz => by rcases List.mem_cons.mp hz with h | h; rw [h]; exact Or.inr ⟨by decide, "java/lang/IndexOutOfBoundsException", (hta _ mw303), hQ.N (xISE, xIOB) (by decide)⟩; rw [List.mem_singleton.mp h]; exact Or.inr ⟨by decide, "java/lang/IllegalArgumentException", (hta _ mw217), hQ.N (xISE, xIAE) (by decide)⟩) (by decide) (by decide) (hta _ mw218) (va_Nw.use rfl (hQ.C xISE (by decide))) hc9 hv9 hcl9 ?_
  refine W.eq (g2 := F0 m 20 ls [.ref q9]) rfl ?_
  refine lv_astore (lv' := [(5, .ref q9), (0, .ref (ad 0 0)), (1, .int (nI p9)), (2, .int qy), (3, .int op), (4, .int du)]) hx hb dL_order_20 hl (by decide) rfl (fun ls hl => ?_)
  refine lv_ldc (own := RL) (index := 24) (v := -1000000) hx hb hown (hta _ mw262) dL_order_22 ?_
  refine W.widen (k := 1) (n := 6) (Nat.le_of_ble_eq_true rfl) (Nat.le_of_ble_eq_true rfl) ?_
  exact W.iret (v := (-1000000)) hx hb hr (fun t ht hWm => gend_i (u := (S, ad, L, f)) ⟨rfl, rfl, rfl, rfl⟩ hR hP hK hD hS ht hWm) hS.2.2 dL_order_24

set_option maxHeartbeats 4000000 in
set_option maxRecDepth 100000 in
theorem c_L_withdraw (l : Launch) (hl0 : l.stackTraces = false) {D : va_G} {tA : Nat → ClassId} {S : St} {ad : Nat → Nat → Nat} {L : List Nat} {f : Nat → va_E} {sz : Nat} (hR : Rep tA S ad L f) (hW : WT S) {o : Nat} (ho : o < sN S 3 0) (h112 : sI S 53 o = 112) : Met l yL_withdraw (wsW yL_withdraw cL_withdraw 3 (some .int) [(0, 5, 6, 32), (0, 5, 10, 35)]) ({ frames := 3, cells := 0, slots := 0, locals := 72 }) (va_Pc [.ref (ad 0 0), .int (nI o)] (gW D tA L f sz)) (va_Qi (fun (r : Int32) (u : gU) => r = dpR S o ∧ dpS S o = u.1 ∧ ad = u.2.1 ∧ L = u.2.2.1) (gE D tA (va_A (va_pl L f) sz)) (va_A (va_pl L f) sz)) 0 0 (va_A (va_pl L f) sz) := by
  refine va_MetW (cc := cL_withdraw) (maxL := 3) (ret := (some .int)) (hh := [(0, 5, 6, 32), (0, 5, 10, 35)]) (by decide) rfl ?_
  intro p e s m args below meth c s₁ B hml hv
  obtain ⟨rfl, ⟨⟨hsz, hP, hK, hD0⟩, hX⟩, hQ⟩ := hv
  have hx := B.exec
  have hb := B.bytes
  have hr := B.returns
  have hlocks := B.notSynchronized
  have hts9 := atoms_spec (ws := (wsW yL_withdraw cL_withdraw 3 (some .int) [(0, 5, 6, 32), (0, 5, 10, 35)])) B.pre
  have hta : ∀ w ∈ WA, w.before _ s = true := fun w h => hts9 w (List.mem_cons_of_mem _ h)
  have hown : s.vm.findClass RL = some m.cls := findClass_of_methodNamed B.named
  have htab := vx_table (x := yL_withdraw) B (hts9 _ List.mem_cons_self)
  subst hsz
  have hD : va_D (va_A (va_pl L f) s.heap.size) (va_pl L f) := hD0.self (sz := s.heap.size)
  generalize hAe : va_A (va_pl L f) s.heap.size = A at hD hQ ⊢
  have hA : ∀ q : Nat, s.heap.size ≤ q → A q := fun q h => by rw [← hAe]; exact Or.inr h
  have hS : va_S A s.heap s.heap [] := va_S.rf
  have hP : va_P D vwCl (va_pl L f) s.heap := hP
  have hl := lv_entry ([.ref (ad 0 0), .int (nI o)]) (n := 3) (Nat.le_of_ble_eq_true rfl)
  rw [lg_entry_eq]
  generalize (lg_sl ([.ref (ad 0 0), .int (nI o)]) ++ List.replicate (3 - (lg_sl ([.ref (ad 0 0), .int (nI o)])).length) Slot.unset).toArray = ls at hl ⊢
  have hl : lv_has ls 3 [(0, .ref (ad 0 0)), (1, .int (nI o))] := hl
  refine lv_aload_n hx hb dL_withdraw_0 rfl (lv_at hl 0 rfl) ?_
  refine lv_iload_n hx hb dL_withdraw_1 rfl (lv_at hl 1 rfl) ?_
  obtain ⟨q1, e2⟩ := cell_0 hR (rfl : (0 : Nat) = 0)
  refine gwr_i (ci := 12) (As := [.int (nI o)]) (rest := []) ⟨hx, hb, hml, hown, hta⟩ (c_X10_withdraw l hR hW ho h112) (cwV 1 hta (gWV mw555 mw556 mw557 mw40 mw558) rfl rfl rfl (by decide +kernel) ⟨Nat.le_of_ble_eq_true rfl, Nat.le_of_ble_eq_true rfl⟩) hK hP hD hS hA rfl e2 rfl hl.1 rfl (Nat.le_of_ble_eq_true rfl) dL_withdraw_2 ⟨Nat.le_of_ble_eq_true rfl, Nat.le_of_ble_eq_true rfl⟩ (fun r9 u9 H locs hw hR hP hD hS => ?_)
  refine W.widen (k := 0) (n := 0) (Nat.le_of_ble_eq_true rfl) (Nat.le_of_ble_eq_true rfl) ?_
  exact W.iret (v := r9) hx hb hr (fun t ht hWm => gend_i (u := u9) hw hR hP hK hD hS ht hWm) hS.2.2 dL_withdraw_5

set_option maxHeartbeats 4000000 in
set_option maxRecDepth 100000 in
theorem c_L_scrap (l : Launch) (hl0 : l.stackTraces = false) {D : va_G} {tA : Nat → ClassId} {S : St} {ad : Nat → Nat → Nat} {L : List Nat} {f : Nat → va_E} {sz : Nat} (hR : Rep tA S ad L f) (hW : WT S) {o : Nat} (ho : o < sN S 3 0) (k : Int32) (hwk : oInWork S o = true) (hk : inR k 1 (sI S 60 o) = true) : Met l yL_scrap (wsW yL_scrap cL_scrap 4 (some .int) [(0, 6, 7, 32), (0, 6, 11, 35), (0, 6, 15, 19)]) ({ frames := 2, cells := 0, slots := 0, locals := 46 }) (va_Pc [.ref (ad 0 0), .int (nI o), .int k] (gW D tA L f sz)) (va_Qi (fun (r : Int32) (u : gU) => r = sI S 60 o - k ∧ scS S o k = u.1 ∧ ad = u.2.1 ∧ L = u.2.2.1) (gE D tA (va_A (va_pl L f) sz)) (va_A (va_pl L f) sz)) 0 0 (va_A (va_pl L f) sz) := by
  refine va_MetW (cc := cL_scrap) (maxL := 4) (ret := (some .int)) (hh := [(0, 6, 7, 32), (0, 6, 11, 35), (0, 6, 15, 19)]) (by decide) rfl ?_
  intro p e s m args below meth c s₁ B hml hv
  obtain ⟨rfl, ⟨⟨hsz, hP, hK, hD0⟩, hX⟩, hQ⟩ := hv
  have hx := B.exec
  have hb := B.bytes
  have hr := B.returns
  have hlocks := B.notSynchronized
  have hts9 := atoms_spec (ws := (wsW yL_scrap cL_scrap 4 (some .int) [(0, 6, 7, 32), (0, 6, 11, 35), (0, 6, 15, 19)])) B.pre
  have hta : ∀ w ∈ WA, w.before _ s = true := fun w h => hts9 w (List.mem_cons_of_mem _ h)
  have hown : s.vm.findClass RL = some m.cls := findClass_of_methodNamed B.named
  have htab := vx_table (x := yL_scrap) B (hts9 _ List.mem_cons_self)
  subst hsz
  have hD : va_D (va_A (va_pl L f) s.heap.size) (va_pl L f) := hD0.self (sz := s.heap.size)
  generalize hAe : va_A (va_pl L f) s.heap.size = A at hD hQ ⊢
  have hA : ∀ q : Nat, s.heap.size ≤ q → A q := fun q h => by rw [← hAe]; exact Or.inr h
  have hS : va_S A s.heap s.heap [] := va_S.rf
  have hP : va_P D vwCl (va_pl L f) s.heap := hP
  have hl := lv_entry ([.ref (ad 0 0), .int (nI o), .int k]) (n := 4) (Nat.le_of_ble_eq_true rfl)
  rw [lg_entry_eq]
  generalize (lg_sl ([.ref (ad 0 0), .int (nI o), .int k]) ++ List.replicate (4 - (lg_sl ([.ref (ad 0 0), .int (nI o), .int k])).length) Slot.unset).toArray = ls at hl ⊢
  have hl : lv_has ls 4 [(0, .ref (ad 0 0)), (1, .int (nI o)), (2, .int k)] := hl
  refine lv_aload_n hx hb dL_scrap_0 rfl (lv_at hl 0 rfl) ?_
  refine lv_iload_n hx hb dL_scrap_1 rfl (lv_at hl 1 rfl) ?_
  refine lv_iload_n hx hb dL_scrap_2 rfl (lv_at hl 2 rfl) ?_
  obtain ⟨q1, e2⟩ := cell_0 hR (rfl : (0 : Nat) = 0)
  refine gwr_i (ci := 12) (As := [.int (nI o), .int k]) (rest := []) ⟨hx, hb, hml, hown, hta⟩ (c_X10_scrap l hR hW ho k hwk hk) (cwV 2 hta (gWV mw565 mw566 mw567 mw40 mw568) rfl rfl rfl (by decide +kernel) ⟨Nat.le_of_ble_eq_true rfl, Nat.le_of_ble_eq_true rfl⟩) hK hP hD hS hA rfl e2 rfl hl.1 rfl (Nat.le_of_ble_eq_true rfl) dL_scrap_3 ⟨Nat.le_of_ble_eq_true rfl, Nat.le_of_ble_eq_true rfl⟩ (fun r9 u9 H locs hw hR hP hD hS => ?_)
  refine W.widen (k := 0) (n := 0) (Nat.le_of_ble_eq_true rfl) (Nat.le_of_ble_eq_true rfl) ?_
  exact W.iret (v := r9) hx hb hr (fun t ht hWm => gend_i (u := u9) hw hR hP hK hD hS ht hWm) hS.2.2 dL_scrap_6

set_option maxHeartbeats 4000000 in
set_option maxRecDepth 100000 in
theorem c_L_scrapU (l : Launch) (hl0 : l.stackTraces = false) {D : va_G} {tA : Nat → ClassId} {S : St} {ad : Nat → Nat → Nat} {L : List Nat} {f : Nat → va_E} {sz : Nat} (hR : Rep tA S ad L f) (hW : WT S) {o : Nat} (ho : o < sN S 3 0) (k : Int32) (hwk : oInWork S o = false) : Met l yL_scrap (wsW yL_scrap cL_scrap 4 (some .int) [(0, 6, 7, 32), (0, 6, 11, 35), (0, 6, 15, 19)]) ({ frames := 7, cells := 1, slots := 6, locals := 122 }) (va_Pc [.ref (ad 0 0), .int (nI o), .int k] (gW D tA L f sz)) (va_Qi (fun (r : Int32) (u : gU) => r = -1500000 ∧ S = u.1 ∧ ad = u.2.1 ∧ L = u.2.2.1) (gE D tA (va_A (va_pl L f) sz)) (va_A (va_pl L f) sz)) 1 6 (va_A (va_pl L f) sz) := by
  refine va_MetW (cc := cL_scrap) (maxL := 4) (ret := (some .int)) (hh := [(0, 6, 7, 32), (0, 6, 11, 35), (0, 6, 15, 19)]) (by decide) rfl ?_
  intro p e s m args below meth c s₁ B hml hv
  obtain ⟨rfl, ⟨⟨hsz, hP, hK, hD0⟩, hX⟩, hQ⟩ := hv
  have hx := B.exec
  have hb := B.bytes
  have hr := B.returns
  have hlocks := B.notSynchronized
  have hts9 := atoms_spec (ws := (wsW yL_scrap cL_scrap 4 (some .int) [(0, 6, 7, 32), (0, 6, 11, 35), (0, 6, 15, 19)])) B.pre
  have hta : ∀ w ∈ WA, w.before _ s = true := fun w h => hts9 w (List.mem_cons_of_mem _ h)
  have hown : s.vm.findClass RL = some m.cls := findClass_of_methodNamed B.named
  have htab := vx_table (x := yL_scrap) B (hts9 _ List.mem_cons_self)
  subst hsz
  have hD : va_D (va_A (va_pl L f) s.heap.size) (va_pl L f) := hD0.self (sz := s.heap.size)
  generalize hAe : va_A (va_pl L f) s.heap.size = A at hD hQ ⊢
  have hA : ∀ q : Nat, s.heap.size ≤ q → A q := fun q h => by rw [← hAe]; exact Or.inr h
  have hS : va_S A s.heap s.heap [] := va_S.rf
  have hP : va_P D vwCl (va_pl L f) s.heap := hP
  have hl := lv_entry ([.ref (ad 0 0), .int (nI o), .int k]) (n := 4) (Nat.le_of_ble_eq_true rfl)
  rw [lg_entry_eq]
  generalize (lg_sl ([.ref (ad 0 0), .int (nI o), .int k]) ++ List.replicate (4 - (lg_sl ([.ref (ad 0 0), .int (nI o), .int k])).length) Slot.unset).toArray = ls at hl ⊢
  have hl : lv_has ls 4 [(0, .ref (ad 0 0)), (1, .int (nI o)), (2, .int k)] := hl
  refine lv_aload_n hx hb dL_scrap_0 rfl (lv_at hl 0 rfl) ?_
  refine lv_iload_n hx hb dL_scrap_1 rfl (lv_at hl 1 rfl) ?_
  refine lv_iload_n hx hb dL_scrap_2 rfl (lv_at hl 2 rfl) ?_
  obtain ⟨q1, e2⟩ := cell_0 hR (rfl : (0 : Nat) = 0)
  refine gX9 (ci := 12) (As := [.int (nI o), .int k]) (rest := []) ⟨hx, hb, hml, hown, hta⟩ (x_X10_scrapU l hl0 hR hW ho k hwk) (cwV 2 hta (gWV mw565 mw566 mw567 mw40 mw568) rfl rfl rfl (by decide +kernel) ⟨Nat.le_of_ble_eq_true rfl, Nat.le_of_ble_eq_true rfl⟩) hQ hK hP hD hS hA rfl e2 rfl hl.1 rfl (Nat.le_of_ble_eq_true rfl) dL_scrap_3 ⟨Nat.le_of_ble_eq_true rfl, Nat.le_of_ble_eq_true rfl⟩ (fun ce q9 H locs hP hS hc9 hv9 hcl9 => ?_)
  refine vx_catch (own := RL) (name := "java/lang/UnsupportedOperationException") hown [⟨0, 6, 7, 32⟩] ⟨0, 6, 11, 35⟩ [⟨0, 6, 15, 19⟩] (by rw [htab]; rfl) (fun z hz => by rw [List.mem_singleton.mp hz]; exact Or.inr ⟨by decide, "java/lang/IndexOutOfBoundsException", (hta _ mw303), hQ.N (xUOE, xIOB) (by decide)⟩) (by decide) (by decide) (hta _ mw313) (va_Nw.use rfl (hQ.C xUOE (by decide))) hc9 hv9 hcl9 ?_
  refine W.eq (g2 := F0 m 11 ls [.ref q9]) rfl ?_
  refine lv_astore_n (lv' := [(3, .ref q9), (0, .ref (ad 0 0)), (1, .int (nI o)), (2, .int k)]) hx hb dL_scrap_11 rfl hl (by decide) rfl (fun ls hl => ?_)
  refine lv_ldc (own := RL) (index := 37) (v := -1500000) hx hb hown (hta _ mw353) dL_scrap_12 ?_
  refine W.widen (k := 1) (n := 6) (Nat.le_of_ble_eq_true rfl) (Nat.le_of_ble_eq_true rfl) ?_
  exact W.iret (v := (-1500000)) hx hb hr (fun t ht hWm => gend_i (u := (S, ad, L, f)) ⟨rfl, rfl, rfl, rfl⟩ hR hP hK hD hS ht hWm) hS.2.2 dL_scrap_14

set_option maxHeartbeats 4000000 in
set_option maxRecDepth 100000 in
theorem c_L_scrapA (l : Launch) (hl0 : l.stackTraces = false) {D : va_G} {tA : Nat → ClassId} {S : St} {ad : Nat → Nat → Nat} {L : List Nat} {f : Nat → va_E} {sz : Nat} (hR : Rep tA S ad L f) (hW : WT S) {o : Nat} (ho : o < sN S 3 0) (k : Int32) (hwk : oInWork S o = true) (hk : inR k 1 (sI S 60 o) = false) : Met l yL_scrap (wsW yL_scrap cL_scrap 4 (some .int) [(0, 6, 7, 32), (0, 6, 11, 35), (0, 6, 15, 19)]) ({ frames := 7, cells := 1, slots := 6, locals := 122 }) (va_Pc [.ref (ad 0 0), .int (nI o), .int k] (gW D tA L f sz)) (va_Qi (fun (r : Int32) (u : gU) => r = -2000000 ∧ S = u.1 ∧ ad = u.2.1 ∧ L = u.2.2.1) (gE D tA (va_A (va_pl L f) sz)) (va_A (va_pl L f) sz)) 1 6 (va_A (va_pl L f) sz) := by
  refine va_MetW (cc := cL_scrap) (maxL := 4) (ret := (some .int)) (hh := [(0, 6, 7, 32), (0, 6, 11, 35), (0, 6, 15, 19)]) (by decide) rfl ?_
  intro p e s m args below meth c s₁ B hml hv
  obtain ⟨rfl, ⟨⟨hsz, hP, hK, hD0⟩, hX⟩, hQ⟩ := hv
  have hx := B.exec
  have hb := B.bytes
  have hr := B.returns
  have hlocks := B.notSynchronized
  have hts9 := atoms_spec (ws := (wsW yL_scrap cL_scrap 4 (some .int) [(0, 6, 7, 32), (0, 6, 11, 35), (0, 6, 15, 19)])) B.pre
  have hta : ∀ w ∈ WA, w.before _ s = true := fun w h => hts9 w (List.mem_cons_of_mem _ h)
  have hown : s.vm.findClass RL = some m.cls := findClass_of_methodNamed B.named
  have htab := vx_table (x := yL_scrap) B (hts9 _ List.mem_cons_self)
  subst hsz
  have hD : va_D (va_A (va_pl L f) s.heap.size) (va_pl L f) := hD0.self (sz := s.heap.size)
  generalize hAe : va_A (va_pl L f) s.heap.size = A at hD hQ ⊢
  have hA : ∀ q : Nat, s.heap.size ≤ q → A q := fun q h => by rw [← hAe]; exact Or.inr h
  have hS : va_S A s.heap s.heap [] := va_S.rf
  have hP : va_P D vwCl (va_pl L f) s.heap := hP
  have hl := lv_entry ([.ref (ad 0 0), .int (nI o), .int k]) (n := 4) (Nat.le_of_ble_eq_true rfl)
  rw [lg_entry_eq]
  generalize (lg_sl ([.ref (ad 0 0), .int (nI o), .int k]) ++ List.replicate (4 - (lg_sl ([.ref (ad 0 0), .int (nI o), .int k])).length) Slot.unset).toArray = ls at hl ⊢
  have hl : lv_has ls 4 [(0, .ref (ad 0 0)), (1, .int (nI o)), (2, .int k)] := hl
  refine lv_aload_n hx hb dL_scrap_0 rfl (lv_at hl 0 rfl) ?_
  refine lv_iload_n hx hb dL_scrap_1 rfl (lv_at hl 1 rfl) ?_
  refine lv_iload_n hx hb dL_scrap_2 rfl (lv_at hl 2 rfl) ?_
  obtain ⟨q1, e2⟩ := cell_0 hR (rfl : (0 : Nat) = 0)
  refine gX9 (ci := 12) (As := [.int (nI o), .int k]) (rest := []) ⟨hx, hb, hml, hown, hta⟩ (x_X10_scrapA l hl0 hR hW ho k hwk hk) (cwV 2 hta (gWV mw565 mw566 mw567 mw40 mw568) rfl rfl rfl (by decide +kernel) ⟨Nat.le_of_ble_eq_true rfl, Nat.le_of_ble_eq_true rfl⟩) hQ hK hP hD hS hA rfl e2 rfl hl.1 rfl (Nat.le_of_ble_eq_true rfl) dL_scrap_3 ⟨Nat.le_of_ble_eq_true rfl, Nat.le_of_ble_eq_true rfl⟩ (fun ce q9 H locs hP hS hc9 hv9 hcl9 => ?_)
  refine vx_catch (own := RL) (name := "java/lang/IllegalArgumentException") hown [⟨0, 6, 7, 32⟩, ⟨0, 6, 11, 35⟩] ⟨0, 6, 15, 19⟩ [] (by rw [htab]; rfl) (fun z hz => by rcases List.mem_cons.mp hz with h | h; rw [h]; exact Or.inr ⟨by decide, "java/lang/IndexOutOfBoundsException", (hta _ mw303), hQ.N (xIAE, xIOB) (by decide)⟩; rw [List.mem_singleton.mp h]; exact Or.inr ⟨by decide, "java/lang/UnsupportedOperationException", (hta _ mw313), hQ.N (xIAE, xUOE) (by decide)⟩) (by decide) (by decide) (hta _ mw217) (va_Nw.use rfl (hQ.C xIAE (by decide))) hc9 hv9 hcl9 ?_
  refine W.eq (g2 := F0 m 15 ls [.ref q9]) rfl ?_
  refine lv_astore_n (lv' := [(3, .ref q9), (0, .ref (ad 0 0)), (1, .int (nI o)), (2, .int k)]) hx hb dL_scrap_15 rfl hl (by decide) rfl (fun ls hl => ?_)
  refine lv_ldc (own := RL) (index := 21) (v := -2000000) hx hb hown (hta _ mw261) dL_scrap_16 ?_
  refine W.widen (k := 1) (n := 6) (Nat.le_of_ble_eq_true rfl) (Nat.le_of_ble_eq_true rfl) ?_
  exact W.iret (v := (-2000000)) hx hb hr (fun t ht hWm => gend_i (u := (S, ad, L, f)) ⟨rfl, rfl, rfl, rfl⟩ hR hP hK hD hS ht hWm) hS.2.2 dL_scrap_18

set_option maxHeartbeats 4000000 in
set_option maxRecDepth 100000 in
theorem c_L_advance (l : Launch) (hl0 : l.stackTraces = false) {D : va_G} {tA : Nat → ClassId} {S : St} {ad : Nat → Nat → Nat} {L : List Nat} {f : Nat → va_E} {sz : Nat} (hR : Rep tA S ad L f) (hW : WT S) {b : Nat} (hb12 : b ≤ 12) (hin : inR (nI b) 1 500 = true) (hnow : sI S 2 0 + nI b ≤ 5000) (hN : ∀ k, k < b → ∀ j, j < 5 → sN (ptL (avS S k) j) 2 0 < 90) : Met l yL_advance (wsW yL_advance cL_advance 3 (some .int) [(0, 5, 6, 19), (0, 5, 10, 22)]) ({ frames := 8, cells := 240, slots := 960, locals := 218 }) (va_Pc [.ref (ad 0 0), .int (nI b)] (gW D tA L f sz)) (va_Qi (fun (r : Int32) (u : gU) => r = sI (avS S b) 2 0 ∧ avS S b = u.1 ∧ ∀ k i, V S k i → u.2.1 k i = ad k i) (gE D tA (va_A (va_pl L f) sz)) (va_A (va_pl L f) sz)) 240 960 (va_A (va_pl L f) sz) := by
  refine va_MetW (cc := cL_advance) (maxL := 3) (ret := (some .int)) (hh := [(0, 5, 6, 19), (0, 5, 10, 22)]) (by decide) rfl ?_
  intro p e s m args below meth c s₁ B hml hv
  obtain ⟨rfl, ⟨⟨hsz, hP, hK, hD0⟩, hX⟩, hQ⟩ := hv
  have hx := B.exec
  have hb := B.bytes
  have hr := B.returns
  have hlocks := B.notSynchronized
  have hts9 := atoms_spec (ws := (wsW yL_advance cL_advance 3 (some .int) [(0, 5, 6, 19), (0, 5, 10, 22)])) B.pre
  have hta : ∀ w ∈ WA, w.before _ s = true := fun w h => hts9 w (List.mem_cons_of_mem _ h)
  have hown : s.vm.findClass RL = some m.cls := findClass_of_methodNamed B.named
  have htab := vx_table (x := yL_advance) B (hts9 _ List.mem_cons_self)
  subst hsz
  have hD : va_D (va_A (va_pl L f) s.heap.size) (va_pl L f) := hD0.self (sz := s.heap.size)
  generalize hAe : va_A (va_pl L f) s.heap.size = A at hD hQ ⊢
  have hA : ∀ q : Nat, s.heap.size ≤ q → A q := fun q h => by rw [← hAe]; exact Or.inr h
  have hS : va_S A s.heap s.heap [] := va_S.rf
  have hP : va_P D vwCl (va_pl L f) s.heap := hP
  have hl := lv_entry ([.ref (ad 0 0), .int (nI b)]) (n := 3) (Nat.le_of_ble_eq_true rfl)
  rw [lg_entry_eq]
  generalize (lg_sl ([.ref (ad 0 0), .int (nI b)]) ++ List.replicate (3 - (lg_sl ([.ref (ad 0 0), .int (nI b)])).length) Slot.unset).toArray = ls at hl ⊢
  have hl : lv_has ls 3 [(0, .ref (ad 0 0)), (1, .int (nI b))] := hl
  refine lv_aload_n hx hb dL_advance_0 rfl (lv_at hl 0 rfl) ?_
  refine lv_iload_n hx hb dL_advance_1 rfl (lv_at hl 1 rfl) ?_
  obtain ⟨q1, e2⟩ := cell_0 hR (rfl : (0 : Nat) = 0)
  refine gwr_iY (ci := 12) (As := [.int (nI b)]) (rest := []) ⟨hx, hb, hml, hown, hta⟩ (c_X10_advance l hR hW hb12 hin hnow hN) (cwV 1 hta (gWV mw573 mw574 mw575 mw40 mw576) rfl rfl rfl (by decide +kernel) ⟨Nat.le_of_ble_eq_true rfl, Nat.le_of_ble_eq_true rfl⟩) hX hK hP hD hS hA rfl e2 rfl hl.1 rfl (Nat.le_of_ble_eq_true rfl) dL_advance_2 ⟨Nat.le_of_ble_eq_true rfl, Nat.le_of_ble_eq_true rfl⟩ (fun r9 u9 H locs hw hR hP hD hS => ?_)
  refine W.widen (k := 240) (n := 960) (Nat.le_of_ble_eq_true rfl) (Nat.le_of_ble_eq_true rfl) ?_
  exact W.iret (v := r9) hx hb hr (fun t ht hWm => gend_i (u := u9) hw hR hP hK hD hS ht hWm) hS.2.2 dL_advance_5

set_option maxHeartbeats 4000000 in
set_option maxRecDepth 100000 in
theorem c_L_lotOfX (l : Launch) (hl0 : l.stackTraces = false) {D : va_G} {tA : Nat → ClassId} {S : St} {ad : Nat → Nat → Nat} {L : List Nat} {f : Nat → va_E} {sz : Nat} (hR : Rep tA S ad L f) (hW : WT S) {o : Nat} (ho : o < sN S 3 0) (hn : sR S 4 o = none) : Met l yL_lotOf (wsW yL_lotOf cL_lotOf 3 (some .int) [(0, 5, 6, 32), (0, 5, 10, 92)]) ({ frames := 7, cells := 1, slots := 6, locals := 121 }) (va_Pc [.ref (ad 0 0), .int (nI o)] (gW D tA L f sz)) (va_Qi (fun (r : Int32) (u : gU) => r = -3000000 ∧ S = u.1 ∧ ad = u.2.1 ∧ L = u.2.2.1) (gE D tA (va_A (va_pl L f) sz)) (va_A (va_pl L f) sz)) 1 6 (va_A (va_pl L f) sz) := by
  refine va_MetW (cc := cL_lotOf) (maxL := 3) (ret := (some .int)) (hh := [(0, 5, 6, 32), (0, 5, 10, 92)]) (by decide) rfl ?_
  intro p e s m args below meth c s₁ B hml hv
  obtain ⟨rfl, ⟨⟨hsz, hP, hK, hD0⟩, hX⟩, hQ⟩ := hv
  have hx := B.exec
  have hb := B.bytes
  have hr := B.returns
  have hlocks := B.notSynchronized
  have hts9 := atoms_spec (ws := (wsW yL_lotOf cL_lotOf 3 (some .int) [(0, 5, 6, 32), (0, 5, 10, 92)])) B.pre
  have hta : ∀ w ∈ WA, w.before _ s = true := fun w h => hts9 w (List.mem_cons_of_mem _ h)
  have hown : s.vm.findClass RL = some m.cls := findClass_of_methodNamed B.named
  have htab := vx_table (x := yL_lotOf) B (hts9 _ List.mem_cons_self)
  subst hsz
  have hD : va_D (va_A (va_pl L f) s.heap.size) (va_pl L f) := hD0.self (sz := s.heap.size)
  generalize hAe : va_A (va_pl L f) s.heap.size = A at hD hQ ⊢
  have hA : ∀ q : Nat, s.heap.size ≤ q → A q := fun q h => by rw [← hAe]; exact Or.inr h
  have hS : va_S A s.heap s.heap [] := va_S.rf
  have hP : va_P D vwCl (va_pl L f) s.heap := hP
  have hl := lv_entry ([.ref (ad 0 0), .int (nI o)]) (n := 3) (Nat.le_of_ble_eq_true rfl)
  rw [lg_entry_eq]
  generalize (lg_sl ([.ref (ad 0 0), .int (nI o)]) ++ List.replicate (3 - (lg_sl ([.ref (ad 0 0), .int (nI o)])).length) Slot.unset).toArray = ls at hl ⊢
  have hl : lv_has ls 3 [(0, .ref (ad 0 0)), (1, .int (nI o))] := hl
  refine lv_aload_n hx hb dL_lotOf_0 rfl (lv_at hl 0 rfl) ?_
  refine lv_iload_n hx hb dL_lotOf_1 rfl (lv_at hl 1 rfl) ?_
  obtain ⟨q1, e2⟩ := cell_0 hR (rfl : (0 : Nat) = 0)
  refine gX9 (ci := 12) (As := [.int (nI o)]) (rest := []) ⟨hx, hb, hml, hown, hta⟩ (x_X10_lotOf l hl0 hR hW ho hn) (cwV 1 hta (gWV mw638 mw639 mw640 mw40 mw641) rfl rfl rfl (by decide +kernel) ⟨Nat.le_of_ble_eq_true rfl, Nat.le_of_ble_eq_true rfl⟩) hQ hK hP hD hS hA rfl e2 rfl hl.1 rfl (Nat.le_of_ble_eq_true rfl) dL_lotOf_2 ⟨Nat.le_of_ble_eq_true rfl, Nat.le_of_ble_eq_true rfl⟩ (fun ce q9 H locs hP hS hc9 hv9 hcl9 => ?_)
  refine vx_catch (own := RL) (name := "java/util/NoSuchElementException") hown [⟨0, 5, 6, 32⟩] ⟨0, 5, 10, 92⟩ [] (by rw [htab]; rfl) (fun z hz => by rw [List.mem_singleton.mp hz]; exact Or.inr ⟨by decide, "java/lang/IndexOutOfBoundsException", (hta _ mw303), hQ.N (nseN, xIOB) (by decide)⟩) (by decide) (by decide) (hta _ mw637) (va_Nw.use rfl (hQ.C nseN (by decide))) hc9 hv9 hcl9 ?_
  refine W.eq (g2 := F0 m 10 ls [.ref q9]) rfl ?_
  refine lv_astore_n (lv' := [(2, .ref q9), (0, .ref (ad 0 0)), (1, .int (nI o))]) hx hb dL_lotOf_10 rfl hl (by decide) rfl (fun ls hl => ?_)
  refine lv_ldc (own := RL) (index := 94) (v := -3000000) hx hb hown (hta _ mw649) dL_lotOf_11 ?_
  refine W.widen (k := 1) (n := 6) (Nat.le_of_ble_eq_true rfl) (Nat.le_of_ble_eq_true rfl) ?_
  exact W.iret (v := (-3000000)) hx hb hr (fun t ht hWm => gend_i (u := (S, ad, L, f)) ⟨rfl, rfl, rfl, rfl⟩ hR hP hK hD hS ht hWm) hS.2.2 dL_lotOf_13

set_option maxHeartbeats 4000000 in
set_option maxRecDepth 100000 in
theorem c_L_finishedAtX (l : Launch) (hl0 : l.stackTraces = false) {D : va_G} {tA : Nat → ClassId} {S : St} {ad : Nat → Nat → Nat} {L : List Nat} {f : Nat → va_E} {sz : Nat} (hR : Rep tA S ad L f) (hW : WT S) {o : Nat} (ho : o < sN S 3 0) (hn : sI S 63 o = -1) : Met l yL_finishedAt (wsW yL_finishedAt cL_finishedAt 3 (some .int) [(0, 5, 6, 32), (0, 5, 10, 92)]) ({ frames := 7, cells := 1, slots := 6, locals := 120 }) (va_Pc [.ref (ad 0 0), .int (nI o)] (gW D tA L f sz)) (va_Qi (fun (r : Int32) (u : gU) => r = -3000000 ∧ S = u.1 ∧ ad = u.2.1 ∧ L = u.2.2.1) (gE D tA (va_A (va_pl L f) sz)) (va_A (va_pl L f) sz)) 1 6 (va_A (va_pl L f) sz) := by
  refine va_MetW (cc := cL_finishedAt) (maxL := 3) (ret := (some .int)) (hh := [(0, 5, 6, 32), (0, 5, 10, 92)]) (by decide) rfl ?_
  intro p e s m args below meth c s₁ B hml hv
  obtain ⟨rfl, ⟨⟨hsz, hP, hK, hD0⟩, hX⟩, hQ⟩ := hv
  have hx := B.exec
  have hb := B.bytes
  have hr := B.returns
  have hlocks := B.notSynchronized
  have hts9 := atoms_spec (ws := (wsW yL_finishedAt cL_finishedAt 3 (some .int) [(0, 5, 6, 32), (0, 5, 10, 92)])) B.pre
  have hta : ∀ w ∈ WA, w.before _ s = true := fun w h => hts9 w (List.mem_cons_of_mem _ h)
  have hown : s.vm.findClass RL = some m.cls := findClass_of_methodNamed B.named
  have htab := vx_table (x := yL_finishedAt) B (hts9 _ List.mem_cons_self)
  subst hsz
  have hD : va_D (va_A (va_pl L f) s.heap.size) (va_pl L f) := hD0.self (sz := s.heap.size)
  generalize hAe : va_A (va_pl L f) s.heap.size = A at hD hQ ⊢
  have hA : ∀ q : Nat, s.heap.size ≤ q → A q := fun q h => by rw [← hAe]; exact Or.inr h
  have hS : va_S A s.heap s.heap [] := va_S.rf
  have hP : va_P D vwCl (va_pl L f) s.heap := hP
  have hl := lv_entry ([.ref (ad 0 0), .int (nI o)]) (n := 3) (Nat.le_of_ble_eq_true rfl)
  rw [lg_entry_eq]
  generalize (lg_sl ([.ref (ad 0 0), .int (nI o)]) ++ List.replicate (3 - (lg_sl ([.ref (ad 0 0), .int (nI o)])).length) Slot.unset).toArray = ls at hl ⊢
  have hl : lv_has ls 3 [(0, .ref (ad 0 0)), (1, .int (nI o))] := hl
  refine lv_aload_n hx hb dL_finishedAt_0 rfl (lv_at hl 0 rfl) ?_
  refine lv_iload_n hx hb dL_finishedAt_1 rfl (lv_at hl 1 rfl) ?_
  obtain ⟨q1, e2⟩ := cell_0 hR (rfl : (0 : Nat) = 0)
  refine gX9 (ci := 12) (As := [.int (nI o)]) (rest := []) ⟨hx, hb, hml, hown, hta⟩ (x_X10_finishedAt l hl0 hR hW ho hn) (cwV 1 hta (gWV mw653 mw654 mw655 mw40 mw656) rfl rfl rfl (by decide +kernel) ⟨Nat.le_of_ble_eq_true rfl, Nat.le_of_ble_eq_true rfl⟩) hQ hK hP hD hS hA rfl e2 rfl hl.1 rfl (Nat.le_of_ble_eq_true rfl) dL_finishedAt_2 ⟨Nat.le_of_ble_eq_true rfl, Nat.le_of_ble_eq_true rfl⟩ (fun ce q9 H locs hP hS hc9 hv9 hcl9 => ?_)
  refine vx_catch (own := RL) (name := "java/util/NoSuchElementException") hown [⟨0, 5, 6, 32⟩] ⟨0, 5, 10, 92⟩ [] (by rw [htab]; rfl) (fun z hz => by rw [List.mem_singleton.mp hz]; exact Or.inr ⟨by decide, "java/lang/IndexOutOfBoundsException", (hta _ mw303), hQ.N (nseN, xIOB) (by decide)⟩) (by decide) (by decide) (hta _ mw637) (va_Nw.use rfl (hQ.C nseN (by decide))) hc9 hv9 hcl9 ?_
  refine W.eq (g2 := F0 m 10 ls [.ref q9]) rfl ?_
  refine lv_astore_n (lv' := [(2, .ref q9), (0, .ref (ad 0 0)), (1, .int (nI o))]) hx hb dL_finishedAt_10 rfl hl (by decide) rfl (fun ls hl => ?_)
  refine lv_ldc (own := RL) (index := 94) (v := -3000000) hx hb hown (hta _ mw649) dL_finishedAt_11 ?_
  refine W.widen (k := 1) (n := 6) (Nat.le_of_ble_eq_true rfl) (Nat.le_of_ble_eq_true rfl) ?_
  exact W.iret (v := (-3000000)) hx hb hr (fun t ht hWm => gend_i (u := (S, ad, L, f)) ⟨rfl, rfl, rfl, rfl⟩ hR hP hK hD hS ht hWm) hS.2.2 dL_finishedAt_13

set_option maxHeartbeats 4000000 in
set_option maxRecDepth 100000 in
theorem c_L_finPast (l : Launch) (hl0 : l.stackTraces = false) {D : va_G} {tA : Nat → ClassId} {S : St} {ad : Nat → Nat → Nat} {L : List Nat} {f : Nat → va_E} {sz : Nat} (hR : Rep tA S ad L f) (hW : WT S) : Met l yL_finishedAt (wsW yL_finishedAt cL_finishedAt 3 (some .int) [(0, 5, 6, 32), (0, 5, 10, 92)]) ({ frames := 8, cells := 1, slots := 6, locals := 142 }) (va_Pc [.ref (ad 0 0), .int (nI (sN S 3 0))] (gW D tA L f sz)) (va_Qi (fun (r : Int32) (u : gU) => r = -2500000 ∧ S = u.1 ∧ ad = u.2.1 ∧ L = u.2.2.1) (gE D tA (va_A (va_pl L f) sz)) (va_A (va_pl L f) sz)) 1 6 (va_A (va_pl L f) sz) := by
  refine va_MetW (cc := cL_finishedAt) (maxL := 3) (ret := (some .int)) (hh := [(0, 5, 6, 32), (0, 5, 10, 92)]) (by decide) rfl ?_
  intro p e s m args below meth c s₁ B hml hv
  obtain ⟨rfl, ⟨⟨hsz, hP, hK, hD0⟩, hX⟩, hQ⟩ := hv
  have hx := B.exec
  have hb := B.bytes
  have hr := B.returns
  have hlocks := B.notSynchronized
  have hts9 := atoms_spec (ws := (wsW yL_finishedAt cL_finishedAt 3 (some .int) [(0, 5, 6, 32), (0, 5, 10, 92)])) B.pre
  have hta : ∀ w ∈ WA, w.before _ s = true := fun w h => hts9 w (List.mem_cons_of_mem _ h)
  have hown : s.vm.findClass RL = some m.cls := findClass_of_methodNamed B.named
  have htab := vx_table (x := yL_finishedAt) B (hts9 _ List.mem_cons_self)
  subst hsz
  have hD : va_D (va_A (va_pl L f) s.heap.size) (va_pl L f) := hD0.self (sz := s.heap.size)
  generalize hAe : va_A (va_pl L f) s.heap.size = A at hD hQ ⊢
  have hA : ∀ q : Nat, s.heap.size ≤ q → A q := fun q h => by rw [← hAe]; exact Or.inr h
  have hS : va_S A s.heap s.heap [] := va_S.rf
  have hP : va_P D vwCl (va_pl L f) s.heap := hP
  have hl := lv_entry ([.ref (ad 0 0), .int (nI (sN S 3 0))]) (n := 3) (Nat.le_of_ble_eq_true rfl)
  rw [lg_entry_eq]
  generalize (lg_sl ([.ref (ad 0 0), .int (nI (sN S 3 0))]) ++ List.replicate (3 - (lg_sl ([.ref (ad 0 0), .int (nI (sN S 3 0))])).length) Slot.unset).toArray = ls at hl ⊢
  have hl : lv_has ls 3 [(0, .ref (ad 0 0)), (1, .int (nI (sN S 3 0)))] := hl
  refine lv_aload_n hx hb dL_finishedAt_0 rfl (lv_at hl 0 rfl) ?_
  refine lv_iload_n hx hb dL_finishedAt_1 rfl (lv_at hl 1 rfl) ?_
  obtain ⟨q1, e2⟩ := cell_0 hR (rfl : (0 : Nat) = 0)
  refine gX9 (ci := 12) (As := [.int (nI (sN S 3 0))]) (rest := []) ⟨hx, hb, hml, hown, hta⟩ (x_X10_finPast l hl0 hR hW) (cwV 1 hta (gWV mw653 mw654 mw655 mw40 mw656) rfl rfl rfl (by decide +kernel) ⟨Nat.le_of_ble_eq_true rfl, Nat.le_of_ble_eq_true rfl⟩) hQ hK hP hD hS hA rfl e2 rfl hl.1 rfl (Nat.le_of_ble_eq_true rfl) dL_finishedAt_2 ⟨Nat.le_of_ble_eq_true rfl, Nat.le_of_ble_eq_true rfl⟩ (fun ce q9 H locs hP hS hc9 hv9 hcl9 => ?_)
  refine vx_catch (own := RL) (name := "java/lang/IndexOutOfBoundsException") hown [] ⟨0, 5, 6, 32⟩ [⟨0, 5, 10, 92⟩] (by rw [htab]; rfl) (fun z hz => absurd hz List.not_mem_nil) (by decide) (by decide) (hta _ mw303) (va_Nw.use rfl (hQ.C xIOB (by decide))) hc9 hv9 hcl9 ?_
  refine W.eq (g2 := F0 m 6 ls [.ref q9]) rfl ?_
  refine lv_astore_n (lv' := [(2, .ref q9), (0, .ref (ad 0 0)), (1, .int (nI (sN S 3 0)))]) hx hb dL_finishedAt_6 rfl hl (by decide) rfl (fun ls hl => ?_)
  refine lv_ldc (own := RL) (index := 34) (v := -2500000) hx hb hown (hta _ mw352) dL_finishedAt_7 ?_
  refine W.widen (k := 1) (n := 6) (Nat.le_of_ble_eq_true rfl) (Nat.le_of_ble_eq_true rfl) ?_
  exact W.iret (v := (-2500000)) hx hb hr (fun t ht hWm => gend_i (u := (S, ad, L, f)) ⟨rfl, rfl, rfl, rfl⟩ hR hP hK hD hS ht hWm) hS.2.2 dL_finishedAt_9

set_option maxHeartbeats 4000000 in
set_option maxRecDepth 100000 in
theorem c_L_deliveredCostX (l : Launch) (hl0 : l.stackTraces = false) {D : va_G} {tA : Nat → ClassId} {S : St} {ad : Nat → Nat → Nat} {L : List Nat} {f : Nat → va_E} {sz : Nat} (hR : Rep tA S ad L f) (hW : WT S) {o : Nat} (ho : o < sN S 3 0) (hn : ¬ sI S 53 o = 100) : Met l yL_deliveredCost (wsW yL_deliveredCost cL_deliveredCost 3 (some .long) [(0, 5, 6, 32), (0, 5, 11, 92)]) ({ frames := 7, cells := 1, slots := 6, locals := 120 }) (va_Pc [.ref (ad 0 0), .int (nI o)] (gW D tA L f sz)) (va_Ql (fun (r : Int64) (u : gU) => r = -3000000 ∧ S = u.1 ∧ ad = u.2.1 ∧ L = u.2.2.1) (gE D tA (va_A (va_pl L f) sz)) (va_A (va_pl L f) sz)) 1 6 (va_A (va_pl L f) sz) := by
  refine va_MetW (cc := cL_deliveredCost) (maxL := 3) (ret := (some .long)) (hh := [(0, 5, 6, 32), (0, 5, 11, 92)]) (by decide) rfl ?_
  intro p e s m args below meth c s₁ B hml hv
  obtain ⟨rfl, ⟨⟨hsz, hP, hK, hD0⟩, hX⟩, hQ⟩ := hv
  have hx := B.exec
  have hb := B.bytes
  have hr := B.returns
  have hlocks := B.notSynchronized
  have hts9 := atoms_spec (ws := (wsW yL_deliveredCost cL_deliveredCost 3 (some .long) [(0, 5, 6, 32), (0, 5, 11, 92)])) B.pre
  have hta : ∀ w ∈ WA, w.before _ s = true := fun w h => hts9 w (List.mem_cons_of_mem _ h)
  have hown : s.vm.findClass RL = some m.cls := findClass_of_methodNamed B.named
  have htab := vx_table (x := yL_deliveredCost) B (hts9 _ List.mem_cons_self)
  subst hsz
  have hD : va_D (va_A (va_pl L f) s.heap.size) (va_pl L f) := hD0.self (sz := s.heap.size)
  generalize hAe : va_A (va_pl L f) s.heap.size = A at hD hQ ⊢
  have hA : ∀ q : Nat, s.heap.size ≤ q → A q := fun q h => by rw [← hAe]; exact Or.inr h
  have hS : va_S A s.heap s.heap [] := va_S.rf
  have hP : va_P D vwCl (va_pl L f) s.heap := hP
  have hl := lv_entry ([.ref (ad 0 0), .int (nI o)]) (n := 3) (Nat.le_of_ble_eq_true rfl)
  rw [lg_entry_eq]
  generalize (lg_sl ([.ref (ad 0 0), .int (nI o)]) ++ List.replicate (3 - (lg_sl ([.ref (ad 0 0), .int (nI o)])).length) Slot.unset).toArray = ls at hl ⊢
  have hl : lv_has ls 3 [(0, .ref (ad 0 0)), (1, .int (nI o))] := hl
  refine lv_aload_n hx hb dL_deliveredCost_0 rfl (lv_at hl 0 rfl) ?_
  refine lv_iload_n hx hb dL_deliveredCost_1 rfl (lv_at hl 1 rfl) ?_
  obtain ⟨q1, e2⟩ := cell_0 hR (rfl : (0 : Nat) = 0)
  refine gX9 (ci := 12) (As := [.int (nI o)]) (rest := []) ⟨hx, hb, hml, hown, hta⟩ (x_X10_deliveredCost l hl0 hR hW ho hn) (cwV 1 hta (gWV mw667 mw668 mw669 mw40 mw670) rfl rfl rfl (by decide +kernel) ⟨Nat.le_of_ble_eq_true rfl, Nat.le_of_ble_eq_true rfl⟩) hQ hK hP hD hS hA rfl e2 rfl hl.1 rfl (Nat.le_of_ble_eq_true rfl) dL_deliveredCost_2 ⟨Nat.le_of_ble_eq_true rfl, Nat.le_of_ble_eq_true rfl⟩ (fun ce q9 H locs hP hS hc9 hv9 hcl9 => ?_)
  refine vx_catch (own := RL) (name := "java/util/NoSuchElementException") hown [⟨0, 5, 6, 32⟩] ⟨0, 5, 11, 92⟩ [] (by rw [htab]; rfl) (fun z hz => by rw [List.mem_singleton.mp hz]; exact Or.inr ⟨by decide, "java/lang/IndexOutOfBoundsException", (hta _ mw303), hQ.N (nseN, xIOB) (by decide)⟩) (by decide) (by decide) (hta _ mw637) (va_Nw.use rfl (hQ.C nseN (by decide))) hc9 hv9 hcl9 ?_
  refine W.eq (g2 := F0 m 11 ls [.ref q9]) rfl ?_
  refine lv_astore_n (lv' := [(2, .ref q9), (0, .ref (ad 0 0)), (1, .int (nI o))]) hx hb dL_deliveredCost_11 rfl hl (by decide) rfl (fun ls hl => ?_)
  refine lv_ldc2 (own := RL) (index := 116) (v := (-3000000)) hx hb hown (hta _ mw671) dL_deliveredCost_12 ?_
  refine W.widen (k := 1) (n := 6) (Nat.le_of_ble_eq_true rfl) (Nat.le_of_ble_eq_true rfl) ?_
  exact W.lret (v := ((-3000000))) hx hb hr (fun t ht hWm => gend_l (u := (S, ad, L, f)) ⟨rfl, rfl, rfl, rfl⟩ hR hP hK hD hS ht hWm) hS.2.2 dL_deliveredCost_15

set_option maxHeartbeats 4000000 in
set_option maxRecDepth 100000 in
theorem c_L_isPX (l : Launch) (hl0 : l.stackTraces = false) {D : va_G} {tA : Nat → ClassId} {S : St} {ad : Nat → Nat → Nat} {L : List Nat} {f : Nat → va_E} {sz : Nat} (hR : Rep tA S ad L f) (hW : WT S) {o : Nat} (ho : o < sN S 3 0) (z : Int32) (hn : ¬ (¬ sI S 20 (sN S 7 o) = 0 ∧ sI S 53 o = 45)) : Met l yL_is (wsW yL_is cL_is 5 (some .int) [(0, 100, 101, 32), (0, 100, 106, 19), (0, 100, 111, 35)]) ({ frames := 7, cells := 1, slots := 6, locals := 120 }) (va_Pc [.ref (ad 0 0), .int 112, .int (nI o), .int z] (gW D tA L f sz)) (va_Qi (fun (r : Int32) (u : gU) => r = -1500000 ∧ S = u.1 ∧ ad = u.2.1 ∧ L = u.2.2.1) (gE D tA (va_A (va_pl L f) sz)) (va_A (va_pl L f) sz)) 1 6 (va_A (va_pl L f) sz) := by
  refine va_MetW (cc := cL_is) (maxL := 5) (ret := (some .int)) (hh := [(0, 100, 101, 32), (0, 100, 106, 19), (0, 100, 111, 35)]) (by decide) rfl ?_
  intro p e s m args below meth c s₁ B hml hv
  obtain ⟨rfl, ⟨⟨hsz, hP, hK, hD0⟩, hX⟩, hQ⟩ := hv
  have hx := B.exec
  have hb := B.bytes
  have hr := B.returns
  have hlocks := B.notSynchronized
  have hts9 := atoms_spec (ws := (wsW yL_is cL_is 5 (some .int) [(0, 100, 101, 32), (0, 100, 106, 19), (0, 100, 111, 35)])) B.pre
  have hta : ∀ w ∈ WA, w.before _ s = true := fun w h => hts9 w (List.mem_cons_of_mem _ h)
  have hown : s.vm.findClass RL = some m.cls := findClass_of_methodNamed B.named
  have htab := vx_table (x := yL_is) B (hts9 _ List.mem_cons_self)
  subst hsz
  have hD : va_D (va_A (va_pl L f) s.heap.size) (va_pl L f) := hD0.self (sz := s.heap.size)
  generalize hAe : va_A (va_pl L f) s.heap.size = A at hD hQ ⊢
  have hA : ∀ q : Nat, s.heap.size ≤ q → A q := fun q h => by rw [← hAe]; exact Or.inr h
  have hS : va_S A s.heap s.heap [] := va_S.rf
  have hP : va_P D vwCl (va_pl L f) s.heap := hP
  have hl := lv_entry ([.ref (ad 0 0), .int 112, .int (nI o), .int z]) (n := 5) (Nat.le_of_ble_eq_true rfl)
  rw [lg_entry_eq]
  generalize (lg_sl ([.ref (ad 0 0), .int 112, .int (nI o), .int z]) ++ List.replicate (5 - (lg_sl ([.ref (ad 0 0), .int 112, .int (nI o), .int z])).length) Slot.unset).toArray = ls at hl ⊢
  have hl : lv_has ls 5 [(0, .ref (ad 0 0)), (1, .int 112), (2, .int (nI o)), (3, .int z)] := hl
  refine lv_iload_n hx hb dL_is_0 rfl (lv_at hl 1 rfl) ?_
  refine lv_bipush (v := 104) hx hb dL_is_1 (by decide) ?_
  refine lv_icmp_ne (tgt := 17) hx hb dL_is_3 (by decide) (fun c1 => ?_) (fun c1 => ?_)
  · skip
    refine lv_iload_n hx hb dL_is_17 rfl (lv_at hl 1 rfl) ?_
    refine lv_bipush (v := 109) hx hb dL_is_18 (by decide) ?_
    refine lv_icmp_ne (tgt := 35) hx hb dL_is_20 (by decide) (fun c2 => ?_) (fun c2 => ?_)
    · skip
      refine lv_iload_n hx hb dL_is_35 rfl (lv_at hl 1 rfl) ?_
      refine lv_bipush (v := 112) hx hb dL_is_36 (by decide) ?_
      refine lv_icmp_ne (tgt := 52) hx hb dL_is_38 (by decide) (fun c3 => ?_) (fun c3 => ?_)
      · exact absurd c3 (by decide)
      · skip
        refine lv_aload_n hx hb dL_is_41 rfl (lv_at hl 0 rfl) ?_
        refine lv_iload_n hx hb dL_is_42 rfl (lv_at hl 2 rfl) ?_
        obtain ⟨q4, e5⟩ := cell_0 hR (rfl : (0 : Nat) = 0)
        refine gX9 (ci := 12) (As := [.int (nI o)]) (rest := []) ⟨hx, hb, hml, hown, hta⟩ (x_X10_promise l hl0 hR hW ho hn) (cwV 1 hta (gWV mw693 mw694 mw695 mw40 mw696) rfl rfl rfl (by decide +kernel) ⟨Nat.le_of_ble_eq_true rfl, Nat.le_of_ble_eq_true rfl⟩) hQ hK hP hD hS hA rfl e5 rfl hl.1 rfl (Nat.le_of_ble_eq_true rfl) dL_is_43 ⟨Nat.le_of_ble_eq_true rfl, Nat.le_of_ble_eq_true rfl⟩ (fun ce q9 H locs hP hS hc9 hv9 hcl9 => ?_)
        refine vx_catch (own := RL) (name := "java/lang/UnsupportedOperationException") hown [⟨0, 100, 101, 32⟩, ⟨0, 100, 106, 19⟩] ⟨0, 100, 111, 35⟩ [] (by rw [htab]; rfl) (fun z hz => by rcases List.mem_cons.mp hz with h | h; rw [h]; exact Or.inr ⟨by decide, "java/lang/IndexOutOfBoundsException", (hta _ mw303), hQ.N (xUOE, xIOB) (by decide)⟩; rw [List.mem_singleton.mp h]; exact Or.inr ⟨by decide, "java/lang/IllegalArgumentException", (hta _ mw217), hQ.N (xUOE, xIAE) (by decide)⟩) (by decide) (by decide) (hta _ mw313) (va_Nw.use rfl (hQ.C xUOE (by decide))) hc9 hv9 hcl9 ?_
        refine W.eq (g2 := F0 m 111 ls [.ref q9]) rfl ?_
        refine lv_astore (lv' := [(4, .ref q9), (0, .ref (ad 0 0)), (1, .int 112), (2, .int (nI o)), (3, .int z)]) hx hb dL_is_111 hl (by decide) rfl (fun ls hl => ?_)
        refine lv_ldc (own := RL) (index := 37) (v := -1500000) hx hb hown (hta _ mw353) dL_is_113 ?_
        refine W.widen (k := 1) (n := 6) (Nat.le_of_ble_eq_true rfl) (Nat.le_of_ble_eq_true rfl) ?_
        exact W.iret (v := (-1500000)) hx hb hr (fun t ht hWm => gend_i (u := (S, ad, L, f)) ⟨rfl, rfl, rfl, rfl⟩ hR hP hK hD hS ht hWm) hS.2.2 dL_is_115
    · exact absurd c2 (by decide)
  · exact absurd c1 (by decide)

set_option maxHeartbeats 4000000 in
set_option maxRecDepth 100000 in
theorem c_L_isRX (l : Launch) (hl0 : l.stackTraces = false) {D : va_G} {tA : Nat → ClassId} {S : St} {ad : Nat → Nat → Nat} {L : List Nat} {f : Nat → va_E} {sz : Nat} (hR : Rep tA S ad L f) (hW : WT S) {o : Nat} (ho : o < sN S 3 0) (z : Int32) (hn : ¬ (¬ sI S 20 (sN S 7 o) = 0 ∧ (sI S 53 o = 45 ∨ sI S 53 o = 112))) : Met l yL_is (wsW yL_is cL_is 5 (some .int) [(0, 100, 101, 32), (0, 100, 106, 19), (0, 100, 111, 35)]) ({ frames := 7, cells := 1, slots := 6, locals := 121 }) (va_Pc [.ref (ad 0 0), .int 114, .int (nI o), .int z] (gW D tA L f sz)) (va_Qi (fun (r : Int32) (u : gU) => r = -1500000 ∧ S = u.1 ∧ ad = u.2.1 ∧ L = u.2.2.1) (gE D tA (va_A (va_pl L f) sz)) (va_A (va_pl L f) sz)) 1 6 (va_A (va_pl L f) sz) := by
  refine va_MetW (cc := cL_is) (maxL := 5) (ret := (some .int)) (hh := [(0, 100, 101, 32), (0, 100, 106, 19), (0, 100, 111, 35)]) (by decide) rfl ?_
  intro p e s m args below meth c s₁ B hml hv
  obtain ⟨rfl, ⟨⟨hsz, hP, hK, hD0⟩, hX⟩, hQ⟩ := hv
  have hx := B.exec
  have hb := B.bytes
  have hr := B.returns
  have hlocks := B.notSynchronized
  have hts9 := atoms_spec (ws := (wsW yL_is cL_is 5 (some .int) [(0, 100, 101, 32), (0, 100, 106, 19), (0, 100, 111, 35)])) B.pre
  have hta : ∀ w ∈ WA, w.before _ s = true := fun w h => hts9 w (List.mem_cons_of_mem _ h)
  have hown : s.vm.findClass RL = some m.cls := findClass_of_methodNamed B.named
  have htab := vx_table (x := yL_is) B (hts9 _ List.mem_cons_self)
  subst hsz
  have hD : va_D (va_A (va_pl L f) s.heap.size) (va_pl L f) := hD0.self (sz := s.heap.size)
  generalize hAe : va_A (va_pl L f) s.heap.size = A at hD hQ ⊢
  have hA : ∀ q : Nat, s.heap.size ≤ q → A q := fun q h => by rw [← hAe]; exact Or.inr h
  have hS : va_S A s.heap s.heap [] := va_S.rf
  have hP : va_P D vwCl (va_pl L f) s.heap := hP
  have hl := lv_entry ([.ref (ad 0 0), .int 114, .int (nI o), .int z]) (n := 5) (Nat.le_of_ble_eq_true rfl)
  rw [lg_entry_eq]
  generalize (lg_sl ([.ref (ad 0 0), .int 114, .int (nI o), .int z]) ++ List.replicate (5 - (lg_sl ([.ref (ad 0 0), .int 114, .int (nI o), .int z])).length) Slot.unset).toArray = ls at hl ⊢
  have hl : lv_has ls 5 [(0, .ref (ad 0 0)), (1, .int 114), (2, .int (nI o)), (3, .int z)] := hl
  refine lv_iload_n hx hb dL_is_0 rfl (lv_at hl 1 rfl) ?_
  refine lv_bipush (v := 104) hx hb dL_is_1 (by decide) ?_
  refine lv_icmp_ne (tgt := 17) hx hb dL_is_3 (by decide) (fun c1 => ?_) (fun c1 => ?_)
  · skip
    refine lv_iload_n hx hb dL_is_17 rfl (lv_at hl 1 rfl) ?_
    refine lv_bipush (v := 109) hx hb dL_is_18 (by decide) ?_
    refine lv_icmp_ne (tgt := 35) hx hb dL_is_20 (by decide) (fun c2 => ?_) (fun c2 => ?_)
    · skip
      refine lv_iload_n hx hb dL_is_35 rfl (lv_at hl 1 rfl) ?_
      refine lv_bipush (v := 112) hx hb dL_is_36 (by decide) ?_
      refine lv_icmp_ne (tgt := 52) hx hb dL_is_38 (by decide) (fun c3 => ?_) (fun c3 => ?_)
      · skip
        refine lv_iload_n hx hb dL_is_52 rfl (lv_at hl 1 rfl) ?_
        refine lv_bipush (v := 114) hx hb dL_is_53 (by decide) ?_
        refine lv_icmp_ne (tgt := 69) hx hb dL_is_55 (by decide) (fun c4 => ?_) (fun c4 => ?_)
        · exact absurd c4 (by decide)
        · skip
          refine lv_aload_n hx hb dL_is_58 rfl (lv_at hl 0 rfl) ?_
          refine lv_iload_n hx hb dL_is_59 rfl (lv_at hl 2 rfl) ?_
          obtain ⟨q5, e6⟩ := cell_0 hR (rfl : (0 : Nat) = 0)
          refine gX9 (ci := 12) (As := [.int (nI o)]) (rest := []) ⟨hx, hb, hml, hown, hta⟩ (x_X10_release l hl0 hR hW ho hn) (cwV 1 hta (gWV mw713 mw714 mw715 mw40 mw716) rfl rfl rfl (by decide +kernel) ⟨Nat.le_of_ble_eq_true rfl, Nat.le_of_ble_eq_true rfl⟩) hQ hK hP hD hS hA rfl e6 rfl hl.1 rfl (Nat.le_of_ble_eq_true rfl) dL_is_60 ⟨Nat.le_of_ble_eq_true rfl, Nat.le_of_ble_eq_true rfl⟩ (fun ce q9 H locs hP hS hc9 hv9 hcl9 => ?_)
          refine vx_catch (own := RL) (name := "java/lang/UnsupportedOperationException") hown [⟨0, 100, 101, 32⟩, ⟨0, 100, 106, 19⟩] ⟨0, 100, 111, 35⟩ [] (by rw [htab]; rfl) (fun z hz => by rcases List.mem_cons.mp hz with h | h; rw [h]; exact Or.inr ⟨by decide, "java/lang/IndexOutOfBoundsException", (hta _ mw303), hQ.N (xUOE, xIOB) (by decide)⟩; rw [List.mem_singleton.mp h]; exact Or.inr ⟨by decide, "java/lang/IllegalArgumentException", (hta _ mw217), hQ.N (xUOE, xIAE) (by decide)⟩) (by decide) (by decide) (hta _ mw313) (va_Nw.use rfl (hQ.C xUOE (by decide))) hc9 hv9 hcl9 ?_
          refine W.eq (g2 := F0 m 111 ls [.ref q9]) rfl ?_
          refine lv_astore (lv' := [(4, .ref q9), (0, .ref (ad 0 0)), (1, .int 114), (2, .int (nI o)), (3, .int z)]) hx hb dL_is_111 hl (by decide) rfl (fun ls hl => ?_)
          refine lv_ldc (own := RL) (index := 37) (v := -1500000) hx hb hown (hta _ mw353) dL_is_113 ?_
          refine W.widen (k := 1) (n := 6) (Nat.le_of_ble_eq_true rfl) (Nat.le_of_ble_eq_true rfl) ?_
          exact W.iret (v := (-1500000)) hx hb hr (fun t ht hWm => gend_i (u := (S, ad, L, f)) ⟨rfl, rfl, rfl, rfl⟩ hR hP hK hD hS ht hWm) hS.2.2 dL_is_115
      · exact absurd c3 (by decide)
    · exact absurd c2 (by decide)
  · exact absurd c1 (by decide)

set_option maxHeartbeats 4000000 in
set_option maxRecDepth 100000 in
theorem c_L_isDX (l : Launch) (hl0 : l.stackTraces = false) {D : va_G} {tA : Nat → ClassId} {S : St} {ad : Nat → Nat → Nat} {L : List Nat} {f : Nat → va_E} {sz : Nat} (hR : Rep tA S ad L f) (hW : WT S) {o : Nat} (ho : o < sN S 3 0) (z : Int32) (hn : ¬ (¬ sI S 53 o = 100 ∧ (¬ sI S 20 (sN S 7 o) = 0 → sI S 53 o = 102))) : Met l yL_is (wsW yL_is cL_is 5 (some .int) [(0, 100, 101, 32), (0, 100, 106, 19), (0, 100, 111, 35)]) ({ frames := 7, cells := 1, slots := 6, locals := 120 }) (va_Pc [.ref (ad 0 0), .int 100, .int (nI o), .int z] (gW D tA L f sz)) (va_Qi (fun (r : Int32) (u : gU) => r = -1500000 ∧ S = u.1 ∧ ad = u.2.1 ∧ L = u.2.2.1) (gE D tA (va_A (va_pl L f) sz)) (va_A (va_pl L f) sz)) 1 6 (va_A (va_pl L f) sz) := by
  refine va_MetW (cc := cL_is) (maxL := 5) (ret := (some .int)) (hh := [(0, 100, 101, 32), (0, 100, 106, 19), (0, 100, 111, 35)]) (by decide) rfl ?_
  intro p e s m args below meth c s₁ B hml hv
  obtain ⟨rfl, ⟨⟨hsz, hP, hK, hD0⟩, hX⟩, hQ⟩ := hv
  have hx := B.exec
  have hb := B.bytes
  have hr := B.returns
  have hlocks := B.notSynchronized
  have hts9 := atoms_spec (ws := (wsW yL_is cL_is 5 (some .int) [(0, 100, 101, 32), (0, 100, 106, 19), (0, 100, 111, 35)])) B.pre
  have hta : ∀ w ∈ WA, w.before _ s = true := fun w h => hts9 w (List.mem_cons_of_mem _ h)
  have hown : s.vm.findClass RL = some m.cls := findClass_of_methodNamed B.named
  have htab := vx_table (x := yL_is) B (hts9 _ List.mem_cons_self)
  subst hsz
  have hD : va_D (va_A (va_pl L f) s.heap.size) (va_pl L f) := hD0.self (sz := s.heap.size)
  generalize hAe : va_A (va_pl L f) s.heap.size = A at hD hQ ⊢
  have hA : ∀ q : Nat, s.heap.size ≤ q → A q := fun q h => by rw [← hAe]; exact Or.inr h
  have hS : va_S A s.heap s.heap [] := va_S.rf
  have hP : va_P D vwCl (va_pl L f) s.heap := hP
  have hl := lv_entry ([.ref (ad 0 0), .int 100, .int (nI o), .int z]) (n := 5) (Nat.le_of_ble_eq_true rfl)
  rw [lg_entry_eq]
  generalize (lg_sl ([.ref (ad 0 0), .int 100, .int (nI o), .int z]) ++ List.replicate (5 - (lg_sl ([.ref (ad 0 0), .int 100, .int (nI o), .int z])).length) Slot.unset).toArray = ls at hl ⊢
  have hl : lv_has ls 5 [(0, .ref (ad 0 0)), (1, .int 100), (2, .int (nI o)), (3, .int z)] := hl
  refine lv_iload_n hx hb dL_is_0 rfl (lv_at hl 1 rfl) ?_
  refine lv_bipush (v := 104) hx hb dL_is_1 (by decide) ?_
  refine lv_icmp_ne (tgt := 17) hx hb dL_is_3 (by decide) (fun c1 => ?_) (fun c1 => ?_)
  · skip
    refine lv_iload_n hx hb dL_is_17 rfl (lv_at hl 1 rfl) ?_
    refine lv_bipush (v := 109) hx hb dL_is_18 (by decide) ?_
    refine lv_icmp_ne (tgt := 35) hx hb dL_is_20 (by decide) (fun c2 => ?_) (fun c2 => ?_)
    · skip
      refine lv_iload_n hx hb dL_is_35 rfl (lv_at hl 1 rfl) ?_
      refine lv_bipush (v := 112) hx hb dL_is_36 (by decide) ?_
      refine lv_icmp_ne (tgt := 52) hx hb dL_is_38 (by decide) (fun c3 => ?_) (fun c3 => ?_)
      · skip
        refine lv_iload_n hx hb dL_is_52 rfl (lv_at hl 1 rfl) ?_
        refine lv_bipush (v := 114) hx hb dL_is_53 (by decide) ?_
        refine lv_icmp_ne (tgt := 69) hx hb dL_is_55 (by decide) (fun c4 => ?_) (fun c4 => ?_)
        · skip
          refine lv_iload_n hx hb dL_is_69 rfl (lv_at hl 1 rfl) ?_
          refine lv_bipush (v := 100) hx hb dL_is_70 (by decide) ?_
          refine lv_icmp_ne (tgt := 86) hx hb dL_is_72 (by decide) (fun c5 => ?_) (fun c5 => ?_)
          · exact absurd c5 (by decide)
          · skip
            refine lv_aload_n hx hb dL_is_75 rfl (lv_at hl 0 rfl) ?_
            refine lv_iload_n hx hb dL_is_76 rfl (lv_at hl 2 rfl) ?_
            obtain ⟨q6, e7⟩ := cell_0 hR (rfl : (0 : Nat) = 0)
            refine gX9 (ci := 12) (As := [.int (nI o)]) (rest := []) ⟨hx, hb, hml, hown, hta⟩ (x_X10_deliver l hl0 hR hW ho hn) (cwV 1 hta (gWV mw724 mw725 mw726 mw40 mw727) rfl rfl rfl (by decide +kernel) ⟨Nat.le_of_ble_eq_true rfl, Nat.le_of_ble_eq_true rfl⟩) hQ hK hP hD hS hA rfl e7 rfl hl.1 rfl (Nat.le_of_ble_eq_true rfl) dL_is_77 ⟨Nat.le_of_ble_eq_true rfl, Nat.le_of_ble_eq_true rfl⟩ (fun ce q9 H locs hP hS hc9 hv9 hcl9 => ?_)
            refine vx_catch (own := RL) (name := "java/lang/UnsupportedOperationException") hown [⟨0, 100, 101, 32⟩, ⟨0, 100, 106, 19⟩] ⟨0, 100, 111, 35⟩ [] (by rw [htab]; rfl) (fun z hz => by rcases List.mem_cons.mp hz with h | h; rw [h]; exact Or.inr ⟨by decide, "java/lang/IndexOutOfBoundsException", (hta _ mw303), hQ.N (xUOE, xIOB) (by decide)⟩; rw [List.mem_singleton.mp h]; exact Or.inr ⟨by decide, "java/lang/IllegalArgumentException", (hta _ mw217), hQ.N (xUOE, xIAE) (by decide)⟩) (by decide) (by decide) (hta _ mw313) (va_Nw.use rfl (hQ.C xUOE (by decide))) hc9 hv9 hcl9 ?_
            refine W.eq (g2 := F0 m 111 ls [.ref q9]) rfl ?_
            refine lv_astore (lv' := [(4, .ref q9), (0, .ref (ad 0 0)), (1, .int 100), (2, .int (nI o)), (3, .int z)]) hx hb dL_is_111 hl (by decide) rfl (fun ls hl => ?_)
            refine lv_ldc (own := RL) (index := 37) (v := -1500000) hx hb hown (hta _ mw353) dL_is_113 ?_
            refine W.widen (k := 1) (n := 6) (Nat.le_of_ble_eq_true rfl) (Nat.le_of_ble_eq_true rfl) ?_
            exact W.iret (v := (-1500000)) hx hb hr (fun t ht hWm => gend_i (u := (S, ad, L, f)) ⟨rfl, rfl, rfl, rfl⟩ hR hP hK hD hS ht hWm) hS.2.2 dL_is_115
        · exact absurd c4 (by decide)
      · exact absurd c3 (by decide)
    · exact absurd c2 (by decide)
  · exact absurd c1 (by decide)

set_option maxHeartbeats 4000000 in
set_option maxRecDepth 100000 in
theorem c_L_isP (l : Launch) (hl0 : l.stackTraces = false) {D : va_G} {tA : Nat → ClassId} {S : St} {ad : Nat → Nat → Nat} {L : List Nat} {f : Nat → va_E} {sz : Nat} (hR : Rep tA S ad L f) (hW : WT S) {o : Nat} (ho : o < sN S 3 0) (z : Int32) (hm : ¬ sI S 20 (sN S 7 o) = 0) (h45 : sI S 53 o = 45) : Met l yL_is (wsW yL_is cL_is 5 (some .int) [(0, 100, 101, 32), (0, 100, 106, 19), (0, 100, 111, 35)]) ({ frames := 6, cells := 0, slots := 0, locals := 138 }) (va_Pc [.ref (ad 0 0), .int 112, .int (nI o), .int z] (gW D tA L f sz)) (va_Qi (fun (r : Int32) (u : gU) => r = bI (raR S o) ∧ raS S o = u.1 ∧ ad = u.2.1 ∧ L = u.2.2.1) (gE D tA (va_A (va_pl L f) sz)) (va_A (va_pl L f) sz)) 0 0 (va_A (va_pl L f) sz) := by
  refine va_MetW (cc := cL_is) (maxL := 5) (ret := (some .int)) (hh := [(0, 100, 101, 32), (0, 100, 106, 19), (0, 100, 111, 35)]) (by decide) rfl ?_
  intro p e s m args below meth c s₁ B hml hv
  obtain ⟨rfl, ⟨⟨hsz, hP, hK, hD0⟩, hX⟩, hQ⟩ := hv
  have hx := B.exec
  have hb := B.bytes
  have hr := B.returns
  have hlocks := B.notSynchronized
  have hts9 := atoms_spec (ws := (wsW yL_is cL_is 5 (some .int) [(0, 100, 101, 32), (0, 100, 106, 19), (0, 100, 111, 35)])) B.pre
  have hta : ∀ w ∈ WA, w.before _ s = true := fun w h => hts9 w (List.mem_cons_of_mem _ h)
  have hown : s.vm.findClass RL = some m.cls := findClass_of_methodNamed B.named
  have htab := vx_table (x := yL_is) B (hts9 _ List.mem_cons_self)
  subst hsz
  have hD : va_D (va_A (va_pl L f) s.heap.size) (va_pl L f) := hD0.self (sz := s.heap.size)
  generalize hAe : va_A (va_pl L f) s.heap.size = A at hD hQ ⊢
  have hA : ∀ q : Nat, s.heap.size ≤ q → A q := fun q h => by rw [← hAe]; exact Or.inr h
  have hS : va_S A s.heap s.heap [] := va_S.rf
  have hP : va_P D vwCl (va_pl L f) s.heap := hP
  have hl := lv_entry ([.ref (ad 0 0), .int 112, .int (nI o), .int z]) (n := 5) (Nat.le_of_ble_eq_true rfl)
  rw [lg_entry_eq]
  generalize (lg_sl ([.ref (ad 0 0), .int 112, .int (nI o), .int z]) ++ List.replicate (5 - (lg_sl ([.ref (ad 0 0), .int 112, .int (nI o), .int z])).length) Slot.unset).toArray = ls at hl ⊢
  have hl : lv_has ls 5 [(0, .ref (ad 0 0)), (1, .int 112), (2, .int (nI o)), (3, .int z)] := hl
  refine lv_iload_n hx hb dL_is_0 rfl (lv_at hl 1 rfl) ?_
  refine lv_bipush (v := 104) hx hb dL_is_1 (by decide) ?_
  refine lv_icmp_ne (tgt := 17) hx hb dL_is_3 (by decide) (fun c1 => ?_) (fun c1 => ?_)
  · skip
    refine lv_iload_n hx hb dL_is_17 rfl (lv_at hl 1 rfl) ?_
    refine lv_bipush (v := 109) hx hb dL_is_18 (by decide) ?_
    refine lv_icmp_ne (tgt := 35) hx hb dL_is_20 (by decide) (fun c2 => ?_) (fun c2 => ?_)
    · skip
      refine lv_iload_n hx hb dL_is_35 rfl (lv_at hl 1 rfl) ?_
      refine lv_bipush (v := 112) hx hb dL_is_36 (by decide) ?_
      refine lv_icmp_ne (tgt := 52) hx hb dL_is_38 (by decide) (fun c3 => ?_) (fun c3 => ?_)
      · exact absurd c3 (by decide)
      · skip
        refine lv_aload_n hx hb dL_is_41 rfl (lv_at hl 0 rfl) ?_
        refine lv_iload_n hx hb dL_is_42 rfl (lv_at hl 2 rfl) ?_
        obtain ⟨q4, e5⟩ := cell_0 hR (rfl : (0 : Nat) = 0)
        refine gwr_i (ci := 12) (As := [.int (nI o)]) (rest := []) ⟨hx, hb, hml, hown, hta⟩ (c_X10_promise l hR hW ho hm h45) (cwV 1 hta (gWV mw693 mw694 mw695 mw40 mw696) rfl rfl rfl (by decide +kernel) ⟨Nat.le_of_ble_eq_true rfl, Nat.le_of_ble_eq_true rfl⟩) hK hP hD hS hA rfl e5 rfl hl.1 rfl (Nat.le_of_ble_eq_true rfl) dL_is_43 ⟨Nat.le_of_ble_eq_true rfl, Nat.le_of_ble_eq_true rfl⟩ (fun r9 u9 H locs hw hR hP hD hS => ?_)
        obtain ⟨hr9, hw⟩ := hw
        subst hr9
        refine lv_if_eq (tgt := 99) hx hb dL_is_46 (by decide) (fun c6 => ?_) (fun c6 => ?_)
        · skip
          have c6 := bI_f c6
          refine lv_iconst (v := 0) hx hb dL_is_99 (by decide) ?_
          refine W.widen (k := 0) (n := 0) (Nat.le_of_ble_eq_true rfl) (Nat.le_of_ble_eq_true rfl) ?_
          exact W.iret (v := 0) hx hb hr (fun t ht hWm => gend_i (u := u9) ⟨(by rw [c6]; rfl), hw⟩ hR hP hK hD hS ht hWm) hS.2.2 dL_is_100
        · skip
          have c6 := bI_t c6
          refine lv_goto (tgt := 95) hx hb dL_is_49 (by decide) ?_
          refine lv_iconst (v := 1) hx hb dL_is_95 (by decide) ?_
          refine lv_goto (tgt := 100) hx hb dL_is_96 (by decide) ?_
          refine W.widen (k := 0) (n := 0) (Nat.le_of_ble_eq_true rfl) (Nat.le_of_ble_eq_true rfl) ?_
          exact W.iret (v := 1) hx hb hr (fun t ht hWm => gend_i (u := u9) ⟨(by rw [c6]; rfl), hw⟩ hR hP hK hD hS ht hWm) hS.2.2 dL_is_100
    · exact absurd c2 (by decide)
  · exact absurd c1 (by decide)

set_option maxHeartbeats 4000000 in
set_option maxRecDepth 100000 in
theorem c_L_isD (l : Launch) (hl0 : l.stackTraces = false) {D : va_G} {tA : Nat → ClassId} {S : St} {ad : Nat → Nat → Nat} {L : List Nat} {f : Nat → va_E} {sz : Nat} (hR : Rep tA S ad L f) (hW : WT S) {o : Nat} (ho : o < sN S 3 0) (z : Int32) (hd : ¬ sI S 53 o = 100) (hf : ¬ sI S 20 (sN S 7 o) = 0 → sI S 53 o = 102) : Met l yL_is (wsW yL_is cL_is 5 (some .int) [(0, 100, 101, 32), (0, 100, 106, 19), (0, 100, 111, 35)]) ({ frames := 6, cells := 0, slots := 0, locals := 136 }) (va_Pc [.ref (ad 0 0), .int 100, .int (nI o), .int z] (gW D tA L f sz)) (va_Qi (fun (r : Int32) (u : gU) => r = bI (dlR S o) ∧ dlS S o = u.1 ∧ ad = u.2.1 ∧ L = u.2.2.1) (gE D tA (va_A (va_pl L f) sz)) (va_A (va_pl L f) sz)) 0 0 (va_A (va_pl L f) sz) := by
  refine va_MetW (cc := cL_is) (maxL := 5) (ret := (some .int)) (hh := [(0, 100, 101, 32), (0, 100, 106, 19), (0, 100, 111, 35)]) (by decide) rfl ?_
  intro p e s m args below meth c s₁ B hml hv
  obtain ⟨rfl, ⟨⟨hsz, hP, hK, hD0⟩, hX⟩, hQ⟩ := hv
  have hx := B.exec
  have hb := B.bytes
  have hr := B.returns
  have hlocks := B.notSynchronized
  have hts9 := atoms_spec (ws := (wsW yL_is cL_is 5 (some .int) [(0, 100, 101, 32), (0, 100, 106, 19), (0, 100, 111, 35)])) B.pre
  have hta : ∀ w ∈ WA, w.before _ s = true := fun w h => hts9 w (List.mem_cons_of_mem _ h)
  have hown : s.vm.findClass RL = some m.cls := findClass_of_methodNamed B.named
  have htab := vx_table (x := yL_is) B (hts9 _ List.mem_cons_self)
  subst hsz
  have hD : va_D (va_A (va_pl L f) s.heap.size) (va_pl L f) := hD0.self (sz := s.heap.size)
  generalize hAe : va_A (va_pl L f) s.heap.size = A at hD hQ ⊢
  have hA : ∀ q : Nat, s.heap.size ≤ q → A q := fun q h => by rw [← hAe]; exact Or.inr h
  have hS : va_S A s.heap s.heap [] := va_S.rf
  have hP : va_P D vwCl (va_pl L f) s.heap := hP
  have hl := lv_entry ([.ref (ad 0 0), .int 100, .int (nI o), .int z]) (n := 5) (Nat.le_of_ble_eq_true rfl)
  rw [lg_entry_eq]
  generalize (lg_sl ([.ref (ad 0 0), .int 100, .int (nI o), .int z]) ++ List.replicate (5 - (lg_sl ([.ref (ad 0 0), .int 100, .int (nI o), .int z])).length) Slot.unset).toArray = ls at hl ⊢
  have hl : lv_has ls 5 [(0, .ref (ad 0 0)), (1, .int 100), (2, .int (nI o)), (3, .int z)] := hl
  refine lv_iload_n hx hb dL_is_0 rfl (lv_at hl 1 rfl) ?_
  refine lv_bipush (v := 104) hx hb dL_is_1 (by decide) ?_
  refine lv_icmp_ne (tgt := 17) hx hb dL_is_3 (by decide) (fun c1 => ?_) (fun c1 => ?_)
  · skip
    refine lv_iload_n hx hb dL_is_17 rfl (lv_at hl 1 rfl) ?_
    refine lv_bipush (v := 109) hx hb dL_is_18 (by decide) ?_
    refine lv_icmp_ne (tgt := 35) hx hb dL_is_20 (by decide) (fun c2 => ?_) (fun c2 => ?_)
    · skip
      refine lv_iload_n hx hb dL_is_35 rfl (lv_at hl 1 rfl) ?_
      refine lv_bipush (v := 112) hx hb dL_is_36 (by decide) ?_
      refine lv_icmp_ne (tgt := 52) hx hb dL_is_38 (by decide) (fun c3 => ?_) (fun c3 => ?_)
      · skip
        refine lv_iload_n hx hb dL_is_52 rfl (lv_at hl 1 rfl) ?_
        refine lv_bipush (v := 114) hx hb dL_is_53 (by decide) ?_
        refine lv_icmp_ne (tgt := 69) hx hb dL_is_55 (by decide) (fun c4 => ?_) (fun c4 => ?_)
        · skip
          refine lv_iload_n hx hb dL_is_69 rfl (lv_at hl 1 rfl) ?_
          refine lv_bipush (v := 100) hx hb dL_is_70 (by decide) ?_
          refine lv_icmp_ne (tgt := 86) hx hb dL_is_72 (by decide) (fun c5 => ?_) (fun c5 => ?_)
          · exact absurd c5 (by decide)
          · skip
            refine lv_aload_n hx hb dL_is_75 rfl (lv_at hl 0 rfl) ?_
            refine lv_iload_n hx hb dL_is_76 rfl (lv_at hl 2 rfl) ?_
            obtain ⟨q6, e7⟩ := cell_0 hR (rfl : (0 : Nat) = 0)
            refine gwr_i (ci := 12) (As := [.int (nI o)]) (rest := []) ⟨hx, hb, hml, hown, hta⟩ (c_X10_deliver l hR hW ho hd hf) (cwV 1 hta (gWV mw724 mw725 mw726 mw40 mw727) rfl rfl rfl (by decide +kernel) ⟨Nat.le_of_ble_eq_true rfl, Nat.le_of_ble_eq_true rfl⟩) hK hP hD hS hA rfl e7 rfl hl.1 rfl (Nat.le_of_ble_eq_true rfl) dL_is_77 ⟨Nat.le_of_ble_eq_true rfl, Nat.le_of_ble_eq_true rfl⟩ (fun r9 u9 H locs hw hR hP hD hS => ?_)
            obtain ⟨hr9, hw⟩ := hw
            subst hr9
            refine lv_if_eq (tgt := 99) hx hb dL_is_80 (by decide) (fun c8 => ?_) (fun c8 => ?_)
            · skip
              have c8 := bI_f c8
              refine lv_iconst (v := 0) hx hb dL_is_99 (by decide) ?_
              refine W.widen (k := 0) (n := 0) (Nat.le_of_ble_eq_true rfl) (Nat.le_of_ble_eq_true rfl) ?_
              exact W.iret (v := 0) hx hb hr (fun t ht hWm => gend_i (u := u9) ⟨(by rw [c8]; rfl), hw⟩ hR hP hK hD hS ht hWm) hS.2.2 dL_is_100
            · skip
              have c8 := bI_t c8
              refine lv_goto (tgt := 95) hx hb dL_is_83 (by decide) ?_
              refine lv_iconst (v := 1) hx hb dL_is_95 (by decide) ?_
              refine lv_goto (tgt := 100) hx hb dL_is_96 (by decide) ?_
              refine W.widen (k := 0) (n := 0) (Nat.le_of_ble_eq_true rfl) (Nat.le_of_ble_eq_true rfl) ?_
              exact W.iret (v := 1) hx hb hr (fun t ht hWm => gend_i (u := u9) ⟨(by rw [c8]; rfl), hw⟩ hR hP hK hD hS ht hWm) hS.2.2 dL_is_100
        · exact absurd c4 (by decide)
      · exact absurd c3 (by decide)
    · exact absurd c2 (by decide)
  · exact absurd c1 (by decide)

set_option maxHeartbeats 4000000 in
set_option maxRecDepth 100000 in
theorem c_L_isR45 (l : Launch) (hl0 : l.stackTraces = false) {D : va_G} {tA : Nat → ClassId} {S : St} {ad : Nat → Nat → Nat} {L : List Nat} {f : Nat → va_E} {sz : Nat} (hR : Rep tA S ad L f) (hW : WT S) {o : Nat} (ho : o < sN S 3 0) (z : Int32) (hm : ¬ sI S 20 (sN S 7 o) = 0) (hs : sI S 53 o = 45) (hn : sN S 2 0 < 90) : Met l yL_is (wsW yL_is cL_is 5 (some .int) [(0, 100, 101, 32), (0, 100, 106, 19), (0, 100, 111, 35)]) ({ frames := 6, cells := 4, slots := 16, locals := 170 }) (va_Pc [.ref (ad 0 0), .int 114, .int (nI o), .int z] (gW D tA L f sz)) (va_Qi (fun (r : Int32) (u : gU) => r = bI (raR S o) ∧ rl1 S o = u.1 ∧ ∀ k i, V S k i → u.2.1 k i = ad k i) (gE D tA (va_A (va_pl L f) sz)) (va_A (va_pl L f) sz)) 4 16 (va_A (va_pl L f) sz) := by
  refine va_MetW (cc := cL_is) (maxL := 5) (ret := (some .int)) (hh := [(0, 100, 101, 32), (0, 100, 106, 19), (0, 100, 111, 35)]) (by decide) rfl ?_
  intro p e s m args below meth c s₁ B hml hv
  obtain ⟨rfl, ⟨⟨hsz, hP, hK, hD0⟩, hX⟩, hQ⟩ := hv
  have hx := B.exec
  have hb := B.bytes
  have hr := B.returns
  have hlocks := B.notSynchronized
  have hts9 := atoms_spec (ws := (wsW yL_is cL_is 5 (some .int) [(0, 100, 101, 32), (0, 100, 106, 19), (0, 100, 111, 35)])) B.pre
  have hta : ∀ w ∈ WA, w.before _ s = true := fun w h => hts9 w (List.mem_cons_of_mem _ h)
  have hown : s.vm.findClass RL = some m.cls := findClass_of_methodNamed B.named
  have htab := vx_table (x := yL_is) B (hts9 _ List.mem_cons_self)
  subst hsz
  have hD : va_D (va_A (va_pl L f) s.heap.size) (va_pl L f) := hD0.self (sz := s.heap.size)
  generalize hAe : va_A (va_pl L f) s.heap.size = A at hD hQ ⊢
  have hA : ∀ q : Nat, s.heap.size ≤ q → A q := fun q h => by rw [← hAe]; exact Or.inr h
  have hS : va_S A s.heap s.heap [] := va_S.rf
  have hP : va_P D vwCl (va_pl L f) s.heap := hP
  have hl := lv_entry ([.ref (ad 0 0), .int 114, .int (nI o), .int z]) (n := 5) (Nat.le_of_ble_eq_true rfl)
  rw [lg_entry_eq]
  generalize (lg_sl ([.ref (ad 0 0), .int 114, .int (nI o), .int z]) ++ List.replicate (5 - (lg_sl ([.ref (ad 0 0), .int 114, .int (nI o), .int z])).length) Slot.unset).toArray = ls at hl ⊢
  have hl : lv_has ls 5 [(0, .ref (ad 0 0)), (1, .int 114), (2, .int (nI o)), (3, .int z)] := hl
  refine lv_iload_n hx hb dL_is_0 rfl (lv_at hl 1 rfl) ?_
  refine lv_bipush (v := 104) hx hb dL_is_1 (by decide) ?_
  refine lv_icmp_ne (tgt := 17) hx hb dL_is_3 (by decide) (fun c1 => ?_) (fun c1 => ?_)
  · skip
    refine lv_iload_n hx hb dL_is_17 rfl (lv_at hl 1 rfl) ?_
    refine lv_bipush (v := 109) hx hb dL_is_18 (by decide) ?_
    refine lv_icmp_ne (tgt := 35) hx hb dL_is_20 (by decide) (fun c2 => ?_) (fun c2 => ?_)
    · skip
      refine lv_iload_n hx hb dL_is_35 rfl (lv_at hl 1 rfl) ?_
      refine lv_bipush (v := 112) hx hb dL_is_36 (by decide) ?_
      refine lv_icmp_ne (tgt := 52) hx hb dL_is_38 (by decide) (fun c3 => ?_) (fun c3 => ?_)
      · skip
        refine lv_iload_n hx hb dL_is_52 rfl (lv_at hl 1 rfl) ?_
        refine lv_bipush (v := 114) hx hb dL_is_53 (by decide) ?_
        refine lv_icmp_ne (tgt := 69) hx hb dL_is_55 (by decide) (fun c4 => ?_) (fun c4 => ?_)
        · exact absurd c4 (by decide)
        · skip
          refine lv_aload_n hx hb dL_is_58 rfl (lv_at hl 0 rfl) ?_
          refine lv_iload_n hx hb dL_is_59 rfl (lv_at hl 2 rfl) ?_
          obtain ⟨q5, e6⟩ := cell_0 hR (rfl : (0 : Nat) = 0)
          refine gwr_iY (ci := 12) (As := [.int (nI o)]) (rest := []) ⟨hx, hb, hml, hown, hta⟩ (c_X10_release45 l hR hW ho hm hs hn) (cwV 1 hta (gWV mw713 mw714 mw715 mw40 mw716) rfl rfl rfl (by decide +kernel) ⟨Nat.le_of_ble_eq_true rfl, Nat.le_of_ble_eq_true rfl⟩) hX hK hP hD hS hA rfl e6 rfl hl.1 rfl (Nat.le_of_ble_eq_true rfl) dL_is_60 ⟨Nat.le_of_ble_eq_true rfl, Nat.le_of_ble_eq_true rfl⟩ (fun r9 u9 H locs hw hR hP hD hS => ?_)
          obtain ⟨hr9, hw⟩ := hw
          subst hr9
          refine lv_if_eq (tgt := 99) hx hb dL_is_63 (by decide) (fun c7 => ?_) (fun c7 => ?_)
          · skip
            have c7 := bI_f c7
            refine lv_iconst (v := 0) hx hb dL_is_99 (by decide) ?_
            refine W.widen (k := 4) (n := 16) (Nat.le_of_ble_eq_true rfl) (Nat.le_of_ble_eq_true rfl) ?_
            exact W.iret (v := 0) hx hb hr (fun t ht hWm => gend_i (u := u9) ⟨(by rw [c7]; rfl), hw⟩ hR hP hK hD hS ht hWm) hS.2.2 dL_is_100
          · skip
            have c7 := bI_t c7
            refine lv_goto (tgt := 95) hx hb dL_is_66 (by decide) ?_
            refine lv_iconst (v := 1) hx hb dL_is_95 (by decide) ?_
            refine lv_goto (tgt := 100) hx hb dL_is_96 (by decide) ?_
            refine W.widen (k := 4) (n := 16) (Nat.le_of_ble_eq_true rfl) (Nat.le_of_ble_eq_true rfl) ?_
            exact W.iret (v := 1) hx hb hr (fun t ht hWm => gend_i (u := u9) ⟨(by rw [c7]; rfl), hw⟩ hR hP hK hD hS ht hWm) hS.2.2 dL_is_100
      · exact absurd c3 (by decide)
    · exact absurd c2 (by decide)
  · exact absurd c1 (by decide)

set_option maxHeartbeats 4000000 in
set_option maxRecDepth 100000 in
theorem c_L_isR112 (l : Launch) (hl0 : l.stackTraces = false) {D : va_G} {tA : Nat → ClassId} {S : St} {ad : Nat → Nat → Nat} {L : List Nat} {f : Nat → va_E} {sz : Nat} (hR : Rep tA S ad L f) (hW : WT S) {o : Nat} (ho : o < sN S 3 0) (z : Int32) (hm : ¬ sI S 20 (sN S 7 o) = 0) (hs : sI S 53 o = 112) (hn : sN S 2 0 < 90) : Met l yL_is (wsW yL_is cL_is 5 (some .int) [(0, 100, 101, 32), (0, 100, 106, 19), (0, 100, 111, 35)]) ({ frames := 6, cells := 4, slots := 16, locals := 170 }) (va_Pc [.ref (ad 0 0), .int 114, .int (nI o), .int z] (gW D tA L f sz)) (va_Qi (fun (r : Int32) (u : gU) => r = 1 ∧ rl2 S o = u.1 ∧ ∀ k i, V S k i → u.2.1 k i = ad k i) (gE D tA (va_A (va_pl L f) sz)) (va_A (va_pl L f) sz)) 4 16 (va_A (va_pl L f) sz) := by
  refine va_MetW (cc := cL_is) (maxL := 5) (ret := (some .int)) (hh := [(0, 100, 101, 32), (0, 100, 106, 19), (0, 100, 111, 35)]) (by decide) rfl ?_
  intro p e s m args below meth c s₁ B hml hv
  obtain ⟨rfl, ⟨⟨hsz, hP, hK, hD0⟩, hX⟩, hQ⟩ := hv
  have hx := B.exec
  have hb := B.bytes
  have hr := B.returns
  have hlocks := B.notSynchronized
  have hts9 := atoms_spec (ws := (wsW yL_is cL_is 5 (some .int) [(0, 100, 101, 32), (0, 100, 106, 19), (0, 100, 111, 35)])) B.pre
  have hta : ∀ w ∈ WA, w.before _ s = true := fun w h => hts9 w (List.mem_cons_of_mem _ h)
  have hown : s.vm.findClass RL = some m.cls := findClass_of_methodNamed B.named
  have htab := vx_table (x := yL_is) B (hts9 _ List.mem_cons_self)
  subst hsz
  have hD : va_D (va_A (va_pl L f) s.heap.size) (va_pl L f) := hD0.self (sz := s.heap.size)
  generalize hAe : va_A (va_pl L f) s.heap.size = A at hD hQ ⊢
  have hA : ∀ q : Nat, s.heap.size ≤ q → A q := fun q h => by rw [← hAe]; exact Or.inr h
  have hS : va_S A s.heap s.heap [] := va_S.rf
  have hP : va_P D vwCl (va_pl L f) s.heap := hP
  have hl := lv_entry ([.ref (ad 0 0), .int 114, .int (nI o), .int z]) (n := 5) (Nat.le_of_ble_eq_true rfl)
  rw [lg_entry_eq]
  generalize (lg_sl ([.ref (ad 0 0), .int 114, .int (nI o), .int z]) ++ List.replicate (5 - (lg_sl ([.ref (ad 0 0), .int 114, .int (nI o), .int z])).length) Slot.unset).toArray = ls at hl ⊢
  have hl : lv_has ls 5 [(0, .ref (ad 0 0)), (1, .int 114), (2, .int (nI o)), (3, .int z)] := hl
  refine lv_iload_n hx hb dL_is_0 rfl (lv_at hl 1 rfl) ?_
  refine lv_bipush (v := 104) hx hb dL_is_1 (by decide) ?_
  refine lv_icmp_ne (tgt := 17) hx hb dL_is_3 (by decide) (fun c1 => ?_) (fun c1 => ?_)
  · skip
    refine lv_iload_n hx hb dL_is_17 rfl (lv_at hl 1 rfl) ?_
    refine lv_bipush (v := 109) hx hb dL_is_18 (by decide) ?_
    refine lv_icmp_ne (tgt := 35) hx hb dL_is_20 (by decide) (fun c2 => ?_) (fun c2 => ?_)
    · skip
      refine lv_iload_n hx hb dL_is_35 rfl (lv_at hl 1 rfl) ?_
      refine lv_bipush (v := 112) hx hb dL_is_36 (by decide) ?_
      refine lv_icmp_ne (tgt := 52) hx hb dL_is_38 (by decide) (fun c3 => ?_) (fun c3 => ?_)
      · skip
        refine lv_iload_n hx hb dL_is_52 rfl (lv_at hl 1 rfl) ?_
        refine lv_bipush (v := 114) hx hb dL_is_53 (by decide) ?_
        refine lv_icmp_ne (tgt := 69) hx hb dL_is_55 (by decide) (fun c4 => ?_) (fun c4 => ?_)
        · exact absurd c4 (by decide)
        · skip
          refine lv_aload_n hx hb dL_is_58 rfl (lv_at hl 0 rfl) ?_
          refine lv_iload_n hx hb dL_is_59 rfl (lv_at hl 2 rfl) ?_
          obtain ⟨q5, e6⟩ := cell_0 hR (rfl : (0 : Nat) = 0)
          refine gwr_iY (ci := 12) (As := [.int (nI o)]) (rest := []) ⟨hx, hb, hml, hown, hta⟩ (c_X10_release112 l hR hW ho hm hs hn) (cwV 1 hta (gWV mw713 mw714 mw715 mw40 mw716) rfl rfl rfl (by decide +kernel) ⟨Nat.le_of_ble_eq_true rfl, Nat.le_of_ble_eq_true rfl⟩) hX hK hP hD hS hA rfl e6 rfl hl.1 rfl (Nat.le_of_ble_eq_true rfl) dL_is_60 ⟨Nat.le_of_ble_eq_true rfl, Nat.le_of_ble_eq_true rfl⟩ (fun r9 u9 H locs hw hR hP hD hS => ?_)
          obtain ⟨hr9, hw⟩ := hw
          subst hr9
          refine lv_if_eq (tgt := 99) hx hb dL_is_63 (by decide) (fun c7 => ?_) (fun c7 => ?_)
          · exact absurd c7 (by decide)
          · skip
            refine lv_goto (tgt := 95) hx hb dL_is_66 (by decide) ?_
            refine lv_iconst (v := 1) hx hb dL_is_95 (by decide) ?_
            refine lv_goto (tgt := 100) hx hb dL_is_96 (by decide) ?_
            refine W.widen (k := 4) (n := 16) (Nat.le_of_ble_eq_true rfl) (Nat.le_of_ble_eq_true rfl) ?_
            exact W.iret (v := 1) hx hb hr (fun t ht hWm => gend_i (u := u9) ⟨rfl, hw⟩ hR hP hK hD hS ht hWm) hS.2.2 dL_is_100
      · exact absurd c3 (by decide)
    · exact absurd c2 (by decide)
  · exact absurd c1 (by decide)

set_option maxHeartbeats 4000000 in
set_option maxRecDepth 100000 in
theorem c_L_lotOf (l : Launch) {D : va_G} {tA : Nat → ClassId} {S : St} {ad : Nat → Nat → Nat} {L : List Nat} {f : Nat → va_E} (hR : Rep tA S ad L f) (hW : WT S) {o : Nat} (ho : o < sN S 3 0) {i : Nat} (hi : sR S 4 o = some i) : Met l yL_lotOf (wsW yL_lotOf cL_lotOf 3 (some .int) [(0, 5, 6, 32), (0, 5, 10, 92)]) ({ frames := 2, cells := 0, slots := 0, locals := 45 }) (va_Pc [.ref (ad 0 0), .int (nI o)] (gB D tA L f)) (vp_Si (fun r => r = nI i)) 0 0 (fun _ => False) := by
  refine va_MetW (cc := cL_lotOf) (maxL := 3) (ret := (some .int)) (hh := [(0, 5, 6, 32), (0, 5, 10, 92)]) (by decide) rfl ?_
  intro p e s m args below meth c s₁ B hml hv
  obtain ⟨rfl, hP, hK, hD⟩ := hv
  have hx := B.exec
  have hb := B.bytes
  have hr := B.returns
  have hlocks := B.notSynchronized
  have hts9 := atoms_spec (ws := (wsW yL_lotOf cL_lotOf 3 (some .int) [(0, 5, 6, 32), (0, 5, 10, 92)])) B.pre
  have hta : ∀ w ∈ WA, w.before _ s = true := fun w h => hts9 w (List.mem_cons_of_mem _ h)
  have hown : s.vm.findClass RL = some m.cls := findClass_of_methodNamed B.named
  have hP : va_P D vwCl (va_pl L f) s.heap := hP
  have hl := lv_entry ([.ref (ad 0 0), .int (nI o)]) (n := 3) (Nat.le_of_ble_eq_true rfl)
  rw [lg_entry_eq]
  generalize (lg_sl ([.ref (ad 0 0), .int (nI o)]) ++ List.replicate (3 - (lg_sl ([.ref (ad 0 0), .int (nI o)])).length) Slot.unset).toArray = ls at hl ⊢
  have hl : lv_has ls 3 [(0, .ref (ad 0 0)), (1, .int (nI o))] := hl
  refine lv_aload_n hx hb dL_lotOf_0 rfl (lv_at hl 0 rfl) ?_
  refine lv_iload_n hx hb dL_lotOf_1 rfl (lv_at hl 1 rfl) ?_
  obtain ⟨q1, e2⟩ := cell_0 hR (rfl : (0 : Nat) = 0)
  refine gro_i (ci := 12) (As := [.int (nI o)]) (rest := []) ⟨hx, hb, hml, hown, hta⟩ (c_X10_lotOf l hR hW ho hi) (cwV 1 hta (gWV mw638 mw639 mw640 mw40 mw641) rfl rfl rfl (by decide +kernel) ⟨Nat.le_of_ble_eq_true rfl, Nat.le_of_ble_eq_true rfl⟩) hK hP hD rfl e2 rfl hl.1 rfl (Nat.le_of_ble_eq_true rfl) dL_lotOf_2 ⟨Nat.zero_le _, Nat.zero_le _⟩ (fun r3 c4 => ?_)
  obtain rfl := c4
  exact W.iret (v := (nI i)) hx hb hr (fun t ht hWm => ⟨_, rfl, rfl, ht⟩) (fun q h => absurd h List.not_mem_nil) dL_lotOf_5

set_option maxHeartbeats 4000000 in
set_option maxRecDepth 100000 in
theorem c_L_finishedAt (l : Launch) {D : va_G} {tA : Nat → ClassId} {S : St} {ad : Nat → Nat → Nat} {L : List Nat} {f : Nat → va_E} (hR : Rep tA S ad L f) (hW : WT S) {o : Nat} (ho : o < sN S 3 0) (hn : ¬ sI S 63 o = -1) : Met l yL_finishedAt (wsW yL_finishedAt cL_finishedAt 3 (some .int) [(0, 5, 6, 32), (0, 5, 10, 92)]) ({ frames := 2, cells := 0, slots := 0, locals := 44 }) (va_Pc [.ref (ad 0 0), .int (nI o)] (gB D tA L f)) (vp_Si (fun r => r = sI S 63 o)) 0 0 (fun _ => False) := by
  refine va_MetW (cc := cL_finishedAt) (maxL := 3) (ret := (some .int)) (hh := [(0, 5, 6, 32), (0, 5, 10, 92)]) (by decide) rfl ?_
  intro p e s m args below meth c s₁ B hml hv
  obtain ⟨rfl, hP, hK, hD⟩ := hv
  have hx := B.exec
  have hb := B.bytes
  have hr := B.returns
  have hlocks := B.notSynchronized
  have hts9 := atoms_spec (ws := (wsW yL_finishedAt cL_finishedAt 3 (some .int) [(0, 5, 6, 32), (0, 5, 10, 92)])) B.pre
  have hta : ∀ w ∈ WA, w.before _ s = true := fun w h => hts9 w (List.mem_cons_of_mem _ h)
  have hown : s.vm.findClass RL = some m.cls := findClass_of_methodNamed B.named
  have hP : va_P D vwCl (va_pl L f) s.heap := hP
  have hl := lv_entry ([.ref (ad 0 0), .int (nI o)]) (n := 3) (Nat.le_of_ble_eq_true rfl)
  rw [lg_entry_eq]
  generalize (lg_sl ([.ref (ad 0 0), .int (nI o)]) ++ List.replicate (3 - (lg_sl ([.ref (ad 0 0), .int (nI o)])).length) Slot.unset).toArray = ls at hl ⊢
  have hl : lv_has ls 3 [(0, .ref (ad 0 0)), (1, .int (nI o))] := hl
  refine lv_aload_n hx hb dL_finishedAt_0 rfl (lv_at hl 0 rfl) ?_
  refine lv_iload_n hx hb dL_finishedAt_1 rfl (lv_at hl 1 rfl) ?_
  obtain ⟨q1, e2⟩ := cell_0 hR (rfl : (0 : Nat) = 0)
  refine gro_i (ci := 12) (As := [.int (nI o)]) (rest := []) ⟨hx, hb, hml, hown, hta⟩ (c_X10_finishedAt l hR hW ho hn) (cwV 1 hta (gWV mw653 mw654 mw655 mw40 mw656) rfl rfl rfl (by decide +kernel) ⟨Nat.le_of_ble_eq_true rfl, Nat.le_of_ble_eq_true rfl⟩) hK hP hD rfl e2 rfl hl.1 rfl (Nat.le_of_ble_eq_true rfl) dL_finishedAt_2 ⟨Nat.zero_le _, Nat.zero_le _⟩ (fun r3 c4 => ?_)
  obtain rfl := c4
  exact W.iret (v := (sI S 63 o)) hx hb hr (fun t ht hWm => ⟨_, rfl, rfl, ht⟩) (fun q h => absurd h List.not_mem_nil) dL_finishedAt_5

set_option maxHeartbeats 4000000 in
set_option maxRecDepth 100000 in
theorem c_L_deliveredCost (l : Launch) {D : va_G} {tA : Nat → ClassId} {S : St} {ad : Nat → Nat → Nat} {L : List Nat} {f : Nat → va_E} (hR : Rep tA S ad L f) (hW : WT S) {o : Nat} (ho : o < sN S 3 0) (hn : sI S 53 o = 100) : Met l yL_deliveredCost (wsW yL_deliveredCost cL_deliveredCost 3 (some .long) [(0, 5, 6, 32), (0, 5, 11, 92)]) ({ frames := 2, cells := 0, slots := 0, locals := 44 }) (va_Pc [.ref (ad 0 0), .int (nI o)] (gB D tA L f)) (vp_Sl (fun r => r = sJ S 4 o)) 0 0 (fun _ => False) := by
  refine va_MetW (cc := cL_deliveredCost) (maxL := 3) (ret := (some .long)) (hh := [(0, 5, 6, 32), (0, 5, 11, 92)]) (by decide) rfl ?_
  intro p e s m args below meth c s₁ B hml hv
  obtain ⟨rfl, hP, hK, hD⟩ := hv
  have hx := B.exec
  have hb := B.bytes
  have hr := B.returns
  have hlocks := B.notSynchronized
  have hts9 := atoms_spec (ws := (wsW yL_deliveredCost cL_deliveredCost 3 (some .long) [(0, 5, 6, 32), (0, 5, 11, 92)])) B.pre
  have hta : ∀ w ∈ WA, w.before _ s = true := fun w h => hts9 w (List.mem_cons_of_mem _ h)
  have hown : s.vm.findClass RL = some m.cls := findClass_of_methodNamed B.named
  have hP : va_P D vwCl (va_pl L f) s.heap := hP
  have hl := lv_entry ([.ref (ad 0 0), .int (nI o)]) (n := 3) (Nat.le_of_ble_eq_true rfl)
  rw [lg_entry_eq]
  generalize (lg_sl ([.ref (ad 0 0), .int (nI o)]) ++ List.replicate (3 - (lg_sl ([.ref (ad 0 0), .int (nI o)])).length) Slot.unset).toArray = ls at hl ⊢
  have hl : lv_has ls 3 [(0, .ref (ad 0 0)), (1, .int (nI o))] := hl
  refine lv_aload_n hx hb dL_deliveredCost_0 rfl (lv_at hl 0 rfl) ?_
  refine lv_iload_n hx hb dL_deliveredCost_1 rfl (lv_at hl 1 rfl) ?_
  obtain ⟨q1, e2⟩ := cell_0 hR (rfl : (0 : Nat) = 0)
  refine gro_l (ci := 12) (As := [.int (nI o)]) (rest := []) ⟨hx, hb, hml, hown, hta⟩ (c_X10_deliveredCost l hR hW ho hn) (cwV 1 hta (gWV mw667 mw668 mw669 mw40 mw670) rfl rfl rfl (by decide +kernel) ⟨Nat.le_of_ble_eq_true rfl, Nat.le_of_ble_eq_true rfl⟩) hK hP hD rfl e2 rfl hl.1 rfl (Nat.le_of_ble_eq_true rfl) dL_deliveredCost_2 ⟨Nat.zero_le _, Nat.zero_le _⟩ (fun r3 c4 => ?_)
  obtain rfl := c4
  exact W.lret (v := (sJ S 4 o)) hx hb hr (fun t ht hWm => ⟨_, rfl, rfl, ht⟩) (fun q h => absurd h List.not_mem_nil) dL_deliveredCost_5

