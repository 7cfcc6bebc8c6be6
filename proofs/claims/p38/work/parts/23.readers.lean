/-! the public face that only reads, where it does not throw (made by wip/gen/spec_j.py) -/
set_option maxHeartbeats 4000000 in
set_option maxRecDepth 100000 in
theorem c_X10_knownMachine (l : Launch) {D : va_G} {tA : Nat → ClassId} {S : St} {ad : Nat → Nat → Nat} {L : List Nat} {f : Nat → va_E} (hR : Rep tA S ad L f) (hW : WT S) {i : Nat} (hi : i < sN S 0 0) : Met l yX10_knownMachine (wsC yX10_knownMachine cX10_knownMachine 3 (some (.object "Foundrymark$Machine"))) ({ frames := 0, cells := 0, slots := 0, locals := 0 }) (va_Pc [.ref (ad 0 0), .int (nI i)] (gB D tA L f)) (va_Sq (fun r => r = Option.map (ad 1) (some i))) 0 0 (fun _ => False) := by
  refine Met.ofW (cc := cX10_knownMachine) (maxL := 3) (ret := (some (.object "Foundrymark$Machine"))) (by decide) rfl ?_
  intro p e s m args below meth c s₁ B hml hv
  obtain ⟨rfl, hP, hK, hD⟩ := hv
  have hx := B.exec
  have hb := B.bytes
  have hr := B.returns
  have hts := atoms_spec (ws := wsC yX10_knownMachine cX10_knownMachine 3 (some (.object "Foundrymark$Machine"))) B.pre
  have hta : ∀ w ∈ WA, w.before _ s = true := fun w h => hts w (List.mem_cons_of_mem _ h)
  have hown : s.vm.findClass RX10 = some m.cls := findClass_of_methodNamed B.named
  have hlocks := B.notSynchronized
  have hP : va_P D vwCl (va_pl L f) s.heap := hP
  have hl := lv_entry ([.ref (ad 0 0), .int (nI i)]) (n := 3) (Nat.le_of_ble_eq_true rfl)
  rw [lg_entry_eq]
  generalize (lg_sl ([.ref (ad 0 0), .int (nI i)]) ++ List.replicate (3 - (lg_sl ([.ref (ad 0 0), .int (nI i)])).length) Slot.unset).toArray = ls at hl ⊢
  have hl : lv_has ls 3 [(0, .ref (ad 0 0)), (1, .int (nI i))] := hl
  refine lv_iload_n hx hb dX10_knownMachine_0 rfl (lv_at hl 1 rfl) ?_
  refine lv_if_lt (tgt := 22) hx hb dX10_knownMachine_1 (by decide) (fun c1 => ?_) (fun c1 => ?_)
  · exact absurd c1 (nI_pos (by have := hW.nM; omega))
  · skip
    refine lv_iload_n hx hb dX10_knownMachine_4 rfl (lv_at hl 1 rfl) ?_
    refine lv_aload_n hx hb dX10_knownMachine_5 rfl (lv_at hl 0 rfl) ?_
    refine get_machines_0 hx hb hta iwX10 hown hK hP hR (rfl : (0 : Nat) = 0) (hta _ mw96) dX10_knownMachine_6 ?_
    refine len_machines hx hb hK hP hR (rfl : (0 : Nat) = 0) dX10_knownMachine_9 ?_
    refine lv_icmp_ge (tgt := 22) hx hb dX10_knownMachine_10 (by decide) (fun c2 => ?_) (fun c2 => ?_)
    · exact absurd c2 (nI_ge (a := i) (b := 5) (by have := hW.nM; omega) (by decide))
    · skip
      refine lv_aload_n hx hb dX10_knownMachine_13 rfl (lv_at hl 0 rfl) ?_
      refine get_machines_0 hx hb hta iwX10 hown hK hP hR (rfl : (0 : Nat) = 0) (hta _ mw96) dX10_knownMachine_14 ?_
      refine lv_iload_n hx hb dX10_knownMachine_17 rfl (lv_at hl 1 rfl) ?_
      refine ldn_machines hx hb hK hP hR (rfl : (0 : Nat) = 0) (Nat.lt_of_lt_of_le hi hW.nM) dX10_knownMachine_18 (fun h3 => ?_) (fun h3 => ?_)
      · skip
        refine lv_goto (tgt := 23) hx hb dX10_knownMachine_19 (by decide) ?_
        refine lv_astore_n (lv' := [(2, .ref (ad 1 i)), (0, .ref (ad 0 0)), (1, .int (nI i))]) hx hb dX10_knownMachine_23 rfl hl (by decide) rfl (fun ls hl => ?_)
        refine lv_aload_n hx hb dX10_knownMachine_24 rfl (lv_at hl 0 rfl) ?_
        refine lv_ifnonnull (tgt := 39) hx hb dX10_knownMachine_25 (by decide) ?_
        refine lv_aload_n hx hb dX10_knownMachine_39 rfl (lv_at hl 0 rfl) ?_
        exact W.aret (rt := (.object "Foundrymark$Machine")) hx hb hr (Or.inl ⟨_, rfl⟩) (Or.inr ⟨_, rfl⟩) (fun t ht hWm => ⟨some (ad 1 i), rfl, rfl, ht⟩) (fun q h => absurd h List.not_mem_nil) dX10_knownMachine_40
      · skip
        refine lv_goto (tgt := 23) hx hb dX10_knownMachine_19 (by decide) ?_
        refine lv_astore_nN (lv' := [(2, .null), (0, .ref (ad 0 0)), (1, .int (nI i))]) hx hb dX10_knownMachine_23 rfl hl (by decide) rfl (fun ls hl => ?_)
        refine lv_aload_nN hx hb dX10_knownMachine_24 rfl (lv_at hl 0 rfl) ?_
        refine lv_ifnonnullN hx hb dX10_knownMachine_25 ?_
        exact absurd hi h3

set_option maxHeartbeats 4000000 in
set_option maxRecDepth 100000 in
theorem c_X10_knownPart (l : Launch) {D : va_G} {tA : Nat → ClassId} {S : St} {ad : Nat → Nat → Nat} {L : List Nat} {f : Nat → va_E} (hR : Rep tA S ad L f) (hW : WT S) {i : Nat} (hi : i < sN S 1 0) : Met l yX10_knownPart (wsC yX10_knownPart cX10_knownPart 3 (some (.object "Foundrymark$Part"))) ({ frames := 0, cells := 0, slots := 0, locals := 0 }) (va_Pc [.ref (ad 0 0), .int (nI i)] (gB D tA L f)) (va_Sq (fun r => r = Option.map (ad 2) (some i))) 0 0 (fun _ => False) := by
  refine Met.ofW (cc := cX10_knownPart) (maxL := 3) (ret := (some (.object "Foundrymark$Part"))) (by decide) rfl ?_
  intro p e s m args below meth c s₁ B hml hv
  obtain ⟨rfl, hP, hK, hD⟩ := hv
  have hx := B.exec
  have hb := B.bytes
  have hr := B.returns
  have hts := atoms_spec (ws := wsC yX10_knownPart cX10_knownPart 3 (some (.object "Foundrymark$Part"))) B.pre
  have hta : ∀ w ∈ WA, w.before _ s = true := fun w h => hts w (List.mem_cons_of_mem _ h)
  have hown : s.vm.findClass RX10 = some m.cls := findClass_of_methodNamed B.named
  have hlocks := B.notSynchronized
  have hP : va_P D vwCl (va_pl L f) s.heap := hP
  have hl := lv_entry ([.ref (ad 0 0), .int (nI i)]) (n := 3) (Nat.le_of_ble_eq_true rfl)
  rw [lg_entry_eq]
  generalize (lg_sl ([.ref (ad 0 0), .int (nI i)]) ++ List.replicate (3 - (lg_sl ([.ref (ad 0 0), .int (nI i)])).length) Slot.unset).toArray = ls at hl ⊢
  have hl : lv_has ls 3 [(0, .ref (ad 0 0)), (1, .int (nI i))] := hl
  refine lv_iload_n hx hb dX10_knownPart_0 rfl (lv_at hl 1 rfl) ?_
  refine lv_if_lt (tgt := 22) hx hb dX10_knownPart_1 (by decide) (fun c1 => ?_) (fun c1 => ?_)
  · exact absurd c1 (nI_pos (by have := hW.nP; omega))
  · skip
    refine lv_iload_n hx hb dX10_knownPart_4 rfl (lv_at hl 1 rfl) ?_
    refine lv_aload_n hx hb dX10_knownPart_5 rfl (lv_at hl 0 rfl) ?_
    refine get_parts_0 hx hb hta iwX10 hown hK hP hR (rfl : (0 : Nat) = 0) (hta _ mw97) dX10_knownPart_6 ?_
    refine len_parts hx hb hK hP hR (rfl : (0 : Nat) = 0) dX10_knownPart_9 ?_
    refine lv_icmp_ge (tgt := 22) hx hb dX10_knownPart_10 (by decide) (fun c2 => ?_) (fun c2 => ?_)
    · exact absurd c2 (nI_ge (a := i) (b := 12) (by have := hW.nP; omega) (by decide))
    · skip
      refine lv_aload_n hx hb dX10_knownPart_13 rfl (lv_at hl 0 rfl) ?_
      refine get_parts_0 hx hb hta iwX10 hown hK hP hR (rfl : (0 : Nat) = 0) (hta _ mw97) dX10_knownPart_14 ?_
      refine lv_iload_n hx hb dX10_knownPart_17 rfl (lv_at hl 1 rfl) ?_
      refine ldn_parts hx hb hK hP hR (rfl : (0 : Nat) = 0) (Nat.lt_of_lt_of_le hi hW.nP) dX10_knownPart_18 (fun h3 => ?_) (fun h3 => ?_)
      · skip
        refine lv_goto (tgt := 23) hx hb dX10_knownPart_19 (by decide) ?_
        refine lv_astore_n (lv' := [(2, .ref (ad 2 i)), (0, .ref (ad 0 0)), (1, .int (nI i))]) hx hb dX10_knownPart_23 rfl hl (by decide) rfl (fun ls hl => ?_)
        refine lv_aload_n hx hb dX10_knownPart_24 rfl (lv_at hl 0 rfl) ?_
        refine lv_ifnonnull (tgt := 39) hx hb dX10_knownPart_25 (by decide) ?_
        refine lv_aload_n hx hb dX10_knownPart_39 rfl (lv_at hl 0 rfl) ?_
        exact W.aret (rt := (.object "Foundrymark$Part")) hx hb hr (Or.inl ⟨_, rfl⟩) (Or.inr ⟨_, rfl⟩) (fun t ht hWm => ⟨some (ad 2 i), rfl, rfl, ht⟩) (fun q h => absurd h List.not_mem_nil) dX10_knownPart_40
      · skip
        refine lv_goto (tgt := 23) hx hb dX10_knownPart_19 (by decide) ?_
        refine lv_astore_nN (lv' := [(2, .null), (0, .ref (ad 0 0)), (1, .int (nI i))]) hx hb dX10_knownPart_23 rfl hl (by decide) rfl (fun ls hl => ?_)
        refine lv_aload_nN hx hb dX10_knownPart_24 rfl (lv_at hl 0 rfl) ?_
        refine lv_ifnonnullN hx hb dX10_knownPart_25 ?_
        exact absurd hi h3

set_option maxHeartbeats 4000000 in
set_option maxRecDepth 100000 in
theorem c_X10_knownLot (l : Launch) {D : va_G} {tA : Nat → ClassId} {S : St} {ad : Nat → Nat → Nat} {L : List Nat} {f : Nat → va_E} (hR : Rep tA S ad L f) (hW : WT S) {i : Nat} (hi : i < sN S 2 0) : Met l yX10_knownLot (wsC yX10_knownLot cX10_knownLot 3 (some (.object "Foundrymark$Lot"))) ({ frames := 0, cells := 0, slots := 0, locals := 0 }) (va_Pc [.ref (ad 0 0), .int (nI i)] (gB D tA L f)) (va_Sq (fun r => r = Option.map (ad 7) (some i))) 0 0 (fun _ => False) := by
  refine Met.ofW (cc := cX10_knownLot) (maxL := 3) (ret := (some (.object "Foundrymark$Lot"))) (by decide) rfl ?_
  intro p e s m args below meth c s₁ B hml hv
  obtain ⟨rfl, hP, hK, hD⟩ := hv
  have hx := B.exec
  have hb := B.bytes
  have hr := B.returns
  have hts := atoms_spec (ws := wsC yX10_knownLot cX10_knownLot 3 (some (.object "Foundrymark$Lot"))) B.pre
  have hta : ∀ w ∈ WA, w.before _ s = true := fun w h => hts w (List.mem_cons_of_mem _ h)
  have hown : s.vm.findClass RX10 = some m.cls := findClass_of_methodNamed B.named
  have hlocks := B.notSynchronized
  have hP : va_P D vwCl (va_pl L f) s.heap := hP
  have hl := lv_entry ([.ref (ad 0 0), .int (nI i)]) (n := 3) (Nat.le_of_ble_eq_true rfl)
  rw [lg_entry_eq]
  generalize (lg_sl ([.ref (ad 0 0), .int (nI i)]) ++ List.replicate (3 - (lg_sl ([.ref (ad 0 0), .int (nI i)])).length) Slot.unset).toArray = ls at hl ⊢
  have hl : lv_has ls 3 [(0, .ref (ad 0 0)), (1, .int (nI i))] := hl
  refine lv_iload_n hx hb dX10_knownLot_0 rfl (lv_at hl 1 rfl) ?_
  refine lv_if_lt (tgt := 22) hx hb dX10_knownLot_1 (by decide) (fun c1 => ?_) (fun c1 => ?_)
  · exact absurd c1 (nI_pos (by have := hW.nL; omega))
  · skip
    refine lv_iload_n hx hb dX10_knownLot_4 rfl (lv_at hl 1 rfl) ?_
    refine lv_aload_n hx hb dX10_knownLot_5 rfl (lv_at hl 0 rfl) ?_
    refine get_lots_0 hx hb hta iwX10 hown hK hP hR (rfl : (0 : Nat) = 0) (hta _ mw99) dX10_knownLot_6 ?_
    refine len_lots hx hb hK hP hR (rfl : (0 : Nat) = 0) dX10_knownLot_9 ?_
    refine lv_icmp_ge (tgt := 22) hx hb dX10_knownLot_10 (by decide) (fun c2 => ?_) (fun c2 => ?_)
    · exact absurd c2 (nI_ge (a := i) (b := 90) (by have := hW.nL; omega) (by decide))
    · skip
      refine lv_aload_n hx hb dX10_knownLot_13 rfl (lv_at hl 0 rfl) ?_
      refine get_lots_0 hx hb hta iwX10 hown hK hP hR (rfl : (0 : Nat) = 0) (hta _ mw99) dX10_knownLot_14 ?_
      refine lv_iload_n hx hb dX10_knownLot_17 rfl (lv_at hl 1 rfl) ?_
      refine ldn_lots hx hb hK hP hR (rfl : (0 : Nat) = 0) (Nat.lt_of_lt_of_le hi hW.nL) dX10_knownLot_18 (fun h3 => ?_) (fun h3 => ?_)
      · skip
        refine lv_goto (tgt := 23) hx hb dX10_knownLot_19 (by decide) ?_
        refine lv_astore_n (lv' := [(2, .ref (ad 7 i)), (0, .ref (ad 0 0)), (1, .int (nI i))]) hx hb dX10_knownLot_23 rfl hl (by decide) rfl (fun ls hl => ?_)
        refine lv_aload_n hx hb dX10_knownLot_24 rfl (lv_at hl 0 rfl) ?_
        refine lv_ifnonnull (tgt := 39) hx hb dX10_knownLot_25 (by decide) ?_
        refine lv_aload_n hx hb dX10_knownLot_39 rfl (lv_at hl 0 rfl) ?_
        exact W.aret (rt := (.object "Foundrymark$Lot")) hx hb hr (Or.inl ⟨_, rfl⟩) (Or.inr ⟨_, rfl⟩) (fun t ht hWm => ⟨some (ad 7 i), rfl, rfl, ht⟩) (fun q h => absurd h List.not_mem_nil) dX10_knownLot_40
      · skip
        refine lv_goto (tgt := 23) hx hb dX10_knownLot_19 (by decide) ?_
        refine lv_astore_nN (lv' := [(2, .null), (0, .ref (ad 0 0)), (1, .int (nI i))]) hx hb dX10_knownLot_23 rfl hl (by decide) rfl (fun ls hl => ?_)
        refine lv_aload_nN hx hb dX10_knownLot_24 rfl (lv_at hl 0 rfl) ?_
        refine lv_ifnonnullN hx hb dX10_knownLot_25 ?_
        exact absurd hi h3

set_option maxHeartbeats 4000000 in
set_option maxRecDepth 100000 in
theorem c_X10_knownOrder (l : Launch) {D : va_G} {tA : Nat → ClassId} {S : St} {ad : Nat → Nat → Nat} {L : List Nat} {f : Nat → va_E} (hR : Rep tA S ad L f) (hW : WT S) {i : Nat} (hi : i < sN S 3 0) : Met l yX10_knownOrder (wsC yX10_knownOrder cX10_knownOrder 3 (some (.object "Foundrymark$Order"))) ({ frames := 0, cells := 0, slots := 0, locals := 0 }) (va_Pc [.ref (ad 0 0), .int (nI i)] (gB D tA L f)) (va_Sq (fun r => r = Option.map (ad 11) (some i))) 0 0 (fun _ => False) := by
  refine Met.ofW (cc := cX10_knownOrder) (maxL := 3) (ret := (some (.object "Foundrymark$Order"))) (by decide) rfl ?_
  intro p e s m args below meth c s₁ B hml hv
  obtain ⟨rfl, hP, hK, hD⟩ := hv
  have hx := B.exec
  have hb := B.bytes
  have hr := B.returns
  have hts := atoms_spec (ws := wsC yX10_knownOrder cX10_knownOrder 3 (some (.object "Foundrymark$Order"))) B.pre
  have hta : ∀ w ∈ WA, w.before _ s = true := fun w h => hts w (List.mem_cons_of_mem _ h)
  have hown : s.vm.findClass RX10 = some m.cls := findClass_of_methodNamed B.named
  have hlocks := B.notSynchronized
  have hP : va_P D vwCl (va_pl L f) s.heap := hP
  have hl := lv_entry ([.ref (ad 0 0), .int (nI i)]) (n := 3) (Nat.le_of_ble_eq_true rfl)
  rw [lg_entry_eq]
  generalize (lg_sl ([.ref (ad 0 0), .int (nI i)]) ++ List.replicate (3 - (lg_sl ([.ref (ad 0 0), .int (nI i)])).length) Slot.unset).toArray = ls at hl ⊢
  have hl : lv_has ls 3 [(0, .ref (ad 0 0)), (1, .int (nI i))] := hl
  refine lv_iload_n hx hb dX10_knownOrder_0 rfl (lv_at hl 1 rfl) ?_
  refine lv_if_lt (tgt := 22) hx hb dX10_knownOrder_1 (by decide) (fun c1 => ?_) (fun c1 => ?_)
  · exact absurd c1 (nI_pos (by have := hW.nO; omega))
  · skip
    refine lv_iload_n hx hb dX10_knownOrder_4 rfl (lv_at hl 1 rfl) ?_
    refine lv_aload_n hx hb dX10_knownOrder_5 rfl (lv_at hl 0 rfl) ?_
    refine get_orders_0 hx hb hta iwX10 hown hK hP hR (rfl : (0 : Nat) = 0) (hta _ mw100) dX10_knownOrder_6 ?_
    refine len_orders hx hb hK hP hR (rfl : (0 : Nat) = 0) dX10_knownOrder_9 ?_
    refine lv_icmp_ge (tgt := 22) hx hb dX10_knownOrder_10 (by decide) (fun c2 => ?_) (fun c2 => ?_)
    · exact absurd c2 (nI_ge (a := i) (b := 30) (by have := hW.nO; omega) (by decide))
    · skip
      refine lv_aload_n hx hb dX10_knownOrder_13 rfl (lv_at hl 0 rfl) ?_
      refine get_orders_0 hx hb hta iwX10 hown hK hP hR (rfl : (0 : Nat) = 0) (hta _ mw100) dX10_knownOrder_14 ?_
      refine lv_iload_n hx hb dX10_knownOrder_17 rfl (lv_at hl 1 rfl) ?_
      refine ldn_orders hx hb hK hP hR (rfl : (0 : Nat) = 0) (Nat.lt_of_lt_of_le hi hW.nO) dX10_knownOrder_18 (fun h3 => ?_) (fun h3 => ?_)
      · skip
        refine lv_goto (tgt := 23) hx hb dX10_knownOrder_19 (by decide) ?_
        refine lv_astore_n (lv' := [(2, .ref (ad 11 i)), (0, .ref (ad 0 0)), (1, .int (nI i))]) hx hb dX10_knownOrder_23 rfl hl (by decide) rfl (fun ls hl => ?_)
        refine lv_aload_n hx hb dX10_knownOrder_24 rfl (lv_at hl 0 rfl) ?_
        refine lv_ifnonnull (tgt := 39) hx hb dX10_knownOrder_25 (by decide) ?_
        refine lv_aload_n hx hb dX10_knownOrder_39 rfl (lv_at hl 0 rfl) ?_
        exact W.aret (rt := (.object "Foundrymark$Order")) hx hb hr (Or.inl ⟨_, rfl⟩) (Or.inr ⟨_, rfl⟩) (fun t ht hWm => ⟨some (ad 11 i), rfl, rfl, ht⟩) (fun q h => absurd h List.not_mem_nil) dX10_knownOrder_40
      · skip
        refine lv_goto (tgt := 23) hx hb dX10_knownOrder_19 (by decide) ?_
        refine lv_astore_nN (lv' := [(2, .null), (0, .ref (ad 0 0)), (1, .int (nI i))]) hx hb dX10_knownOrder_23 rfl hl (by decide) rfl (fun ls hl => ?_)
        refine lv_aload_nN hx hb dX10_knownOrder_24 rfl (lv_at hl 0 rfl) ?_
        refine lv_ifnonnullN hx hb dX10_knownOrder_25 ?_
        exact absurd hi h3

set_option maxHeartbeats 4000000 in
set_option maxRecDepth 100000 in
theorem c_X10_lots (l : Launch) {D : va_G} {tA : Nat → ClassId} {S : St} {ad : Nat → Nat → Nat} {L : List Nat} {f : Nat → va_E} (hR : Rep tA S ad L f)  : Met l yX10_lots (wsC yX10_lots cX10_lots 1 (some .int)) ({ frames := 0, cells := 0, slots := 0, locals := 0 }) (va_Pc [.ref (ad 0 0)] (gB D tA L f)) (vp_Si (fun r => r = nI (sN S 2 0))) 0 0 (fun _ => False) := by
  refine Met.ofW (cc := cX10_lots) (maxL := 1) (ret := (some .int)) (by decide) rfl ?_
  intro p e s m args below meth c s₁ B hml hv
  obtain ⟨rfl, hP, hK, hD⟩ := hv
  have hx := B.exec
  have hb := B.bytes
  have hr := B.returns
  have hts := atoms_spec (ws := wsC yX10_lots cX10_lots 1 (some .int)) B.pre
  have hta : ∀ w ∈ WA, w.before _ s = true := fun w h => hts w (List.mem_cons_of_mem _ h)
  have hown : s.vm.findClass RX10 = some m.cls := findClass_of_methodNamed B.named
  have hlocks := B.notSynchronized
  have hP : va_P D vwCl (va_pl L f) s.heap := hP
  have hl := lv_entry ([.ref (ad 0 0)]) (n := 1) (Nat.le_of_ble_eq_true rfl)
  rw [lg_entry_eq]
  generalize (lg_sl ([.ref (ad 0 0)]) ++ List.replicate (1 - (lg_sl ([.ref (ad 0 0)])).length) Slot.unset).toArray = ls at hl ⊢
  have hl : lv_has ls 1 [(0, .ref (ad 0 0))] := hl
  refine lv_aload_n hx hb dX10_lots_0 rfl (lv_at hl 0 rfl) ?_
  refine get_lotCount_0 hx hb hta iwX10 hown hK hP hR (rfl : (0 : Nat) = 0) (hta _ mw104) dX10_lots_1 ?_
  exact W.iret (v := (nI (sN S 2 0))) hx hb hr (fun t ht hWm => ⟨_, rfl, rfl, ht⟩) (fun q h => absurd h List.not_mem_nil) dX10_lots_4

set_option maxHeartbeats 4000000 in
set_option maxRecDepth 100000 in
theorem c_X10_partOf (l : Launch) {D : va_G} {tA : Nat → ClassId} {S : St} {ad : Nat → Nat → Nat} {L : List Nat} {f : Nat → va_E} (hR : Rep tA S ad L f) (hW : WT S) {i : Nat} (hi : i < sN S 2 0) : Met l yX10_partOf (wsC yX10_partOf cX10_partOf 2 (some .int)) ({ frames := 1, cells := 0, slots := 0, locals := 22 }) (va_Pc [.ref (ad 0 0), .int (nI i)] (gB D tA L f)) (vp_Si (fun r => r = nI (sN S 6 i))) 0 0 (fun _ => False) := by
  refine Met.ofW (cc := cX10_partOf) (maxL := 2) (ret := (some .int)) (by decide) rfl ?_
  intro p e s m args below meth c s₁ B hml hv
  obtain ⟨rfl, hP, hK, hD⟩ := hv
  have hx := B.exec
  have hb := B.bytes
  have hr := B.returns
  have hts := atoms_spec (ws := wsC yX10_partOf cX10_partOf 2 (some .int)) B.pre
  have hta : ∀ w ∈ WA, w.before _ s = true := fun w h => hts w (List.mem_cons_of_mem _ h)
  have hown : s.vm.findClass RX10 = some m.cls := findClass_of_methodNamed B.named
  have hlocks := B.notSynchronized
  have hP : va_P D vwCl (va_pl L f) s.heap := hP
  have hl := lv_entry ([.ref (ad 0 0), .int (nI i)]) (n := 2) (Nat.le_of_ble_eq_true rfl)
  rw [lg_entry_eq]
  generalize (lg_sl ([.ref (ad 0 0), .int (nI i)]) ++ List.replicate (2 - (lg_sl ([.ref (ad 0 0), .int (nI i)])).length) Slot.unset).toArray = ls at hl ⊢
  have hl : lv_has ls 2 [(0, .ref (ad 0 0)), (1, .int (nI i))] := hl
  refine lv_aload_n hx hb dX10_partOf_0 rfl (lv_at hl 0 rfl) ?_
  refine lv_iload_n hx hb dX10_partOf_1 rfl (lv_at hl 1 rfl) ?_
  obtain ⟨q1, e2⟩ := cell_0 hR (rfl : (0 : Nat) = 0)
  refine gro_q (ci := 12) (As := [.int (nI i)]) (rest := []) ⟨hx, hb, hml, hown, hta⟩ (c_X10_knownLot l hR hW hi) (cwV 1 hta (gWV mw456 mw457 mw16 mw40 mw458) rfl rfl rfl (by decide +kernel) ⟨Nat.le_of_ble_eq_true rfl, Nat.le_of_ble_eq_true rfl⟩) hK hP hD rfl e2 rfl hl.1 rfl (Nat.le_of_ble_eq_true rfl) dX10_partOf_2 ⟨Nat.zero_le _, Nat.zero_le _⟩ (fun r3 c4 => ?_)
  obtain rfl := c4
  change W _ _ _ _ _ _ _ _ _ _ _ _ _ _ _ (F0 _ _ _ (rf ad 7 (some i) :: []))
  rw [rf_some]
  refine get_part_7 hx hb hta iwX3 hown hK hP hR hi (hta _ mw409) dX10_partOf_5 ?_
  refine get_number_2 hx hb hta iwX8 hown hK hP hR (hW.lotPart hi) (hta _ mw288) dX10_partOf_8 ?_
  exact W.iret (v := (nI (sN S 6 i))) hx hb hr (fun t ht hWm => ⟨_, rfl, rfl, ht⟩) (fun q h => absurd h List.not_mem_nil) dX10_partOf_11

set_option maxHeartbeats 4000000 in
set_option maxRecDepth 100000 in
theorem c_X10_rest (l : Launch) {D : va_G} {tA : Nat → ClassId} {S : St} {ad : Nat → Nat → Nat} {L : List Nat} {f : Nat → va_E} (hR : Rep tA S ad L f) (hW : WT S) {i : Nat} (hi : i < sN S 2 0) : Met l yX10_rest (wsC yX10_rest cX10_rest 2 (some .int)) ({ frames := 1, cells := 0, slots := 0, locals := 22 }) (va_Pc [.ref (ad 0 0), .int (nI i)] (gB D tA L f)) (vp_Si (fun r => r = sI S 41 i)) 0 0 (fun _ => False) := by
  refine Met.ofW (cc := cX10_rest) (maxL := 2) (ret := (some .int)) (by decide) rfl ?_
  intro p e s m args below meth c s₁ B hml hv
  obtain ⟨rfl, hP, hK, hD⟩ := hv
  have hx := B.exec
  have hb := B.bytes
  have hr := B.returns
  have hts := atoms_spec (ws := wsC yX10_rest cX10_rest 2 (some .int)) B.pre
  have hta : ∀ w ∈ WA, w.before _ s = true := fun w h => hts w (List.mem_cons_of_mem _ h)
  have hown : s.vm.findClass RX10 = some m.cls := findClass_of_methodNamed B.named
  have hlocks := B.notSynchronized
  have hP : va_P D vwCl (va_pl L f) s.heap := hP
  have hl := lv_entry ([.ref (ad 0 0), .int (nI i)]) (n := 2) (Nat.le_of_ble_eq_true rfl)
  rw [lg_entry_eq]
  generalize (lg_sl ([.ref (ad 0 0), .int (nI i)]) ++ List.replicate (2 - (lg_sl ([.ref (ad 0 0), .int (nI i)])).length) Slot.unset).toArray = ls at hl ⊢
  have hl : lv_has ls 2 [(0, .ref (ad 0 0)), (1, .int (nI i))] := hl
  refine lv_aload_n hx hb dX10_rest_0 rfl (lv_at hl 0 rfl) ?_
  refine lv_iload_n hx hb dX10_rest_1 rfl (lv_at hl 1 rfl) ?_
  obtain ⟨q1, e2⟩ := cell_0 hR (rfl : (0 : Nat) = 0)
  refine gro_q (ci := 12) (As := [.int (nI i)]) (rest := []) ⟨hx, hb, hml, hown, hta⟩ (c_X10_knownLot l hR hW hi) (cwV 1 hta (gWV mw456 mw457 mw16 mw40 mw458) rfl rfl rfl (by decide +kernel) ⟨Nat.le_of_ble_eq_true rfl, Nat.le_of_ble_eq_true rfl⟩) hK hP hD rfl e2 rfl hl.1 rfl (Nat.le_of_ble_eq_true rfl) dX10_rest_2 ⟨Nat.zero_le _, Nat.zero_le _⟩ (fun r3 c4 => ?_)
  obtain rfl := c4
  change W _ _ _ _ _ _ _ _ _ _ _ _ _ _ _ (F0 _ _ _ (rf ad 7 (some i) :: []))
  rw [rf_some]
  refine get_rest_7 hx hb hta iwX3 hown hK hP hR hi (hta _ mw421) dX10_rest_5 ?_
  exact W.iret (v := (sI S 41 i)) hx hb hr (fun t ht hWm => ⟨_, rfl, rfl, ht⟩) (fun q h => absurd h List.not_mem_nil) dX10_rest_8

set_option maxHeartbeats 4000000 in
set_option maxRecDepth 100000 in
theorem c_X10_reserved (l : Launch) {D : va_G} {tA : Nat → ClassId} {S : St} {ad : Nat → Nat → Nat} {L : List Nat} {f : Nat → va_E} (hR : Rep tA S ad L f) (hW : WT S) {i : Nat} (hi : i < sN S 2 0) : Met l yX10_reserved (wsC yX10_reserved cX10_reserved 2 (some .int)) ({ frames := 1, cells := 0, slots := 0, locals := 22 }) (va_Pc [.ref (ad 0 0), .int (nI i)] (gB D tA L f)) (vp_Si (fun r => r = sI S 42 i)) 0 0 (fun _ => False) := by
  refine Met.ofW (cc := cX10_reserved) (maxL := 2) (ret := (some .int)) (by decide) rfl ?_
  intro p e s m args below meth c s₁ B hml hv
  obtain ⟨rfl, hP, hK, hD⟩ := hv
  have hx := B.exec
  have hb := B.bytes
  have hr := B.returns
  have hts := atoms_spec (ws := wsC yX10_reserved cX10_reserved 2 (some .int)) B.pre
  have hta : ∀ w ∈ WA, w.before _ s = true := fun w h => hts w (List.mem_cons_of_mem _ h)
  have hown : s.vm.findClass RX10 = some m.cls := findClass_of_methodNamed B.named
  have hlocks := B.notSynchronized
  have hP : va_P D vwCl (va_pl L f) s.heap := hP
  have hl := lv_entry ([.ref (ad 0 0), .int (nI i)]) (n := 2) (Nat.le_of_ble_eq_true rfl)
  rw [lg_entry_eq]
  generalize (lg_sl ([.ref (ad 0 0), .int (nI i)]) ++ List.replicate (2 - (lg_sl ([.ref (ad 0 0), .int (nI i)])).length) Slot.unset).toArray = ls at hl ⊢
  have hl : lv_has ls 2 [(0, .ref (ad 0 0)), (1, .int (nI i))] := hl
  refine lv_aload_n hx hb dX10_reserved_0 rfl (lv_at hl 0 rfl) ?_
  refine lv_iload_n hx hb dX10_reserved_1 rfl (lv_at hl 1 rfl) ?_
  obtain ⟨q1, e2⟩ := cell_0 hR (rfl : (0 : Nat) = 0)
  refine gro_q (ci := 12) (As := [.int (nI i)]) (rest := []) ⟨hx, hb, hml, hown, hta⟩ (c_X10_knownLot l hR hW hi) (cwV 1 hta (gWV mw456 mw457 mw16 mw40 mw458) rfl rfl rfl (by decide +kernel) ⟨Nat.le_of_ble_eq_true rfl, Nat.le_of_ble_eq_true rfl⟩) hK hP hD rfl e2 rfl hl.1 rfl (Nat.le_of_ble_eq_true rfl) dX10_reserved_2 ⟨Nat.zero_le _, Nat.zero_le _⟩ (fun r3 c4 => ?_)
  obtain rfl := c4
  change W _ _ _ _ _ _ _ _ _ _ _ _ _ _ _ (F0 _ _ _ (rf ad 7 (some i) :: []))
  rw [rf_some]
  refine get_reserved_7 hx hb hta iwX3 hown hK hP hR hi (hta _ mw422) dX10_reserved_5 ?_
  exact W.iret (v := (sI S 42 i)) hx hb hr (fun t ht hWm => ⟨_, rfl, rfl, ht⟩) (fun q h => absurd h List.not_mem_nil) dX10_reserved_8

set_option maxHeartbeats 4000000 in
set_option maxRecDepth 100000 in
theorem c_X10_costOf (l : Launch) {D : va_G} {tA : Nat → ClassId} {S : St} {ad : Nat → Nat → Nat} {L : List Nat} {f : Nat → va_E} (hR : Rep tA S ad L f) (hW : WT S) {i : Nat} (hi : i < sN S 2 0) : Met l yX10_costOf (wsC yX10_costOf cX10_costOf 2 (some .long)) ({ frames := 1, cells := 0, slots := 0, locals := 22 }) (va_Pc [.ref (ad 0 0), .int (nI i)] (gB D tA L f)) (vp_Sl (fun r => r = sJ S 3 i)) 0 0 (fun _ => False) := by
  refine Met.ofW (cc := cX10_costOf) (maxL := 2) (ret := (some .long)) (by decide) rfl ?_
  intro p e s m args below meth c s₁ B hml hv
  obtain ⟨rfl, hP, hK, hD⟩ := hv
  have hx := B.exec
  have hb := B.bytes
  have hr := B.returns
  have hts := atoms_spec (ws := wsC yX10_costOf cX10_costOf 2 (some .long)) B.pre
  have hta : ∀ w ∈ WA, w.before _ s = true := fun w h => hts w (List.mem_cons_of_mem _ h)
  have hown : s.vm.findClass RX10 = some m.cls := findClass_of_methodNamed B.named
  have hlocks := B.notSynchronized
  have hP : va_P D vwCl (va_pl L f) s.heap := hP
  have hl := lv_entry ([.ref (ad 0 0), .int (nI i)]) (n := 2) (Nat.le_of_ble_eq_true rfl)
  rw [lg_entry_eq]
  generalize (lg_sl ([.ref (ad 0 0), .int (nI i)]) ++ List.replicate (2 - (lg_sl ([.ref (ad 0 0), .int (nI i)])).length) Slot.unset).toArray = ls at hl ⊢
  have hl : lv_has ls 2 [(0, .ref (ad 0 0)), (1, .int (nI i))] := hl
  refine lv_aload_n hx hb dX10_costOf_0 rfl (lv_at hl 0 rfl) ?_
  refine lv_iload_n hx hb dX10_costOf_1 rfl (lv_at hl 1 rfl) ?_
  obtain ⟨q1, e2⟩ := cell_0 hR (rfl : (0 : Nat) = 0)
  refine gro_q (ci := 12) (As := [.int (nI i)]) (rest := []) ⟨hx, hb, hml, hown, hta⟩ (c_X10_knownLot l hR hW hi) (cwV 1 hta (gWV mw456 mw457 mw16 mw40 mw458) rfl rfl rfl (by decide +kernel) ⟨Nat.le_of_ble_eq_true rfl, Nat.le_of_ble_eq_true rfl⟩) hK hP hD rfl e2 rfl hl.1 rfl (Nat.le_of_ble_eq_true rfl) dX10_costOf_2 ⟨Nat.zero_le _, Nat.zero_le _⟩ (fun r3 c4 => ?_)
  obtain rfl := c4
  change W _ _ _ _ _ _ _ _ _ _ _ _ _ _ _ (F0 _ _ _ (rf ad 7 (some i) :: []))
  rw [rf_some]
  refine get_cost_7 hx hb hta iwX3 hown hK hP hR hi (hta _ mw425) dX10_costOf_5 ?_
  exact W.lret (v := (sJ S 3 i)) hx hb hr (fun t ht hWm => ⟨_, rfl, rfl, ht⟩) (fun q h => absurd h List.not_mem_nil) dX10_costOf_8

set_option maxHeartbeats 4000000 in
set_option maxRecDepth 100000 in
theorem c_X10_isHeld (l : Launch) {D : va_G} {tA : Nat → ClassId} {S : St} {ad : Nat → Nat → Nat} {L : List Nat} {f : Nat → va_E} (hR : Rep tA S ad L f) (hW : WT S) {i : Nat} (hi : i < sN S 2 0) : Met l yX10_isHeld (wsC yX10_isHeld cX10_isHeld 2 (some .boolean)) ({ frames := 2, cells := 0, slots := 0, locals := 42 }) (va_Pc [.ref (ad 0 0), .int (nI i)] (gB D tA L f)) (vp_Si (fun r => r = bI (barred S i))) 0 0 (fun _ => False) := by
  refine Met.ofW (cc := cX10_isHeld) (maxL := 2) (ret := (some .boolean)) (by decide) rfl ?_
  intro p e s m args below meth c s₁ B hml hv
  obtain ⟨rfl, hP, hK, hD⟩ := hv
  have hx := B.exec
  have hb := B.bytes
  have hr := B.returns
  have hts := atoms_spec (ws := wsC yX10_isHeld cX10_isHeld 2 (some .boolean)) B.pre
  have hta : ∀ w ∈ WA, w.before _ s = true := fun w h => hts w (List.mem_cons_of_mem _ h)
  have hown : s.vm.findClass RX10 = some m.cls := findClass_of_methodNamed B.named
  have hlocks := B.notSynchronized
  have hP : va_P D vwCl (va_pl L f) s.heap := hP
  have hl := lv_entry ([.ref (ad 0 0), .int (nI i)]) (n := 2) (Nat.le_of_ble_eq_true rfl)
  rw [lg_entry_eq]
  generalize (lg_sl ([.ref (ad 0 0), .int (nI i)]) ++ List.replicate (2 - (lg_sl ([.ref (ad 0 0), .int (nI i)])).length) Slot.unset).toArray = ls at hl ⊢
  have hl : lv_has ls 2 [(0, .ref (ad 0 0)), (1, .int (nI i))] := hl
  refine lv_aload_n hx hb dX10_isHeld_0 rfl (lv_at hl 0 rfl) ?_
  refine lv_aload_n hx hb dX10_isHeld_1 rfl (lv_at hl 0 rfl) ?_
  refine lv_iload_n hx hb dX10_isHeld_2 rfl (lv_at hl 1 rfl) ?_
  obtain ⟨q1, e2⟩ := cell_0 hR (rfl : (0 : Nat) = 0)
  refine gro_q (ci := 12) (As := [.int (nI i)]) (rest := [.ref (ad 0 0)]) ⟨hx, hb, hml, hown, hta⟩ (c_X10_knownLot l hR hW hi) (cwV 1 hta (gWV mw456 mw457 mw16 mw40 mw458) rfl rfl rfl (by decide +kernel) ⟨Nat.le_of_ble_eq_true rfl, Nat.le_of_ble_eq_true rfl⟩) hK hP hD rfl e2 rfl hl.1 rfl (Nat.le_of_ble_eq_true rfl) dX10_isHeld_3 ⟨Nat.zero_le _, Nat.zero_le _⟩ (fun r3 c4 => ?_)
  obtain rfl := c4
  change W _ _ _ _ _ _ _ _ _ _ _ _ _ _ _ (F0 _ _ _ (rf ad 7 (some i) :: [.ref (ad 0 0)]))
  rw [rf_some]
  obtain ⟨q5, e6⟩ := cell_0 hR (rfl : (0 : Nat) = 0)
  refine gro_i (ci := 12) (As := [.ref (ad 7 i)]) (rest := []) ⟨hx, hb, hml, hown, hta⟩ (c_X10_isBarred l hR hW hi) (cwV 1 hta (gWV mw191 mw192 mw6 mw40 mw193) rfl rfl rfl (by decide +kernel) ⟨Nat.le_of_ble_eq_true rfl, Nat.le_of_ble_eq_true rfl⟩) hK hP hD rfl e6 rfl hl.1 rfl (Nat.le_of_ble_eq_true rfl) dX10_isHeld_6 ⟨Nat.zero_le _, Nat.zero_le _⟩ (fun r7 c8 => ?_)
  obtain rfl := c8
  exact W.zret (v := (bI (barred S i))) (ty := .boolean) hx hb hr (by cases barred S i <;> decide) (fun t ht hWm => ⟨_, rfl, rfl, ht⟩) (fun q h => absurd h List.not_mem_nil) dX10_isHeld_9

set_option maxHeartbeats 4000000 in
set_option maxRecDepth 100000 in
theorem c_X10_stateOf (l : Launch) {D : va_G} {tA : Nat → ClassId} {S : St} {ad : Nat → Nat → Nat} {L : List Nat} {f : Nat → va_E} (hR : Rep tA S ad L f) (hW : WT S) {o : Nat} (ho : o < sN S 3 0) (hn : narrow .char (.int (sI S 53 o)) = .int (sI S 53 o)) : Met l yX10_stateOf (wsC yX10_stateOf cX10_stateOf 2 (some .char)) ({ frames := 1, cells := 0, slots := 0, locals := 22 }) (va_Pc [.ref (ad 0 0), .int (nI o)] (gB D tA L f)) (vp_Si (fun r => r = sI S 53 o)) 0 0 (fun _ => False) := by
  refine Met.ofW (cc := cX10_stateOf) (maxL := 2) (ret := (some .char)) (by decide) rfl ?_
  intro p e s m args below meth c s₁ B hml hv
  obtain ⟨rfl, hP, hK, hD⟩ := hv
  have hx := B.exec
  have hb := B.bytes
  have hr := B.returns
  have hts := atoms_spec (ws := wsC yX10_stateOf cX10_stateOf 2 (some .char)) B.pre
  have hta : ∀ w ∈ WA, w.before _ s = true := fun w h => hts w (List.mem_cons_of_mem _ h)
  have hown : s.vm.findClass RX10 = some m.cls := findClass_of_methodNamed B.named
  have hlocks := B.notSynchronized
  have hP : va_P D vwCl (va_pl L f) s.heap := hP
  have hl := lv_entry ([.ref (ad 0 0), .int (nI o)]) (n := 2) (Nat.le_of_ble_eq_true rfl)
  rw [lg_entry_eq]
  generalize (lg_sl ([.ref (ad 0 0), .int (nI o)]) ++ List.replicate (2 - (lg_sl ([.ref (ad 0 0), .int (nI o)])).length) Slot.unset).toArray = ls at hl ⊢
  have hl : lv_has ls 2 [(0, .ref (ad 0 0)), (1, .int (nI o))] := hl
  refine lv_aload_n hx hb dX10_stateOf_0 rfl (lv_at hl 0 rfl) ?_
  refine lv_iload_n hx hb dX10_stateOf_1 rfl (lv_at hl 1 rfl) ?_
  obtain ⟨q1, e2⟩ := cell_0 hR (rfl : (0 : Nat) = 0)
  refine gro_q (ci := 12) (As := [.int (nI o)]) (rest := []) ⟨hx, hb, hml, hown, hta⟩ (c_X10_knownOrder l hR hW ho) (cwV 1 hta (gWV mw559 mw560 mw20 mw40 mw561) rfl rfl rfl (by decide +kernel) ⟨Nat.le_of_ble_eq_true rfl, Nat.le_of_ble_eq_true rfl⟩) hK hP hD rfl e2 rfl hl.1 rfl (Nat.le_of_ble_eq_true rfl) dX10_stateOf_2 ⟨Nat.zero_le _, Nat.zero_le _⟩ (fun r3 c4 => ?_)
  obtain rfl := c4
  change W _ _ _ _ _ _ _ _ _ _ _ _ _ _ _ (F0 _ _ _ (rf ad 11 (some o) :: []))
  rw [rf_some]
  refine get_state_11 hx hb hta iwX7 hown hK hP hR ho (hta _ mw546) dX10_stateOf_5 ?_
  exact W.zret (v := (sI S 53 o)) (ty := .char) hx hb hr hn (fun t ht hWm => ⟨_, rfl, rfl, ht⟩) (fun q h => absurd h List.not_mem_nil) dX10_stateOf_8

set_option maxHeartbeats 4000000 in
set_option maxRecDepth 100000 in
theorem c_X10_machineIs (l : Launch) {D : va_G} {tA : Nat → ClassId} {S : St} {ad : Nat → Nat → Nat} {L : List Nat} {f : Nat → va_E} (hR : Rep tA S ad L f) (hW : WT S) {i : Nat} (hi : i < sN S 0 0) (hn : narrow .char (.int (sI S 14 i)) = .int (sI S 14 i)) : Met l yX10_machineIs (wsC yX10_machineIs cX10_machineIs 2 (some .char)) ({ frames := 1, cells := 0, slots := 0, locals := 22 }) (va_Pc [.ref (ad 0 0), .int (nI i)] (gB D tA L f)) (vp_Si (fun r => r = sI S 14 i)) 0 0 (fun _ => False) := by
  refine Met.ofW (cc := cX10_machineIs) (maxL := 2) (ret := (some .char)) (by decide) rfl ?_
  intro p e s m args below meth c s₁ B hml hv
  obtain ⟨rfl, hP, hK, hD⟩ := hv
  have hx := B.exec
  have hb := B.bytes
  have hr := B.returns
  have hts := atoms_spec (ws := wsC yX10_machineIs cX10_machineIs 2 (some .char)) B.pre
  have hta : ∀ w ∈ WA, w.before _ s = true := fun w h => hts w (List.mem_cons_of_mem _ h)
  have hown : s.vm.findClass RX10 = some m.cls := findClass_of_methodNamed B.named
  have hlocks := B.notSynchronized
  have hP : va_P D vwCl (va_pl L f) s.heap := hP
  have hl := lv_entry ([.ref (ad 0 0), .int (nI i)]) (n := 2) (Nat.le_of_ble_eq_true rfl)
  rw [lg_entry_eq]
  generalize (lg_sl ([.ref (ad 0 0), .int (nI i)]) ++ List.replicate (2 - (lg_sl ([.ref (ad 0 0), .int (nI i)])).length) Slot.unset).toArray = ls at hl ⊢
  have hl : lv_has ls 2 [(0, .ref (ad 0 0)), (1, .int (nI i))] := hl
  refine lv_aload_n hx hb dX10_machineIs_0 rfl (lv_at hl 0 rfl) ?_
  refine lv_iload_n hx hb dX10_machineIs_1 rfl (lv_at hl 1 rfl) ?_
  obtain ⟨q1, e2⟩ := cell_0 hR (rfl : (0 : Nat) = 0)
  refine gro_q (ci := 12) (As := [.int (nI i)]) (rest := []) ⟨hx, hb, hml, hown, hta⟩ (c_X10_knownMachine l hR hW hi) (cwV 1 hta (gWV mw361 mw362 mw10 mw40 mw363) rfl rfl rfl (by decide +kernel) ⟨Nat.le_of_ble_eq_true rfl, Nat.le_of_ble_eq_true rfl⟩) hK hP hD rfl e2 rfl hl.1 rfl (Nat.le_of_ble_eq_true rfl) dX10_machineIs_2 ⟨Nat.zero_le _, Nat.zero_le _⟩ (fun r3 c4 => ?_)
  obtain rfl := c4
  change W _ _ _ _ _ _ _ _ _ _ _ _ _ _ _ (F0 _ _ _ (rf ad 1 (some i) :: []))
  rw [rf_some]
  refine get_state_1 hx hb hta iwX4 hown hK hP hR hi (hta _ mw251) dX10_machineIs_5 ?_
  exact W.zret (v := (sI S 14 i)) (ty := .char) hx hb hr hn (fun t ht hWm => ⟨_, rfl, rfl, ht⟩) (fun q h => absurd h List.not_mem_nil) dX10_machineIs_8

set_option maxHeartbeats 4000000 in
set_option maxRecDepth 100000 in
theorem c_X10_isIn (l : Launch) {D : va_G} {tA : Nat → ClassId} {S : St} {ad : Nat → Nat → Nat} {L : List Nat} {f : Nat → va_E} (hR : Rep tA S ad L f) (hW : WT S) {i j : Nat} (hi : i < sN S 2 0) (hj : j < sN S 2 0) : Met l yX10_isIn (wsC yX10_isIn cX10_isIn 5 (some .boolean)) ({ frames := 1, cells := 0, slots := 0, locals := 22 }) (va_Pc [.ref (ad 0 0), .int (nI i), .int (nI j)] (gB D tA L f)) (vp_Si (fun r => r = bI (nsM S 8 j i))) 0 0 (fun _ => False) := by
  refine Met.ofW (cc := cX10_isIn) (maxL := 5) (ret := (some .boolean)) (by decide) rfl ?_
  intro p e s m args below meth c s₁ B hml hv
  obtain ⟨rfl, hP, hK, hD⟩ := hv
  have hx := B.exec
  have hb := B.bytes
  have hr := B.returns
  have hts := atoms_spec (ws := wsC yX10_isIn cX10_isIn 5 (some .boolean)) B.pre
  have hta : ∀ w ∈ WA, w.before _ s = true := fun w h => hts w (List.mem_cons_of_mem _ h)
  have hown : s.vm.findClass RX10 = some m.cls := findClass_of_methodNamed B.named
  have hlocks := B.notSynchronized
  have hP : va_P D vwCl (va_pl L f) s.heap := hP
  have hl := lv_entry ([.ref (ad 0 0), .int (nI i), .int (nI j)]) (n := 5) (Nat.le_of_ble_eq_true rfl)
  rw [lg_entry_eq]
  generalize (lg_sl ([.ref (ad 0 0), .int (nI i), .int (nI j)]) ++ List.replicate (5 - (lg_sl ([.ref (ad 0 0), .int (nI i), .int (nI j)])).length) Slot.unset).toArray = ls at hl ⊢
  have hl : lv_has ls 5 [(0, .ref (ad 0 0)), (1, .int (nI i)), (2, .int (nI j))] := hl
  refine lv_aload_n hx hb dX10_isIn_0 rfl (lv_at hl 0 rfl) ?_
  refine lv_iload_n hx hb dX10_isIn_1 rfl (lv_at hl 1 rfl) ?_
  obtain ⟨q1, e2⟩ := cell_0 hR (rfl : (0 : Nat) = 0)
  refine gro_q (ci := 12) (As := [.int (nI i)]) (rest := []) ⟨hx, hb, hml, hown, hta⟩ (c_X10_knownLot l hR hW hi) (cwV 1 hta (gWV mw456 mw457 mw16 mw40 mw458) rfl rfl rfl (by decide +kernel) ⟨Nat.le_of_ble_eq_true rfl, Nat.le_of_ble_eq_true rfl⟩) hK hP hD rfl e2 rfl hl.1 rfl (Nat.le_of_ble_eq_true rfl) dX10_isIn_2 ⟨Nat.zero_le _, Nat.zero_le _⟩ (fun r3 c4 => ?_)
  obtain rfl := c4
  change W _ _ _ _ _ _ _ _ _ _ _ _ _ _ _ (F0 _ _ _ (rf ad 7 (some i) :: []))
  rw [rf_some]
  refine lv_astore_n (lv' := [(3, .ref (ad 7 i)), (0, .ref (ad 0 0)), (1, .int (nI i)), (2, .int (nI j))]) hx hb dX10_isIn_5 rfl hl (by decide) rfl (fun ls hl => ?_)
  refine lv_aload_n hx hb dX10_isIn_6 rfl (lv_at hl 1 rfl) ?_
  refine lv_iload_n hx hb dX10_isIn_7 rfl (lv_at hl 3 rfl) ?_
  obtain ⟨q5, e6⟩ := cell_0 hR (rfl : (0 : Nat) = 0)
  refine gro_q (ci := 12) (As := [.int (nI j)]) (rest := []) ⟨hx, hb, hml, hown, hta⟩ (c_X10_knownLot l hR hW hj) (cwV 1 hta (gWV mw456 mw457 mw16 mw40 mw458) rfl rfl rfl (by decide +kernel) ⟨Nat.le_of_ble_eq_true rfl, Nat.le_of_ble_eq_true rfl⟩) hK hP hD rfl e6 rfl hl.1 rfl (Nat.le_of_ble_eq_true rfl) dX10_isIn_8 ⟨Nat.zero_le _, Nat.zero_le _⟩ (fun r7 c8 => ?_)
  obtain rfl := c8
  change W _ _ _ _ _ _ _ _ _ _ _ _ _ _ _ (F0 _ _ _ (rf ad 7 (some j) :: []))
  rw [rf_some]
  refine lv_astore (lv' := [(4, .ref (ad 7 j)), (3, .ref (ad 7 i)), (0, .ref (ad 0 0)), (1, .int (nI i)), (2, .int (nI j))]) hx hb dX10_isIn_11 hl (by decide) rfl (fun ls hl => ?_)
  refine lv_aload hx hb dX10_isIn_13 (lv_at hl 0 rfl) ?_
  refine get_inside_7 hx hb hta iwX3 hown hK hP hR hj (hta _ mw415) dX10_isIn_15 ?_
  refine lv_aload_n hx hb dX10_isIn_18 rfl (lv_at hl 1 rfl) ?_
  refine get_number_7 hx hb hta iwX3 hown hK hP hR hi (hta _ mw407) dX10_isIn_19 ?_
  obtain ⟨q9, e10⟩ := cell_8 hR hj
  refine gro_i (ci := 7) (As := [.int (nI i)]) (rest := []) ⟨hx, hb, hml, hown, hta⟩ (c_X5_has l hR (k := 8) (i := j) ⟨rfl, hj⟩ (j := i) (Nat.lt_of_lt_of_le hi (Nat.le_trans hW.nL (by decide)))) (cwV 1 hta (gWV mw194 mw195 mw196 mw41 mw197) rfl rfl rfl (by decide +kernel) ⟨Nat.le_of_ble_eq_true rfl, Nat.le_of_ble_eq_true rfl⟩) hK hP hD rfl e10 rfl hl.1 rfl (Nat.le_of_ble_eq_true rfl) dX10_isIn_22 ⟨Nat.zero_le _, Nat.zero_le _⟩ (fun r11 c12 => ?_)
  obtain rfl := c12
  exact W.zret (v := (bI (nsM S 8 j i))) (ty := .boolean) hx hb hr (by cases nsM S 8 j i <;> decide) (fun t ht hWm => ⟨_, rfl, rfl, ht⟩) (fun q h => absurd h List.not_mem_nil) dX10_isIn_25

set_option maxHeartbeats 4000000 in
set_option maxRecDepth 100000 in
theorem c_X10_touched (l : Launch) {D : va_G} {tA : Nat → ClassId} {S : St} {ad : Nat → Nat → Nat} {L : List Nat} {f : Nat → va_E} (hR : Rep tA S ad L f) (hW : WT S) {i : Nat} (hi : i < sN S 2 0) : Met l yX10_touched (wsC yX10_touched cX10_touched 2 (some .int)) ({ frames := 2, cells := 0, slots := 0, locals := 41 }) (va_Pc [.ref (ad 0 0), .int (nI i)] (gB D tA L f)) (vp_Si (fun r => r = nsSize (nsLo S 10 i) (nsHi S 10 i))) 0 0 (fun _ => False) := by
  refine Met.ofW (cc := cX10_touched) (maxL := 2) (ret := (some .int)) (by decide) rfl ?_
  intro p e s m args below meth c s₁ B hml hv
  obtain ⟨rfl, hP, hK, hD⟩ := hv
  have hx := B.exec
  have hb := B.bytes
  have hr := B.returns
  have hts := atoms_spec (ws := wsC yX10_touched cX10_touched 2 (some .int)) B.pre
  have hta : ∀ w ∈ WA, w.before _ s = true := fun w h => hts w (List.mem_cons_of_mem _ h)
  have hown : s.vm.findClass RX10 = some m.cls := findClass_of_methodNamed B.named
  have hlocks := B.notSynchronized
  have hP : va_P D vwCl (va_pl L f) s.heap := hP
  have hl := lv_entry ([.ref (ad 0 0), .int (nI i)]) (n := 2) (Nat.le_of_ble_eq_true rfl)
  rw [lg_entry_eq]
  generalize (lg_sl ([.ref (ad 0 0), .int (nI i)]) ++ List.replicate (2 - (lg_sl ([.ref (ad 0 0), .int (nI i)])).length) Slot.unset).toArray = ls at hl ⊢
  have hl : lv_has ls 2 [(0, .ref (ad 0 0)), (1, .int (nI i))] := hl
  refine lv_aload_n hx hb dX10_touched_0 rfl (lv_at hl 0 rfl) ?_
  refine lv_iload_n hx hb dX10_touched_1 rfl (lv_at hl 1 rfl) ?_
  obtain ⟨q1, e2⟩ := cell_0 hR (rfl : (0 : Nat) = 0)
  refine gro_q (ci := 12) (As := [.int (nI i)]) (rest := []) ⟨hx, hb, hml, hown, hta⟩ (c_X10_knownLot l hR hW hi) (cwV 1 hta (gWV mw456 mw457 mw16 mw40 mw458) rfl rfl rfl (by decide +kernel) ⟨Nat.le_of_ble_eq_true rfl, Nat.le_of_ble_eq_true rfl⟩) hK hP hD rfl e2 rfl hl.1 rfl (Nat.le_of_ble_eq_true rfl) dX10_touched_2 ⟨Nat.zero_le _, Nat.zero_le _⟩ (fun r3 c4 => ?_)
  obtain rfl := c4
  change W _ _ _ _ _ _ _ _ _ _ _ _ _ _ _ (F0 _ _ _ (rf ad 7 (some i) :: []))
  rw [rf_some]
  refine get_intoOrders_7 hx hb hta iwX3 hown hK hP hR hi (hta _ mw419) dX10_touched_5 ?_
  obtain ⟨q5, e6⟩ := cell_10 hR hi
  refine gro_i (ci := 7) (As := []) (rest := []) ⟨hx, hb, hml, hown, hta⟩ (c_X5_size l hR (k := 10) (i := i) ⟨rfl, hi⟩) (cwV 0 hta (gWV mw754 mw755 mw756 mw41 mw757) rfl rfl rfl (by decide +kernel) ⟨Nat.le_of_ble_eq_true rfl, Nat.le_of_ble_eq_true rfl⟩) hK hP hD rfl e6 rfl hl.1 rfl (Nat.le_of_ble_eq_true rfl) dX10_touched_8 ⟨Nat.zero_le _, Nat.zero_le _⟩ (fun r7 c8 => ?_)
  obtain rfl := c8
  exact W.iret (v := (nsSize (nsLo S 10 i) (nsHi S 10 i))) hx hb hr (fun t ht hWm => ⟨_, rfl, rfl, ht⟩) (fun q h => absurd h List.not_mem_nil) dX10_touched_11

set_option maxHeartbeats 4000000 in
set_option maxRecDepth 100000 in
theorem c_X10_lotsIn (l : Launch) {D : va_G} {tA : Nat → ClassId} {S : St} {ad : Nat → Nat → Nat} {L : List Nat} {f : Nat → va_E} (hR : Rep tA S ad L f) (hW : WT S) {o : Nat} (ho : o < sN S 3 0) : Met l yX10_lotsIn (wsC yX10_lotsIn cX10_lotsIn 2 (some .int)) ({ frames := 2, cells := 0, slots := 0, locals := 41 }) (va_Pc [.ref (ad 0 0), .int (nI o)] (gB D tA L f)) (vp_Si (fun r => r = nsSize (nsLo S 13 o) (nsHi S 13 o))) 0 0 (fun _ => False) := by
  refine Met.ofW (cc := cX10_lotsIn) (maxL := 2) (ret := (some .int)) (by decide) rfl ?_
  intro p e s m args below meth c s₁ B hml hv
  obtain ⟨rfl, hP, hK, hD⟩ := hv
  have hx := B.exec
  have hb := B.bytes
  have hr := B.returns
  have hts := atoms_spec (ws := wsC yX10_lotsIn cX10_lotsIn 2 (some .int)) B.pre
  have hta : ∀ w ∈ WA, w.before _ s = true := fun w h => hts w (List.mem_cons_of_mem _ h)
  have hown : s.vm.findClass RX10 = some m.cls := findClass_of_methodNamed B.named
  have hlocks := B.notSynchronized
  have hP : va_P D vwCl (va_pl L f) s.heap := hP
  have hl := lv_entry ([.ref (ad 0 0), .int (nI o)]) (n := 2) (Nat.le_of_ble_eq_true rfl)
  rw [lg_entry_eq]
  generalize (lg_sl ([.ref (ad 0 0), .int (nI o)]) ++ List.replicate (2 - (lg_sl ([.ref (ad 0 0), .int (nI o)])).length) Slot.unset).toArray = ls at hl ⊢
  have hl : lv_has ls 2 [(0, .ref (ad 0 0)), (1, .int (nI o))] := hl
  refine lv_aload_n hx hb dX10_lotsIn_0 rfl (lv_at hl 0 rfl) ?_
  refine lv_iload_n hx hb dX10_lotsIn_1 rfl (lv_at hl 1 rfl) ?_
  obtain ⟨q1, e2⟩ := cell_0 hR (rfl : (0 : Nat) = 0)
  refine gro_q (ci := 12) (As := [.int (nI o)]) (rest := []) ⟨hx, hb, hml, hown, hta⟩ (c_X10_knownOrder l hR hW ho) (cwV 1 hta (gWV mw559 mw560 mw20 mw40 mw561) rfl rfl rfl (by decide +kernel) ⟨Nat.le_of_ble_eq_true rfl, Nat.le_of_ble_eq_true rfl⟩) hK hP hD rfl e2 rfl hl.1 rfl (Nat.le_of_ble_eq_true rfl) dX10_lotsIn_2 ⟨Nat.zero_le _, Nat.zero_le _⟩ (fun r3 c4 => ?_)
  obtain rfl := c4
  change W _ _ _ _ _ _ _ _ _ _ _ _ _ _ _ (F0 _ _ _ (rf ad 11 (some o) :: []))
  rw [rf_some]
  refine get_inside_11 hx hb hta iwX7 hown hK hP hR ho (hta _ mw543) dX10_lotsIn_5 ?_
  obtain ⟨q5, e6⟩ := cell_13 hR ho
  refine gro_i (ci := 7) (As := []) (rest := []) ⟨hx, hb, hml, hown, hta⟩ (c_X5_size l hR (k := 13) (i := o) ⟨rfl, ho⟩) (cwV 0 hta (gWV mw754 mw755 mw756 mw41 mw757) rfl rfl rfl (by decide +kernel) ⟨Nat.le_of_ble_eq_true rfl, Nat.le_of_ble_eq_true rfl⟩) hK hP hD rfl e6 rfl hl.1 rfl (Nat.le_of_ble_eq_true rfl) dX10_lotsIn_8 ⟨Nat.zero_le _, Nat.zero_le _⟩ (fun r7 c8 => ?_)
  obtain rfl := c8
  exact W.iret (v := (nsSize (nsLo S 13 o) (nsHi S 13 o))) hx hb hr (fun t ht hWm => ⟨_, rfl, rfl, ht⟩) (fun q h => absurd h List.not_mem_nil) dX10_lotsIn_11

