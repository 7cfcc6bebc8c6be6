set_option maxHeartbeats 4000000 in
set_option maxRecDepth 100000 in
theorem c_X10_findSupplier_0 (l : Launch) {D : va_G} {h0 a1 a2 a3 a4 a5 h6 s0 s1 s2 s3 : Nat} {t1 t2 t3 t4 t5 : ClassId} : Met l ⟨"Foundrymark", "findSupplier", "(I)LFoundrymark$Supplier;"⟩ (wsC ⟨"Foundrymark", "findSupplier", "(I)LFoundrymark$Supplier;"⟩ cX10_findSupplier 2 (some (.object "Foundrymark$Supplier"))) ({ frames := 0, cells := 0, slots := 0, locals := 0 }) (va_Pc [.ref h0, .int 0] (gR D (wX h0 a1 a2 a3 a4 a5 h6 s0 s1 s2 s3 t1 t2 t3 t4 t5) (tX t1 t2 t3 t4 t5))) (va_Sq (fun r => r = some s0)) 0 0 (fun _ => False) := by
  refine Met.ofW (cc := cX10_findSupplier) (maxL := 2) (ret := (some (.object "Foundrymark$Supplier"))) (by decide) rfl ?_
  intro p e s m args below meth c s₁ B hml hv
  obtain ⟨rfl, hP, hK⟩ := hv
  have hx := B.exec
  have hb := B.bytes
  have hr := B.returns
  have hlocks := B.notSynchronized
  have hts := atoms_spec (ws := wsC ⟨"Foundrymark", "findSupplier", "(I)LFoundrymark$Supplier;"⟩ cX10_findSupplier 2 (some (.object "Foundrymark$Supplier"))) B.pre
  have hta : ∀ w ∈ WA, w.before _ s = true := fun w h => hts w (List.mem_cons_of_mem _ h)
  have hown : s.vm.findClass "Foundrymark" = some m.cls := findClass_of_methodNamed B.named
  have hP : va_P D vwCl (wX h0 a1 a2 a3 a4 a5 h6 s0 s1 s2 s3 t1 t2 t3 t4 t5) s.heap := hP
  have hl := lv_entry ([.ref h0, .int 0]) (n := 2) (Nat.le_of_ble_eq_true rfl)
  rw [lg_entry_eq]
  generalize (lg_sl ([.ref h0, .int 0]) ++ List.replicate (2 - (lg_sl ([.ref h0, .int 0])).length) Slot.unset).toArray = ls at hl ⊢
  have hl : lv_has ls 2 [(0, .ref h0), (1, .int 0)] := hl
  refine lv_iload_n hx hb dX10_findSupplier_0 rfl (lv_at hl 1 rfl) ?_
  refine lv_if_lt (tgt := 22) hx hb dX10_findSupplier_1 (by decide) (fun c1 => ?_) (fun c1 => ?_)
  · exact absurd c1 (by decide)
  · skip
    refine lv_iload_n hx hb dX10_findSupplier_4 rfl (lv_at hl 1 rfl) ?_
    refine lv_aload_n hx hb dX10_findSupplier_5 rfl (lv_at hl 0 rfl) ?_
    refine va_get (D := D) (ci := 15) (v := .ref a3) (C := RX10) (T := TX10) (N := 14) hx hb hta iwX10 hown hK hP 0 rfl rfl 2 (by decide) (hta _ mw23) (fun _ h9 => h9) rfl dX10_findSupplier_6 ?_
    refine va_alen hx hb hK hP 3 2 rfl rfl (v := 4) rfl dX10_findSupplier_9 ?_
    refine lv_icmp_ge (tgt := 22) hx hb dX10_findSupplier_10 (by decide) (fun c2 => ?_) (fun c2 => ?_)
    · exact absurd c2 (by decide)
    · skip
      refine lv_aload_n hx hb dX10_findSupplier_13 rfl (lv_at hl 0 rfl) ?_
      refine va_get (D := D) (ci := 15) (v := .ref a3) (C := RX10) (T := TX10) (N := 14) hx hb hta iwX10 hown hK hP 0 rfl rfl 2 (by decide) (hta _ mw23) (fun _ h9 => h9) rfl dX10_findSupplier_14 ?_
      refine lv_iload_n hx hb dX10_findSupplier_17 rfl (lv_at hl 1 rfl) ?_
      refine va_aldq hx hb hK hP 3 2 rfl rfl (i := 0) (by unfold vp_in; decide) dX10_findSupplier_18 ?_
      refine W.eq (g2 := F0 m 19 ls [.ref s0]) rfl ?_
      refine lv_goto (tgt := 23) hx hb dX10_findSupplier_19 (by decide) ?_
      exact W.aret (rt := (.object "Foundrymark$Supplier")) hx hb hr (Or.inl ⟨_, rfl⟩) (Or.inr ⟨_, rfl⟩) (fun t ht hWm => ⟨some s0, rfl, rfl, ht⟩) (fun q h => absurd h List.not_mem_nil) dX10_findSupplier_23

set_option maxHeartbeats 4000000 in
set_option maxRecDepth 100000 in
theorem c_X10_rule_0 (l : Launch) {D : va_G} {h0 a1 a2 a3 a4 a5 h6 s0 s1 s2 s3 : Nat} {t1 t2 t3 t4 t5 : ClassId} : Met l ⟨"Foundrymark", "rule", "(I)C"⟩ (wsC ⟨"Foundrymark", "rule", "(I)C"⟩ cX10_rule 3 (some .char)) ({ frames := 1, cells := 0, slots := 0, locals := 21 }) (va_Pc [.ref h0, .int 0] (gR D (wX h0 a1 a2 a3 a4 a5 h6 s0 s1 s2 s3 t1 t2 t3 t4 t5) (tX t1 t2 t3 t4 t5))) (vp_Si (fun r => r = 110)) 0 0 (fun _ => False) := by
  refine Met.ofW (cc := cX10_rule) (maxL := 3) (ret := (some .char)) (by decide) rfl ?_
  intro p e s m args below meth c s₁ B hml hv
  obtain ⟨rfl, hP, hK⟩ := hv
  have hx := B.exec
  have hb := B.bytes
  have hr := B.returns
  have hlocks := B.notSynchronized
  have hts := atoms_spec (ws := wsC ⟨"Foundrymark", "rule", "(I)C"⟩ cX10_rule 3 (some .char)) B.pre
  have hta : ∀ w ∈ WA, w.before _ s = true := fun w h => hts w (List.mem_cons_of_mem _ h)
  have hown : s.vm.findClass "Foundrymark" = some m.cls := findClass_of_methodNamed B.named
  have hP : va_P D vwCl (wX h0 a1 a2 a3 a4 a5 h6 s0 s1 s2 s3 t1 t2 t3 t4 t5) s.heap := hP
  have hl := lv_entry ([.ref h0, .int 0]) (n := 3) (Nat.le_of_ble_eq_true rfl)
  rw [lg_entry_eq]
  generalize (lg_sl ([.ref h0, .int 0]) ++ List.replicate (3 - (lg_sl ([.ref h0, .int 0])).length) Slot.unset).toArray = ls at hl ⊢
  have hl : lv_has ls 3 [(0, .ref h0), (1, .int 0)] := hl
  refine lv_aload_n hx hb dX10_rule_0 rfl (lv_at hl 0 rfl) ?_
  refine lv_iload_n hx hb dX10_rule_1 rfl (lv_at hl 1 rfl) ?_
  have hPc := hP.sub (ws' := (wX h0 a1 a2 a3 a4 a5 h6 s0 s1 s2 s3 t1 t2 t3 t4 t5)) [0, 1, 2, 3, 4, 5, 6, 7, 8, 9, 10] rfl
  have hKc := hK.sub (tys' := (tX t1 t2 t3 t4 t5)) [0, 1, 2, 3, 4] rfl
  refine va_csq (W.runV (As := [.int 0]) (rest := []) ⟨hx, hb, hml, hown, hta⟩ (c_X10_findSupplier_0 l ) (cwV 1 hta (gWV mw25 mw26 mw27 mw10 mw24) rfl rfl rfl (by decide +kernel) ⟨Nat.le_of_ble_eq_true rfl, Nat.le_of_ble_eq_true rfl⟩) ⟨gR_blind, va_recv hKc hPc (ci := 15) (q0 := 0) rfl rfl, fun U hU hW => ⟨rfl, by rw [hU]; exact hPc, va_K.moved hW.alike hKc⟩⟩ rfl rfl hl.1 rfl (lv_room (Nat.le_of_ble_eq_true rfl)) dX10_rule_2 ⟨Nat.le_of_ble_eq_true rfl, Nat.le_of_ble_eq_true rfl⟩) (fun r1 h2 => ?_)
  obtain rfl : r1 = some s0 := h2
  refine W.eq (g2 := F0 m 5 ls [.ref s0]) rfl ?_
  refine lv_astore_n (lv' := [(2, .ref s0), (0, .ref h0), (1, .int 0)]) hx hb dX10_rule_5 rfl hl (by decide) rfl (fun ls hl => ?_)
  refine lv_aload_n hx hb dX10_rule_6 rfl (lv_at hl 0 rfl) ?_
  refine lv_ifnonnull (tgt := 20) hx hb dX10_rule_7 (by decide) ?_
  refine lv_aload_n hx hb dX10_rule_20 rfl (lv_at hl 0 rfl) ?_
  refine va_get (D := D) (ci := 14) (v := .int 110) (C := RX9) (T := TX9) (N := 3) hx hb hta iwX9 hown hK hP 7 rfl rfl 0 (by decide) (hta _ mw28) (fun _ h9 => h9) rfl dX10_rule_21 ?_
  exact W.zret (v := 110) (ty := .char) hx hb hr (by decide) (fun t ht hWm => ⟨_, rfl, rfl, ht⟩) (fun q h => absurd h List.not_mem_nil) dX10_rule_24

set_option maxHeartbeats 4000000 in
set_option maxRecDepth 100000 in
theorem c_X10_findSupplier_1 (l : Launch) {D : va_G} {h0 a1 a2 a3 a4 a5 h6 s0 s1 s2 s3 : Nat} {t1 t2 t3 t4 t5 : ClassId} : Met l ⟨"Foundrymark", "findSupplier", "(I)LFoundrymark$Supplier;"⟩ (wsC ⟨"Foundrymark", "findSupplier", "(I)LFoundrymark$Supplier;"⟩ cX10_findSupplier 2 (some (.object "Foundrymark$Supplier"))) ({ frames := 0, cells := 0, slots := 0, locals := 0 }) (va_Pc [.ref h0, .int 1] (gR D (wX h0 a1 a2 a3 a4 a5 h6 s0 s1 s2 s3 t1 t2 t3 t4 t5) (tX t1 t2 t3 t4 t5))) (va_Sq (fun r => r = some s1)) 0 0 (fun _ => False) := by
  refine Met.ofW (cc := cX10_findSupplier) (maxL := 2) (ret := (some (.object "Foundrymark$Supplier"))) (by decide) rfl ?_
  intro p e s m args below meth c s₁ B hml hv
  obtain ⟨rfl, hP, hK⟩ := hv
  have hx := B.exec
  have hb := B.bytes
  have hr := B.returns
  have hlocks := B.notSynchronized
  have hts := atoms_spec (ws := wsC ⟨"Foundrymark", "findSupplier", "(I)LFoundrymark$Supplier;"⟩ cX10_findSupplier 2 (some (.object "Foundrymark$Supplier"))) B.pre
  have hta : ∀ w ∈ WA, w.before _ s = true := fun w h => hts w (List.mem_cons_of_mem _ h)
  have hown : s.vm.findClass "Foundrymark" = some m.cls := findClass_of_methodNamed B.named
  have hP : va_P D vwCl (wX h0 a1 a2 a3 a4 a5 h6 s0 s1 s2 s3 t1 t2 t3 t4 t5) s.heap := hP
  have hl := lv_entry ([.ref h0, .int 1]) (n := 2) (Nat.le_of_ble_eq_true rfl)
  rw [lg_entry_eq]
  generalize (lg_sl ([.ref h0, .int 1]) ++ List.replicate (2 - (lg_sl ([.ref h0, .int 1])).length) Slot.unset).toArray = ls at hl ⊢
  have hl : lv_has ls 2 [(0, .ref h0), (1, .int 1)] := hl
  refine lv_iload_n hx hb dX10_findSupplier_0 rfl (lv_at hl 1 rfl) ?_
  refine lv_if_lt (tgt := 22) hx hb dX10_findSupplier_1 (by decide) (fun c1 => ?_) (fun c1 => ?_)
  · exact absurd c1 (by decide)
  · skip
    refine lv_iload_n hx hb dX10_findSupplier_4 rfl (lv_at hl 1 rfl) ?_
    refine lv_aload_n hx hb dX10_findSupplier_5 rfl (lv_at hl 0 rfl) ?_
    refine va_get (D := D) (ci := 15) (v := .ref a3) (C := RX10) (T := TX10) (N := 14) hx hb hta iwX10 hown hK hP 0 rfl rfl 2 (by decide) (hta _ mw23) (fun _ h9 => h9) rfl dX10_findSupplier_6 ?_
    refine va_alen hx hb hK hP 3 2 rfl rfl (v := 4) rfl dX10_findSupplier_9 ?_
    refine lv_icmp_ge (tgt := 22) hx hb dX10_findSupplier_10 (by decide) (fun c2 => ?_) (fun c2 => ?_)
    · exact absurd c2 (by decide)
    · skip
      refine lv_aload_n hx hb dX10_findSupplier_13 rfl (lv_at hl 0 rfl) ?_
      refine va_get (D := D) (ci := 15) (v := .ref a3) (C := RX10) (T := TX10) (N := 14) hx hb hta iwX10 hown hK hP 0 rfl rfl 2 (by decide) (hta _ mw23) (fun _ h9 => h9) rfl dX10_findSupplier_14 ?_
      refine lv_iload_n hx hb dX10_findSupplier_17 rfl (lv_at hl 1 rfl) ?_
      refine va_aldq hx hb hK hP 3 2 rfl rfl (i := 1) (by unfold vp_in; decide) dX10_findSupplier_18 ?_
      refine W.eq (g2 := F0 m 19 ls [.ref s1]) rfl ?_
      refine lv_goto (tgt := 23) hx hb dX10_findSupplier_19 (by decide) ?_
      exact W.aret (rt := (.object "Foundrymark$Supplier")) hx hb hr (Or.inl ⟨_, rfl⟩) (Or.inr ⟨_, rfl⟩) (fun t ht hWm => ⟨some s1, rfl, rfl, ht⟩) (fun q h => absurd h List.not_mem_nil) dX10_findSupplier_23

set_option maxHeartbeats 4000000 in
set_option maxRecDepth 100000 in
theorem c_X10_rule_1 (l : Launch) {D : va_G} {h0 a1 a2 a3 a4 a5 h6 s0 s1 s2 s3 : Nat} {t1 t2 t3 t4 t5 : ClassId} : Met l ⟨"Foundrymark", "rule", "(I)C"⟩ (wsC ⟨"Foundrymark", "rule", "(I)C"⟩ cX10_rule 3 (some .char)) ({ frames := 1, cells := 0, slots := 0, locals := 21 }) (va_Pc [.ref h0, .int 1] (gR D (wX h0 a1 a2 a3 a4 a5 h6 s0 s1 s2 s3 t1 t2 t3 t4 t5) (tX t1 t2 t3 t4 t5))) (vp_Si (fun r => r = 110)) 0 0 (fun _ => False) := by
  refine Met.ofW (cc := cX10_rule) (maxL := 3) (ret := (some .char)) (by decide) rfl ?_
  intro p e s m args below meth c s₁ B hml hv
  obtain ⟨rfl, hP, hK⟩ := hv
  have hx := B.exec
  have hb := B.bytes
  have hr := B.returns
  have hlocks := B.notSynchronized
  have hts := atoms_spec (ws := wsC ⟨"Foundrymark", "rule", "(I)C"⟩ cX10_rule 3 (some .char)) B.pre
  have hta : ∀ w ∈ WA, w.before _ s = true := fun w h => hts w (List.mem_cons_of_mem _ h)
  have hown : s.vm.findClass "Foundrymark" = some m.cls := findClass_of_methodNamed B.named
  have hP : va_P D vwCl (wX h0 a1 a2 a3 a4 a5 h6 s0 s1 s2 s3 t1 t2 t3 t4 t5) s.heap := hP
  have hl := lv_entry ([.ref h0, .int 1]) (n := 3) (Nat.le_of_ble_eq_true rfl)
  rw [lg_entry_eq]
  generalize (lg_sl ([.ref h0, .int 1]) ++ List.replicate (3 - (lg_sl ([.ref h0, .int 1])).length) Slot.unset).toArray = ls at hl ⊢
  have hl : lv_has ls 3 [(0, .ref h0), (1, .int 1)] := hl
  refine lv_aload_n hx hb dX10_rule_0 rfl (lv_at hl 0 rfl) ?_
  refine lv_iload_n hx hb dX10_rule_1 rfl (lv_at hl 1 rfl) ?_
  have hPc := hP.sub (ws' := (wX h0 a1 a2 a3 a4 a5 h6 s0 s1 s2 s3 t1 t2 t3 t4 t5)) [0, 1, 2, 3, 4, 5, 6, 7, 8, 9, 10] rfl
  have hKc := hK.sub (tys' := (tX t1 t2 t3 t4 t5)) [0, 1, 2, 3, 4] rfl
  refine va_csq (W.runV (As := [.int 1]) (rest := []) ⟨hx, hb, hml, hown, hta⟩ (c_X10_findSupplier_1 l ) (cwV 1 hta (gWV mw25 mw26 mw27 mw10 mw24) rfl rfl rfl (by decide +kernel) ⟨Nat.le_of_ble_eq_true rfl, Nat.le_of_ble_eq_true rfl⟩) ⟨gR_blind, va_recv hKc hPc (ci := 15) (q0 := 0) rfl rfl, fun U hU hW => ⟨rfl, by rw [hU]; exact hPc, va_K.moved hW.alike hKc⟩⟩ rfl rfl hl.1 rfl (lv_room (Nat.le_of_ble_eq_true rfl)) dX10_rule_2 ⟨Nat.le_of_ble_eq_true rfl, Nat.le_of_ble_eq_true rfl⟩) (fun r1 h2 => ?_)
  obtain rfl : r1 = some s1 := h2
  refine W.eq (g2 := F0 m 5 ls [.ref s1]) rfl ?_
  refine lv_astore_n (lv' := [(2, .ref s1), (0, .ref h0), (1, .int 1)]) hx hb dX10_rule_5 rfl hl (by decide) rfl (fun ls hl => ?_)
  refine lv_aload_n hx hb dX10_rule_6 rfl (lv_at hl 0 rfl) ?_
  refine lv_ifnonnull (tgt := 20) hx hb dX10_rule_7 (by decide) ?_
  refine lv_aload_n hx hb dX10_rule_20 rfl (lv_at hl 0 rfl) ?_
  refine va_get (D := D) (ci := 14) (v := .int 110) (C := RX9) (T := TX9) (N := 3) hx hb hta iwX9 hown hK hP 8 rfl rfl 0 (by decide) (hta _ mw28) (fun _ h9 => h9) rfl dX10_rule_21 ?_
  exact W.zret (v := 110) (ty := .char) hx hb hr (by decide) (fun t ht hWm => ⟨_, rfl, rfl, ht⟩) (fun q h => absurd h List.not_mem_nil) dX10_rule_24

set_option maxHeartbeats 4000000 in
set_option maxRecDepth 100000 in
theorem c_X10_findSupplier_2 (l : Launch) {D : va_G} {h0 a1 a2 a3 a4 a5 h6 s0 s1 s2 s3 : Nat} {t1 t2 t3 t4 t5 : ClassId} : Met l ⟨"Foundrymark", "findSupplier", "(I)LFoundrymark$Supplier;"⟩ (wsC ⟨"Foundrymark", "findSupplier", "(I)LFoundrymark$Supplier;"⟩ cX10_findSupplier 2 (some (.object "Foundrymark$Supplier"))) ({ frames := 0, cells := 0, slots := 0, locals := 0 }) (va_Pc [.ref h0, .int 2] (gR D (wX h0 a1 a2 a3 a4 a5 h6 s0 s1 s2 s3 t1 t2 t3 t4 t5) (tX t1 t2 t3 t4 t5))) (va_Sq (fun r => r = some s2)) 0 0 (fun _ => False) := by
  refine Met.ofW (cc := cX10_findSupplier) (maxL := 2) (ret := (some (.object "Foundrymark$Supplier"))) (by decide) rfl ?_
  intro p e s m args below meth c s₁ B hml hv
  obtain ⟨rfl, hP, hK⟩ := hv
  have hx := B.exec
  have hb := B.bytes
  have hr := B.returns
  have hlocks := B.notSynchronized
  have hts := atoms_spec (ws := wsC ⟨"Foundrymark", "findSupplier", "(I)LFoundrymark$Supplier;"⟩ cX10_findSupplier 2 (some (.object "Foundrymark$Supplier"))) B.pre
  have hta : ∀ w ∈ WA, w.before _ s = true := fun w h => hts w (List.mem_cons_of_mem _ h)
  have hown : s.vm.findClass "Foundrymark" = some m.cls := findClass_of_methodNamed B.named
  have hP : va_P D vwCl (wX h0 a1 a2 a3 a4 a5 h6 s0 s1 s2 s3 t1 t2 t3 t4 t5) s.heap := hP
  have hl := lv_entry ([.ref h0, .int 2]) (n := 2) (Nat.le_of_ble_eq_true rfl)
  rw [lg_entry_eq]
  generalize (lg_sl ([.ref h0, .int 2]) ++ List.replicate (2 - (lg_sl ([.ref h0, .int 2])).length) Slot.unset).toArray = ls at hl ⊢
  have hl : lv_has ls 2 [(0, .ref h0), (1, .int 2)] := hl
  refine lv_iload_n hx hb dX10_findSupplier_0 rfl (lv_at hl 1 rfl) ?_
  refine lv_if_lt (tgt := 22) hx hb dX10_findSupplier_1 (by decide) (fun c1 => ?_) (fun c1 => ?_)
  · exact absurd c1 (by decide)
  · skip
    refine lv_iload_n hx hb dX10_findSupplier_4 rfl (lv_at hl 1 rfl) ?_
    refine lv_aload_n hx hb dX10_findSupplier_5 rfl (lv_at hl 0 rfl) ?_
    refine va_get (D := D) (ci := 15) (v := .ref a3) (C := RX10) (T := TX10) (N := 14) hx hb hta iwX10 hown hK hP 0 rfl rfl 2 (by decide) (hta _ mw23) (fun _ h9 => h9) rfl dX10_findSupplier_6 ?_
    refine va_alen hx hb hK hP 3 2 rfl rfl (v := 4) rfl dX10_findSupplier_9 ?_
    refine lv_icmp_ge (tgt := 22) hx hb dX10_findSupplier_10 (by decide) (fun c2 => ?_) (fun c2 => ?_)
    · exact absurd c2 (by decide)
    · skip
      refine lv_aload_n hx hb dX10_findSupplier_13 rfl (lv_at hl 0 rfl) ?_
      refine va_get (D := D) (ci := 15) (v := .ref a3) (C := RX10) (T := TX10) (N := 14) hx hb hta iwX10 hown hK hP 0 rfl rfl 2 (by decide) (hta _ mw23) (fun _ h9 => h9) rfl dX10_findSupplier_14 ?_
      refine lv_iload_n hx hb dX10_findSupplier_17 rfl (lv_at hl 1 rfl) ?_
      refine va_aldq hx hb hK hP 3 2 rfl rfl (i := 2) (by unfold vp_in; decide) dX10_findSupplier_18 ?_
      refine W.eq (g2 := F0 m 19 ls [.ref s2]) rfl ?_
      refine lv_goto (tgt := 23) hx hb dX10_findSupplier_19 (by decide) ?_
      exact W.aret (rt := (.object "Foundrymark$Supplier")) hx hb hr (Or.inl ⟨_, rfl⟩) (Or.inr ⟨_, rfl⟩) (fun t ht hWm => ⟨some s2, rfl, rfl, ht⟩) (fun q h => absurd h List.not_mem_nil) dX10_findSupplier_23

set_option maxHeartbeats 4000000 in
set_option maxRecDepth 100000 in
theorem c_X10_rule_2 (l : Launch) {D : va_G} {h0 a1 a2 a3 a4 a5 h6 s0 s1 s2 s3 : Nat} {t1 t2 t3 t4 t5 : ClassId} : Met l ⟨"Foundrymark", "rule", "(I)C"⟩ (wsC ⟨"Foundrymark", "rule", "(I)C"⟩ cX10_rule 3 (some .char)) ({ frames := 1, cells := 0, slots := 0, locals := 21 }) (va_Pc [.ref h0, .int 2] (gR D (wX h0 a1 a2 a3 a4 a5 h6 s0 s1 s2 s3 t1 t2 t3 t4 t5) (tX t1 t2 t3 t4 t5))) (vp_Si (fun r => r = 110)) 0 0 (fun _ => False) := by
  refine Met.ofW (cc := cX10_rule) (maxL := 3) (ret := (some .char)) (by decide) rfl ?_
  intro p e s m args below meth c s₁ B hml hv
  obtain ⟨rfl, hP, hK⟩ := hv
  have hx := B.exec
  have hb := B.bytes
  have hr := B.returns
  have hlocks := B.notSynchronized
  have hts := atoms_spec (ws := wsC ⟨"Foundrymark", "rule", "(I)C"⟩ cX10_rule 3 (some .char)) B.pre
  have hta : ∀ w ∈ WA, w.before _ s = true := fun w h => hts w (List.mem_cons_of_mem _ h)
  have hown : s.vm.findClass "Foundrymark" = some m.cls := findClass_of_methodNamed B.named
  have hP : va_P D vwCl (wX h0 a1 a2 a3 a4 a5 h6 s0 s1 s2 s3 t1 t2 t3 t4 t5) s.heap := hP
  have hl := lv_entry ([.ref h0, .int 2]) (n := 3) (Nat.le_of_ble_eq_true rfl)
  rw [lg_entry_eq]
  generalize (lg_sl ([.ref h0, .int 2]) ++ List.replicate (3 - (lg_sl ([.ref h0, .int 2])).length) Slot.unset).toArray = ls at hl ⊢
  have hl : lv_has ls 3 [(0, .ref h0), (1, .int 2)] := hl
  refine lv_aload_n hx hb dX10_rule_0 rfl (lv_at hl 0 rfl) ?_
  refine lv_iload_n hx hb dX10_rule_1 rfl (lv_at hl 1 rfl) ?_
  have hPc := hP.sub (ws' := (wX h0 a1 a2 a3 a4 a5 h6 s0 s1 s2 s3 t1 t2 t3 t4 t5)) [0, 1, 2, 3, 4, 5, 6, 7, 8, 9, 10] rfl
  have hKc := hK.sub (tys' := (tX t1 t2 t3 t4 t5)) [0, 1, 2, 3, 4] rfl
  refine va_csq (W.runV (As := [.int 2]) (rest := []) ⟨hx, hb, hml, hown, hta⟩ (c_X10_findSupplier_2 l ) (cwV 1 hta (gWV mw25 mw26 mw27 mw10 mw24) rfl rfl rfl (by decide +kernel) ⟨Nat.le_of_ble_eq_true rfl, Nat.le_of_ble_eq_true rfl⟩) ⟨gR_blind, va_recv hKc hPc (ci := 15) (q0 := 0) rfl rfl, fun U hU hW => ⟨rfl, by rw [hU]; exact hPc, va_K.moved hW.alike hKc⟩⟩ rfl rfl hl.1 rfl (lv_room (Nat.le_of_ble_eq_true rfl)) dX10_rule_2 ⟨Nat.le_of_ble_eq_true rfl, Nat.le_of_ble_eq_true rfl⟩) (fun r1 h2 => ?_)
  obtain rfl : r1 = some s2 := h2
  refine W.eq (g2 := F0 m 5 ls [.ref s2]) rfl ?_
  refine lv_astore_n (lv' := [(2, .ref s2), (0, .ref h0), (1, .int 2)]) hx hb dX10_rule_5 rfl hl (by decide) rfl (fun ls hl => ?_)
  refine lv_aload_n hx hb dX10_rule_6 rfl (lv_at hl 0 rfl) ?_
  refine lv_ifnonnull (tgt := 20) hx hb dX10_rule_7 (by decide) ?_
  refine lv_aload_n hx hb dX10_rule_20 rfl (lv_at hl 0 rfl) ?_
  refine va_get (D := D) (ci := 14) (v := .int 110) (C := RX9) (T := TX9) (N := 3) hx hb hta iwX9 hown hK hP 9 rfl rfl 0 (by decide) (hta _ mw28) (fun _ h9 => h9) rfl dX10_rule_21 ?_
  exact W.zret (v := 110) (ty := .char) hx hb hr (by decide) (fun t ht hWm => ⟨_, rfl, rfl, ht⟩) (fun q h => absurd h List.not_mem_nil) dX10_rule_24

set_option maxHeartbeats 4000000 in
set_option maxRecDepth 100000 in
theorem c_X10_findSupplier_3 (l : Launch) {D : va_G} {h0 a1 a2 a3 a4 a5 h6 s0 s1 s2 s3 : Nat} {t1 t2 t3 t4 t5 : ClassId} : Met l ⟨"Foundrymark", "findSupplier", "(I)LFoundrymark$Supplier;"⟩ (wsC ⟨"Foundrymark", "findSupplier", "(I)LFoundrymark$Supplier;"⟩ cX10_findSupplier 2 (some (.object "Foundrymark$Supplier"))) ({ frames := 0, cells := 0, slots := 0, locals := 0 }) (va_Pc [.ref h0, .int 3] (gR D (wX h0 a1 a2 a3 a4 a5 h6 s0 s1 s2 s3 t1 t2 t3 t4 t5) (tX t1 t2 t3 t4 t5))) (va_Sq (fun r => r = some s3)) 0 0 (fun _ => False) := by
  refine Met.ofW (cc := cX10_findSupplier) (maxL := 2) (ret := (some (.object "Foundrymark$Supplier"))) (by decide) rfl ?_
  intro p e s m args below meth c s₁ B hml hv
  obtain ⟨rfl, hP, hK⟩ := hv
  have hx := B.exec
  have hb := B.bytes
  have hr := B.returns
  have hlocks := B.notSynchronized
  have hts := atoms_spec (ws := wsC ⟨"Foundrymark", "findSupplier", "(I)LFoundrymark$Supplier;"⟩ cX10_findSupplier 2 (some (.object "Foundrymark$Supplier"))) B.pre
  have hta : ∀ w ∈ WA, w.before _ s = true := fun w h => hts w (List.mem_cons_of_mem _ h)
  have hown : s.vm.findClass "Foundrymark" = some m.cls := findClass_of_methodNamed B.named
  have hP : va_P D vwCl (wX h0 a1 a2 a3 a4 a5 h6 s0 s1 s2 s3 t1 t2 t3 t4 t5) s.heap := hP
  have hl := lv_entry ([.ref h0, .int 3]) (n := 2) (Nat.le_of_ble_eq_true rfl)
  rw [lg_entry_eq]
  generalize (lg_sl ([.ref h0, .int 3]) ++ List.replicate (2 - (lg_sl ([.ref h0, .int 3])).length) Slot.unset).toArray = ls at hl ⊢
  have hl : lv_has ls 2 [(0, .ref h0), (1, .int 3)] := hl
  refine lv_iload_n hx hb dX10_findSupplier_0 rfl (lv_at hl 1 rfl) ?_
  refine lv_if_lt (tgt := 22) hx hb dX10_findSupplier_1 (by decide) (fun c1 => ?_) (fun c1 => ?_)
  · exact absurd c1 (by decide)
  · skip
    refine lv_iload_n hx hb dX10_findSupplier_4 rfl (lv_at hl 1 rfl) ?_
    refine lv_aload_n hx hb dX10_findSupplier_5 rfl (lv_at hl 0 rfl) ?_
    refine va_get (D := D) (ci := 15) (v := .ref a3) (C := RX10) (T := TX10) (N := 14) hx hb hta iwX10 hown hK hP 0 rfl rfl 2 (by decide) (hta _ mw23) (fun _ h9 => h9) rfl dX10_findSupplier_6 ?_
    refine va_alen hx hb hK hP 3 2 rfl rfl (v := 4) rfl dX10_findSupplier_9 ?_
    refine lv_icmp_ge (tgt := 22) hx hb dX10_findSupplier_10 (by decide) (fun c2 => ?_) (fun c2 => ?_)
    · exact absurd c2 (by decide)
    · skip
      refine lv_aload_n hx hb dX10_findSupplier_13 rfl (lv_at hl 0 rfl) ?_
      refine va_get (D := D) (ci := 15) (v := .ref a3) (C := RX10) (T := TX10) (N := 14) hx hb hta iwX10 hown hK hP 0 rfl rfl 2 (by decide) (hta _ mw23) (fun _ h9 => h9) rfl dX10_findSupplier_14 ?_
      refine lv_iload_n hx hb dX10_findSupplier_17 rfl (lv_at hl 1 rfl) ?_
      refine va_aldq hx hb hK hP 3 2 rfl rfl (i := 3) (by unfold vp_in; decide) dX10_findSupplier_18 ?_
      refine W.eq (g2 := F0 m 19 ls [.ref s3]) rfl ?_
      refine lv_goto (tgt := 23) hx hb dX10_findSupplier_19 (by decide) ?_
      exact W.aret (rt := (.object "Foundrymark$Supplier")) hx hb hr (Or.inl ⟨_, rfl⟩) (Or.inr ⟨_, rfl⟩) (fun t ht hWm => ⟨some s3, rfl, rfl, ht⟩) (fun q h => absurd h List.not_mem_nil) dX10_findSupplier_23

set_option maxHeartbeats 4000000 in
set_option maxRecDepth 100000 in
theorem c_X10_rule_3 (l : Launch) {D : va_G} {h0 a1 a2 a3 a4 a5 h6 s0 s1 s2 s3 : Nat} {t1 t2 t3 t4 t5 : ClassId} : Met l ⟨"Foundrymark", "rule", "(I)C"⟩ (wsC ⟨"Foundrymark", "rule", "(I)C"⟩ cX10_rule 3 (some .char)) ({ frames := 1, cells := 0, slots := 0, locals := 21 }) (va_Pc [.ref h0, .int 3] (gR D (wX h0 a1 a2 a3 a4 a5 h6 s0 s1 s2 s3 t1 t2 t3 t4 t5) (tX t1 t2 t3 t4 t5))) (vp_Si (fun r => r = 110)) 0 0 (fun _ => False) := by
  refine Met.ofW (cc := cX10_rule) (maxL := 3) (ret := (some .char)) (by decide) rfl ?_
  intro p e s m args below meth c s₁ B hml hv
  obtain ⟨rfl, hP, hK⟩ := hv
  have hx := B.exec
  have hb := B.bytes
  have hr := B.returns
  have hlocks := B.notSynchronized
  have hts := atoms_spec (ws := wsC ⟨"Foundrymark", "rule", "(I)C"⟩ cX10_rule 3 (some .char)) B.pre
  have hta : ∀ w ∈ WA, w.before _ s = true := fun w h => hts w (List.mem_cons_of_mem _ h)
  have hown : s.vm.findClass "Foundrymark" = some m.cls := findClass_of_methodNamed B.named
  have hP : va_P D vwCl (wX h0 a1 a2 a3 a4 a5 h6 s0 s1 s2 s3 t1 t2 t3 t4 t5) s.heap := hP
  have hl := lv_entry ([.ref h0, .int 3]) (n := 3) (Nat.le_of_ble_eq_true rfl)
  rw [lg_entry_eq]
  generalize (lg_sl ([.ref h0, .int 3]) ++ List.replicate (3 - (lg_sl ([.ref h0, .int 3])).length) Slot.unset).toArray = ls at hl ⊢
  have hl : lv_has ls 3 [(0, .ref h0), (1, .int 3)] := hl
  refine lv_aload_n hx hb dX10_rule_0 rfl (lv_at hl 0 rfl) ?_
  refine lv_iload_n hx hb dX10_rule_1 rfl (lv_at hl 1 rfl) ?_
  have hPc := hP.sub (ws' := (wX h0 a1 a2 a3 a4 a5 h6 s0 s1 s2 s3 t1 t2 t3 t4 t5)) [0, 1, 2, 3, 4, 5, 6, 7, 8, 9, 10] rfl
  have hKc := hK.sub (tys' := (tX t1 t2 t3 t4 t5)) [0, 1, 2, 3, 4] rfl
  refine va_csq (W.runV (As := [.int 3]) (rest := []) ⟨hx, hb, hml, hown, hta⟩ (c_X10_findSupplier_3 l ) (cwV 1 hta (gWV mw25 mw26 mw27 mw10 mw24) rfl rfl rfl (by decide +kernel) ⟨Nat.le_of_ble_eq_true rfl, Nat.le_of_ble_eq_true rfl⟩) ⟨gR_blind, va_recv hKc hPc (ci := 15) (q0 := 0) rfl rfl, fun U hU hW => ⟨rfl, by rw [hU]; exact hPc, va_K.moved hW.alike hKc⟩⟩ rfl rfl hl.1 rfl (lv_room (Nat.le_of_ble_eq_true rfl)) dX10_rule_2 ⟨Nat.le_of_ble_eq_true rfl, Nat.le_of_ble_eq_true rfl⟩) (fun r1 h2 => ?_)
  obtain rfl : r1 = some s3 := h2
  refine W.eq (g2 := F0 m 5 ls [.ref s3]) rfl ?_
  refine lv_astore_n (lv' := [(2, .ref s3), (0, .ref h0), (1, .int 3)]) hx hb dX10_rule_5 rfl hl (by decide) rfl (fun ls hl => ?_)
  refine lv_aload_n hx hb dX10_rule_6 rfl (lv_at hl 0 rfl) ?_
  refine lv_ifnonnull (tgt := 20) hx hb dX10_rule_7 (by decide) ?_
  refine lv_aload_n hx hb dX10_rule_20 rfl (lv_at hl 0 rfl) ?_
  refine va_get (D := D) (ci := 14) (v := .int 110) (C := RX9) (T := TX9) (N := 3) hx hb hta iwX9 hown hK hP 10 rfl rfl 0 (by decide) (hta _ mw28) (fun _ h9 => h9) rfl dX10_rule_21 ?_
  exact W.zret (v := 110) (ty := .char) hx hb hr (by decide) (fun t ht hWm => ⟨_, rfl, rfl, ht⟩) (fun q h => absurd h List.not_mem_nil) dX10_rule_24

set_option maxHeartbeats 4000000 in
set_option maxRecDepth 100000 in
theorem c_X10_findSupplier_f (l : Launch) {D : va_G} {h0 a1 a2 a3 a4 a5 h6 s0 s1 s2 s3 : Nat} {t1 t2 t3 t4 t5 : ClassId} {n : Int32} (hf : inR n 0 3 = false) : Met l ⟨"Foundrymark", "findSupplier", "(I)LFoundrymark$Supplier;"⟩ (wsC ⟨"Foundrymark", "findSupplier", "(I)LFoundrymark$Supplier;"⟩ cX10_findSupplier 2 (some (.object "Foundrymark$Supplier"))) ({ frames := 0, cells := 0, slots := 0, locals := 0 }) (va_Pc [.ref h0, .int n] (gR D (wX h0 a1 a2 a3 a4 a5 h6 s0 s1 s2 s3 t1 t2 t3 t4 t5) (tX t1 t2 t3 t4 t5))) (va_Sq (fun r => r = none)) 0 0 (fun _ => False) := by
  refine Met.ofW (cc := cX10_findSupplier) (maxL := 2) (ret := (some (.object "Foundrymark$Supplier"))) (by decide) rfl ?_
  intro p e s m args below meth c s₁ B hml hv
  obtain ⟨rfl, hP, hK⟩ := hv
  have hx := B.exec
  have hb := B.bytes
  have hr := B.returns
  have hlocks := B.notSynchronized
  have hts := atoms_spec (ws := wsC ⟨"Foundrymark", "findSupplier", "(I)LFoundrymark$Supplier;"⟩ cX10_findSupplier 2 (some (.object "Foundrymark$Supplier"))) B.pre
  have hta : ∀ w ∈ WA, w.before _ s = true := fun w h => hts w (List.mem_cons_of_mem _ h)
  have hown : s.vm.findClass "Foundrymark" = some m.cls := findClass_of_methodNamed B.named
  have hP : va_P D vwCl (wX h0 a1 a2 a3 a4 a5 h6 s0 s1 s2 s3 t1 t2 t3 t4 t5) s.heap := hP
  have hl := lv_entry ([.ref h0, .int n]) (n := 2) (Nat.le_of_ble_eq_true rfl)
  rw [lg_entry_eq]
  generalize (lg_sl ([.ref h0, .int n]) ++ List.replicate (2 - (lg_sl ([.ref h0, .int n])).length) Slot.unset).toArray = ls at hl ⊢
  have hl : lv_has ls 2 [(0, .ref h0), (1, .int n)] := hl
  refine lv_iload_n hx hb dX10_findSupplier_0 rfl (lv_at hl 1 rfl) ?_
  refine lv_if_lt (tgt := 22) hx hb dX10_findSupplier_1 (by decide) (fun c1 => ?_) (fun c1 => ?_)
  · skip
    refine lv_null hx hb dX10_findSupplier_22 ?_
    exact W.aret (rt := (.object "Foundrymark$Supplier")) hx hb hr (Or.inl ⟨_, rfl⟩) (Or.inl rfl) (fun t ht hWm => ⟨none, rfl, rfl, ht⟩) (fun q h => absurd h List.not_mem_nil) dX10_findSupplier_23
  · skip
    refine lv_iload_n hx hb dX10_findSupplier_4 rfl (lv_at hl 1 rfl) ?_
    refine lv_aload_n hx hb dX10_findSupplier_5 rfl (lv_at hl 0 rfl) ?_
    refine va_get (D := D) (ci := 15) (v := .ref a3) (C := RX10) (T := TX10) (N := 14) hx hb hta iwX10 hown hK hP 0 rfl rfl 2 (by decide) (hta _ mw23) (fun _ h9 => h9) rfl dX10_findSupplier_6 ?_
    refine va_alen hx hb hK hP 3 2 rfl rfl (v := 4) rfl dX10_findSupplier_9 ?_
    refine lv_icmp_ge (tgt := 22) hx hb dX10_findSupplier_10 (by decide) (fun c2 => ?_) (fun c2 => ?_)
    · skip
      refine lv_null hx hb dX10_findSupplier_22 ?_
      exact W.aret (rt := (.object "Foundrymark$Supplier")) hx hb hr (Or.inl ⟨_, rfl⟩) (Or.inl rfl) (fun t ht hWm => ⟨none, rfl, rfl, ht⟩) (fun q h => absurd h List.not_mem_nil) dX10_findSupplier_23
    · skip
      exact absurd (inR_of (a := 0) (b := 3) (M := 4) (by decide) c1 c2) (by rw [hf]; decide)

set_option maxHeartbeats 4000000 in
set_option maxRecDepth 100000 in
theorem c_X10_rule_f (l : Launch) (hl0 : l.stackTraces = false) {D : va_G} {tE sz : Nat} {h0 a1 a2 a3 a4 a5 h6 s0 s1 s2 s3 : Nat} {t1 t2 t3 t4 t5 : ClassId} {n : Int32} (hf : inR n 0 3 = false) : vx_Met l ⟨"Foundrymark", "rule", "(I)C"⟩ (wsC ⟨"Foundrymark", "rule", "(I)C"⟩ cX10_rule 3 (some .char)) ({ frames := 6, cells := 1, slots := 6, locals := 98 }) (va_Pc [.ref h0, .int n] (gS tE D (wX h0 a1 a2 a3 a4 a5 h6 s0 s1 s2 s3 t1 t2 t3 t4 t5) (tX t1 t2 t3 t4 t5) sz)) (fun _ _ _ _ => False) (vx_X (fun _ : Unit => True) (fun E9 _ _ => E9 = "java/lang/IndexOutOfBoundsException") (va_A (wX h0 a1 a2 a3 a4 a5 h6 s0 s1 s2 s3 t1 t2 t3 t4 t5) sz)) 1 6 (va_A (wX h0 a1 a2 a3 a4 a5 h6 s0 s1 s2 s3 t1 t2 t3 t4 t5) sz) := by
  refine vx_ofW (cc := cX10_rule) (maxL := 3) (ret := (some .char)) (by decide) rfl ?_
  intro p e s m args below meth c s₁ B hml hout hv
  obtain ⟨rfl, hsz, hP, hK, hD0, hG⟩ := hv
  have hx := B.exec
  have hb := B.bytes
  have hr := B.returns
  have hlocks := B.notSynchronized
  have hts := atoms_spec (ws := wsC ⟨"Foundrymark", "rule", "(I)C"⟩ cX10_rule 3 (some .char)) B.pre
  have hta : ∀ w ∈ WA, w.before _ s = true := fun w h => hts w (List.mem_cons_of_mem _ h)
  have hown : s.vm.findClass "Foundrymark" = some m.cls := findClass_of_methodNamed B.named
  subst hsz
  have hD : va_D (va_A (wX h0 a1 a2 a3 a4 a5 h6 s0 s1 s2 s3 t1 t2 t3 t4 t5) s.heap.size) (wX h0 a1 a2 a3 a4 a5 h6 s0 s1 s2 s3 t1 t2 t3 t4 t5) := hD0.self (sz := s.heap.size)
  generalize hAe : va_A (wX h0 a1 a2 a3 a4 a5 h6 s0 s1 s2 s3 t1 t2 t3 t4 t5) s.heap.size = A at hD hG ⊢
  have hA : ∀ q : Nat, s.heap.size ≤ q → A q := fun q h => by rw [← hAe]; exact Or.inr h
  have hS : va_S A s.heap s.heap [] := va_S.rf
  have hP : va_P D vwCl (wX h0 a1 a2 a3 a4 a5 h6 s0 s1 s2 s3 t1 t2 t3 t4 t5) s.heap := hP
  have hl := lv_entry ([.ref h0, .int n]) (n := 3) (Nat.le_of_ble_eq_true rfl)
  rw [lg_entry_eq]
  generalize (lg_sl ([.ref h0, .int n]) ++ List.replicate (3 - (lg_sl ([.ref h0, .int n])).length) Slot.unset).toArray = ls at hl ⊢
  have hl : lv_has ls 3 [(0, .ref h0), (1, .int n)] := hl
  refine lv_aload_n hx hb dX10_rule_0 rfl (lv_at hl 0 rfl) ?_
  refine lv_iload_n hx hb dX10_rule_1 rfl (lv_at hl 1 rfl) ?_
  have hPc := hP.sub (ws' := (wX h0 a1 a2 a3 a4 a5 h6 s0 s1 s2 s3 t1 t2 t3 t4 t5)) [0, 1, 2, 3, 4, 5, 6, 7, 8, 9, 10] rfl
  have hKc := hK.sub (tys' := (tX t1 t2 t3 t4 t5)) [0, 1, 2, 3, 4] rfl
  refine va_csq (W.runV (As := [.int n]) (rest := []) ⟨hx, hb, hml, hown, hta⟩ (c_X10_findSupplier_f l hf) (cwV 1 hta (gWV mw25 mw26 mw27 mw10 mw24) rfl rfl rfl (by decide +kernel) ⟨Nat.le_of_ble_eq_true rfl, Nat.le_of_ble_eq_true rfl⟩) ⟨gR_blind, va_recv hKc hPc (ci := 15) (q0 := 0) rfl rfl, fun U hU hW => ⟨rfl, by rw [hU]; exact hPc, va_K.moved hW.alike hKc⟩⟩ rfl rfl hl.1 rfl (lv_room (Nat.le_of_ble_eq_true rfl)) dX10_rule_2 ⟨Nat.le_of_ble_eq_true rfl, Nat.le_of_ble_eq_true rfl⟩) (fun r1 h2 => ?_)
  obtain rfl : r1 = none := h2
  refine W.eq (g2 := F0 m 5 ls [.null]) rfl ?_
  refine lv_astore_nN (lv' := [(2, .null), (0, .ref h0), (1, .int n)]) hx hb dX10_rule_5 rfl hl (by decide) rfl (fun ls hl => ?_)
  refine lv_aload_nN hx hb dX10_rule_6 rfl (lv_at hl 0 rfl) ?_
  refine lv_ifnonnullN hx hb dX10_rule_7 ?_
  obtain ⟨sa, hsa⟩ := hG.S (166, "there is no such supplier") (by decide)
  exact vx_throwS (names := xnms) (mc := 1) (ms := 6) (text := "there is no such supplier") (own := "Foundrymark") hx hb hl0 hown (by decide +kernel) (by decide +kernel) (hta _ mw0) (hta _ mw1) hsa (vx_hat (B := exB) (fun w hw => hta w (wx_168 w hw)) (by decide +kernel) (fun w hw => hG.B w hw)) (by decide +kernel) hG.U hG.N hS (hl.1.trans hml.symm) dX10_rule_10 dX10_rule_13 dX10_rule_14 dX10_rule_16 dX10_rule_19 (fun x hx9 => (hout x hx9).elim) (Nat.le_of_ble_eq_true rfl) (Nat.le_of_ble_eq_true rfl) (Nat.le_of_ble_eq_true rfl) (Nat.le_of_ble_eq_true rfl) hlocks (fun t hv hz hk => ⟨(), trivial, rfl, gF9 hS hz hk⟩) hS.2.2 (Nat.le_of_ble_eq_true rfl) (Nat.le_of_ble_eq_true rfl)

set_option maxHeartbeats 4000000 in
set_option maxRecDepth 100000 in
theorem c_X10_lots (l : Launch) {D : va_G} {h0 a1 a2 a3 a4 a5 h6 s0 s1 s2 s3 : Nat} {t1 t2 t3 t4 t5 : ClassId} : Met l ⟨"Foundrymark", "lots", "()I"⟩ (wsC ⟨"Foundrymark", "lots", "()I"⟩ cX10_lots 1 (some .int)) ({ frames := 0, cells := 0, slots := 0, locals := 0 }) (va_Pc [.ref h0] (gR D (wX h0 a1 a2 a3 a4 a5 h6 s0 s1 s2 s3 t1 t2 t3 t4 t5) (tX t1 t2 t3 t4 t5))) (vp_Si (fun r => r = 0)) 0 0 (fun _ => False) := by
  refine Met.ofW (cc := cX10_lots) (maxL := 1) (ret := (some .int)) (by decide) rfl ?_
  intro p e s m args below meth c s₁ B hml hv
  obtain ⟨rfl, hP, hK⟩ := hv
  have hx := B.exec
  have hb := B.bytes
  have hr := B.returns
  have hlocks := B.notSynchronized
  have hts := atoms_spec (ws := wsC ⟨"Foundrymark", "lots", "()I"⟩ cX10_lots 1 (some .int)) B.pre
  have hta : ∀ w ∈ WA, w.before _ s = true := fun w h => hts w (List.mem_cons_of_mem _ h)
  have hown : s.vm.findClass "Foundrymark" = some m.cls := findClass_of_methodNamed B.named
  have hP : va_P D vwCl (wX h0 a1 a2 a3 a4 a5 h6 s0 s1 s2 s3 t1 t2 t3 t4 t5) s.heap := hP
  have hl := lv_entry ([.ref h0]) (n := 1) (Nat.le_of_ble_eq_true rfl)
  rw [lg_entry_eq]
  generalize (lg_sl ([.ref h0]) ++ List.replicate (1 - (lg_sl ([.ref h0])).length) Slot.unset).toArray = ls at hl ⊢
  have hl : lv_has ls 1 [(0, .ref h0)] := hl
  refine lv_aload_n hx hb dX10_lots_0 rfl (lv_at hl 0 rfl) ?_
  refine va_get (D := D) (ci := 15) (v := .int 0) (C := RX10) (T := TX10) (N := 14) hx hb hta iwX10 hown hK hP 0 rfl rfl 8 (by decide) (hta _ mw29) (fun _ h9 => h9) rfl dX10_lots_1 ?_
  exact W.iret (v := 0) hx hb hr (fun t ht hWm => ⟨_, rfl, rfl, ht⟩) (fun q h => absurd h List.not_mem_nil) dX10_lots_4
