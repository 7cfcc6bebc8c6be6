/-! throws of the public face, in the class' world (made by wip/gen/spec_t.py) -/
set_option maxHeartbeats 4000000 in
set_option maxRecDepth 100000 in
theorem x_X10_promise (l : Launch) (hl0 : l.stackTraces = false) {D : va_G} {tA : Nat → ClassId} {S : St} {ad : Nat → Nat → Nat} {L : List Nat} {f : Nat → va_E} {sz : Nat} (hR : Rep tA S ad L f) (hW : WT S) {o : Nat} (ho : o < sN S 3 0) (hn : ¬ (¬ sI S 20 (sN S 7 o) = 0 ∧ sI S 53 o = 45)) : vx_Met l yX10_promise (wsC yX10_promise cX10_promise 3 (some .boolean)) ({ frames := 6, cells := 1, slots := 6, locals := 98 }) (va_Pc [.ref (ad 0 0), .int (nI o)] (gN D tA L f sz)) (fun _ _ _ _ => False) (vx_X (fun _ : Unit => True) (fun E9 _ _ => E9 = "java/lang/UnsupportedOperationException") (fun q => sz ≤ q)) 1 6 (fun q => sz ≤ q) := by
  refine vx_ofW (cc := cX10_promise) (maxL := 3) (ret := (some .boolean)) (by decide) rfl ?_
  intro p e s m args below meth c s₁ B hml hout hv
  obtain ⟨rfl, hsz, ⟨hP, hK, hD⟩, hQ⟩ := hv
  have hx := B.exec
  have hb := B.bytes
  have hr := B.returns
  have hlocks := B.notSynchronized
  have hts := atoms_spec (ws := wsC yX10_promise cX10_promise 3 (some .boolean)) B.pre
  have hta : ∀ w ∈ WA, w.before _ s = true := fun w h => hts w (List.mem_cons_of_mem _ h)
  have hown : s.vm.findClass RX10 = some m.cls := findClass_of_methodNamed B.named
  subst hsz
  have hS : va_S (fun q => s.heap.size ≤ q) s.heap s.heap [] := va_S.rf
  have hA : ∀ q : Nat, s.heap.size ≤ q → (fun q : Nat => s.heap.size ≤ q) q := fun _ h => h
  have hP : va_P D vwCl (va_pl L f) s.heap := hP
  have hl := lv_entry ([.ref (ad 0 0), .int (nI o)]) (n := 3) (Nat.le_of_ble_eq_true rfl)
  rw [lg_entry_eq]
  generalize (lg_sl ([.ref (ad 0 0), .int (nI o)]) ++ List.replicate (3 - (lg_sl ([.ref (ad 0 0), .int (nI o)])).length) Slot.unset).toArray = ls at hl ⊢
  have hl : lv_has ls 3 [(0, .ref (ad 0 0)), (1, .int (nI o))] := hl
  refine lv_aload_n hx hb dX10_promise_0 rfl (lv_at hl 0 rfl) ?_
  refine lv_iload_n hx hb dX10_promise_1 rfl (lv_at hl 1 rfl) ?_
  obtain ⟨q1, e2⟩ := cell_0 hR (rfl : (0 : Nat) = 0)
  refine gro_q (ci := 12) (As := [.int (nI o)]) (rest := []) ⟨hx, hb, hml, hown, hta⟩ (c_X10_knownOrder l hR hW ho) (cwV 1 hta (gWV mw559 mw560 mw20 mw40 mw561) rfl rfl rfl (by decide +kernel) ⟨Nat.le_of_ble_eq_true rfl, Nat.le_of_ble_eq_true rfl⟩) hK hP hD rfl e2 rfl hl.1 rfl (Nat.le_of_ble_eq_true rfl) dX10_promise_2 ⟨Nat.zero_le _, Nat.zero_le _⟩ (fun r3 c4 => ?_)
  obtain rfl := c4
  change W _ _ _ _ _ _ _ _ _ _ _ _ _ _ _ (F0 _ _ _ (rf ad 11 (some o) :: []))
  rw [rf_some]
  refine lv_astore_n (lv' := [(2, .ref (ad 11 o)), (0, .ref (ad 0 0)), (1, .int (nI o))]) hx hb dX10_promise_5 rfl hl (by decide) rfl (fun ls hl => ?_)
  refine lv_aload_n hx hb dX10_promise_6 rfl (lv_at hl 0 rfl) ?_
  refine get_part_11 hx hb hta iwX7 hown hK hP hR ho (hta _ mw533) dX10_promise_7 ?_
  refine get_isMade_2 hx hb hta iwX8 hown hK hP hR (hW.ordPart ho) (hta _ mw290) dX10_promise_10 ?_
  refine lv_if_eq (tgt := 25) hx hb dX10_promise_13 (by decide) (fun c5 => ?_) (fun c5 => ?_)
  · skip
    obtain ⟨sa, hsa⟩ := hQ.S (246, "the order cannot be promised") (by decide)
    exact vx_throwS (names := xnms) (mc := 1) (ms := 6) (text := "the order cannot be promised") (own := "Foundrymark") hx hb hl0 hown (by decide +kernel) (by decide +kernel) (hta _ mw325) (hta _ mw54) hsa (vx_hat (B := exB) (fun w hw => hta w (wx_92 w hw)) (by decide +kernel) (fun w hw => hQ.B w hw)) (by decide +kernel) hQ.U hQ.V hS (hl.1.trans hml.symm) dX10_promise_25 dX10_promise_28 dX10_promise_29 dX10_promise_31 dX10_promise_34 (fun x hx9 => (hout x hx9).elim) (Nat.le_of_ble_eq_true rfl) (Nat.le_of_ble_eq_true rfl) (Nat.le_of_ble_eq_true rfl) (Nat.le_of_ble_eq_true rfl) hlocks (fun t hv hz hk => ⟨(), trivial, rfl, hz, fun q h1 _ => hk q h1⟩) hS.2.2 (Nat.le_of_ble_eq_true rfl) (Nat.le_of_ble_eq_true rfl)
  · skip
    refine lv_aload_n hx hb dX10_promise_16 rfl (lv_at hl 0 rfl) ?_
    refine get_state_11 hx hb hta iwX7 hown hK hP hR ho (hta _ mw546) dX10_promise_17 ?_
    refine lv_bipush (v := 45) hx hb dX10_promise_20 (by decide) ?_
    refine lv_icmp_eq (tgt := 35) hx hb dX10_promise_22 (by decide) (fun c6 => ?_) (fun c6 => ?_)
    · skip
      exact absurd ⟨c5, c6⟩ hn
    · skip
      obtain ⟨sa, hsa⟩ := hQ.S (246, "the order cannot be promised") (by decide)
      exact vx_throwS (names := xnms) (mc := 1) (ms := 6) (text := "the order cannot be promised") (own := "Foundrymark") hx hb hl0 hown (by decide +kernel) (by decide +kernel) (hta _ mw325) (hta _ mw54) hsa (vx_hat (B := exB) (fun w hw => hta w (wx_92 w hw)) (by decide +kernel) (fun w hw => hQ.B w hw)) (by decide +kernel) hQ.U hQ.V hS (hl.1.trans hml.symm) dX10_promise_25 dX10_promise_28 dX10_promise_29 dX10_promise_31 dX10_promise_34 (fun x hx9 => (hout x hx9).elim) (Nat.le_of_ble_eq_true rfl) (Nat.le_of_ble_eq_true rfl) (Nat.le_of_ble_eq_true rfl) (Nat.le_of_ble_eq_true rfl) hlocks (fun t hv hz hk => ⟨(), trivial, rfl, hz, fun q h1 _ => hk q h1⟩) hS.2.2 (Nat.le_of_ble_eq_true rfl) (Nat.le_of_ble_eq_true rfl)

set_option maxHeartbeats 4000000 in
set_option maxRecDepth 100000 in
theorem x_X10_release (l : Launch) (hl0 : l.stackTraces = false) {D : va_G} {tA : Nat → ClassId} {S : St} {ad : Nat → Nat → Nat} {L : List Nat} {f : Nat → va_E} {sz : Nat} (hR : Rep tA S ad L f) (hW : WT S) {o : Nat} (ho : o < sN S 3 0) (hn : ¬ (¬ sI S 20 (sN S 7 o) = 0 ∧ (sI S 53 o = 45 ∨ sI S 53 o = 112))) : vx_Met l yX10_release (wsC yX10_release cX10_release 4 (some .boolean)) ({ frames := 6, cells := 1, slots := 6, locals := 98 }) (va_Pc [.ref (ad 0 0), .int (nI o)] (gN D tA L f sz)) (fun _ _ _ _ => False) (vx_X (fun _ : Unit => True) (fun E9 _ _ => E9 = "java/lang/UnsupportedOperationException") (fun q => sz ≤ q)) 1 6 (fun q => sz ≤ q) := by
  refine vx_ofW (cc := cX10_release) (maxL := 4) (ret := (some .boolean)) (by decide) rfl ?_
  intro p e s m args below meth c s₁ B hml hout hv
  obtain ⟨rfl, hsz, ⟨hP, hK, hD⟩, hQ⟩ := hv
  have hx := B.exec
  have hb := B.bytes
  have hr := B.returns
  have hlocks := B.notSynchronized
  have hts := atoms_spec (ws := wsC yX10_release cX10_release 4 (some .boolean)) B.pre
  have hta : ∀ w ∈ WA, w.before _ s = true := fun w h => hts w (List.mem_cons_of_mem _ h)
  have hown : s.vm.findClass RX10 = some m.cls := findClass_of_methodNamed B.named
  subst hsz
  have hS : va_S (fun q => s.heap.size ≤ q) s.heap s.heap [] := va_S.rf
  have hA : ∀ q : Nat, s.heap.size ≤ q → (fun q : Nat => s.heap.size ≤ q) q := fun _ h => h
  have hP : va_P D vwCl (va_pl L f) s.heap := hP
  have hl := lv_entry ([.ref (ad 0 0), .int (nI o)]) (n := 4) (Nat.le_of_ble_eq_true rfl)
  rw [lg_entry_eq]
  generalize (lg_sl ([.ref (ad 0 0), .int (nI o)]) ++ List.replicate (4 - (lg_sl ([.ref (ad 0 0), .int (nI o)])).length) Slot.unset).toArray = ls at hl ⊢
  have hl : lv_has ls 4 [(0, .ref (ad 0 0)), (1, .int (nI o))] := hl
  refine lv_aload_n hx hb dX10_release_0 rfl (lv_at hl 0 rfl) ?_
  refine lv_iload_n hx hb dX10_release_1 rfl (lv_at hl 1 rfl) ?_
  obtain ⟨q1, e2⟩ := cell_0 hR (rfl : (0 : Nat) = 0)
  refine gro_q (ci := 12) (As := [.int (nI o)]) (rest := []) ⟨hx, hb, hml, hown, hta⟩ (c_X10_knownOrder l hR hW ho) (cwV 1 hta (gWV mw559 mw560 mw20 mw40 mw561) rfl rfl rfl (by decide +kernel) ⟨Nat.le_of_ble_eq_true rfl, Nat.le_of_ble_eq_true rfl⟩) hK hP hD rfl e2 rfl hl.1 rfl (Nat.le_of_ble_eq_true rfl) dX10_release_2 ⟨Nat.zero_le _, Nat.zero_le _⟩ (fun r3 c4 => ?_)
  obtain rfl := c4
  change W _ _ _ _ _ _ _ _ _ _ _ _ _ _ _ (F0 _ _ _ (rf ad 11 (some o) :: []))
  rw [rf_some]
  refine lv_astore_n (lv' := [(2, .ref (ad 11 o)), (0, .ref (ad 0 0)), (1, .int (nI o))]) hx hb dX10_release_5 rfl hl (by decide) rfl (fun ls hl => ?_)
  refine lv_aload_n hx hb dX10_release_6 rfl (lv_at hl 0 rfl) ?_
  refine get_part_11 hx hb hta iwX7 hown hK hP hR ho (hta _ mw533) dX10_release_7 ?_
  refine get_isMade_2 hx hb hta iwX8 hown hK hP hR (hW.ordPart ho) (hta _ mw290) dX10_release_10 ?_
  refine lv_if_eq (tgt := 34) hx hb dX10_release_13 (by decide) (fun c5 => ?_) (fun c5 => ?_)
  · skip
    obtain ⟨sa, hsa⟩ := hQ.S (258, "the order cannot be released") (by decide)
    exact vx_throwSW (names := xnms) (mc := 1) (ms := 6) (text := "the order cannot be released") (own := "Foundrymark") hx hb hl0 hown (by decide +kernel) (by decide +kernel) (hta _ mw325) (hta _ mw54) hsa (vx_hat (B := exB) (fun w hw => hta w (wx_92 w hw)) (by decide +kernel) (fun w hw => hQ.B w hw)) (by decide +kernel) hQ.U hQ.V hS (hl.1.trans hml.symm) dX10_release_34 dX10_release_37 dX10_release_38 dX10_release_41 dX10_release_44 (fun x hx9 => (hout x hx9).elim) (Nat.le_of_ble_eq_true rfl) (Nat.le_of_ble_eq_true rfl) (Nat.le_of_ble_eq_true rfl) (Nat.le_of_ble_eq_true rfl) hlocks (fun t hv hz hk => ⟨(), trivial, rfl, hz, fun q h1 _ => hk q h1⟩) hS.2.2 (Nat.le_of_ble_eq_true rfl) (Nat.le_of_ble_eq_true rfl)
  · skip
    refine lv_aload_n hx hb dX10_release_16 rfl (lv_at hl 0 rfl) ?_
    refine get_state_11 hx hb hta iwX7 hown hK hP hR ho (hta _ mw546) dX10_release_17 ?_
    refine lv_bipush (v := 45) hx hb dX10_release_20 (by decide) ?_
    refine lv_icmp_eq (tgt := 45) hx hb dX10_release_22 (by decide) (fun c6 => ?_) (fun c6 => ?_)
    · skip
      exact absurd ⟨c5, Or.inl c6⟩ hn
    · skip
      refine lv_aload_n hx hb dX10_release_25 rfl (lv_at hl 0 rfl) ?_
      refine get_state_11 hx hb hta iwX7 hown hK hP hR ho (hta _ mw546) dX10_release_26 ?_
      refine lv_bipush (v := 112) hx hb dX10_release_29 (by decide) ?_
      refine lv_icmp_eq (tgt := 45) hx hb dX10_release_31 (by decide) (fun c7 => ?_) (fun c7 => ?_)
      · skip
        exact absurd ⟨c5, Or.inr c7⟩ hn
      · skip
        obtain ⟨sa, hsa⟩ := hQ.S (258, "the order cannot be released") (by decide)
        exact vx_throwSW (names := xnms) (mc := 1) (ms := 6) (text := "the order cannot be released") (own := "Foundrymark") hx hb hl0 hown (by decide +kernel) (by decide +kernel) (hta _ mw325) (hta _ mw54) hsa (vx_hat (B := exB) (fun w hw => hta w (wx_92 w hw)) (by decide +kernel) (fun w hw => hQ.B w hw)) (by decide +kernel) hQ.U hQ.V hS (hl.1.trans hml.symm) dX10_release_34 dX10_release_37 dX10_release_38 dX10_release_41 dX10_release_44 (fun x hx9 => (hout x hx9).elim) (Nat.le_of_ble_eq_true rfl) (Nat.le_of_ble_eq_true rfl) (Nat.le_of_ble_eq_true rfl) (Nat.le_of_ble_eq_true rfl) hlocks (fun t hv hz hk => ⟨(), trivial, rfl, hz, fun q h1 _ => hk q h1⟩) hS.2.2 (Nat.le_of_ble_eq_true rfl) (Nat.le_of_ble_eq_true rfl)

set_option maxHeartbeats 4000000 in
set_option maxRecDepth 100000 in
theorem x_X10_deliver (l : Launch) (hl0 : l.stackTraces = false) {D : va_G} {tA : Nat → ClassId} {S : St} {ad : Nat → Nat → Nat} {L : List Nat} {f : Nat → va_E} {sz : Nat} (hR : Rep tA S ad L f) (hW : WT S) {o : Nat} (ho : o < sN S 3 0) (hn : ¬ (¬ sI S 53 o = 100 ∧ (¬ sI S 20 (sN S 7 o) = 0 → sI S 53 o = 102))) : vx_Met l yX10_deliver (wsC yX10_deliver cX10_deliver 3 (some .boolean)) ({ frames := 6, cells := 1, slots := 6, locals := 98 }) (va_Pc [.ref (ad 0 0), .int (nI o)] (gN D tA L f sz)) (fun _ _ _ _ => False) (vx_X (fun _ : Unit => True) (fun E9 _ _ => E9 = "java/lang/UnsupportedOperationException") (fun q => sz ≤ q)) 1 6 (fun q => sz ≤ q) := by
  refine vx_ofW (cc := cX10_deliver) (maxL := 3) (ret := (some .boolean)) (by decide) rfl ?_
  intro p e s m args below meth c s₁ B hml hout hv
  obtain ⟨rfl, hsz, ⟨hP, hK, hD⟩, hQ⟩ := hv
  have hx := B.exec
  have hb := B.bytes
  have hr := B.returns
  have hlocks := B.notSynchronized
  have hts := atoms_spec (ws := wsC yX10_deliver cX10_deliver 3 (some .boolean)) B.pre
  have hta : ∀ w ∈ WA, w.before _ s = true := fun w h => hts w (List.mem_cons_of_mem _ h)
  have hown : s.vm.findClass RX10 = some m.cls := findClass_of_methodNamed B.named
  subst hsz
  have hS : va_S (fun q => s.heap.size ≤ q) s.heap s.heap [] := va_S.rf
  have hA : ∀ q : Nat, s.heap.size ≤ q → (fun q : Nat => s.heap.size ≤ q) q := fun _ h => h
  have hP : va_P D vwCl (va_pl L f) s.heap := hP
  have hl := lv_entry ([.ref (ad 0 0), .int (nI o)]) (n := 3) (Nat.le_of_ble_eq_true rfl)
  rw [lg_entry_eq]
  generalize (lg_sl ([.ref (ad 0 0), .int (nI o)]) ++ List.replicate (3 - (lg_sl ([.ref (ad 0 0), .int (nI o)])).length) Slot.unset).toArray = ls at hl ⊢
  have hl : lv_has ls 3 [(0, .ref (ad 0 0)), (1, .int (nI o))] := hl
  refine lv_aload_n hx hb dX10_deliver_0 rfl (lv_at hl 0 rfl) ?_
  refine lv_iload_n hx hb dX10_deliver_1 rfl (lv_at hl 1 rfl) ?_
  obtain ⟨q1, e2⟩ := cell_0 hR (rfl : (0 : Nat) = 0)
  refine gro_q (ci := 12) (As := [.int (nI o)]) (rest := []) ⟨hx, hb, hml, hown, hta⟩ (c_X10_knownOrder l hR hW ho) (cwV 1 hta (gWV mw559 mw560 mw20 mw40 mw561) rfl rfl rfl (by decide +kernel) ⟨Nat.le_of_ble_eq_true rfl, Nat.le_of_ble_eq_true rfl⟩) hK hP hD rfl e2 rfl hl.1 rfl (Nat.le_of_ble_eq_true rfl) dX10_deliver_2 ⟨Nat.zero_le _, Nat.zero_le _⟩ (fun r3 c4 => ?_)
  obtain rfl := c4
  change W _ _ _ _ _ _ _ _ _ _ _ _ _ _ _ (F0 _ _ _ (rf ad 11 (some o) :: []))
  rw [rf_some]
  refine lv_astore_n (lv' := [(2, .ref (ad 11 o)), (0, .ref (ad 0 0)), (1, .int (nI o))]) hx hb dX10_deliver_5 rfl hl (by decide) rfl (fun ls hl => ?_)
  refine lv_aload_n hx hb dX10_deliver_6 rfl (lv_at hl 0 rfl) ?_
  refine get_state_11 hx hb hta iwX7 hown hK hP hR ho (hta _ mw546) dX10_deliver_7 ?_
  refine lv_bipush (v := 100) hx hb dX10_deliver_10 (by decide) ?_
  refine lv_icmp_eq (tgt := 34) hx hb dX10_deliver_12 (by decide) (fun c5 => ?_) (fun c5 => ?_)
  · skip
    obtain ⟨sa, hsa⟩ := hQ.S (302, "the order cannot be delivered") (by decide)
    exact vx_throwSW (names := xnms) (mc := 1) (ms := 6) (text := "the order cannot be delivered") (own := "Foundrymark") hx hb hl0 hown (by decide +kernel) (by decide +kernel) (hta _ mw325) (hta _ mw54) hsa (vx_hat (B := exB) (fun w hw => hta w (wx_92 w hw)) (by decide +kernel) (fun w hw => hQ.B w hw)) (by decide +kernel) hQ.U hQ.V hS (hl.1.trans hml.symm) dX10_deliver_34 dX10_deliver_37 dX10_deliver_38 dX10_deliver_41 dX10_deliver_44 (fun x hx9 => (hout x hx9).elim) (Nat.le_of_ble_eq_true rfl) (Nat.le_of_ble_eq_true rfl) (Nat.le_of_ble_eq_true rfl) (Nat.le_of_ble_eq_true rfl) hlocks (fun t hv hz hk => ⟨(), trivial, rfl, hz, fun q h1 _ => hk q h1⟩) hS.2.2 (Nat.le_of_ble_eq_true rfl) (Nat.le_of_ble_eq_true rfl)
  · skip
    refine lv_aload_n hx hb dX10_deliver_15 rfl (lv_at hl 0 rfl) ?_
    refine get_part_11 hx hb hta iwX7 hown hK hP hR ho (hta _ mw533) dX10_deliver_16 ?_
    refine get_isMade_2 hx hb hta iwX8 hown hK hP hR (hW.ordPart ho) (hta _ mw290) dX10_deliver_19 ?_
    refine lv_if_eq (tgt := 45) hx hb dX10_deliver_22 (by decide) (fun c6 => ?_) (fun c6 => ?_)
    · skip
      exact absurd ⟨c5, fun q => absurd c6 q⟩ hn
    · skip
      refine lv_aload_n hx hb dX10_deliver_25 rfl (lv_at hl 0 rfl) ?_
      refine get_state_11 hx hb hta iwX7 hown hK hP hR ho (hta _ mw546) dX10_deliver_26 ?_
      refine lv_bipush (v := 102) hx hb dX10_deliver_29 (by decide) ?_
      refine lv_icmp_eq (tgt := 45) hx hb dX10_deliver_31 (by decide) (fun c7 => ?_) (fun c7 => ?_)
      · skip
        exact absurd ⟨c5, fun _ => c7⟩ hn
      · skip
        obtain ⟨sa, hsa⟩ := hQ.S (302, "the order cannot be delivered") (by decide)
        exact vx_throwSW (names := xnms) (mc := 1) (ms := 6) (text := "the order cannot be delivered") (own := "Foundrymark") hx hb hl0 hown (by decide +kernel) (by decide +kernel) (hta _ mw325) (hta _ mw54) hsa (vx_hat (B := exB) (fun w hw => hta w (wx_92 w hw)) (by decide +kernel) (fun w hw => hQ.B w hw)) (by decide +kernel) hQ.U hQ.V hS (hl.1.trans hml.symm) dX10_deliver_34 dX10_deliver_37 dX10_deliver_38 dX10_deliver_41 dX10_deliver_44 (fun x hx9 => (hout x hx9).elim) (Nat.le_of_ble_eq_true rfl) (Nat.le_of_ble_eq_true rfl) (Nat.le_of_ble_eq_true rfl) (Nat.le_of_ble_eq_true rfl) hlocks (fun t hv hz hk => ⟨(), trivial, rfl, hz, fun q h1 _ => hk q h1⟩) hS.2.2 (Nat.le_of_ble_eq_true rfl) (Nat.le_of_ble_eq_true rfl)

set_option maxHeartbeats 4000000 in
set_option maxRecDepth 100000 in
theorem x_X10_scrapU (l : Launch) (hl0 : l.stackTraces = false) {D : va_G} {tA : Nat → ClassId} {S : St} {ad : Nat → Nat → Nat} {L : List Nat} {f : Nat → va_E} {sz : Nat} (hR : Rep tA S ad L f) (hW : WT S) {o : Nat} (ho : o < sN S 3 0) (k : Int32) (hwk : oInWork S o = false) : vx_Met l yX10_scrap (wsC yX10_scrap cX10_scrap 5 (some .int)) ({ frames := 6, cells := 1, slots := 6, locals := 98 }) (va_Pc [.ref (ad 0 0), .int (nI o), .int k] (gN D tA L f sz)) (fun _ _ _ _ => False) (vx_X (fun _ : Unit => True) (fun E9 _ _ => E9 = "java/lang/UnsupportedOperationException") (fun q => sz ≤ q)) 1 6 (fun q => sz ≤ q) := by
  refine vx_ofW (cc := cX10_scrap) (maxL := 5) (ret := (some .int)) (by decide) rfl ?_
  intro p e s m args below meth c s₁ B hml hout hv
  obtain ⟨rfl, hsz, ⟨hP, hK, hD⟩, hQ⟩ := hv
  have hx := B.exec
  have hb := B.bytes
  have hr := B.returns
  have hlocks := B.notSynchronized
  have hts := atoms_spec (ws := wsC yX10_scrap cX10_scrap 5 (some .int)) B.pre
  have hta : ∀ w ∈ WA, w.before _ s = true := fun w h => hts w (List.mem_cons_of_mem _ h)
  have hown : s.vm.findClass RX10 = some m.cls := findClass_of_methodNamed B.named
  subst hsz
  have hS : va_S (fun q => s.heap.size ≤ q) s.heap s.heap [] := va_S.rf
  have hA : ∀ q : Nat, s.heap.size ≤ q → (fun q : Nat => s.heap.size ≤ q) q := fun _ h => h
  have hP : va_P D vwCl (va_pl L f) s.heap := hP
  have hl := lv_entry ([.ref (ad 0 0), .int (nI o), .int k]) (n := 5) (Nat.le_of_ble_eq_true rfl)
  rw [lg_entry_eq]
  generalize (lg_sl ([.ref (ad 0 0), .int (nI o), .int k]) ++ List.replicate (5 - (lg_sl ([.ref (ad 0 0), .int (nI o), .int k])).length) Slot.unset).toArray = ls at hl ⊢
  have hl : lv_has ls 5 [(0, .ref (ad 0 0)), (1, .int (nI o)), (2, .int k)] := hl
  refine lv_aload_n hx hb dX10_scrap_0 rfl (lv_at hl 0 rfl) ?_
  refine lv_iload_n hx hb dX10_scrap_1 rfl (lv_at hl 1 rfl) ?_
  obtain ⟨q1, e2⟩ := cell_0 hR (rfl : (0 : Nat) = 0)
  refine gro_q (ci := 12) (As := [.int (nI o)]) (rest := []) ⟨hx, hb, hml, hown, hta⟩ (c_X10_knownOrder l hR hW ho) (cwV 1 hta (gWV mw559 mw560 mw20 mw40 mw561) rfl rfl rfl (by decide +kernel) ⟨Nat.le_of_ble_eq_true rfl, Nat.le_of_ble_eq_true rfl⟩) hK hP hD rfl e2 rfl hl.1 rfl (Nat.le_of_ble_eq_true rfl) dX10_scrap_2 ⟨Nat.zero_le _, Nat.zero_le _⟩ (fun r3 c4 => ?_)
  obtain rfl := c4
  change W _ _ _ _ _ _ _ _ _ _ _ _ _ _ _ (F0 _ _ _ (rf ad 11 (some o) :: []))
  rw [rf_some]
  refine lv_astore_n (lv' := [(3, .ref (ad 11 o)), (0, .ref (ad 0 0)), (1, .int (nI o)), (2, .int k)]) hx hb dX10_scrap_5 rfl hl (by decide) rfl (fun ls hl => ?_)
  refine lv_aload_n hx hb dX10_scrap_6 rfl (lv_at hl 0 rfl) ?_
  obtain ⟨q5, e6⟩ := cell_11 hR ho
  refine gro_i (ci := 9) (As := []) (rest := []) ⟨hx, hb, hml, hown, hta⟩ (c_X7_isInWork l hR ho) (cwV 0 hta (gWV mw569 mw182 mw183 mw59 mw184) rfl rfl rfl (by decide +kernel) ⟨Nat.le_of_ble_eq_true rfl, Nat.le_of_ble_eq_true rfl⟩) hK hP hD rfl e6 rfl hl.1 rfl (Nat.le_of_ble_eq_true rfl) dX10_scrap_7 ⟨Nat.zero_le _, Nat.zero_le _⟩ (fun r7 c8 => ?_)
  obtain rfl := c8
  refine lv_if_ne (tgt := 24) hx hb dX10_scrap_10 (by decide) (fun c9 => ?_) (fun c9 => ?_)
  · exact absurd c9 (fun q => q (by rw [hwk]; rfl))
  · skip
    obtain ⟨sa, hsa⟩ := hQ.S (278, "the order has no job in work") (by decide)
    exact vx_throwSW (names := xnms) (mc := 1) (ms := 6) (text := "the order has no job in work") (own := "Foundrymark") hx hb hl0 hown (by decide +kernel) (by decide +kernel) (hta _ mw325) (hta _ mw54) hsa (vx_hat (B := exB) (fun w hw => hta w (wx_92 w hw)) (by decide +kernel) (fun w hw => hQ.B w hw)) (by decide +kernel) hQ.U hQ.V hS (hl.1.trans hml.symm) dX10_scrap_13 dX10_scrap_16 dX10_scrap_17 dX10_scrap_20 dX10_scrap_23 (fun x hx9 => (hout x hx9).elim) (Nat.le_of_ble_eq_true rfl) (Nat.le_of_ble_eq_true rfl) (Nat.le_of_ble_eq_true rfl) (Nat.le_of_ble_eq_true rfl) hlocks (fun t hv hz hk => ⟨(), trivial, rfl, hz, fun q h1 _ => hk q h1⟩) hS.2.2 (Nat.le_of_ble_eq_true rfl) (Nat.le_of_ble_eq_true rfl)

set_option maxHeartbeats 4000000 in
set_option maxRecDepth 100000 in
theorem x_X10_scrapA (l : Launch) (hl0 : l.stackTraces = false) {D : va_G} {tA : Nat → ClassId} {S : St} {ad : Nat → Nat → Nat} {L : List Nat} {f : Nat → va_E} {sz : Nat} (hR : Rep tA S ad L f) (hW : WT S) {o : Nat} (ho : o < sN S 3 0) (k : Int32) (hwk : oInWork S o = true) (hk : inR k 1 (sI S 60 o) = false) : vx_Met l yX10_scrap (wsC yX10_scrap cX10_scrap 5 (some .int)) ({ frames := 6, cells := 1, slots := 6, locals := 98 }) (va_Pc [.ref (ad 0 0), .int (nI o), .int k] (gN D tA L f sz)) (fun _ _ _ _ => False) (vx_X (fun _ : Unit => True) (fun E9 _ _ => E9 = "java/lang/IllegalArgumentException") (fun q => sz ≤ q)) 1 6 (fun q => sz ≤ q) := by
  refine vx_ofW (cc := cX10_scrap) (maxL := 5) (ret := (some .int)) (by decide) rfl ?_
  intro p e s m args below meth c s₁ B hml hout hv
  obtain ⟨rfl, hsz, ⟨hP, hK, hD⟩, hQ⟩ := hv
  have hx := B.exec
  have hb := B.bytes
  have hr := B.returns
  have hlocks := B.notSynchronized
  have hts := atoms_spec (ws := wsC yX10_scrap cX10_scrap 5 (some .int)) B.pre
  have hta : ∀ w ∈ WA, w.before _ s = true := fun w h => hts w (List.mem_cons_of_mem _ h)
  have hown : s.vm.findClass RX10 = some m.cls := findClass_of_methodNamed B.named
  subst hsz
  have hS : va_S (fun q => s.heap.size ≤ q) s.heap s.heap [] := va_S.rf
  have hA : ∀ q : Nat, s.heap.size ≤ q → (fun q : Nat => s.heap.size ≤ q) q := fun _ h => h
  have hP : va_P D vwCl (va_pl L f) s.heap := hP
  have hl := lv_entry ([.ref (ad 0 0), .int (nI o), .int k]) (n := 5) (Nat.le_of_ble_eq_true rfl)
  rw [lg_entry_eq]
  generalize (lg_sl ([.ref (ad 0 0), .int (nI o), .int k]) ++ List.replicate (5 - (lg_sl ([.ref (ad 0 0), .int (nI o), .int k])).length) Slot.unset).toArray = ls at hl ⊢
  have hl : lv_has ls 5 [(0, .ref (ad 0 0)), (1, .int (nI o)), (2, .int k)] := hl
  refine lv_aload_n hx hb dX10_scrap_0 rfl (lv_at hl 0 rfl) ?_
  refine lv_iload_n hx hb dX10_scrap_1 rfl (lv_at hl 1 rfl) ?_
  obtain ⟨q1, e2⟩ := cell_0 hR (rfl : (0 : Nat) = 0)
  refine gro_q (ci := 12) (As := [.int (nI o)]) (rest := []) ⟨hx, hb, hml, hown, hta⟩ (c_X10_knownOrder l hR hW ho) (cwV 1 hta (gWV mw559 mw560 mw20 mw40 mw561) rfl rfl rfl (by decide +kernel) ⟨Nat.le_of_ble_eq_true rfl, Nat.le_of_ble_eq_true rfl⟩) hK hP hD rfl e2 rfl hl.1 rfl (Nat.le_of_ble_eq_true rfl) dX10_scrap_2 ⟨Nat.zero_le _, Nat.zero_le _⟩ (fun r3 c4 => ?_)
  obtain rfl := c4
  change W _ _ _ _ _ _ _ _ _ _ _ _ _ _ _ (F0 _ _ _ (rf ad 11 (some o) :: []))
  rw [rf_some]
  refine lv_astore_n (lv' := [(3, .ref (ad 11 o)), (0, .ref (ad 0 0)), (1, .int (nI o)), (2, .int k)]) hx hb dX10_scrap_5 rfl hl (by decide) rfl (fun ls hl => ?_)
  refine lv_aload_n hx hb dX10_scrap_6 rfl (lv_at hl 0 rfl) ?_
  obtain ⟨q5, e6⟩ := cell_11 hR ho
  refine gro_i (ci := 9) (As := []) (rest := []) ⟨hx, hb, hml, hown, hta⟩ (c_X7_isInWork l hR ho) (cwV 0 hta (gWV mw569 mw182 mw183 mw59 mw184) rfl rfl rfl (by decide +kernel) ⟨Nat.le_of_ble_eq_true rfl, Nat.le_of_ble_eq_true rfl⟩) hK hP hD rfl e6 rfl hl.1 rfl (Nat.le_of_ble_eq_true rfl) dX10_scrap_7 ⟨Nat.zero_le _, Nat.zero_le _⟩ (fun r7 c8 => ?_)
  obtain rfl := c8
  refine lv_if_ne (tgt := 24) hx hb dX10_scrap_10 (by decide) (fun c9 => ?_) (fun c9 => ?_)
  · skip
    refine lv_aload_n hx hb dX10_scrap_24 rfl (lv_at hl 0 rfl) ?_
    refine get_job_11 hx hb hta iwX7 hown hK hP hR ho (hta _ mw541) dX10_scrap_25 ?_
    refine lv_astore (lv' := [(4, .ref (ad 12 o)), (3, .ref (ad 11 o)), (0, .ref (ad 0 0)), (1, .int (nI o)), (2, .int k)]) hx hb dX10_scrap_28 hl (by decide) rfl (fun ls hl => ?_)
    refine lv_iload_n hx hb dX10_scrap_30 rfl (lv_at hl 4 rfl) ?_
    refine lv_iconst (v := 1) hx hb dX10_scrap_31 (by decide) ?_
    refine lv_aload hx hb dX10_scrap_32 (lv_at hl 0 rfl) ?_
    refine get_pieces_12 hx hb hta iwX2 hown hK hP hR ho (hta _ mw517) dX10_scrap_34 ?_
    refine vp_callSi (W.runS (As := [.int k, .int 1, .int (sI S 60 o)]) (rest := []) ⟨hx, hb, hml, hown, hta⟩ (c_X10_isFrom l k 1 (sI S 60 o)) (va_cwS 3 hta (gWS mw223 mw224 mw40 mw225) rfl rfl rfl (by decide +kernel) ⟨Nat.le_of_ble_eq_true rfl, Nat.le_of_ble_eq_true rfl⟩) ⟨fun a U g mk q => ⟨q.1, trivial⟩, fun U hU hW9 => ⟨rfl, trivial⟩⟩ rfl rfl hl.1 rfl (lv_room (Nat.le_of_ble_eq_true rfl)) dX10_scrap_37 ⟨Nat.zero_le _, Nat.zero_le _⟩) (fun r10 c11 => ?_)
    obtain rfl : r10 = 0 := c11.trans (by rw [hk]; rfl)
    refine lv_if_ne (tgt := 54) hx hb dX10_scrap_40 (by decide) (fun c12 => ?_) (fun c12 => ?_)
    · exact absurd c12 (by decide)
    · skip
      obtain ⟨sa, hsa⟩ := hQ.S (289, "the job does not have so many pieces") (by decide)
      exact vx_throwSW (names := xnms) (mc := 1) (ms := 6) (text := "the job does not have so many pieces") (own := "Foundrymark") hx hb hl0 hown (by decide +kernel) (by decide +kernel) (hta _ mw226) (hta _ mw46) hsa (vx_hat (B := exB) (fun w hw => hta w (wx_55 w hw)) (by decide +kernel) (fun w hw => hQ.B w hw)) (by decide +kernel) hQ.U hQ.V hS (hl.1.trans hml.symm) dX10_scrap_43 dX10_scrap_46 dX10_scrap_47 dX10_scrap_50 dX10_scrap_53 (fun x hx9 => (hout x hx9).elim) (Nat.le_of_ble_eq_true rfl) (Nat.le_of_ble_eq_true rfl) (Nat.le_of_ble_eq_true rfl) (Nat.le_of_ble_eq_true rfl) hlocks (fun t hv hz hk => ⟨(), trivial, rfl, hz, fun q h1 _ => hk q h1⟩) hS.2.2 (Nat.le_of_ble_eq_true rfl) (Nat.le_of_ble_eq_true rfl)
  · exact absurd c9 (by rw [hwk]; decide)

set_option maxHeartbeats 4000000 in
set_option maxRecDepth 100000 in
theorem x_X10_order (l : Launch) (hl0 : l.stackTraces = false) {D : va_G} {tA : Nat → ClassId} {S : St} {ad : Nat → Nat → Nat} {L : List Nat} {f : Nat → va_E} {sz : Nat} (hR : Rep tA S ad L f) (hW : WT S) {p9 : Nat} (hp : p9 < sN S 1 0) (qy op du : Int32) (hq : inR qy 1 100 = true) (hop : inR op 0 2 = true) (hdu : inR du 0 9999 = true) (hn : sN S 3 0 = 30) : vx_Met l yX10_order (wsC yX10_order cX10_order 6 (some .int)) ({ frames := 6, cells := 1, slots := 6, locals := 98 }) (va_Pc [.ref (ad 0 0), .int (nI p9), .int qy, .int op, .int du] (gN D tA L f sz)) (fun _ _ _ _ => False) (vx_X (fun _ : Unit => True) (fun E9 _ _ => E9 = "java/lang/IllegalStateException") (fun q => sz ≤ q)) 1 6 (fun q => sz ≤ q) := by
  refine vx_ofW (cc := cX10_order) (maxL := 6) (ret := (some .int)) (by decide) rfl ?_
  intro p e s m args below meth c s₁ B hml hout hv
  obtain ⟨rfl, hsz, ⟨hP, hK, hD⟩, hQ⟩ := hv
  have hx := B.exec
  have hb := B.bytes
  have hr := B.returns
  have hlocks := B.notSynchronized
  have hts := atoms_spec (ws := wsC yX10_order cX10_order 6 (some .int)) B.pre
  have hta : ∀ w ∈ WA, w.before _ s = true := fun w h => hts w (List.mem_cons_of_mem _ h)
  have hown : s.vm.findClass RX10 = some m.cls := findClass_of_methodNamed B.named
  subst hsz
  have hS : va_S (fun q => s.heap.size ≤ q) s.heap s.heap [] := va_S.rf
  have hA : ∀ q : Nat, s.heap.size ≤ q → (fun q : Nat => s.heap.size ≤ q) q := fun _ h => h
  have hP : va_P D vwCl (va_pl L f) s.heap := hP
  have hl := lv_entry ([.ref (ad 0 0), .int (nI p9), .int qy, .int op, .int du]) (n := 6) (Nat.le_of_ble_eq_true rfl)
  rw [lg_entry_eq]
  generalize (lg_sl ([.ref (ad 0 0), .int (nI p9), .int qy, .int op, .int du]) ++ List.replicate (6 - (lg_sl ([.ref (ad 0 0), .int (nI p9), .int qy, .int op, .int du])).length) Slot.unset).toArray = ls at hl ⊢
  have hl : lv_has ls 6 [(0, .ref (ad 0 0)), (1, .int (nI p9)), (2, .int qy), (3, .int op), (4, .int du)] := hl
  refine lv_aload_n hx hb dX10_order_0 rfl (lv_at hl 0 rfl) ?_
  refine lv_iload_n hx hb dX10_order_1 rfl (lv_at hl 1 rfl) ?_
  obtain ⟨q1, e2⟩ := cell_0 hR (rfl : (0 : Nat) = 0)
  refine gro_q (ci := 12) (As := [.int (nI p9)]) (rest := []) ⟨hx, hb, hml, hown, hta⟩ (c_X10_knownPart l hR hW hp) (cwV 1 hta (gWV mw318 mw319 mw9 mw40 mw320) rfl rfl rfl (by decide +kernel) ⟨Nat.le_of_ble_eq_true rfl, Nat.le_of_ble_eq_true rfl⟩) hK hP hD rfl e2 rfl hl.1 rfl (Nat.le_of_ble_eq_true rfl) dX10_order_2 ⟨Nat.zero_le _, Nat.zero_le _⟩ (fun r3 c4 => ?_)
  obtain rfl := c4
  change W _ _ _ _ _ _ _ _ _ _ _ _ _ _ _ (F0 _ _ _ (rf ad 2 (some p9) :: []))
  rw [rf_some]
  refine lv_astore (lv' := [(5, .ref (ad 2 p9)), (0, .ref (ad 0 0)), (1, .int (nI p9)), (2, .int qy), (3, .int op), (4, .int du)]) hx hb dX10_order_5 hl (by decide) rfl (fun ls hl => ?_)
  refine lv_iload_n hx hb dX10_order_7 rfl (lv_at hl 3 rfl) ?_
  refine lv_iconst (v := 1) hx hb dX10_order_8 (by decide) ?_
  refine lv_bipush (v := 100) hx hb dX10_order_9 (by decide) ?_
  refine vp_callSi (W.runS (As := [.int qy, .int 1, .int 100]) (rest := []) ⟨hx, hb, hml, hown, hta⟩ (c_X10_isFrom l qy 1 100) (va_cwS 3 hta (gWS mw223 mw224 mw40 mw225) rfl rfl rfl (by decide +kernel) ⟨Nat.le_of_ble_eq_true rfl, Nat.le_of_ble_eq_true rfl⟩) ⟨fun a U g mk q => ⟨q.1, trivial⟩, fun U hU hW9 => ⟨rfl, trivial⟩⟩ rfl rfl hl.1 rfl (lv_room (Nat.le_of_ble_eq_true rfl)) dX10_order_11 ⟨Nat.zero_le _, Nat.zero_le _⟩) (fun r5 c6 => ?_)
  obtain rfl : r5 = 1 := c6.trans (by rw [hq]; rfl)
  refine lv_if_eq (tgt := 38) hx hb dX10_order_14 (by decide) (fun c7 => ?_) (fun c7 => ?_)
  · exact absurd c7 (by decide)
  · skip
    refine lv_iload_n hx hb dX10_order_17 rfl (lv_at hl 4 rfl) ?_
    refine lv_iconst (v := 0) hx hb dX10_order_18 (by decide) ?_
    refine lv_iconst (v := 2) hx hb dX10_order_19 (by decide) ?_
    refine vp_callSi (W.runS (As := [.int op, .int 0, .int 2]) (rest := []) ⟨hx, hb, hml, hown, hta⟩ (c_X10_isFrom l op 0 2) (va_cwS 3 hta (gWS mw223 mw224 mw40 mw225) rfl rfl rfl (by decide +kernel) ⟨Nat.le_of_ble_eq_true rfl, Nat.le_of_ble_eq_true rfl⟩) ⟨fun a U g mk q => ⟨q.1, trivial⟩, fun U hU hW9 => ⟨rfl, trivial⟩⟩ rfl rfl hl.1 rfl (lv_room (Nat.le_of_ble_eq_true rfl)) dX10_order_20 ⟨Nat.zero_le _, Nat.zero_le _⟩) (fun r8 c9 => ?_)
    obtain rfl : r8 = 1 := c9.trans (by rw [hop]; rfl)
    refine lv_if_eq (tgt := 38) hx hb dX10_order_23 (by decide) (fun c10 => ?_) (fun c10 => ?_)
    · exact absurd c10 (by decide)
    · skip
      refine lv_iload hx hb dX10_order_26 (lv_at hl 5 rfl) ?_
      refine lv_iconst (v := 0) hx hb dX10_order_28 (by decide) ?_
      refine lv_sipush (v := 9999) hx hb dX10_order_29 (by decide) ?_
      refine vp_callSi (W.runS (As := [.int du, .int 0, .int 9999]) (rest := []) ⟨hx, hb, hml, hown, hta⟩ (c_X10_isFrom l du 0 9999) (va_cwS 3 hta (gWS mw223 mw224 mw40 mw225) rfl rfl rfl (by decide +kernel) ⟨Nat.le_of_ble_eq_true rfl, Nat.le_of_ble_eq_true rfl⟩) ⟨fun a U g mk q => ⟨q.1, trivial⟩, fun U hU hW9 => ⟨rfl, trivial⟩⟩ rfl rfl hl.1 rfl (lv_room (Nat.le_of_ble_eq_true rfl)) dX10_order_32 ⟨Nat.zero_le _, Nat.zero_le _⟩) (fun r11 c12 => ?_)
      obtain rfl : r11 = 1 := c12.trans (by rw [hdu]; rfl)
      refine lv_if_ne (tgt := 48) hx hb dX10_order_35 (by decide) (fun c13 => ?_) (fun c13 => ?_)
      · skip
        refine lv_aload_n hx hb dX10_order_48 rfl (lv_at hl 1 rfl) ?_
        refine get_orderCount_0 hx hb hta iwX10 hown hK hP hR (rfl : (0 : Nat) = 0) (hta _ mw106) dX10_order_49 ?_
        refine lv_aload_n hx hb dX10_order_52 rfl (lv_at hl 1 rfl) ?_
        refine get_orders_0 hx hb hta iwX10 hown hK hP hR (rfl : (0 : Nat) = 0) (hta _ mw100) dX10_order_53 ?_
        refine len_orders hx hb hK hP hR (rfl : (0 : Nat) = 0) dX10_order_56 ?_
        refine lv_icmp_lt (tgt := 70) hx hb dX10_order_57 (by decide) (fun c14 => ?_) (fun c14 => ?_)
        · exact absurd c14 (by rw [hn]; decide)
        · skip
          obtain ⟨sa, hsa⟩ := hQ.S (233, "there are 30 orders") (by decide)
          exact vx_throwS (names := xnms) (mc := 1) (ms := 6) (text := "there are 30 orders") (own := "Foundrymark") hx hb hl0 hown (by decide +kernel) (by decide +kernel) (hta _ mw233) (hta _ mw47) hsa (vx_hat (B := exB) (fun w hw => hta w (wx_66 w hw)) (by decide +kernel) (fun w hw => hQ.B w hw)) (by decide +kernel) hQ.U hQ.V hS (hl.1.trans hml.symm) dX10_order_60 dX10_order_63 dX10_order_64 dX10_order_66 dX10_order_69 (fun x hx9 => (hout x hx9).elim) (Nat.le_of_ble_eq_true rfl) (Nat.le_of_ble_eq_true rfl) (Nat.le_of_ble_eq_true rfl) (Nat.le_of_ble_eq_true rfl) hlocks (fun t hv hz hk => ⟨(), trivial, rfl, hz, fun q h1 _ => hk q h1⟩) hS.2.2 (Nat.le_of_ble_eq_true rfl) (Nat.le_of_ble_eq_true rfl)
      · exact absurd c13 (by decide)

set_option maxHeartbeats 4000000 in
set_option maxRecDepth 100000 in
theorem x_X10_lotOf (l : Launch) (hl0 : l.stackTraces = false) {D : va_G} {tA : Nat → ClassId} {S : St} {ad : Nat → Nat → Nat} {L : List Nat} {f : Nat → va_E} {sz : Nat} (hR : Rep tA S ad L f) (hW : WT S) {o : Nat} (ho : o < sN S 3 0) (hn : sR S 4 o = none) : vx_Met l yX10_lotOf (wsC yX10_lotOf cX10_lotOf 4 (some .int)) ({ frames := 6, cells := 1, slots := 6, locals := 98 }) (va_Pc [.ref (ad 0 0), .int (nI o)] (gN D tA L f sz)) (fun _ _ _ _ => False) (vx_X (fun _ : Unit => True) (fun E9 _ _ => E9 = "java/util/NoSuchElementException") (fun q => sz ≤ q)) 1 6 (fun q => sz ≤ q) := by
  refine vx_ofW (cc := cX10_lotOf) (maxL := 4) (ret := (some .int)) (by decide) rfl ?_
  intro p e s m args below meth c s₁ B hml hout hv
  obtain ⟨rfl, hsz, ⟨hP, hK, hD⟩, hQ⟩ := hv
  have hx := B.exec
  have hb := B.bytes
  have hr := B.returns
  have hlocks := B.notSynchronized
  have hts := atoms_spec (ws := wsC yX10_lotOf cX10_lotOf 4 (some .int)) B.pre
  have hta : ∀ w ∈ WA, w.before _ s = true := fun w h => hts w (List.mem_cons_of_mem _ h)
  have hown : s.vm.findClass RX10 = some m.cls := findClass_of_methodNamed B.named
  subst hsz
  have hS : va_S (fun q => s.heap.size ≤ q) s.heap s.heap [] := va_S.rf
  have hA : ∀ q : Nat, s.heap.size ≤ q → (fun q : Nat => s.heap.size ≤ q) q := fun _ h => h
  have hP : va_P D vwCl (va_pl L f) s.heap := hP
  have hl := lv_entry ([.ref (ad 0 0), .int (nI o)]) (n := 4) (Nat.le_of_ble_eq_true rfl)
  rw [lg_entry_eq]
  generalize (lg_sl ([.ref (ad 0 0), .int (nI o)]) ++ List.replicate (4 - (lg_sl ([.ref (ad 0 0), .int (nI o)])).length) Slot.unset).toArray = ls at hl ⊢
  have hl : lv_has ls 4 [(0, .ref (ad 0 0)), (1, .int (nI o))] := hl
  refine lv_aload_n hx hb dX10_lotOf_0 rfl (lv_at hl 0 rfl) ?_
  refine lv_iload_n hx hb dX10_lotOf_1 rfl (lv_at hl 1 rfl) ?_
  obtain ⟨q1, e2⟩ := cell_0 hR (rfl : (0 : Nat) = 0)
  refine gro_q (ci := 12) (As := [.int (nI o)]) (rest := []) ⟨hx, hb, hml, hown, hta⟩ (c_X10_knownOrder l hR hW ho) (cwV 1 hta (gWV mw559 mw560 mw20 mw40 mw561) rfl rfl rfl (by decide +kernel) ⟨Nat.le_of_ble_eq_true rfl, Nat.le_of_ble_eq_true rfl⟩) hK hP hD rfl e2 rfl hl.1 rfl (Nat.le_of_ble_eq_true rfl) dX10_lotOf_2 ⟨Nat.zero_le _, Nat.zero_le _⟩ (fun r3 c4 => ?_)
  obtain rfl := c4
  change W _ _ _ _ _ _ _ _ _ _ _ _ _ _ _ (F0 _ _ _ (rf ad 11 (some o) :: []))
  rw [rf_some]
  refine lv_astore_n (lv' := [(2, .ref (ad 11 o)), (0, .ref (ad 0 0)), (1, .int (nI o))]) hx hb dX10_lotOf_5 rfl hl (by decide) rfl (fun ls hl => ?_)
  refine lv_aload_n hx hb dX10_lotOf_6 rfl (lv_at hl 0 rfl) ?_
  refine get_job_11 hx hb hta iwX7 hown hK hP hR ho (hta _ mw541) dX10_lotOf_7 ?_
  refine get_lot_12 hx hb hta iwX2 hown hK hP hR ho (hta _ mw527) dX10_lotOf_10 ?_
  rw [hn, rf_none]
  refine lv_astore_nN (lv' := [(3, .null), (2, .ref (ad 11 o)), (0, .ref (ad 0 0)), (1, .int (nI o))]) hx hb dX10_lotOf_13 rfl hl (by decide) rfl (fun ls hl => ?_)
  refine lv_aload_nN hx hb dX10_lotOf_14 rfl (lv_at hl 0 rfl) ?_
  refine lv_ifnonnullN hx hb dX10_lotOf_15 ?_
  obtain ⟨sa, hsa⟩ := hQ.S (326, "the job made no lot") (by decide)
  exact nse_throw (text := "the job made no lot") (own := "Foundrymark") (mc := 1) (ms := 6) hx hb hl0 hown (hta _ mw642) (hta _ mw66) hsa (vx_hat (B := exB) (fun w hw => hQ.W w hw) (by decide +kernel) (fun w hw => hQ.B w hw)) (by decide +kernel) hQ.U hQ.V hS (hl.1.trans hml.symm) dX10_lotOf_18 dX10_lotOf_21 dX10_lotOf_22 dX10_lotOf_25 dX10_lotOf_28 (fun x hx9 => (hout x hx9).elim) (Nat.le_of_ble_eq_true rfl) (Nat.le_of_ble_eq_true rfl) (Nat.le_of_ble_eq_true rfl) (Nat.le_of_ble_eq_true rfl) hlocks (fun t hv hz hk => ⟨(), trivial, rfl, hz, fun q h1 _ => hk q h1⟩) hS.2.2 (Nat.le_of_ble_eq_true rfl) (Nat.le_of_ble_eq_true rfl)

set_option maxHeartbeats 4000000 in
set_option maxRecDepth 100000 in
theorem x_X10_finishedAt (l : Launch) (hl0 : l.stackTraces = false) {D : va_G} {tA : Nat → ClassId} {S : St} {ad : Nat → Nat → Nat} {L : List Nat} {f : Nat → va_E} {sz : Nat} (hR : Rep tA S ad L f) (hW : WT S) {o : Nat} (ho : o < sN S 3 0) (hn : sI S 63 o = -1) : vx_Met l yX10_finishedAt (wsC yX10_finishedAt cX10_finishedAt 3 (some .int)) ({ frames := 6, cells := 1, slots := 6, locals := 98 }) (va_Pc [.ref (ad 0 0), .int (nI o)] (gN D tA L f sz)) (fun _ _ _ _ => False) (vx_X (fun _ : Unit => True) (fun E9 _ _ => E9 = "java/util/NoSuchElementException") (fun q => sz ≤ q)) 1 6 (fun q => sz ≤ q) := by
  refine vx_ofW (cc := cX10_finishedAt) (maxL := 3) (ret := (some .int)) (by decide) rfl ?_
  intro p e s m args below meth c s₁ B hml hout hv
  obtain ⟨rfl, hsz, ⟨hP, hK, hD⟩, hQ⟩ := hv
  have hx := B.exec
  have hb := B.bytes
  have hr := B.returns
  have hlocks := B.notSynchronized
  have hts := atoms_spec (ws := wsC yX10_finishedAt cX10_finishedAt 3 (some .int)) B.pre
  have hta : ∀ w ∈ WA, w.before _ s = true := fun w h => hts w (List.mem_cons_of_mem _ h)
  have hown : s.vm.findClass RX10 = some m.cls := findClass_of_methodNamed B.named
  subst hsz
  have hS : va_S (fun q => s.heap.size ≤ q) s.heap s.heap [] := va_S.rf
  have hA : ∀ q : Nat, s.heap.size ≤ q → (fun q : Nat => s.heap.size ≤ q) q := fun _ h => h
  have hP : va_P D vwCl (va_pl L f) s.heap := hP
  have hl := lv_entry ([.ref (ad 0 0), .int (nI o)]) (n := 3) (Nat.le_of_ble_eq_true rfl)
  rw [lg_entry_eq]
  generalize (lg_sl ([.ref (ad 0 0), .int (nI o)]) ++ List.replicate (3 - (lg_sl ([.ref (ad 0 0), .int (nI o)])).length) Slot.unset).toArray = ls at hl ⊢
  have hl : lv_has ls 3 [(0, .ref (ad 0 0)), (1, .int (nI o))] := hl
  refine lv_aload_n hx hb dX10_finishedAt_0 rfl (lv_at hl 0 rfl) ?_
  refine lv_iload_n hx hb dX10_finishedAt_1 rfl (lv_at hl 1 rfl) ?_
  obtain ⟨q1, e2⟩ := cell_0 hR (rfl : (0 : Nat) = 0)
  refine gro_q (ci := 12) (As := [.int (nI o)]) (rest := []) ⟨hx, hb, hml, hown, hta⟩ (c_X10_knownOrder l hR hW ho) (cwV 1 hta (gWV mw559 mw560 mw20 mw40 mw561) rfl rfl rfl (by decide +kernel) ⟨Nat.le_of_ble_eq_true rfl, Nat.le_of_ble_eq_true rfl⟩) hK hP hD rfl e2 rfl hl.1 rfl (Nat.le_of_ble_eq_true rfl) dX10_finishedAt_2 ⟨Nat.zero_le _, Nat.zero_le _⟩ (fun r3 c4 => ?_)
  obtain rfl := c4
  change W _ _ _ _ _ _ _ _ _ _ _ _ _ _ _ (F0 _ _ _ (rf ad 11 (some o) :: []))
  rw [rf_some]
  refine lv_astore_n (lv' := [(2, .ref (ad 11 o)), (0, .ref (ad 0 0)), (1, .int (nI o))]) hx hb dX10_finishedAt_5 rfl hl (by decide) rfl (fun ls hl => ?_)
  refine lv_aload_n hx hb dX10_finishedAt_6 rfl (lv_at hl 0 rfl) ?_
  refine get_job_11 hx hb hta iwX7 hown hK hP hR ho (hta _ mw541) dX10_finishedAt_7 ?_
  refine get_finishedAt_12 hx hb hta iwX2 hown hK hP hR ho (hta _ mw523) dX10_finishedAt_10 ?_
  refine lv_iconst (v := -1) hx hb dX10_finishedAt_13 (by decide) ?_
  refine lv_icmp_ne (tgt := 28) hx hb dX10_finishedAt_14 (by decide) (fun c5 => ?_) (fun c5 => ?_)
  · exact absurd c5 (fun q => q hn)
  · skip
    obtain ⟨sa, hsa⟩ := hQ.S (332, "the job is not finished") (by decide)
    exact nse_throw (text := "the job is not finished") (own := "Foundrymark") (mc := 1) (ms := 6) hx hb hl0 hown (hta _ mw642) (hta _ mw66) hsa (vx_hat (B := exB) (fun w hw => hQ.W w hw) (by decide +kernel) (fun w hw => hQ.B w hw)) (by decide +kernel) hQ.U hQ.V hS (hl.1.trans hml.symm) dX10_finishedAt_17 dX10_finishedAt_20 dX10_finishedAt_21 dX10_finishedAt_24 dX10_finishedAt_27 (fun x hx9 => (hout x hx9).elim) (Nat.le_of_ble_eq_true rfl) (Nat.le_of_ble_eq_true rfl) (Nat.le_of_ble_eq_true rfl) (Nat.le_of_ble_eq_true rfl) hlocks (fun t hv hz hk => ⟨(), trivial, rfl, hz, fun q h1 _ => hk q h1⟩) hS.2.2 (Nat.le_of_ble_eq_true rfl) (Nat.le_of_ble_eq_true rfl)

set_option maxHeartbeats 4000000 in
set_option maxRecDepth 100000 in
theorem x_X10_deliveredCost (l : Launch) (hl0 : l.stackTraces = false) {D : va_G} {tA : Nat → ClassId} {S : St} {ad : Nat → Nat → Nat} {L : List Nat} {f : Nat → va_E} {sz : Nat} (hR : Rep tA S ad L f) (hW : WT S) {o : Nat} (ho : o < sN S 3 0) (hn : ¬ sI S 53 o = 100) : vx_Met l yX10_deliveredCost (wsC yX10_deliveredCost cX10_deliveredCost 3 (some .long)) ({ frames := 6, cells := 1, slots := 6, locals := 98 }) (va_Pc [.ref (ad 0 0), .int (nI o)] (gN D tA L f sz)) (fun _ _ _ _ => False) (vx_X (fun _ : Unit => True) (fun E9 _ _ => E9 = "java/util/NoSuchElementException") (fun q => sz ≤ q)) 1 6 (fun q => sz ≤ q) := by
  refine vx_ofW (cc := cX10_deliveredCost) (maxL := 3) (ret := (some .long)) (by decide) rfl ?_
  intro p e s m args below meth c s₁ B hml hout hv
  obtain ⟨rfl, hsz, ⟨hP, hK, hD⟩, hQ⟩ := hv
  have hx := B.exec
  have hb := B.bytes
  have hr := B.returns
  have hlocks := B.notSynchronized
  have hts := atoms_spec (ws := wsC yX10_deliveredCost cX10_deliveredCost 3 (some .long)) B.pre
  have hta : ∀ w ∈ WA, w.before _ s = true := fun w h => hts w (List.mem_cons_of_mem _ h)
  have hown : s.vm.findClass RX10 = some m.cls := findClass_of_methodNamed B.named
  subst hsz
  have hS : va_S (fun q => s.heap.size ≤ q) s.heap s.heap [] := va_S.rf
  have hA : ∀ q : Nat, s.heap.size ≤ q → (fun q : Nat => s.heap.size ≤ q) q := fun _ h => h
  have hP : va_P D vwCl (va_pl L f) s.heap := hP
  have hl := lv_entry ([.ref (ad 0 0), .int (nI o)]) (n := 3) (Nat.le_of_ble_eq_true rfl)
  rw [lg_entry_eq]
  generalize (lg_sl ([.ref (ad 0 0), .int (nI o)]) ++ List.replicate (3 - (lg_sl ([.ref (ad 0 0), .int (nI o)])).length) Slot.unset).toArray = ls at hl ⊢
  have hl : lv_has ls 3 [(0, .ref (ad 0 0)), (1, .int (nI o))] := hl
  refine lv_aload_n hx hb dX10_deliveredCost_0 rfl (lv_at hl 0 rfl) ?_
  refine lv_iload_n hx hb dX10_deliveredCost_1 rfl (lv_at hl 1 rfl) ?_
  obtain ⟨q1, e2⟩ := cell_0 hR (rfl : (0 : Nat) = 0)
  refine gro_q (ci := 12) (As := [.int (nI o)]) (rest := []) ⟨hx, hb, hml, hown, hta⟩ (c_X10_knownOrder l hR hW ho) (cwV 1 hta (gWV mw559 mw560 mw20 mw40 mw561) rfl rfl rfl (by decide +kernel) ⟨Nat.le_of_ble_eq_true rfl, Nat.le_of_ble_eq_true rfl⟩) hK hP hD rfl e2 rfl hl.1 rfl (Nat.le_of_ble_eq_true rfl) dX10_deliveredCost_2 ⟨Nat.zero_le _, Nat.zero_le _⟩ (fun r3 c4 => ?_)
  obtain rfl := c4
  change W _ _ _ _ _ _ _ _ _ _ _ _ _ _ _ (F0 _ _ _ (rf ad 11 (some o) :: []))
  rw [rf_some]
  refine lv_astore_n (lv' := [(2, .ref (ad 11 o)), (0, .ref (ad 0 0)), (1, .int (nI o))]) hx hb dX10_deliveredCost_5 rfl hl (by decide) rfl (fun ls hl => ?_)
  refine lv_aload_n hx hb dX10_deliveredCost_6 rfl (lv_at hl 0 rfl) ?_
  refine get_state_11 hx hb hta iwX7 hown hK hP hR ho (hta _ mw546) dX10_deliveredCost_7 ?_
  refine lv_bipush (v := 100) hx hb dX10_deliveredCost_10 (by decide) ?_
  refine lv_icmp_eq (tgt := 26) hx hb dX10_deliveredCost_12 (by decide) (fun c5 => ?_) (fun c5 => ?_)
  · exact absurd c5 hn
  · skip
    obtain ⟨sa, hsa⟩ := hQ.S (353, "the order was not delivered") (by decide)
    exact nse_throw (text := "the order was not delivered") (own := "Foundrymark") (mc := 1) (ms := 6) hx hb hl0 hown (hta _ mw642) (hta _ mw66) hsa (vx_hat (B := exB) (fun w hw => hQ.W w hw) (by decide +kernel) (fun w hw => hQ.B w hw)) (by decide +kernel) hQ.U hQ.V hS (hl.1.trans hml.symm) dX10_deliveredCost_15 dX10_deliveredCost_18 dX10_deliveredCost_19 dX10_deliveredCost_22 dX10_deliveredCost_25 (fun x hx9 => (hout x hx9).elim) (Nat.le_of_ble_eq_true rfl) (Nat.le_of_ble_eq_true rfl) (Nat.le_of_ble_eq_true rfl) (Nat.le_of_ble_eq_true rfl) hlocks (fun t hv hz hk => ⟨(), trivial, rfl, hz, fun q h1 _ => hk q h1⟩) hS.2.2 (Nat.le_of_ble_eq_true rfl) (Nat.le_of_ble_eq_true rfl)

set_option maxHeartbeats 4000000 in
set_option maxRecDepth 100000 in
theorem x_X10_knownOrder (l : Launch) (hl0 : l.stackTraces = false) {D : va_G} {tA : Nat → ClassId} {S : St} {ad : Nat → Nat → Nat} {L : List Nat} {f : Nat → va_E} {sz : Nat} (hR : Rep tA S ad L f) (hW : WT S) : vx_Met l yX10_knownOrder (wsC yX10_knownOrder cX10_knownOrder 3 (some (.object "Foundrymark$Order"))) ({ frames := 6, cells := 1, slots := 6, locals := 98 }) (va_Pc [.ref (ad 0 0), .int (nI (sN S 3 0))] (gN D tA L f sz)) (fun _ _ _ _ => False) (vx_X (fun _ : Unit => True) (fun E9 _ _ => E9 = "java/lang/IndexOutOfBoundsException") (fun q => sz ≤ q)) 1 6 (fun q => sz ≤ q) := by
  refine vx_ofW (cc := cX10_knownOrder) (maxL := 3) (ret := (some (.object "Foundrymark$Order"))) (by decide) rfl ?_
  intro p e s m args below meth c s₁ B hml hout hv
  obtain ⟨rfl, hsz, ⟨hP, hK, hD⟩, hQ⟩ := hv
  have hx := B.exec
  have hb := B.bytes
  have hr := B.returns
  have hlocks := B.notSynchronized
  have hts := atoms_spec (ws := wsC yX10_knownOrder cX10_knownOrder 3 (some (.object "Foundrymark$Order"))) B.pre
  have hta : ∀ w ∈ WA, w.before _ s = true := fun w h => hts w (List.mem_cons_of_mem _ h)
  have hown : s.vm.findClass RX10 = some m.cls := findClass_of_methodNamed B.named
  subst hsz
  have hS : va_S (fun q => s.heap.size ≤ q) s.heap s.heap [] := va_S.rf
  have hA : ∀ q : Nat, s.heap.size ≤ q → (fun q : Nat => s.heap.size ≤ q) q := fun _ h => h
  have hP : va_P D vwCl (va_pl L f) s.heap := hP
  have hl := lv_entry ([.ref (ad 0 0), .int (nI (sN S 3 0))]) (n := 3) (Nat.le_of_ble_eq_true rfl)
  rw [lg_entry_eq]
  generalize (lg_sl ([.ref (ad 0 0), .int (nI (sN S 3 0))]) ++ List.replicate (3 - (lg_sl ([.ref (ad 0 0), .int (nI (sN S 3 0))])).length) Slot.unset).toArray = ls at hl ⊢
  have hl : lv_has ls 3 [(0, .ref (ad 0 0)), (1, .int (nI (sN S 3 0)))] := hl
  refine lv_iload_n hx hb dX10_knownOrder_0 rfl (lv_at hl 1 rfl) ?_
  refine lv_if_lt (tgt := 22) hx hb dX10_knownOrder_1 (by decide) (fun c1 => ?_) (fun c1 => ?_)
  · exact absurd c1 (nI_pos (by have := hW.nO; omega))
  · skip
    refine lv_iload_n hx hb dX10_knownOrder_4 rfl (lv_at hl 1 rfl) ?_
    refine lv_aload_n hx hb dX10_knownOrder_5 rfl (lv_at hl 0 rfl) ?_
    refine get_orders_0 hx hb hta iwX10 hown hK hP hR (rfl : (0 : Nat) = 0) (hta _ mw100) dX10_knownOrder_6 ?_
    refine len_orders hx hb hK hP hR (rfl : (0 : Nat) = 0) dX10_knownOrder_9 ?_
    refine lv_icmp_ge (tgt := 22) hx hb dX10_knownOrder_10 (by decide) (fun c2 => ?_) (fun c2 => ?_)
    · skip
      refine lv_null hx hb dX10_knownOrder_22 ?_
      refine lv_astore_nN (lv' := [(2, .null), (0, .ref (ad 0 0)), (1, .int (nI (sN S 3 0)))]) hx hb dX10_knownOrder_23 rfl hl (by decide) rfl (fun ls hl => ?_)
      refine lv_aload_nN hx hb dX10_knownOrder_24 rfl (lv_at hl 0 rfl) ?_
      refine lv_ifnonnullN hx hb dX10_knownOrder_25 ?_
      obtain ⟨sa, hsa⟩ := hQ.S (393, "there is no such order") (by decide)
      exact vx_throwSW (names := xnms) (mc := 1) (ms := 6) (text := "there is no such order") (own := "Foundrymark") hx hb hl0 hown (by decide +kernel) (by decide +kernel) (hta _ mw321) (hta _ mw51) hsa (vx_hat (B := exB) (fun w hw => hta w (wx_168 w hw)) (by decide +kernel) (fun w hw => hQ.B w hw)) (by decide +kernel) hQ.U hQ.V hS (hl.1.trans hml.symm) dX10_knownOrder_28 dX10_knownOrder_31 dX10_knownOrder_32 dX10_knownOrder_35 dX10_knownOrder_38 (fun x hx9 => (hout x hx9).elim) (Nat.le_of_ble_eq_true rfl) (Nat.le_of_ble_eq_true rfl) (Nat.le_of_ble_eq_true rfl) (Nat.le_of_ble_eq_true rfl) hlocks (fun t hv hz hk => ⟨(), trivial, rfl, hz, fun q h1 _ => hk q h1⟩) hS.2.2 (Nat.le_of_ble_eq_true rfl) (Nat.le_of_ble_eq_true rfl)
    · skip
      have h30 : sN S 3 0 < 30 := nI_lt_of (by decide) (hW.nO) c2
      refine lv_aload_n hx hb dX10_knownOrder_13 rfl (lv_at hl 0 rfl) ?_
      refine get_orders_0 hx hb hta iwX10 hown hK hP hR (rfl : (0 : Nat) = 0) (hta _ mw100) dX10_knownOrder_14 ?_
      refine lv_iload_n hx hb dX10_knownOrder_17 rfl (lv_at hl 1 rfl) ?_
      refine ldn_orders hx hb hK hP hR (rfl : (0 : Nat) = 0) h30 dX10_knownOrder_18 (fun h3 => ?_) (fun h3 => ?_)
      · skip
        refine lv_goto (tgt := 23) hx hb dX10_knownOrder_19 (by decide) ?_
        refine lv_astore_n (lv' := [(2, .ref (ad 11 ((sN S 3 0)))), (0, .ref (ad 0 0)), (1, .int (nI (sN S 3 0)))]) hx hb dX10_knownOrder_23 rfl hl (by decide) rfl (fun ls hl => ?_)
        refine lv_aload_n hx hb dX10_knownOrder_24 rfl (lv_at hl 0 rfl) ?_
        refine lv_ifnonnull (tgt := 39) hx hb dX10_knownOrder_25 (by decide) ?_
        refine lv_aload_n hx hb dX10_knownOrder_39 rfl (lv_at hl 0 rfl) ?_
        exact absurd h3 (Nat.lt_irrefl _)
      · skip
        refine lv_goto (tgt := 23) hx hb dX10_knownOrder_19 (by decide) ?_
        refine lv_astore_nN (lv' := [(2, .null), (0, .ref (ad 0 0)), (1, .int (nI (sN S 3 0)))]) hx hb dX10_knownOrder_23 rfl hl (by decide) rfl (fun ls hl => ?_)
        refine lv_aload_nN hx hb dX10_knownOrder_24 rfl (lv_at hl 0 rfl) ?_
        refine lv_ifnonnullN hx hb dX10_knownOrder_25 ?_
        obtain ⟨sa, hsa⟩ := hQ.S (393, "there is no such order") (by decide)
        exact vx_throwSW (names := xnms) (mc := 1) (ms := 6) (text := "there is no such order") (own := "Foundrymark") hx hb hl0 hown (by decide +kernel) (by decide +kernel) (hta _ mw321) (hta _ mw51) hsa (vx_hat (B := exB) (fun w hw => hta w (wx_168 w hw)) (by decide +kernel) (fun w hw => hQ.B w hw)) (by decide +kernel) hQ.U hQ.V hS (hl.1.trans hml.symm) dX10_knownOrder_28 dX10_knownOrder_31 dX10_knownOrder_32 dX10_knownOrder_35 dX10_knownOrder_38 (fun x hx9 => (hout x hx9).elim) (Nat.le_of_ble_eq_true rfl) (Nat.le_of_ble_eq_true rfl) (Nat.le_of_ble_eq_true rfl) (Nat.le_of_ble_eq_true rfl) hlocks (fun t hv hz hk => ⟨(), trivial, rfl, hz, fun q h1 _ => hk q h1⟩) hS.2.2 (Nat.le_of_ble_eq_true rfl) (Nat.le_of_ble_eq_true rfl)

set_option maxHeartbeats 4000000 in
set_option maxRecDepth 100000 in
theorem x_X10_finPast (l : Launch) (hl0 : l.stackTraces = false) {D : va_G} {tA : Nat → ClassId} {S : St} {ad : Nat → Nat → Nat} {L : List Nat} {f : Nat → va_E} {sz : Nat} (hR : Rep tA S ad L f) (hW : WT S) : vx_Met l yX10_finishedAt (wsC yX10_finishedAt cX10_finishedAt 3 (some .int)) ({ frames := 7, cells := 1, slots := 6, locals := 120 }) (va_Pc [.ref (ad 0 0), .int (nI (sN S 3 0))] (gN D tA L f sz)) (fun _ _ _ _ => False) (vx_X (fun _ : Unit => True) (fun E9 _ _ => E9 = "java/lang/IndexOutOfBoundsException") (fun q => sz ≤ q)) 1 6 (fun q => sz ≤ q) := by
  refine vx_ofW (cc := cX10_finishedAt) (maxL := 3) (ret := (some .int)) (by decide) rfl ?_
  intro p e s m args below meth c s₁ B hml hout hv
  obtain ⟨rfl, hsz, ⟨hP, hK, hD⟩, hQ⟩ := hv
  have hx := B.exec
  have hb := B.bytes
  have hr := B.returns
  have hlocks := B.notSynchronized
  have hts := atoms_spec (ws := wsC yX10_finishedAt cX10_finishedAt 3 (some .int)) B.pre
  have hta : ∀ w ∈ WA, w.before _ s = true := fun w h => hts w (List.mem_cons_of_mem _ h)
  have hown : s.vm.findClass RX10 = some m.cls := findClass_of_methodNamed B.named
  subst hsz
  have hS : va_S (fun q => s.heap.size ≤ q) s.heap s.heap [] := va_S.rf
  have hA : ∀ q : Nat, s.heap.size ≤ q → (fun q : Nat => s.heap.size ≤ q) q := fun _ h => h
  have hP : va_P D vwCl (va_pl L f) s.heap := hP
  have hl := lv_entry ([.ref (ad 0 0), .int (nI (sN S 3 0))]) (n := 3) (Nat.le_of_ble_eq_true rfl)
  rw [lg_entry_eq]
  generalize (lg_sl ([.ref (ad 0 0), .int (nI (sN S 3 0))]) ++ List.replicate (3 - (lg_sl ([.ref (ad 0 0), .int (nI (sN S 3 0))])).length) Slot.unset).toArray = ls at hl ⊢
  have hl : lv_has ls 3 [(0, .ref (ad 0 0)), (1, .int (nI (sN S 3 0)))] := hl
  refine lv_aload_n hx hb dX10_finishedAt_0 rfl (lv_at hl 0 rfl) ?_
  refine lv_iload_n hx hb dX10_finishedAt_1 rfl (lv_at hl 1 rfl) ?_
  obtain ⟨q0, e0⟩ := cell_0 hR (rfl : (0 : Nat) = 0)
  exact gX9 (ci := 12) (As := [.int (nI (sN S 3 0))]) (rest := []) ⟨hx, hb, hml, hown, hta⟩ (x_X10_knownOrder l hl0 hR hW) (cwV 1 hta (gWV mw559 mw560 mw20 mw40 mw561) rfl rfl rfl (by decide +kernel) ⟨Nat.le_of_ble_eq_true rfl, Nat.le_of_ble_eq_true rfl⟩) hQ hK hP hD hS hA rfl e0 rfl hl.1 rfl (Nat.le_of_ble_eq_true rfl) dX10_finishedAt_2 ⟨Nat.le_of_ble_eq_true rfl, Nat.le_of_ble_eq_true rfl⟩ (fun ce q9 H1 locs1 hP hS hc9 hv9 hcl9 => vx_out (fun x hx9 => (hout x hx9).elim) hlocks hc9 hv9 hcl9 (fun t ht hv => ⟨(), trivial, rfl, hS.F ht⟩) hS.2.2 (Nat.le_of_ble_eq_true rfl) (Nat.le_of_ble_eq_true rfl))

set_option maxHeartbeats 4000000 in
set_option maxRecDepth 100000 in
theorem c_X10_lotOf (l : Launch) {D : va_G} {tA : Nat → ClassId} {S : St} {ad : Nat → Nat → Nat} {L : List Nat} {f : Nat → va_E} (hR : Rep tA S ad L f) (hW : WT S) {o : Nat} (ho : o < sN S 3 0) {i : Nat} (hi : sR S 4 o = some i) : Met l yX10_lotOf (wsC yX10_lotOf cX10_lotOf 4 (some .int)) ({ frames := 1, cells := 0, slots := 0, locals := 22 }) (va_Pc [.ref (ad 0 0), .int (nI o)] (gB D tA L f)) (vp_Si (fun r => r = nI i)) 0 0 (fun _ => False) := by
  refine Met.ofW (cc := cX10_lotOf) (maxL := 4) (ret := (some .int)) (by decide) rfl ?_
  intro p e s m args below meth c s₁ B hml hv
  obtain ⟨rfl, hP, hK, hD⟩ := hv
  have hx := B.exec
  have hb := B.bytes
  have hr := B.returns
  have hts := atoms_spec (ws := wsC yX10_lotOf cX10_lotOf 4 (some .int)) B.pre
  have hta : ∀ w ∈ WA, w.before _ s = true := fun w h => hts w (List.mem_cons_of_mem _ h)
  have hown : s.vm.findClass RX10 = some m.cls := findClass_of_methodNamed B.named
  have hlocks := B.notSynchronized
  have hP : va_P D vwCl (va_pl L f) s.heap := hP
  have hl := lv_entry ([.ref (ad 0 0), .int (nI o)]) (n := 4) (Nat.le_of_ble_eq_true rfl)
  rw [lg_entry_eq]
  generalize (lg_sl ([.ref (ad 0 0), .int (nI o)]) ++ List.replicate (4 - (lg_sl ([.ref (ad 0 0), .int (nI o)])).length) Slot.unset).toArray = ls at hl ⊢
  have hl : lv_has ls 4 [(0, .ref (ad 0 0)), (1, .int (nI o))] := hl
  refine lv_aload_n hx hb dX10_lotOf_0 rfl (lv_at hl 0 rfl) ?_
  refine lv_iload_n hx hb dX10_lotOf_1 rfl (lv_at hl 1 rfl) ?_
  obtain ⟨q1, e2⟩ := cell_0 hR (rfl : (0 : Nat) = 0)
  refine gro_q (ci := 12) (As := [.int (nI o)]) (rest := []) ⟨hx, hb, hml, hown, hta⟩ (c_X10_knownOrder l hR hW ho) (cwV 1 hta (gWV mw559 mw560 mw20 mw40 mw561) rfl rfl rfl (by decide +kernel) ⟨Nat.le_of_ble_eq_true rfl, Nat.le_of_ble_eq_true rfl⟩) hK hP hD rfl e2 rfl hl.1 rfl (Nat.le_of_ble_eq_true rfl) dX10_lotOf_2 ⟨Nat.zero_le _, Nat.zero_le _⟩ (fun r3 c4 => ?_)
  obtain rfl := c4
  change W _ _ _ _ _ _ _ _ _ _ _ _ _ _ _ (F0 _ _ _ (rf ad 11 (some o) :: []))
  rw [rf_some]
  refine lv_astore_n (lv' := [(2, .ref (ad 11 o)), (0, .ref (ad 0 0)), (1, .int (nI o))]) hx hb dX10_lotOf_5 rfl hl (by decide) rfl (fun ls hl => ?_)
  refine lv_aload_n hx hb dX10_lotOf_6 rfl (lv_at hl 0 rfl) ?_
  refine get_job_11 hx hb hta iwX7 hown hK hP hR ho (hta _ mw541) dX10_lotOf_7 ?_
  refine get_lot_12 hx hb hta iwX2 hown hK hP hR ho (hta _ mw527) dX10_lotOf_10 ?_
  rw [hi, rf_some]
  refine lv_astore_n (lv' := [(3, .ref (ad 7 i)), (2, .ref (ad 11 o)), (0, .ref (ad 0 0)), (1, .int (nI o))]) hx hb dX10_lotOf_13 rfl hl (by decide) rfl (fun ls hl => ?_)
  refine lv_aload_n hx hb dX10_lotOf_14 rfl (lv_at hl 0 rfl) ?_
  refine lv_ifnonnull (tgt := 29) hx hb dX10_lotOf_15 (by decide) ?_
  refine lv_aload_n hx hb dX10_lotOf_29 rfl (lv_at hl 0 rfl) ?_
  refine get_number_7 hx hb hta iwX3 hown hK hP hR (hW.jlot ho hi) (hta _ mw407) dX10_lotOf_30 ?_
  exact W.iret (v := (nI i)) hx hb hr (fun t ht hWm => ⟨_, rfl, rfl, ht⟩) (fun q h => absurd h List.not_mem_nil) dX10_lotOf_33

set_option maxHeartbeats 4000000 in
set_option maxRecDepth 100000 in
theorem c_X10_finishedAt (l : Launch) {D : va_G} {tA : Nat → ClassId} {S : St} {ad : Nat → Nat → Nat} {L : List Nat} {f : Nat → va_E} (hR : Rep tA S ad L f) (hW : WT S) {o : Nat} (ho : o < sN S 3 0) (hn : ¬ sI S 63 o = -1) : Met l yX10_finishedAt (wsC yX10_finishedAt cX10_finishedAt 3 (some .int)) ({ frames := 1, cells := 0, slots := 0, locals := 22 }) (va_Pc [.ref (ad 0 0), .int (nI o)] (gB D tA L f)) (vp_Si (fun r => r = sI S 63 o)) 0 0 (fun _ => False) := by
  refine Met.ofW (cc := cX10_finishedAt) (maxL := 3) (ret := (some .int)) (by decide) rfl ?_
  intro p e s m args below meth c s₁ B hml hv
  obtain ⟨rfl, hP, hK, hD⟩ := hv
  have hx := B.exec
  have hb := B.bytes
  have hr := B.returns
  have hts := atoms_spec (ws := wsC yX10_finishedAt cX10_finishedAt 3 (some .int)) B.pre
  have hta : ∀ w ∈ WA, w.before _ s = true := fun w h => hts w (List.mem_cons_of_mem _ h)
  have hown : s.vm.findClass RX10 = some m.cls := findClass_of_methodNamed B.named
  have hlocks := B.notSynchronized
  have hP : va_P D vwCl (va_pl L f) s.heap := hP
  have hl := lv_entry ([.ref (ad 0 0), .int (nI o)]) (n := 3) (Nat.le_of_ble_eq_true rfl)
  rw [lg_entry_eq]
  generalize (lg_sl ([.ref (ad 0 0), .int (nI o)]) ++ List.replicate (3 - (lg_sl ([.ref (ad 0 0), .int (nI o)])).length) Slot.unset).toArray = ls at hl ⊢
  have hl : lv_has ls 3 [(0, .ref (ad 0 0)), (1, .int (nI o))] := hl
  refine lv_aload_n hx hb dX10_finishedAt_0 rfl (lv_at hl 0 rfl) ?_
  refine lv_iload_n hx hb dX10_finishedAt_1 rfl (lv_at hl 1 rfl) ?_
  obtain ⟨q1, e2⟩ := cell_0 hR (rfl : (0 : Nat) = 0)
  refine gro_q (ci := 12) (As := [.int (nI o)]) (rest := []) ⟨hx, hb, hml, hown, hta⟩ (c_X10_knownOrder l hR hW ho) (cwV 1 hta (gWV mw559 mw560 mw20 mw40 mw561) rfl rfl rfl (by decide +kernel) ⟨Nat.le_of_ble_eq_true rfl, Nat.le_of_ble_eq_true rfl⟩) hK hP hD rfl e2 rfl hl.1 rfl (Nat.le_of_ble_eq_true rfl) dX10_finishedAt_2 ⟨Nat.zero_le _, Nat.zero_le _⟩ (fun r3 c4 => ?_)
  obtain rfl := c4
  change W _ _ _ _ _ _ _ _ _ _ _ _ _ _ _ (F0 _ _ _ (rf ad 11 (some o) :: []))
  rw [rf_some]
  refine lv_astore_n (lv' := [(2, .ref (ad 11 o)), (0, .ref (ad 0 0)), (1, .int (nI o))]) hx hb dX10_finishedAt_5 rfl hl (by decide) rfl (fun ls hl => ?_)
  refine lv_aload_n hx hb dX10_finishedAt_6 rfl (lv_at hl 0 rfl) ?_
  refine get_job_11 hx hb hta iwX7 hown hK hP hR ho (hta _ mw541) dX10_finishedAt_7 ?_
  refine get_finishedAt_12 hx hb hta iwX2 hown hK hP hR ho (hta _ mw523) dX10_finishedAt_10 ?_
  refine lv_iconst (v := -1) hx hb dX10_finishedAt_13 (by decide) ?_
  refine lv_icmp_ne (tgt := 28) hx hb dX10_finishedAt_14 (by decide) (fun c5 => ?_) (fun c5 => ?_)
  · skip
    refine lv_aload_n hx hb dX10_finishedAt_28 rfl (lv_at hl 0 rfl) ?_
    refine get_job_11 hx hb hta iwX7 hown hK hP hR ho (hta _ mw541) dX10_finishedAt_29 ?_
    refine get_finishedAt_12 hx hb hta iwX2 hown hK hP hR ho (hta _ mw523) dX10_finishedAt_32 ?_
    exact W.iret (v := (sI S 63 o)) hx hb hr (fun t ht hWm => ⟨_, rfl, rfl, ht⟩) (fun q h => absurd h List.not_mem_nil) dX10_finishedAt_35
  · exact absurd c5 hn

set_option maxHeartbeats 4000000 in
set_option maxRecDepth 100000 in
theorem c_X10_deliveredCost (l : Launch) {D : va_G} {tA : Nat → ClassId} {S : St} {ad : Nat → Nat → Nat} {L : List Nat} {f : Nat → va_E} (hR : Rep tA S ad L f) (hW : WT S) {o : Nat} (ho : o < sN S 3 0) (hn : sI S 53 o = 100) : Met l yX10_deliveredCost (wsC yX10_deliveredCost cX10_deliveredCost 3 (some .long)) ({ frames := 1, cells := 0, slots := 0, locals := 22 }) (va_Pc [.ref (ad 0 0), .int (nI o)] (gB D tA L f)) (vp_Sl (fun r => r = sJ S 4 o)) 0 0 (fun _ => False) := by
  refine Met.ofW (cc := cX10_deliveredCost) (maxL := 3) (ret := (some .long)) (by decide) rfl ?_
  intro p e s m args below meth c s₁ B hml hv
  obtain ⟨rfl, hP, hK, hD⟩ := hv
  have hx := B.exec
  have hb := B.bytes
  have hr := B.returns
  have hts := atoms_spec (ws := wsC yX10_deliveredCost cX10_deliveredCost 3 (some .long)) B.pre
  have hta : ∀ w ∈ WA, w.before _ s = true := fun w h => hts w (List.mem_cons_of_mem _ h)
  have hown : s.vm.findClass RX10 = some m.cls := findClass_of_methodNamed B.named
  have hlocks := B.notSynchronized
  have hP : va_P D vwCl (va_pl L f) s.heap := hP
  have hl := lv_entry ([.ref (ad 0 0), .int (nI o)]) (n := 3) (Nat.le_of_ble_eq_true rfl)
  rw [lg_entry_eq]
  generalize (lg_sl ([.ref (ad 0 0), .int (nI o)]) ++ List.replicate (3 - (lg_sl ([.ref (ad 0 0), .int (nI o)])).length) Slot.unset).toArray = ls at hl ⊢
  have hl : lv_has ls 3 [(0, .ref (ad 0 0)), (1, .int (nI o))] := hl
  refine lv_aload_n hx hb dX10_deliveredCost_0 rfl (lv_at hl 0 rfl) ?_
  refine lv_iload_n hx hb dX10_deliveredCost_1 rfl (lv_at hl 1 rfl) ?_
  obtain ⟨q1, e2⟩ := cell_0 hR (rfl : (0 : Nat) = 0)
  refine gro_q (ci := 12) (As := [.int (nI o)]) (rest := []) ⟨hx, hb, hml, hown, hta⟩ (c_X10_knownOrder l hR hW ho) (cwV 1 hta (gWV mw559 mw560 mw20 mw40 mw561) rfl rfl rfl (by decide +kernel) ⟨Nat.le_of_ble_eq_true rfl, Nat.le_of_ble_eq_true rfl⟩) hK hP hD rfl e2 rfl hl.1 rfl (Nat.le_of_ble_eq_true rfl) dX10_deliveredCost_2 ⟨Nat.zero_le _, Nat.zero_le _⟩ (fun r3 c4 => ?_)
  obtain rfl := c4
  change W _ _ _ _ _ _ _ _ _ _ _ _ _ _ _ (F0 _ _ _ (rf ad 11 (some o) :: []))
  rw [rf_some]
  refine lv_astore_n (lv' := [(2, .ref (ad 11 o)), (0, .ref (ad 0 0)), (1, .int (nI o))]) hx hb dX10_deliveredCost_5 rfl hl (by decide) rfl (fun ls hl => ?_)
  refine lv_aload_n hx hb dX10_deliveredCost_6 rfl (lv_at hl 0 rfl) ?_
  refine get_state_11 hx hb hta iwX7 hown hK hP hR ho (hta _ mw546) dX10_deliveredCost_7 ?_
  refine lv_bipush (v := 100) hx hb dX10_deliveredCost_10 (by decide) ?_
  refine lv_icmp_eq (tgt := 26) hx hb dX10_deliveredCost_12 (by decide) (fun c5 => ?_) (fun c5 => ?_)
  · skip
    refine lv_aload_n hx hb dX10_deliveredCost_26 rfl (lv_at hl 0 rfl) ?_
    refine get_deliveredCost_11 hx hb hta iwX7 hown hK hP hR ho (hta _ mw550) dX10_deliveredCost_27 ?_
    exact W.lret (v := (sJ S 4 o)) hx hb hr (fun t ht hWm => ⟨_, rfl, rfl, ht⟩) (fun q h => absurd h List.not_mem_nil) dX10_deliveredCost_30
  · exact absurd hn c5

