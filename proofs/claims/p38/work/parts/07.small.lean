/-! small methods of lots and orders, and what is free of a part (made by wip/gen/spec_a.py) -/
set_option maxHeartbeats 4000000 in
set_option maxRecDepth 100000 in
theorem c_X7_piecesOf (l : Launch) {D : va_G} {tA : Nat → ClassId} {S : St} {ad : Nat → Nat → Nat} {L : List Nat} {f : Nat → va_E} (hR : Rep tA S ad L f) (hW : WT S) {i o : Nat} (hi : i < sN S 2 0) (ho : o < sN S 3 0) : Met l yX7_piecesOf (wsC yX7_piecesOf cX7_piecesOf 3 (some .int)) ({ frames := 0, cells := 0, slots := 0, locals := 0 }) (va_Pc [.ref (ad 11 o), .ref (ad 7 i)] (gB D tA L f)) (vp_Si (fun r => r = sP S o i)) 0 0 (fun _ => False) := by
  refine Met.ofW (cc := cX7_piecesOf) (maxL := 3) (ret := (some .int)) (by decide) rfl ?_
  intro p e s m args below meth c s₁ B hml hv
  obtain ⟨rfl, hP, hK, hD⟩ := hv
  have hx := B.exec
  have hb := B.bytes
  have hr := B.returns
  have hts := atoms_spec (ws := wsC yX7_piecesOf cX7_piecesOf 3 (some .int)) B.pre
  have hta : ∀ w ∈ WA, w.before _ s = true := fun w h => hts w (List.mem_cons_of_mem _ h)
  have hown : s.vm.findClass RX7 = some m.cls := findClass_of_methodNamed B.named
  have hlocks := B.notSynchronized
  have hP : va_P D vwCl (va_pl L f) s.heap := hP
  have hl := lv_entry ([.ref (ad 11 o), .ref (ad 7 i)]) (n := 3) (Nat.le_of_ble_eq_true rfl)
  rw [lg_entry_eq]
  generalize (lg_sl ([.ref (ad 11 o), .ref (ad 7 i)]) ++ List.replicate (3 - (lg_sl ([.ref (ad 11 o), .ref (ad 7 i)])).length) Slot.unset).toArray = ls at hl ⊢
  have hl : lv_has ls 3 [(0, .ref (ad 11 o)), (1, .ref (ad 7 i))] := hl
  refine lv_aload_n hx hb dX7_piecesOf_0 rfl (lv_at hl 1 rfl) ?_
  refine get_number_7 hx hb hta iwX3 hown hK hP hR hi (hta _ mw405) dX7_piecesOf_1 ?_
  refine lv_istore_n (lv' := [(2, .int (nI i)), (0, .ref (ad 11 o)), (1, .ref (ad 7 i))]) hx hb dX7_piecesOf_4 rfl hl (by decide) rfl (fun ls hl => ?_)
  refine lv_iload_n hx hb dX7_piecesOf_5 rfl (lv_at hl 0 rfl) ?_
  refine lv_if_lt (tgt := 27) hx hb dX7_piecesOf_6 (by decide) (fun c1 => ?_) (fun c1 => ?_)
  · exact absurd c1 (nI_pos (by have := hW.nL; omega))
  · skip
    refine lv_iload_n hx hb dX7_piecesOf_9 rfl (lv_at hl 0 rfl) ?_
    refine lv_aload_n hx hb dX7_piecesOf_10 rfl (lv_at hl 1 rfl) ?_
    refine get_pieces_11 hx hb hta iwX7 hown hK hP hR ho (hta _ mw544) dX7_piecesOf_11 ?_
    refine len_pieces hx hb hK hP hR ho dX7_piecesOf_14 ?_
    refine lv_icmp_ge (tgt := 27) hx hb dX7_piecesOf_15 (by decide) (fun c2 => ?_) (fun c2 => ?_)
    · exact absurd c2 (nI_ge (a := i) (b := 90) (by have := hW.nL; omega) (by decide))
    · skip
      refine lv_aload_n hx hb dX7_piecesOf_18 rfl (lv_at hl 1 rfl) ?_
      refine get_pieces_11 hx hb hta iwX7 hown hK hP hR ho (hta _ mw544) dX7_piecesOf_19 ?_
      refine lv_iload_n hx hb dX7_piecesOf_22 rfl (lv_at hl 0 rfl) ?_
      refine ld_pieces hx hb hK hP hR ho (Nat.lt_of_lt_of_le hi hW.nL) dX7_piecesOf_23 ?_
      refine lv_goto (tgt := 28) hx hb dX7_piecesOf_24 (by decide) ?_
      exact W.iret (v := (sP S o i)) hx hb hr (fun t ht hWm => ⟨_, rfl, rfl, ht⟩) (fun q h => absurd h List.not_mem_nil) dX7_piecesOf_28

set_option maxHeartbeats 4000000 in
set_option maxRecDepth 100000 in
theorem c_X7_addPieces (l : Launch) {D : va_G} {tA : Nat → ClassId} {S : St} {ad : Nat → Nat → Nat} {L : List Nat} {f : Nat → va_E} {sz : Nat} (hR : Rep tA S ad L f) (hW : WT S) {i o : Nat} (hi : i < sN S 2 0) (ho : o < sN S 3 0) (v : Int32) : Met l yX7_addPieces (wsC yX7_addPieces cX7_addPieces 4 none) ({ frames := 0, cells := 0, slots := 0, locals := 0 }) (va_Pc [.ref (ad 11 o), .ref (ad 7 i), .int v] (gZ D tA L f sz)) (va_Qv (fun u : gU => uP S o i (sP S o i + v) = u.1 ∧ ad = u.2.1 ∧ L = u.2.2.1) (gE D tA (va_A (va_pl L f) sz)) (va_A (va_pl L f) sz)) 0 0 (va_A (va_pl L f) sz) := by
  refine Met.ofW (cc := cX7_addPieces) (maxL := 4) (ret := none) (by decide) rfl ?_
  intro p e s m args below meth c s₁ B hml hv
  obtain ⟨rfl, hsz, hP, hK, hD0⟩ := hv
  have hx := B.exec
  have hb := B.bytes
  have hr := B.returns
  have hts := atoms_spec (ws := wsC yX7_addPieces cX7_addPieces 4 none) B.pre
  have hta : ∀ w ∈ WA, w.before _ s = true := fun w h => hts w (List.mem_cons_of_mem _ h)
  have hown : s.vm.findClass RX7 = some m.cls := findClass_of_methodNamed B.named
  have hlocks := B.notSynchronized
  subst hsz
  have hD : va_D (va_A (va_pl L f) s.heap.size) (va_pl L f) := hD0.self (sz := s.heap.size)
  generalize hAe : va_A (va_pl L f) s.heap.size = A at hD ⊢
  have hA : ∀ q : Nat, s.heap.size ≤ q → A q := fun q h => by rw [← hAe]; exact Or.inr h
  have hS : va_S A s.heap s.heap [] := va_S.rf
  have hP : va_P D vwCl (va_pl L f) s.heap := hP
  have hl := lv_entry ([.ref (ad 11 o), .ref (ad 7 i), .int v]) (n := 4) (Nat.le_of_ble_eq_true rfl)
  rw [lg_entry_eq]
  generalize (lg_sl ([.ref (ad 11 o), .ref (ad 7 i), .int v]) ++ List.replicate (4 - (lg_sl ([.ref (ad 11 o), .ref (ad 7 i), .int v])).length) Slot.unset).toArray = ls at hl ⊢
  have hl : lv_has ls 4 [(0, .ref (ad 11 o)), (1, .ref (ad 7 i)), (2, .int v)] := hl
  refine lv_aload_n hx hb dX7_addPieces_0 rfl (lv_at hl 1 rfl) ?_
  refine get_number_7 hx hb hta iwX3 hown hK hP hR hi (hta _ mw405) dX7_addPieces_1 ?_
  refine lv_istore_n (lv' := [(3, .int (nI i)), (0, .ref (ad 11 o)), (1, .ref (ad 7 i)), (2, .int v)]) hx hb dX7_addPieces_4 rfl hl (by decide) rfl (fun ls hl => ?_)
  refine lv_iload_n hx hb dX7_addPieces_5 rfl (lv_at hl 0 rfl) ?_
  refine lv_if_lt (tgt := 28) hx hb dX7_addPieces_6 (by decide) (fun c1 => ?_) (fun c1 => ?_)
  · exact absurd c1 (nI_pos (by have := hW.nL; omega))
  · skip
    refine lv_iload_n hx hb dX7_addPieces_9 rfl (lv_at hl 0 rfl) ?_
    refine lv_aload_n hx hb dX7_addPieces_10 rfl (lv_at hl 1 rfl) ?_
    refine get_pieces_11 hx hb hta iwX7 hown hK hP hR ho (hta _ mw544) dX7_addPieces_11 ?_
    refine len_pieces hx hb hK hP hR ho dX7_addPieces_14 ?_
    refine lv_icmp_ge (tgt := 28) hx hb dX7_addPieces_15 (by decide) (fun c2 => ?_) (fun c2 => ?_)
    · exact absurd c2 (nI_ge (a := i) (b := 90) (by have := hW.nL; omega) (by decide))
    · skip
      refine lv_aload_n hx hb dX7_addPieces_18 rfl (lv_at hl 1 rfl) ?_
      refine get_pieces_11 hx hb hta iwX7 hown hK hP hR ho (hta _ mw544) dX7_addPieces_19 ?_
      refine lv_iload_n hx hb dX7_addPieces_22 rfl (lv_at hl 0 rfl) ?_
      refine lv_dup2_11 hx hb dX7_addPieces_23 rfl rfl ?_
      refine ld_pieces hx hb hK hP hR ho (Nat.lt_of_lt_of_le hi hW.nL) dX7_addPieces_24 ?_
      refine lv_iload_n hx hb dX7_addPieces_25 rfl (lv_at hl 3 rfl) ?_
      refine lv_iadd hx hb dX7_addPieces_26 ?_
      refine st_pieces (v := ((sP S o i) + v)) hx hb hK hP hD hS hR ho (Nat.lt_of_lt_of_le hi hW.nL) dX7_addPieces_27 (fun H locs f hP hD hS hR => ?_)
      exact W.vret hx hb hr (fun t ht hWm => gend_v (u := (uP S o i ((sP S o i) + v), ad, L, f)) ⟨rfl, rfl, rfl⟩ hR hP hK hD hS ht hWm) hS.2.2 dX7_addPieces_28

/-- the states as the class has them -/
abbrev oInWork (S : St) (o : Nat) : Bool := sI S 53 o == 119 || sI S 53 o == 111
set_option maxHeartbeats 4000000 in
set_option maxRecDepth 100000 in
theorem c_X7_isInWork (l : Launch) {D : va_G} {tA : Nat → ClassId} {S : St} {ad : Nat → Nat → Nat} {L : List Nat} {f : Nat → va_E} (hR : Rep tA S ad L f) {o : Nat} (ho : o < sN S 3 0) : Met l yX7_isInWork (wsC yX7_isInWork cX7_isInWork 1 (some .boolean)) ({ frames := 0, cells := 0, slots := 0, locals := 0 }) (va_Pc [.ref (ad 11 o)] (gB D tA L f)) (vp_Si (fun r => r = bI (oInWork S o))) 0 0 (fun _ => False) := by
  refine Met.ofW (cc := cX7_isInWork) (maxL := 1) (ret := (some .boolean)) (by decide) rfl ?_
  intro p e s m args below meth c s₁ B hml hv
  obtain ⟨rfl, hP, hK, hD⟩ := hv
  have hx := B.exec
  have hb := B.bytes
  have hr := B.returns
  have hts := atoms_spec (ws := wsC yX7_isInWork cX7_isInWork 1 (some .boolean)) B.pre
  have hta : ∀ w ∈ WA, w.before _ s = true := fun w h => hts w (List.mem_cons_of_mem _ h)
  have hown : s.vm.findClass RX7 = some m.cls := findClass_of_methodNamed B.named
  have hlocks := B.notSynchronized
  have hP : va_P D vwCl (va_pl L f) s.heap := hP
  have hl := lv_entry ([.ref (ad 11 o)]) (n := 1) (Nat.le_of_ble_eq_true rfl)
  rw [lg_entry_eq]
  generalize (lg_sl ([.ref (ad 11 o)]) ++ List.replicate (1 - (lg_sl ([.ref (ad 11 o)])).length) Slot.unset).toArray = ls at hl ⊢
  have hl : lv_has ls 1 [(0, .ref (ad 11 o))] := hl
  refine lv_aload_n hx hb dX7_isInWork_0 rfl (lv_at hl 0 rfl) ?_
  refine get_state_11 hx hb hta iwX7 hown hK hP hR ho (hta _ mw545) dX7_isInWork_1 ?_
  refine lv_bipush (v := 119) hx hb dX7_isInWork_4 (by decide) ?_
  refine lv_icmp_eq (tgt := 18) hx hb dX7_isInWork_6 (by decide) (fun c1 => ?_) (fun c1 => ?_)
  · skip
    refine lv_iconst (v := 1) hx hb dX7_isInWork_18 (by decide) ?_
    refine lv_goto (tgt := 23) hx hb dX7_isInWork_19 (by decide) ?_
    exact W.zret (v := 1) (ty := .boolean) hx hb hr (by decide) (fun t ht hWm => ⟨_, rfl, (by simp only [oInWork, c1]; rfl), ht⟩) (fun q h => absurd h List.not_mem_nil) dX7_isInWork_23
  · skip
    refine lv_aload_n hx hb dX7_isInWork_9 rfl (lv_at hl 0 rfl) ?_
    refine get_state_11 hx hb hta iwX7 hown hK hP hR ho (hta _ mw545) dX7_isInWork_10 ?_
    refine lv_bipush (v := 111) hx hb dX7_isInWork_13 (by decide) ?_
    refine lv_icmp_ne (tgt := 22) hx hb dX7_isInWork_15 (by decide) (fun c2 => ?_) (fun c2 => ?_)
    · skip
      refine lv_iconst (v := 0) hx hb dX7_isInWork_22 (by decide) ?_
      exact W.zret (v := 0) (ty := .boolean) hx hb hr (by decide) (fun t ht hWm => ⟨_, rfl, (by simp only [oInWork, beq_eq_false_iff_ne.mpr c1, beq_eq_false_iff_ne.mpr c2]; rfl), ht⟩) (fun q h => absurd h List.not_mem_nil) dX7_isInWork_23
    · skip
      refine lv_iconst (v := 1) hx hb dX7_isInWork_18 (by decide) ?_
      refine lv_goto (tgt := 23) hx hb dX7_isInWork_19 (by decide) ?_
      exact W.zret (v := 1) (ty := .boolean) hx hb hr (by decide) (fun t ht hWm => ⟨_, rfl, (by simp only [oInWork, beq_eq_false_iff_ne.mpr c1, c2]; rfl), ht⟩) (fun q h => absurd h List.not_mem_nil) dX7_isInWork_23

/-- taking k pieces of lot i: what it costs, and the state behind -/
def tkC (S : St) (i : Nat) (k : Int32) : Int64 := if sI S 41 i ≤ 0 then 0 else if 0 < k then sJ S 3 i * k.toInt64 / (sI S 41 i).toInt64 else 0
def tkA (S : St) (i : Nat) (k : Int32) : IJP := if sI S 41 i ≤ 0 then sA S else if 0 < k then sA (uJ (uI S 41 i (sI S 41 i - k)) 3 i (sJ S 3 i - sJ S 3 i * k.toInt64 / (sI S 41 i).toInt64)) else sA S
abbrev tkS (S : St) (i : Nat) (k : Int32) : St := sM S (tkA S i k)
theorem l_ne0 {x : Int32} (h : ¬ x ≤ 0) : ¬ x.toInt64 = 0 := fun q => h (by
  have h2 := congrArg Int64.toInt q
  rw [Int32.toInt_toInt64] at h2
  rw [Int32.le_iff_toInt_le, h2]; decide)
set_option maxHeartbeats 4000000 in
set_option maxRecDepth 100000 in
theorem c_X3_take (l : Launch) {D : va_G} {tA : Nat → ClassId} {S : St} {ad : Nat → Nat → Nat} {L : List Nat} {f : Nat → va_E} {sz : Nat} (hR : Rep tA S ad L f) {i : Nat} (hi : i < sN S 2 0) (k : Int32) : Met l yX3_take (wsC yX3_take cX3_take 4 (some .long)) ({ frames := 0, cells := 0, slots := 0, locals := 0 }) (va_Pc [.ref (ad 7 i), .int k] (gZ D tA L f sz)) (va_Ql (fun (r : Int64) (u : gU) => r = tkC S i k ∧ tkS S i k = u.1 ∧ ad = u.2.1 ∧ L = u.2.2.1) (gE D tA (va_A (va_pl L f) sz)) (va_A (va_pl L f) sz)) 0 0 (va_A (va_pl L f) sz) := by
  refine Met.ofW (cc := cX3_take) (maxL := 4) (ret := (some .long)) (by decide) rfl ?_
  intro p e s m args below meth c s₁ B hml hv
  obtain ⟨rfl, hsz, hP, hK, hD0⟩ := hv
  have hx := B.exec
  have hb := B.bytes
  have hr := B.returns
  have hts := atoms_spec (ws := wsC yX3_take cX3_take 4 (some .long)) B.pre
  have hta : ∀ w ∈ WA, w.before _ s = true := fun w h => hts w (List.mem_cons_of_mem _ h)
  have hown : s.vm.findClass RX3 = some m.cls := findClass_of_methodNamed B.named
  have hlocks := B.notSynchronized
  subst hsz
  have hD : va_D (va_A (va_pl L f) s.heap.size) (va_pl L f) := hD0.self (sz := s.heap.size)
  generalize hAe : va_A (va_pl L f) s.heap.size = A at hD ⊢
  have hA : ∀ q : Nat, s.heap.size ≤ q → A q := fun q h => by rw [← hAe]; exact Or.inr h
  have hS : va_S A s.heap s.heap [] := va_S.rf
  have hP : va_P D vwCl (va_pl L f) s.heap := hP
  have hl := lv_entry ([.ref (ad 7 i), .int k]) (n := 4) (Nat.le_of_ble_eq_true rfl)
  rw [lg_entry_eq]
  generalize (lg_sl ([.ref (ad 7 i), .int k]) ++ List.replicate (4 - (lg_sl ([.ref (ad 7 i), .int k])).length) Slot.unset).toArray = ls at hl ⊢
  have hl : lv_has ls 4 [(0, .ref (ad 7 i)), (1, .int k)] := hl
  refine lv_aload_n hx hb dX3_take_0 rfl (lv_at hl 0 rfl) ?_
  refine get_rest_7 hx hb hta iwX3 hown hK hP hR hi (hta _ mw420) dX3_take_1 ?_
  refine lv_if_le (tgt := 11) hx hb dX3_take_4 (by decide) (fun c1 => ?_) (fun c1 => ?_)
  · skip
    refine lv_lconst (v := 0) hx hb dX3_take_11 (by decide) ?_
    exact W.lret (v := 0) hx hb hr (fun t ht hWm => gend_l (u := (S, ad, L, f)) ⟨by simp only [tkC, if_pos c1], by simp only [tkS, tkA, if_pos c1]; (try rfl), rfl, rfl⟩ hR hP hK hD hS ht hWm) hS.2.2 dX3_take_12
  · skip
    refine lv_iload_n hx hb dX3_take_7 rfl (lv_at hl 1 rfl) ?_
    refine lv_if_gt (tgt := 13) hx hb dX3_take_8 (by decide) (fun c2 => ?_) (fun c2 => ?_)
    · skip
      refine lv_aload_n hx hb dX3_take_13 rfl (lv_at hl 0 rfl) ?_
      refine get_cost_7 hx hb hta iwX3 hown hK hP hR hi (hta _ mw424) dX3_take_14 ?_
      refine lv_iload_n hx hb dX3_take_17 rfl (lv_at hl 1 rfl) ?_
      refine lv_i2l (v := k.toInt64) hx hb dX3_take_18 rfl ?_
      refine lv_lmul hx hb dX3_take_19 ?_
      refine lv_aload_n hx hb dX3_take_20 rfl (lv_at hl 0 rfl) ?_
      refine get_rest_7 hx hb hta iwX3 hown hK hP hR hi (hta _ mw420) dX3_take_21 ?_
      refine lv_i2l (v := (sI S 41 i).toInt64) hx hb dX3_take_24 rfl ?_
      refine lv_ldiv hx hb dX3_take_25 (l_ne0 c1) ?_
      refine lv_lstore_n (lv' := [(2, .long (((sJ S 3 i) * k.toInt64) / ((sI S 41 i).toInt64))), (0, .ref (ad 7 i)), (1, .int k)]) hx hb dX3_take_26 rfl hl (by decide) rfl (fun ls hl => ?_)
      refine lv_aload_n hx hb dX3_take_27 rfl (lv_at hl 1 rfl) ?_
      refine lv_dup hx hb dX3_take_28 rfl ?_
      refine get_rest_7 hx hb hta iwX3 hown hK hP hR hi (hta _ mw420) dX3_take_29 ?_
      refine lv_iload_n hx hb dX3_take_32 rfl (lv_at hl 2 rfl) ?_
      refine lv_isub hx hb dX3_take_33 ?_
      refine put_rest_7 (v := ((sI S 41 i) - k : Int32)) hx hb hta iwX3 hown hK hP hD hS hR hi (hta _ mw420) dX3_take_34 (fun H locs f hP hD hS hR => ?_)
      refine lv_aload_n hx hb dX3_take_37 rfl (lv_at hl 1 rfl) ?_
      refine lv_dup hx hb dX3_take_38 rfl ?_
      refine get_cost_7 hx hb hta iwX3 hown hK hP hR hi (hta _ mw424) dX3_take_39 ?_
      refine lv_lload_n hx hb dX3_take_42 rfl (lv_at hl 0 rfl) ?_
      refine lv_lsub hx hb dX3_take_43 ?_
      refine put_cost_7 (v := ((sJ S 3 i) - (((sJ S 3 i) * k.toInt64) / ((sI S 41 i).toInt64)) : Int64)) hx hb hta iwX3 hown hK hP hD hS hR hi (hta _ mw424) dX3_take_44 (fun H locs f hP hD hS hR => ?_)
      refine lv_lload_n hx hb dX3_take_47 rfl (lv_at hl 0 rfl) ?_
      exact W.lret (v := (((sJ S 3 i) * k.toInt64) / ((sI S 41 i).toInt64))) hx hb hr (fun t ht hWm => gend_l (u := (uJ (uI S 41 i ((sI S 41 i) - k)) 3 i ((sJ S 3 i) - (((sJ S 3 i) * k.toInt64) / ((sI S 41 i).toInt64))), ad, L, f)) ⟨by simp only [tkC, if_neg c1, if_pos c2], by simp only [tkS, tkA, if_neg c1, if_pos c2]; (try rfl), rfl, rfl⟩ hR hP hK hD hS ht hWm) hS.2.2 dX3_take_48
    · skip
      refine lv_lconst (v := 0) hx hb dX3_take_11 (by decide) ?_
      exact W.lret (v := 0) hx hb hr (fun t ht hWm => gend_l (u := (S, ad, L, f)) ⟨by simp only [tkC, if_neg c1, if_neg c2], by simp only [tkS, tkA, if_neg c1, if_neg c2]; (try rfl), rfl, rfl⟩ hR hP hK hD hS ht hWm) hS.2.2 dX3_take_12

theorem bI_t {b : Bool} (h : ¬ bI b = 0) : b = true := by cases b with
  | false => exact absurd rfl h
  | true => rfl
theorem bI_f {b : Bool} (h : bI b = 0) : b = false := by cases b with
  | false => rfl
  | true => exact absurd h (by decide)
/-- a lot is held: on hold itself, or one that is in it -/
def barred (S : St) (i : Nat) : Bool := nsM S 14 0 i || nsMeets (nsLo S 8 i) (nsHi S 8 i) (nsLo S 14 0) (nsHi S 14 0)
def free (S : St) (i : Nat) : Int32 := if barred S i = true then 0 else sI S 41 i - sI S 42 i
def fpo1 (S : St) (p j : Nat) (a : Int32) : Int32 := if j < sN S 2 0 then (if sN S 6 j = p then a + free S j else a) else a
/-- what is free of part p -/
def fpo (S : St) (p : Nat) : Int32 := it (fpo1 S p) 90 0
set_option maxHeartbeats 4000000 in
set_option maxRecDepth 100000 in
theorem c_X10_isBarred (l : Launch) {D : va_G} {tA : Nat → ClassId} {S : St} {ad : Nat → Nat → Nat} {L : List Nat} {f : Nat → va_E} (hR : Rep tA S ad L f) (hW : WT S) {i : Nat} (hi : i < sN S 2 0) : Met l yX10_isBarred (wsC yX10_isBarred cX10_isBarred 2 (some .boolean)) ({ frames := 1, cells := 0, slots := 0, locals := 21 }) (va_Pc [.ref (ad 0 0), .ref (ad 7 i)] (gB D tA L f)) (vp_Si (fun r => r = bI (barred S i))) 0 0 (fun _ => False) := by
  refine Met.ofW (cc := cX10_isBarred) (maxL := 2) (ret := (some .boolean)) (by decide) rfl ?_
  intro p e s m args below meth c s₁ B hml hv
  obtain ⟨rfl, hP, hK, hD⟩ := hv
  have hx := B.exec
  have hb := B.bytes
  have hr := B.returns
  have hts := atoms_spec (ws := wsC yX10_isBarred cX10_isBarred 2 (some .boolean)) B.pre
  have hta : ∀ w ∈ WA, w.before _ s = true := fun w h => hts w (List.mem_cons_of_mem _ h)
  have hown : s.vm.findClass RX10 = some m.cls := findClass_of_methodNamed B.named
  have hlocks := B.notSynchronized
  have hP : va_P D vwCl (va_pl L f) s.heap := hP
  have hl := lv_entry ([.ref (ad 0 0), .ref (ad 7 i)]) (n := 2) (Nat.le_of_ble_eq_true rfl)
  rw [lg_entry_eq]
  generalize (lg_sl ([.ref (ad 0 0), .ref (ad 7 i)]) ++ List.replicate (2 - (lg_sl ([.ref (ad 0 0), .ref (ad 7 i)])).length) Slot.unset).toArray = ls at hl ⊢
  have hl : lv_has ls 2 [(0, .ref (ad 0 0)), (1, .ref (ad 7 i))] := hl
  refine lv_aload_n hx hb dX10_isBarred_0 rfl (lv_at hl 0 rfl) ?_
  refine get_onHold_0 hx hb hta iwX10 hown hK hP hR (rfl : (0 : Nat) = 0) (hta _ mw101) dX10_isBarred_1 ?_
  refine lv_aload_n hx hb dX10_isBarred_4 rfl (lv_at hl 1 rfl) ?_
  refine get_number_7 hx hb hta iwX3 hown hK hP hR hi (hta _ mw407) dX10_isBarred_5 ?_
  obtain ⟨q1, e2⟩ := cell_14 hR (rfl : (0 : Nat) = 0)
  refine gro_i (ci := 7) (As := [.int (nI i)]) (rest := []) ⟨hx, hb, hml, hown, hta⟩ (c_X5_has l hR (k := 14) (i := 0) ⟨rfl, (rfl : (0 : Nat) = 0)⟩ (j := i) (Nat.lt_of_lt_of_le hi (Nat.le_trans hW.nL (by decide)))) (cwV 1 hta (gWV mw194 mw195 mw196 mw41 mw197) rfl rfl rfl (by decide +kernel) ⟨Nat.le_of_ble_eq_true rfl, Nat.le_of_ble_eq_true rfl⟩) hK hP hD rfl e2 rfl hl.1 rfl (Nat.le_of_ble_eq_true rfl) dX10_isBarred_8 ⟨Nat.zero_le _, Nat.zero_le _⟩ (fun r3 c4 => ?_)
  obtain rfl := c4
  refine lv_if_ne (tgt := 28) hx hb dX10_isBarred_11 (by decide) (fun c5 => ?_) (fun c5 => ?_)
  · skip
    have c5 := bI_t c5
    refine lv_iconst (v := 1) hx hb dX10_isBarred_28 (by decide) ?_
    refine lv_goto (tgt := 33) hx hb dX10_isBarred_29 (by decide) ?_
    exact W.zret (v := 1) (ty := .boolean) hx hb hr (by decide) (fun t ht hWm => ⟨_, rfl, (by simp only [barred, c5]; rfl), ht⟩) (fun q h => absurd h List.not_mem_nil) dX10_isBarred_33
  · skip
    have c5 := bI_f c5
    refine lv_aload_n hx hb dX10_isBarred_14 rfl (lv_at hl 1 rfl) ?_
    refine get_inside_7 hx hb hta iwX3 hown hK hP hR hi (hta _ mw415) dX10_isBarred_15 ?_
    refine lv_aload_n hx hb dX10_isBarred_18 rfl (lv_at hl 0 rfl) ?_
    refine get_onHold_0 hx hb hta iwX10 hown hK hP hR (rfl : (0 : Nat) = 0) (hta _ mw101) dX10_isBarred_19 ?_
    obtain ⟨q6, e7⟩ := cell_8 hR hi
    refine gro_i (ci := 7) (As := [.ref (ad 14 0)]) (rest := []) ⟨hx, hb, hml, hown, hta⟩ (c_X5_meets l hR (k := 8) (i := i) ⟨rfl, hi⟩ (k2 := 14) (i2 := 0) ⟨rfl, (rfl : (0 : Nat) = 0)⟩) (cwV 1 hta (gWV mw198 mw199 mw200 mw41 mw201) rfl rfl rfl (by decide +kernel) ⟨Nat.le_of_ble_eq_true rfl, Nat.le_of_ble_eq_true rfl⟩) hK hP hD rfl e7 rfl hl.1 rfl (Nat.le_of_ble_eq_true rfl) dX10_isBarred_22 ⟨Nat.zero_le _, Nat.zero_le _⟩ (fun r8 c9 => ?_)
    obtain rfl := c9
    refine lv_if_eq (tgt := 32) hx hb dX10_isBarred_25 (by decide) (fun c10 => ?_) (fun c10 => ?_)
    · skip
      have c10 := bI_f c10
      refine lv_iconst (v := 0) hx hb dX10_isBarred_32 (by decide) ?_
      exact W.zret (v := 0) (ty := .boolean) hx hb hr (by decide) (fun t ht hWm => ⟨_, rfl, (by simp only [barred, c5, c10]; rfl), ht⟩) (fun q h => absurd h List.not_mem_nil) dX10_isBarred_33
    · skip
      have c10 := bI_t c10
      refine lv_iconst (v := 1) hx hb dX10_isBarred_28 (by decide) ?_
      refine lv_goto (tgt := 33) hx hb dX10_isBarred_29 (by decide) ?_
      exact W.zret (v := 1) (ty := .boolean) hx hb hr (by decide) (fun t ht hWm => ⟨_, rfl, (by simp only [barred, c5, c10]; rfl), ht⟩) (fun q h => absurd h List.not_mem_nil) dX10_isBarred_33

set_option maxHeartbeats 4000000 in
set_option maxRecDepth 100000 in
theorem c_X10_freePieces (l : Launch) {D : va_G} {tA : Nat → ClassId} {S : St} {ad : Nat → Nat → Nat} {L : List Nat} {f : Nat → va_E} (hR : Rep tA S ad L f) (hW : WT S) {i : Nat} (hi : i < sN S 2 0) : Met l yX10_freePieces (wsC yX10_freePieces cX10_freePieces 2 (some .int)) ({ frames := 2, cells := 0, slots := 0, locals := 42 }) (va_Pc [.ref (ad 0 0), .ref (ad 7 i)] (gB D tA L f)) (vp_Si (fun r => r = free S i)) 0 0 (fun _ => False) := by
  refine Met.ofW (cc := cX10_freePieces) (maxL := 2) (ret := (some .int)) (by decide) rfl ?_
  intro p e s m args below meth c s₁ B hml hv
  obtain ⟨rfl, hP, hK, hD⟩ := hv
  have hx := B.exec
  have hb := B.bytes
  have hr := B.returns
  have hts := atoms_spec (ws := wsC yX10_freePieces cX10_freePieces 2 (some .int)) B.pre
  have hta : ∀ w ∈ WA, w.before _ s = true := fun w h => hts w (List.mem_cons_of_mem _ h)
  have hown : s.vm.findClass RX10 = some m.cls := findClass_of_methodNamed B.named
  have hlocks := B.notSynchronized
  have hP : va_P D vwCl (va_pl L f) s.heap := hP
  have hl := lv_entry ([.ref (ad 0 0), .ref (ad 7 i)]) (n := 2) (Nat.le_of_ble_eq_true rfl)
  rw [lg_entry_eq]
  generalize (lg_sl ([.ref (ad 0 0), .ref (ad 7 i)]) ++ List.replicate (2 - (lg_sl ([.ref (ad 0 0), .ref (ad 7 i)])).length) Slot.unset).toArray = ls at hl ⊢
  have hl : lv_has ls 2 [(0, .ref (ad 0 0)), (1, .ref (ad 7 i))] := hl
  refine lv_aload_n hx hb dX10_freePieces_0 rfl (lv_at hl 0 rfl) ?_
  refine lv_aload_n hx hb dX10_freePieces_1 rfl (lv_at hl 1 rfl) ?_
  obtain ⟨q1, e2⟩ := cell_0 hR (rfl : (0 : Nat) = 0)
  refine gro_i (ci := 12) (As := [.ref (ad 7 i)]) (rest := []) ⟨hx, hb, hml, hown, hta⟩ (c_X10_isBarred l hR hW hi) (cwV 1 hta (gWV mw191 mw192 mw6 mw40 mw193) rfl rfl rfl (by decide +kernel) ⟨Nat.le_of_ble_eq_true rfl, Nat.le_of_ble_eq_true rfl⟩) hK hP hD rfl e2 rfl hl.1 rfl (Nat.le_of_ble_eq_true rfl) dX10_freePieces_2 ⟨Nat.zero_le _, Nat.zero_le _⟩ (fun r3 c4 => ?_)
  obtain rfl := c4
  refine lv_if_eq (tgt := 12) hx hb dX10_freePieces_5 (by decide) (fun c5 => ?_) (fun c5 => ?_)
  · skip
    have c5 := bI_f c5
    refine lv_aload_n hx hb dX10_freePieces_12 rfl (lv_at hl 1 rfl) ?_
    refine get_rest_7 hx hb hta iwX3 hown hK hP hR hi (hta _ mw421) dX10_freePieces_13 ?_
    refine lv_aload_n hx hb dX10_freePieces_16 rfl (lv_at hl 1 rfl) ?_
    refine get_reserved_7 hx hb hta iwX3 hown hK hP hR hi (hta _ mw422) dX10_freePieces_17 ?_
    refine lv_isub hx hb dX10_freePieces_20 ?_
    exact W.iret (v := ((sI S 41 i) - (sI S 42 i))) hx hb hr (fun t ht hWm => ⟨_, rfl, (by simp only [free, c5]; rfl), ht⟩) (fun q h => absurd h List.not_mem_nil) dX10_freePieces_21
  · skip
    have c5 := bI_t c5
    refine lv_iconst (v := 0) hx hb dX10_freePieces_8 (by decide) ?_
    refine lv_goto (tgt := 21) hx hb dX10_freePieces_9 (by decide) ?_
    exact W.iret (v := 0) hx hb hr (fun t ht hWm => ⟨_, rfl, (by simp only [free, c5]; rfl), ht⟩) (fun q h => absurd h List.not_mem_nil) dX10_freePieces_21

set_option maxHeartbeats 4000000 in
set_option maxRecDepth 100000 in
theorem c_X10_freePiecesOf (l : Launch) {D : va_G} {tA : Nat → ClassId} {S : St} {ad : Nat → Nat → Nat} {L : List Nat} {f : Nat → va_E} (hR : Rep tA S ad L f) (hW : WT S) {p9 : Nat} (hp : p9 < sN S 1 0) : Met l yX10_freePiecesOf (wsC yX10_freePiecesOf cX10_freePiecesOf 7 (some .int)) ({ frames := 3, cells := 0, slots := 0, locals := 63 }) (va_Pc [.ref (ad 0 0), .ref (ad 2 p9)] (gB D tA L f)) (vp_Si (fun r => r = fpo S p9)) 0 0 (fun _ => False) := by
  refine Met.ofW (cc := cX10_freePiecesOf) (maxL := 7) (ret := (some .int)) (by decide) rfl ?_
  intro p e s m args below meth c s₁ B hml hv
  obtain ⟨rfl, hP, hK, hD⟩ := hv
  have hx := B.exec
  have hb := B.bytes
  have hr := B.returns
  have hts := atoms_spec (ws := wsC yX10_freePiecesOf cX10_freePiecesOf 7 (some .int)) B.pre
  have hta : ∀ w ∈ WA, w.before _ s = true := fun w h => hts w (List.mem_cons_of_mem _ h)
  have hown : s.vm.findClass RX10 = some m.cls := findClass_of_methodNamed B.named
  have hlocks := B.notSynchronized
  have hP : va_P D vwCl (va_pl L f) s.heap := hP
  have hl := lv_entry ([.ref (ad 0 0), .ref (ad 2 p9)]) (n := 7) (Nat.le_of_ble_eq_true rfl)
  rw [lg_entry_eq]
  generalize (lg_sl ([.ref (ad 0 0), .ref (ad 2 p9)]) ++ List.replicate (7 - (lg_sl ([.ref (ad 0 0), .ref (ad 2 p9)])).length) Slot.unset).toArray = ls at hl ⊢
  have hl : lv_has ls 7 [(0, .ref (ad 0 0)), (1, .ref (ad 2 p9))] := hl
  refine lv_iconst (v := 0) hx hb dX10_freePiecesOf_0 (by decide) ?_
  refine lv_istore_n (lv' := [(2, .int 0), (0, .ref (ad 0 0)), (1, .ref (ad 2 p9))]) hx hb dX10_freePiecesOf_1 rfl hl (by decide) rfl (fun ls hl => ?_)
  refine lv_aload_n hx hb dX10_freePiecesOf_2 rfl (lv_at hl 1 rfl) ?_
  refine get_lots_0 hx hb hta iwX10 hown hK hP hR (rfl : (0 : Nat) = 0) (hta _ mw99) dX10_freePiecesOf_3 ?_
  refine lv_astore_n (lv' := [(3, .ref (ad 18 0)), (2, .int 0), (0, .ref (ad 0 0)), (1, .ref (ad 2 p9))]) hx hb dX10_freePiecesOf_6 rfl hl (by decide) rfl (fun ls hl => ?_)
  refine lv_aload_n hx hb dX10_freePiecesOf_7 rfl (lv_at hl 0 rfl) ?_
  refine len_lots hx hb hK hP hR (rfl : (0 : Nat) = 0) dX10_freePiecesOf_8 ?_
  refine lv_istore (lv' := [(4, .int 90), (3, .ref (ad 18 0)), (2, .int 0), (0, .ref (ad 0 0)), (1, .ref (ad 2 p9))]) hx hb dX10_freePiecesOf_9 hl (by decide) rfl (fun ls hl => ?_)
  refine lv_iconst (v := 0) hx hb dX10_freePiecesOf_11 (by decide) ?_
  refine lv_istore (lv' := [(5, .int 0), (4, .int 90), (3, .ref (ad 18 0)), (2, .int 0), (0, .ref (ad 0 0)), (1, .ref (ad 2 p9))]) hx hb dX10_freePiecesOf_12 hl (by decide) rfl (fun ls hl => ?_)
  refine loop_g (σ := Array Slot) (Wg := fun ls => W p l e _ s m _ below meth c _ _ _ _ _ (F0 m 14 ls [])) 90 (fun j1 ls => lv_has ls 7 [(0, .ref (ad 0 0)), (1, .ref (ad 2 p9)), (2, .int (it (fpo1 S p9) j1 0)), (3, .ref (ad 18 0)), (4, .int 90), (5, .int (nI j1))]) (fun j1 hj2 ih3 ls hl => ?_) (fun ls hl => ?_) ls (lv_sub hl [4, 5, 3, 2, 1, 0] rfl)
  · skip
    refine lv_iload hx hb dX10_freePiecesOf_14 (lv_at hl 5 rfl) ?_
    refine lv_iload hx hb dX10_freePiecesOf_16 (lv_at hl 4 rfl) ?_
    refine lv_icmp_ge (tgt := 56) hx hb dX10_freePiecesOf_18 (by decide) (fun c4 => ?_) (fun c4 => ?_)
    · exact absurd c4 (nI_ge (a := j1) (b := 90) hj2 (by decide))
    · skip
      refine lv_aload_n hx hb dX10_freePiecesOf_21 rfl (lv_at hl 3 rfl) ?_
      refine lv_iload hx hb dX10_freePiecesOf_22 (lv_at hl 5 rfl) ?_
      refine ldn_lots hx hb hK hP hR (rfl : (0 : Nat) = 0) hj2 dX10_freePiecesOf_24 (fun h5 => ?_) (fun h5 => ?_)
      · skip
        refine lv_astore (lv' := [(6, .ref (ad 7 j1)), (0, .ref (ad 0 0)), (1, .ref (ad 2 p9)), (2, .int (it (fpo1 S p9) j1 0)), (3, .ref (ad 18 0)), (4, .int 90), (5, .int (nI j1))]) hx hb dX10_freePiecesOf_25 hl (by decide) rfl (fun ls hl => ?_)
        refine lv_aload hx hb dX10_freePiecesOf_27 (lv_at hl 0 rfl) ?_
        refine lv_ifnull hx hb dX10_freePiecesOf_29 ?_
        refine lv_aload hx hb dX10_freePiecesOf_32 (lv_at hl 0 rfl) ?_
        refine get_part_7 hx hb hta iwX3 hown hK hP hR h5 (hta _ mw409) dX10_freePiecesOf_34 ?_
        refine lv_aload_n hx hb dX10_freePiecesOf_37 rfl (lv_at hl 2 rfl) ?_
        refine lv_acmp_ne (rx := some (ad 2 (sN S 6 j1))) (ry := some (ad 2 p9)) (tgt := 50) hx hb dX10_freePiecesOf_38 (by decide) (fun c6 => ?_) (fun c6 => ?_)
        · skip
          have c6 := Rep.neq c6
          refine lv_iinc (v := nI (j1 + 1)) (lv' := [(5, .int (nI (j1 + 1))), (6, .ref (ad 7 j1)), (0, .ref (ad 0 0)), (1, .ref (ad 2 p9)), (2, .int (it (fpo1 S p9) j1 0)), (3, .ref (ad 18 0)), (4, .int 90)]) hx hb dX10_freePiecesOf_50 hl (k := 6) rfl (nI_1 _) (by decide) rfl (fun ls hl => ?_)
          refine lv_goto (tgt := 14) hx hb dX10_freePiecesOf_53 (by decide) ?_
          refine ih3 _ ?_
          have a8 : it (fpo1 S p9) (j1 + 1) 0 = it (fpo1 S p9) j1 0 := (by rw [it_s]; simp only [fpo1, if_pos h5, if_neg c6])
          rw [a8]
          exact lv_sub hl [2, 3, 4, 5, 6, 0] rfl
        · skip
          have c6 := hR.eq (k := 2) (i := sN S 6 j1) (j := p9) ((hW.lotPart h5)) (hp) c6
          refine lv_iload_n hx hb dX10_freePiecesOf_41 rfl (lv_at hl 3 rfl) ?_
          refine lv_aload_n hx hb dX10_freePiecesOf_42 rfl (lv_at hl 1 rfl) ?_
          refine lv_aload hx hb dX10_freePiecesOf_43 (lv_at hl 0 rfl) ?_
          obtain ⟨q7, e8⟩ := cell_0 hR (rfl : (0 : Nat) = 0)
          refine gro_i (ci := 12) (As := [.ref (ad 7 j1)]) (rest := [.int (it (fpo1 S p9) j1 0)]) ⟨hx, hb, hml, hown, hta⟩ (c_X10_freePieces l hR hW h5) (cwV 1 hta (gWV mw707 mw708 mw33 mw40 mw709) rfl rfl rfl (by decide +kernel) ⟨Nat.le_of_ble_eq_true rfl, Nat.le_of_ble_eq_true rfl⟩) hK hP hD rfl e8 rfl hl.1 rfl (Nat.le_of_ble_eq_true rfl) dX10_freePiecesOf_45 ⟨Nat.zero_le _, Nat.zero_le _⟩ (fun r9 c10 => ?_)
          obtain rfl := c10
          refine lv_iadd hx hb dX10_freePiecesOf_48 ?_
          refine lv_istore_n (lv' := [(2, .int ((it (fpo1 S p9) j1 0) + (free S j1))), (6, .ref (ad 7 j1)), (0, .ref (ad 0 0)), (1, .ref (ad 2 p9)), (3, .ref (ad 18 0)), (4, .int 90), (5, .int (nI j1))]) hx hb dX10_freePiecesOf_49 rfl hl (by decide) rfl (fun ls hl => ?_)
          refine lv_iinc (v := nI (j1 + 1)) (lv' := [(5, .int (nI (j1 + 1))), (2, .int ((it (fpo1 S p9) j1 0) + (free S j1))), (6, .ref (ad 7 j1)), (0, .ref (ad 0 0)), (1, .ref (ad 2 p9)), (3, .ref (ad 18 0)), (4, .int 90)]) hx hb dX10_freePiecesOf_50 hl (k := 6) rfl (nI_1 _) (by decide) rfl (fun ls hl => ?_)
          refine lv_goto (tgt := 14) hx hb dX10_freePiecesOf_53 (by decide) ?_
          refine ih3 _ ?_
          have a8 : it (fpo1 S p9) (j1 + 1) 0 = (it (fpo1 S p9) j1 0) + (free S j1) := (by rw [it_s]; simp only [fpo1, if_pos h5, if_pos c6])
          rw [a8]
          exact lv_sub hl [3, 4, 1, 5, 6, 0] rfl
      · skip
        refine lv_astoreN (lv' := [(6, .null), (0, .ref (ad 0 0)), (1, .ref (ad 2 p9)), (2, .int (it (fpo1 S p9) j1 0)), (3, .ref (ad 18 0)), (4, .int 90), (5, .int (nI j1))]) hx hb dX10_freePiecesOf_25 hl (by decide) rfl (fun ls hl => ?_)
        refine lv_aloadN hx hb dX10_freePiecesOf_27 (lv_at hl 0 rfl) ?_
        refine lv_ifnullN (tgt := 50) hx hb dX10_freePiecesOf_29 (by decide) ?_
        refine lv_iinc (v := nI (j1 + 1)) (lv' := [(5, .int (nI (j1 + 1))), (6, .null), (0, .ref (ad 0 0)), (1, .ref (ad 2 p9)), (2, .int (it (fpo1 S p9) j1 0)), (3, .ref (ad 18 0)), (4, .int 90)]) hx hb dX10_freePiecesOf_50 hl (k := 6) rfl (nI_1 _) (by decide) rfl (fun ls hl => ?_)
        refine lv_goto (tgt := 14) hx hb dX10_freePiecesOf_53 (by decide) ?_
        refine ih3 _ ?_
        have a8 : it (fpo1 S p9) (j1 + 1) 0 = it (fpo1 S p9) j1 0 := (by rw [it_s]; simp only [fpo1, if_neg h5])
        rw [a8]
        exact lv_sub hl [2, 3, 4, 5, 6, 0] rfl
  · skip
    refine lv_iload hx hb dX10_freePiecesOf_14 (lv_at hl 5 rfl) ?_
    refine lv_iload hx hb dX10_freePiecesOf_16 (lv_at hl 4 rfl) ?_
    refine lv_icmp_ge (tgt := 56) hx hb dX10_freePiecesOf_18 (by decide) (fun c11 => ?_) (fun c11 => ?_)
    · skip
      refine lv_iload_n hx hb dX10_freePiecesOf_56 rfl (lv_at hl 2 rfl) ?_
      exact W.iret (v := (it (fpo1 S p9) 90 0)) hx hb hr (fun t ht hWm => ⟨_, rfl, rfl, ht⟩) (fun q h => absurd h List.not_mem_nil) dX10_freePiecesOf_57
    · exact absurd (nI_le (a := 90) (b := 90) (Nat.le_refl _) (by decide)) c11

