/-! what a supplier does (its answers are told weakly: only its own numbers change), receive (made by wip/gen/spec_n.py) -/
set_option maxHeartbeats 4000000 in
set_option maxRecDepth 100000 in
theorem c_J6_bitCount (l : Launch)  (x : Int32) : Met l yJ6_bitCount_0f7a4 (wsC yJ6_bitCount_0f7a4 cJ6_bitCount_0f7a4 1 (some .int)) ({ frames := 0, cells := 0, slots := 0, locals := 0 }) (va_Pc [.int x] (fun _ => True)) (vp_Si (fun r => True)) 0 0 (fun _ => False) := by
  refine Met.ofW (cc := cJ6_bitCount_0f7a4) (maxL := 1) (ret := (some .int)) (by decide) rfl ?_
  intro p e s m args below meth c s₁ B hml hv
  obtain ⟨rfl, -⟩ := hv
  have hx := B.exec
  have hb := B.bytes
  have hr := B.returns
  have hts := atoms_spec (ws := wsC yJ6_bitCount_0f7a4 cJ6_bitCount_0f7a4 1 (some .int)) B.pre
  have hta : ∀ w ∈ WA, w.before _ s = true := fun w h => hts w (List.mem_cons_of_mem _ h)
  have hown : s.vm.findClass RJ6 = some m.cls := findClass_of_methodNamed B.named
  have hlocks := B.notSynchronized
  have hl := lv_entry ([.int x]) (n := 1) (Nat.le_of_ble_eq_true rfl)
  rw [lg_entry_eq]
  generalize (lg_sl ([.int x]) ++ List.replicate (1 - (lg_sl ([.int x])).length) Slot.unset).toArray = ls at hl ⊢
  have hl : lv_has ls 1 [(0, .int x)] := hl
  refine lv_iload_n hx hb dJ6_bitCount_0f7a4_0 rfl (lv_at hl 0 rfl) ?_
  refine lv_iload_n hx hb dJ6_bitCount_0f7a4_1 rfl (lv_at hl 0 rfl) ?_
  refine lv_iconst (v := 1) hx hb dJ6_bitCount_0f7a4_2 (by decide) ?_
  refine lv_iushr (v := (x.toUInt32 >>> ((1 : Int32).toUInt32 &&& Int32.toUInt32 31)).toInt32) hx hb dJ6_bitCount_0f7a4_3 rfl ?_
  refine lv_ldcw (own := RJ6) (index := 265) (v := 1431655765) hx hb hown (hta _ mw442) dJ6_bitCount_0f7a4_4 ?_
  refine lv_iand hx hb dJ6_bitCount_0f7a4_7 ?_
  refine lv_isub hx hb dJ6_bitCount_0f7a4_8 ?_
  refine lv_istore_n (lv' := [(0, .int (x - (((x.toUInt32 >>> ((1 : Int32).toUInt32 &&& Int32.toUInt32 31)).toInt32) &&& 1431655765)))]) hx hb dJ6_bitCount_0f7a4_9 rfl hl (by decide) rfl (fun ls hl => ?_)
  refine lv_iload_n hx hb dJ6_bitCount_0f7a4_10 rfl (lv_at hl 0 rfl) ?_
  refine lv_ldcw (own := RJ6) (index := 266) (v := 858993459) hx hb hown (hta _ mw443) dJ6_bitCount_0f7a4_11 ?_
  refine lv_iand hx hb dJ6_bitCount_0f7a4_14 ?_
  refine lv_iload_n hx hb dJ6_bitCount_0f7a4_15 rfl (lv_at hl 0 rfl) ?_
  refine lv_iconst (v := 2) hx hb dJ6_bitCount_0f7a4_16 (by decide) ?_
  refine lv_iushr (v := ((x - (((x.toUInt32 >>> ((1 : Int32).toUInt32 &&& Int32.toUInt32 31)).toInt32) &&& 1431655765)).toUInt32 >>> ((2 : Int32).toUInt32 &&& Int32.toUInt32 31)).toInt32) hx hb dJ6_bitCount_0f7a4_17 rfl ?_
  refine lv_ldcw (own := RJ6) (index := 266) (v := 858993459) hx hb hown (hta _ mw443) dJ6_bitCount_0f7a4_18 ?_
  refine lv_iand hx hb dJ6_bitCount_0f7a4_21 ?_
  refine lv_iadd hx hb dJ6_bitCount_0f7a4_22 ?_
  refine lv_istore_n (lv' := [(0, .int (((x - (((x.toUInt32 >>> ((1 : Int32).toUInt32 &&& Int32.toUInt32 31)).toInt32) &&& 1431655765)) &&& 858993459) + ((((x - (((x.toUInt32 >>> ((1 : Int32).toUInt32 &&& Int32.toUInt32 31)).toInt32) &&& 1431655765)).toUInt32 >>> ((2 : Int32).toUInt32 &&& Int32.toUInt32 31)).toInt32) &&& 858993459)))]) hx hb dJ6_bitCount_0f7a4_23 rfl hl (by decide) rfl (fun ls hl => ?_)
  refine lv_iload_n hx hb dJ6_bitCount_0f7a4_24 rfl (lv_at hl 0 rfl) ?_
  refine lv_iload_n hx hb dJ6_bitCount_0f7a4_25 rfl (lv_at hl 0 rfl) ?_
  refine lv_iconst (v := 4) hx hb dJ6_bitCount_0f7a4_26 (by decide) ?_
  refine lv_iushr (v := ((((x - (((x.toUInt32 >>> ((1 : Int32).toUInt32 &&& Int32.toUInt32 31)).toInt32) &&& 1431655765)) &&& 858993459) + ((((x - (((x.toUInt32 >>> ((1 : Int32).toUInt32 &&& Int32.toUInt32 31)).toInt32) &&& 1431655765)).toUInt32 >>> ((2 : Int32).toUInt32 &&& Int32.toUInt32 31)).toInt32) &&& 858993459)).toUInt32 >>> ((4 : Int32).toUInt32 &&& Int32.toUInt32 31)).toInt32) hx hb dJ6_bitCount_0f7a4_27 rfl ?_
  refine lv_iadd hx hb dJ6_bitCount_0f7a4_28 ?_
  refine lv_ldcw (own := RJ6) (index := 267) (v := 252645135) hx hb hown (hta _ mw444) dJ6_bitCount_0f7a4_29 ?_
  refine lv_iand hx hb dJ6_bitCount_0f7a4_32 ?_
  refine lv_istore_n (lv' := [(0, .int (((((x - (((x.toUInt32 >>> ((1 : Int32).toUInt32 &&& Int32.toUInt32 31)).toInt32) &&& 1431655765)) &&& 858993459) + ((((x - (((x.toUInt32 >>> ((1 : Int32).toUInt32 &&& Int32.toUInt32 31)).toInt32) &&& 1431655765)).toUInt32 >>> ((2 : Int32).toUInt32 &&& Int32.toUInt32 31)).toInt32) &&& 858993459)) + (((((x - (((x.toUInt32 >>> ((1 : Int32).toUInt32 &&& Int32.toUInt32 31)).toInt32) &&& 1431655765)) &&& 858993459) + ((((x - (((x.toUInt32 >>> ((1 : Int32).toUInt32 &&& Int32.toUInt32 31)).toInt32) &&& 1431655765)).toUInt32 >>> ((2 : Int32).toUInt32 &&& Int32.toUInt32 31)).toInt32) &&& 858993459)).toUInt32 >>> ((4 : Int32).toUInt32 &&& Int32.toUInt32 31)).toInt32)) &&& 252645135))]) hx hb dJ6_bitCount_0f7a4_33 rfl hl (by decide) rfl (fun ls hl => ?_)
  refine lv_iload_n hx hb dJ6_bitCount_0f7a4_34 rfl (lv_at hl 0 rfl) ?_
  refine lv_iload_n hx hb dJ6_bitCount_0f7a4_35 rfl (lv_at hl 0 rfl) ?_
  refine lv_bipush (v := 8) hx hb dJ6_bitCount_0f7a4_36 (by decide) ?_
  refine lv_iushr (v := ((((((x - (((x.toUInt32 >>> ((1 : Int32).toUInt32 &&& Int32.toUInt32 31)).toInt32) &&& 1431655765)) &&& 858993459) + ((((x - (((x.toUInt32 >>> ((1 : Int32).toUInt32 &&& Int32.toUInt32 31)).toInt32) &&& 1431655765)).toUInt32 >>> ((2 : Int32).toUInt32 &&& Int32.toUInt32 31)).toInt32) &&& 858993459)) + (((((x - (((x.toUInt32 >>> ((1 : Int32).toUInt32 &&& Int32.toUInt32 31)).toInt32) &&& 1431655765)) &&& 858993459) + ((((x - (((x.toUInt32 >>> ((1 : Int32).toUInt32 &&& Int32.toUInt32 31)).toInt32) &&& 1431655765)).toUInt32 >>> ((2 : Int32).toUInt32 &&& Int32.toUInt32 31)).toInt32) &&& 858993459)).toUInt32 >>> ((4 : Int32).toUInt32 &&& Int32.toUInt32 31)).toInt32)) &&& 252645135).toUInt32 >>> ((8 : Int32).toUInt32 &&& Int32.toUInt32 31)).toInt32) hx hb dJ6_bitCount_0f7a4_38 rfl ?_
  refine lv_iadd hx hb dJ6_bitCount_0f7a4_39 ?_
  refine lv_istore_n (lv' := [(0, .int ((((((x - (((x.toUInt32 >>> ((1 : Int32).toUInt32 &&& Int32.toUInt32 31)).toInt32) &&& 1431655765)) &&& 858993459) + ((((x - (((x.toUInt32 >>> ((1 : Int32).toUInt32 &&& Int32.toUInt32 31)).toInt32) &&& 1431655765)).toUInt32 >>> ((2 : Int32).toUInt32 &&& Int32.toUInt32 31)).toInt32) &&& 858993459)) + (((((x - (((x.toUInt32 >>> ((1 : Int32).toUInt32 &&& Int32.toUInt32 31)).toInt32) &&& 1431655765)) &&& 858993459) + ((((x - (((x.toUInt32 >>> ((1 : Int32).toUInt32 &&& Int32.toUInt32 31)).toInt32) &&& 1431655765)).toUInt32 >>> ((2 : Int32).toUInt32 &&& Int32.toUInt32 31)).toInt32) &&& 858993459)).toUInt32 >>> ((4 : Int32).toUInt32 &&& Int32.toUInt32 31)).toInt32)) &&& 252645135) + (((((((x - (((x.toUInt32 >>> ((1 : Int32).toUInt32 &&& Int32.toUInt32 31)).toInt32) &&& 1431655765)) &&& 858993459) + ((((x - (((x.toUInt32 >>> ((1 : Int32).toUInt32 &&& Int32.toUInt32 31)).toInt32) &&& 1431655765)).toUInt32 >>> ((2 : Int32).toUInt32 &&& Int32.toUInt32 31)).toInt32) &&& 858993459)) + (((((x - (((x.toUInt32 >>> ((1 : Int32).toUInt32 &&& Int32.toUInt32 31)).toInt32) &&& 1431655765)) &&& 858993459) + ((((x - (((x.toUInt32 >>> ((1 : Int32).toUInt32 &&& Int32.toUInt32 31)).toInt32) &&& 1431655765)).toUInt32 >>> ((2 : Int32).toUInt32 &&& Int32.toUInt32 31)).toInt32) &&& 858993459)).toUInt32 >>> ((4 : Int32).toUInt32 &&& Int32.toUInt32 31)).toInt32)) &&& 252645135).toUInt32 >>> ((8 : Int32).toUInt32 &&& Int32.toUInt32 31)).toInt32)))]) hx hb dJ6_bitCount_0f7a4_40 rfl hl (by decide) rfl (fun ls hl => ?_)
  refine lv_iload_n hx hb dJ6_bitCount_0f7a4_41 rfl (lv_at hl 0 rfl) ?_
  refine lv_iload_n hx hb dJ6_bitCount_0f7a4_42 rfl (lv_at hl 0 rfl) ?_
  refine lv_bipush (v := 16) hx hb dJ6_bitCount_0f7a4_43 (by decide) ?_
  refine lv_iushr (v := (((((((x - (((x.toUInt32 >>> ((1 : Int32).toUInt32 &&& Int32.toUInt32 31)).toInt32) &&& 1431655765)) &&& 858993459) + ((((x - (((x.toUInt32 >>> ((1 : Int32).toUInt32 &&& Int32.toUInt32 31)).toInt32) &&& 1431655765)).toUInt32 >>> ((2 : Int32).toUInt32 &&& Int32.toUInt32 31)).toInt32) &&& 858993459)) + (((((x - (((x.toUInt32 >>> ((1 : Int32).toUInt32 &&& Int32.toUInt32 31)).toInt32) &&& 1431655765)) &&& 858993459) + ((((x - (((x.toUInt32 >>> ((1 : Int32).toUInt32 &&& Int32.toUInt32 31)).toInt32) &&& 1431655765)).toUInt32 >>> ((2 : Int32).toUInt32 &&& Int32.toUInt32 31)).toInt32) &&& 858993459)).toUInt32 >>> ((4 : Int32).toUInt32 &&& Int32.toUInt32 31)).toInt32)) &&& 252645135) + (((((((x - (((x.toUInt32 >>> ((1 : Int32).toUInt32 &&& Int32.toUInt32 31)).toInt32) &&& 1431655765)) &&& 858993459) + ((((x - (((x.toUInt32 >>> ((1 : Int32).toUInt32 &&& Int32.toUInt32 31)).toInt32) &&& 1431655765)).toUInt32 >>> ((2 : Int32).toUInt32 &&& Int32.toUInt32 31)).toInt32) &&& 858993459)) + (((((x - (((x.toUInt32 >>> ((1 : Int32).toUInt32 &&& Int32.toUInt32 31)).toInt32) &&& 1431655765)) &&& 858993459) + ((((x - (((x.toUInt32 >>> ((1 : Int32).toUInt32 &&& Int32.toUInt32 31)).toInt32) &&& 1431655765)).toUInt32 >>> ((2 : Int32).toUInt32 &&& Int32.toUInt32 31)).toInt32) &&& 858993459)).toUInt32 >>> ((4 : Int32).toUInt32 &&& Int32.toUInt32 31)).toInt32)) &&& 252645135).toUInt32 >>> ((8 : Int32).toUInt32 &&& Int32.toUInt32 31)).toInt32)).toUInt32 >>> ((16 : Int32).toUInt32 &&& Int32.toUInt32 31)).toInt32) hx hb dJ6_bitCount_0f7a4_45 rfl ?_
  refine lv_iadd hx hb dJ6_bitCount_0f7a4_46 ?_
  refine lv_istore_n (lv' := [(0, .int (((((((x - (((x.toUInt32 >>> ((1 : Int32).toUInt32 &&& Int32.toUInt32 31)).toInt32) &&& 1431655765)) &&& 858993459) + ((((x - (((x.toUInt32 >>> ((1 : Int32).toUInt32 &&& Int32.toUInt32 31)).toInt32) &&& 1431655765)).toUInt32 >>> ((2 : Int32).toUInt32 &&& Int32.toUInt32 31)).toInt32) &&& 858993459)) + (((((x - (((x.toUInt32 >>> ((1 : Int32).toUInt32 &&& Int32.toUInt32 31)).toInt32) &&& 1431655765)) &&& 858993459) + ((((x - (((x.toUInt32 >>> ((1 : Int32).toUInt32 &&& Int32.toUInt32 31)).toInt32) &&& 1431655765)).toUInt32 >>> ((2 : Int32).toUInt32 &&& Int32.toUInt32 31)).toInt32) &&& 858993459)).toUInt32 >>> ((4 : Int32).toUInt32 &&& Int32.toUInt32 31)).toInt32)) &&& 252645135) + (((((((x - (((x.toUInt32 >>> ((1 : Int32).toUInt32 &&& Int32.toUInt32 31)).toInt32) &&& 1431655765)) &&& 858993459) + ((((x - (((x.toUInt32 >>> ((1 : Int32).toUInt32 &&& Int32.toUInt32 31)).toInt32) &&& 1431655765)).toUInt32 >>> ((2 : Int32).toUInt32 &&& Int32.toUInt32 31)).toInt32) &&& 858993459)) + (((((x - (((x.toUInt32 >>> ((1 : Int32).toUInt32 &&& Int32.toUInt32 31)).toInt32) &&& 1431655765)) &&& 858993459) + ((((x - (((x.toUInt32 >>> ((1 : Int32).toUInt32 &&& Int32.toUInt32 31)).toInt32) &&& 1431655765)).toUInt32 >>> ((2 : Int32).toUInt32 &&& Int32.toUInt32 31)).toInt32) &&& 858993459)).toUInt32 >>> ((4 : Int32).toUInt32 &&& Int32.toUInt32 31)).toInt32)) &&& 252645135).toUInt32 >>> ((8 : Int32).toUInt32 &&& Int32.toUInt32 31)).toInt32)) + ((((((((x - (((x.toUInt32 >>> ((1 : Int32).toUInt32 &&& Int32.toUInt32 31)).toInt32) &&& 1431655765)) &&& 858993459) + ((((x - (((x.toUInt32 >>> ((1 : Int32).toUInt32 &&& Int32.toUInt32 31)).toInt32) &&& 1431655765)).toUInt32 >>> ((2 : Int32).toUInt32 &&& Int32.toUInt32 31)).toInt32) &&& 858993459)) + (((((x - (((x.toUInt32 >>> ((1 : Int32).toUInt32 &&& Int32.toUInt32 31)).toInt32) &&& 1431655765)) &&& 858993459) + ((((x - (((x.toUInt32 >>> ((1 : Int32).toUInt32 &&& Int32.toUInt32 31)).toInt32) &&& 1431655765)).toUInt32 >>> ((2 : Int32).toUInt32 &&& Int32.toUInt32 31)).toInt32) &&& 858993459)).toUInt32 >>> ((4 : Int32).toUInt32 &&& Int32.toUInt32 31)).toInt32)) &&& 252645135) + (((((((x - (((x.toUInt32 >>> ((1 : Int32).toUInt32 &&& Int32.toUInt32 31)).toInt32) &&& 1431655765)) &&& 858993459) + ((((x - (((x.toUInt32 >>> ((1 : Int32).toUInt32 &&& Int32.toUInt32 31)).toInt32) &&& 1431655765)).toUInt32 >>> ((2 : Int32).toUInt32 &&& Int32.toUInt32 31)).toInt32) &&& 858993459)) + (((((x - (((x.toUInt32 >>> ((1 : Int32).toUInt32 &&& Int32.toUInt32 31)).toInt32) &&& 1431655765)) &&& 858993459) + ((((x - (((x.toUInt32 >>> ((1 : Int32).toUInt32 &&& Int32.toUInt32 31)).toInt32) &&& 1431655765)).toUInt32 >>> ((2 : Int32).toUInt32 &&& Int32.toUInt32 31)).toInt32) &&& 858993459)).toUInt32 >>> ((4 : Int32).toUInt32 &&& Int32.toUInt32 31)).toInt32)) &&& 252645135).toUInt32 >>> ((8 : Int32).toUInt32 &&& Int32.toUInt32 31)).toInt32)).toUInt32 >>> ((16 : Int32).toUInt32 &&& Int32.toUInt32 31)).toInt32)))]) hx hb dJ6_bitCount_0f7a4_47 rfl hl (by decide) rfl (fun ls hl => ?_)
  refine lv_iload_n hx hb dJ6_bitCount_0f7a4_48 rfl (lv_at hl 0 rfl) ?_
  refine lv_bipush (v := 63) hx hb dJ6_bitCount_0f7a4_49 (by decide) ?_
  refine lv_iand hx hb dJ6_bitCount_0f7a4_51 ?_
  exact W.iret (v := ((((((((x - (((x.toUInt32 >>> ((1 : Int32).toUInt32 &&& Int32.toUInt32 31)).toInt32) &&& 1431655765)) &&& 858993459) + ((((x - (((x.toUInt32 >>> ((1 : Int32).toUInt32 &&& Int32.toUInt32 31)).toInt32) &&& 1431655765)).toUInt32 >>> ((2 : Int32).toUInt32 &&& Int32.toUInt32 31)).toInt32) &&& 858993459)) + (((((x - (((x.toUInt32 >>> ((1 : Int32).toUInt32 &&& Int32.toUInt32 31)).toInt32) &&& 1431655765)) &&& 858993459) + ((((x - (((x.toUInt32 >>> ((1 : Int32).toUInt32 &&& Int32.toUInt32 31)).toInt32) &&& 1431655765)).toUInt32 >>> ((2 : Int32).toUInt32 &&& Int32.toUInt32 31)).toInt32) &&& 858993459)).toUInt32 >>> ((4 : Int32).toUInt32 &&& Int32.toUInt32 31)).toInt32)) &&& 252645135) + (((((((x - (((x.toUInt32 >>> ((1 : Int32).toUInt32 &&& Int32.toUInt32 31)).toInt32) &&& 1431655765)) &&& 858993459) + ((((x - (((x.toUInt32 >>> ((1 : Int32).toUInt32 &&& Int32.toUInt32 31)).toInt32) &&& 1431655765)).toUInt32 >>> ((2 : Int32).toUInt32 &&& Int32.toUInt32 31)).toInt32) &&& 858993459)) + (((((x - (((x.toUInt32 >>> ((1 : Int32).toUInt32 &&& Int32.toUInt32 31)).toInt32) &&& 1431655765)) &&& 858993459) + ((((x - (((x.toUInt32 >>> ((1 : Int32).toUInt32 &&& Int32.toUInt32 31)).toInt32) &&& 1431655765)).toUInt32 >>> ((2 : Int32).toUInt32 &&& Int32.toUInt32 31)).toInt32) &&& 858993459)).toUInt32 >>> ((4 : Int32).toUInt32 &&& Int32.toUInt32 31)).toInt32)) &&& 252645135).toUInt32 >>> ((8 : Int32).toUInt32 &&& Int32.toUInt32 31)).toInt32)) + ((((((((x - (((x.toUInt32 >>> ((1 : Int32).toUInt32 &&& Int32.toUInt32 31)).toInt32) &&& 1431655765)) &&& 858993459) + ((((x - (((x.toUInt32 >>> ((1 : Int32).toUInt32 &&& Int32.toUInt32 31)).toInt32) &&& 1431655765)).toUInt32 >>> ((2 : Int32).toUInt32 &&& Int32.toUInt32 31)).toInt32) &&& 858993459)) + (((((x - (((x.toUInt32 >>> ((1 : Int32).toUInt32 &&& Int32.toUInt32 31)).toInt32) &&& 1431655765)) &&& 858993459) + ((((x - (((x.toUInt32 >>> ((1 : Int32).toUInt32 &&& Int32.toUInt32 31)).toInt32) &&& 1431655765)).toUInt32 >>> ((2 : Int32).toUInt32 &&& Int32.toUInt32 31)).toInt32) &&& 858993459)).toUInt32 >>> ((4 : Int32).toUInt32 &&& Int32.toUInt32 31)).toInt32)) &&& 252645135) + (((((((x - (((x.toUInt32 >>> ((1 : Int32).toUInt32 &&& Int32.toUInt32 31)).toInt32) &&& 1431655765)) &&& 858993459) + ((((x - (((x.toUInt32 >>> ((1 : Int32).toUInt32 &&& Int32.toUInt32 31)).toInt32) &&& 1431655765)).toUInt32 >>> ((2 : Int32).toUInt32 &&& Int32.toUInt32 31)).toInt32) &&& 858993459)) + (((((x - (((x.toUInt32 >>> ((1 : Int32).toUInt32 &&& Int32.toUInt32 31)).toInt32) &&& 1431655765)) &&& 858993459) + ((((x - (((x.toUInt32 >>> ((1 : Int32).toUInt32 &&& Int32.toUInt32 31)).toInt32) &&& 1431655765)).toUInt32 >>> ((2 : Int32).toUInt32 &&& Int32.toUInt32 31)).toInt32) &&& 858993459)).toUInt32 >>> ((4 : Int32).toUInt32 &&& Int32.toUInt32 31)).toInt32)) &&& 252645135).toUInt32 >>> ((8 : Int32).toUInt32 &&& Int32.toUInt32 31)).toInt32)).toUInt32 >>> ((16 : Int32).toUInt32 &&& Int32.toUInt32 31)).toInt32)) &&& 63)) hx hb hr (fun t ht hWm => ⟨_, rfl, trivial, ht⟩) (fun q h => absurd h List.not_mem_nil) dJ6_bitCount_0f7a4_52

set_option maxHeartbeats 4000000 in
set_option maxRecDepth 100000 in
theorem c_X9_mostBad (l : Launch) {D : va_G} {tA : Nat → ClassId} {S : St} {ad : Nat → Nat → Nat} {L : List Nat} {f : Nat → va_E} (hR : Rep tA S ad L f) {i : Nat} (hi : i < 4) : Met l yX9_mostBad (wsC yX9_mostBad cX9_mostBad 1 (some .int)) ({ frames := 0, cells := 0, slots := 0, locals := 0 }) (va_Pc [.ref (ad 6 i)] (gB D tA L f)) (vp_Si (fun r => True)) 0 0 (fun _ => False) := by
  refine Met.ofW (cc := cX9_mostBad) (maxL := 1) (ret := (some .int)) (by decide) rfl ?_
  intro p e s m args below meth c s₁ B hml hv
  obtain ⟨rfl, hP, hK, hD⟩ := hv
  have hx := B.exec
  have hb := B.bytes
  have hr := B.returns
  have hts := atoms_spec (ws := wsC yX9_mostBad cX9_mostBad 1 (some .int)) B.pre
  have hta : ∀ w ∈ WA, w.before _ s = true := fun w h => hts w (List.mem_cons_of_mem _ h)
  have hown : s.vm.findClass RX9 = some m.cls := findClass_of_methodNamed B.named
  have hlocks := B.notSynchronized
  have hP : va_P D vwCl (va_pl L f) s.heap := hP
  have hl := lv_entry ([.ref (ad 6 i)]) (n := 1) (Nat.le_of_ble_eq_true rfl)
  rw [lg_entry_eq]
  generalize (lg_sl ([.ref (ad 6 i)]) ++ List.replicate (1 - (lg_sl ([.ref (ad 6 i)])).length) Slot.unset).toArray = ls at hl ⊢
  have hl : lv_has ls 1 [(0, .ref (ad 6 i))] := hl
  refine lv_aload_n hx hb dX9_mostBad_0 rfl (lv_at hl 0 rfl) ?_
  refine get_rule_6 hx hb hta iwX9 hown hK hP hR hi (hta _ mw93) dX9_mostBad_1 ?_
  refine lv_bipush (v := 116) hx hb dX9_mostBad_4 (by decide) ?_
  refine lv_icmp_ne (tgt := 11) hx hb dX9_mostBad_6 (by decide) (fun c1 => ?_) (fun c1 => ?_)
  · skip
    refine lv_aload_n hx hb dX9_mostBad_11 rfl (lv_at hl 0 rfl) ?_
    refine get_rule_6 hx hb hta iwX9 hown hK hP hR hi (hta _ mw93) dX9_mostBad_12 ?_
    refine lv_bipush (v := 114) hx hb dX9_mostBad_15 (by decide) ?_
    refine lv_icmp_ne (tgt := 24) hx hb dX9_mostBad_17 (by decide) (fun c2 => ?_) (fun c2 => ?_)
    · skip
      refine lv_iconst (v := 2) hx hb dX9_mostBad_24 (by decide) ?_
      exact W.iret (v := 2) hx hb hr (fun t ht hWm => ⟨_, rfl, trivial, ht⟩) (fun q h => absurd h List.not_mem_nil) dX9_mostBad_25
    · skip
      refine lv_iconst (v := 4) hx hb dX9_mostBad_20 (by decide) ?_
      refine lv_goto (tgt := 25) hx hb dX9_mostBad_21 (by decide) ?_
      exact W.iret (v := 4) hx hb hr (fun t ht hWm => ⟨_, rfl, trivial, ht⟩) (fun q h => absurd h List.not_mem_nil) dX9_mostBad_25
  · skip
    refine lv_iconst (v := 1) hx hb dX9_mostBad_9 (by decide) ?_
    exact W.iret (v := 1) hx hb hr (fun t ht hWm => ⟨_, rfl, trivial, ht⟩) (fun q h => absurd h List.not_mem_nil) dX9_mostBad_10

set_option maxHeartbeats 4000000 in
set_option maxRecDepth 100000 in
theorem c_X9_areAccepted (l : Launch) {D : va_G} {tA : Nat → ClassId} {S : St} {ad : Nat → Nat → Nat} {L : List Nat} {f : Nat → va_E} (hR : Rep tA S ad L f) {i : Nat} (hi : i < 4) (n : Int32) : Met l yX9_areAccepted (wsC yX9_areAccepted cX9_areAccepted 2 (some .boolean)) ({ frames := 0, cells := 0, slots := 0, locals := 0 }) (va_Pc [.ref (ad 6 i), .int n] (gB D tA L f)) (vp_Si (fun r => True)) 0 0 (fun _ => False) := by
  refine Met.ofW (cc := cX9_areAccepted) (maxL := 2) (ret := (some .boolean)) (by decide) rfl ?_
  intro p e s m args below meth c s₁ B hml hv
  obtain ⟨rfl, hP, hK, hD⟩ := hv
  have hx := B.exec
  have hb := B.bytes
  have hr := B.returns
  have hts := atoms_spec (ws := wsC yX9_areAccepted cX9_areAccepted 2 (some .boolean)) B.pre
  have hta : ∀ w ∈ WA, w.before _ s = true := fun w h => hts w (List.mem_cons_of_mem _ h)
  have hown : s.vm.findClass RX9 = some m.cls := findClass_of_methodNamed B.named
  have hlocks := B.notSynchronized
  have hP : va_P D vwCl (va_pl L f) s.heap := hP
  have hl := lv_entry ([.ref (ad 6 i), .int n]) (n := 2) (Nat.le_of_ble_eq_true rfl)
  rw [lg_entry_eq]
  generalize (lg_sl ([.ref (ad 6 i), .int n]) ++ List.replicate (2 - (lg_sl ([.ref (ad 6 i), .int n])).length) Slot.unset).toArray = ls at hl ⊢
  have hl : lv_has ls 2 [(0, .ref (ad 6 i)), (1, .int n)] := hl
  refine lv_aload_n hx hb dX9_areAccepted_0 rfl (lv_at hl 0 rfl) ?_
  refine get_seen_6 hx hb hta iwX9 hown hK hP hR hi (hta _ mw95) dX9_areAccepted_1 ?_
  refine lv_iload_n hx hb dX9_areAccepted_4 rfl (lv_at hl 1 rfl) ?_
  refine lv_icmp_lt (tgt := 25) hx hb dX9_areAccepted_5 (by decide) (fun c1 => ?_) (fun c1 => ?_)
  · skip
    refine lv_iconst (v := 0) hx hb dX9_areAccepted_25 (by decide) ?_
    exact W.zret (v := 0) (ty := .boolean) hx hb hr (by decide) (fun t ht hWm => ⟨_, rfl, trivial, ht⟩) (fun q h => absurd h List.not_mem_nil) dX9_areAccepted_26
  · skip
    refine lv_aload_n hx hb dX9_areAccepted_8 rfl (lv_at hl 0 rfl) ?_
    refine get_refusals_6 hx hb hta iwX9 hown hK hP hR hi (hta _ mw94) dX9_areAccepted_9 ?_
    refine lv_iconst (v := 1) hx hb dX9_areAccepted_12 (by decide) ?_
    refine lv_iload_n hx hb dX9_areAccepted_13 rfl (lv_at hl 1 rfl) ?_
    refine lv_ishl hx hb dX9_areAccepted_14 ?_
    refine lv_iconst (v := 1) hx hb dX9_areAccepted_15 (by decide) ?_
    refine lv_isub hx hb dX9_areAccepted_16 ?_
    refine lv_iand hx hb dX9_areAccepted_17 ?_
    refine lv_if_ne (tgt := 25) hx hb dX9_areAccepted_18 (by decide) (fun c2 => ?_) (fun c2 => ?_)
    · skip
      refine lv_iconst (v := 0) hx hb dX9_areAccepted_25 (by decide) ?_
      exact W.zret (v := 0) (ty := .boolean) hx hb hr (by decide) (fun t ht hWm => ⟨_, rfl, trivial, ht⟩) (fun q h => absurd h List.not_mem_nil) dX9_areAccepted_26
    · skip
      refine lv_iconst (v := 1) hx hb dX9_areAccepted_21 (by decide) ?_
      refine lv_goto (tgt := 26) hx hb dX9_areAccepted_22 (by decide) ?_
      exact W.zret (v := 1) (ty := .boolean) hx hb hr (by decide) (fun t ht hWm => ⟨_, rfl, trivial, ht⟩) (fun q h => absurd h List.not_mem_nil) dX9_areAccepted_26

set_option maxHeartbeats 4000000 in
set_option maxRecDepth 100000 in
theorem c_X9_nextRule (l : Launch) {D : va_G} {tA : Nat → ClassId} {S : St} {ad : Nat → Nat → Nat} {L : List Nat} {f : Nat → va_E} (hR : Rep tA S ad L f) {i : Nat} (hi : i < 4) (v : Int32) : Met l yX9_nextRule (wsC yX9_nextRule cX9_nextRule 2 (some .char)) ({ frames := 1, cells := 0, slots := 0, locals := 21 }) (va_Pc [.ref (ad 6 i), .int v] (gB D tA L f)) (vp_Si (fun r => r = 110 ∨ r = 116 ∨ r = 114)) 0 0 (fun _ => False) := by
  refine Met.ofW (cc := cX9_nextRule) (maxL := 2) (ret := (some .char)) (by decide) rfl ?_
  intro p e s m args below meth c s₁ B hml hv
  obtain ⟨rfl, hP, hK, hD⟩ := hv
  have hx := B.exec
  have hb := B.bytes
  have hr := B.returns
  have hts := atoms_spec (ws := wsC yX9_nextRule cX9_nextRule 2 (some .char)) B.pre
  have hta : ∀ w ∈ WA, w.before _ s = true := fun w h => hts w (List.mem_cons_of_mem _ h)
  have hown : s.vm.findClass RX9 = some m.cls := findClass_of_methodNamed B.named
  have hlocks := B.notSynchronized
  have hP : va_P D vwCl (va_pl L f) s.heap := hP
  have hl := lv_entry ([.ref (ad 6 i), .int v]) (n := 2) (Nat.le_of_ble_eq_true rfl)
  rw [lg_entry_eq]
  generalize (lg_sl ([.ref (ad 6 i), .int v]) ++ List.replicate (2 - (lg_sl ([.ref (ad 6 i), .int v])).length) Slot.unset).toArray = ls at hl ⊢
  have hl : lv_has ls 2 [(0, .ref (ad 6 i)), (1, .int v)] := hl
  refine lv_aload_n hx hb dX9_nextRule_0 rfl (lv_at hl 0 rfl) ?_
  refine get_rule_6 hx hb hta iwX9 hown hK hP hR hi (hta _ mw93) dX9_nextRule_1 ?_
  refine lv_bipush (v := 116) hx hb dX9_nextRule_4 (by decide) ?_
  refine lv_icmp_ne (tgt := 25) hx hb dX9_nextRule_6 (by decide) (fun c1 => ?_) (fun c1 => ?_)
  · skip
    refine lv_aload_n hx hb dX9_nextRule_25 rfl (lv_at hl 0 rfl) ?_
    refine get_rule_6 hx hb hta iwX9 hown hK hP hR hi (hta _ mw93) dX9_nextRule_26 ?_
    refine lv_bipush (v := 114) hx hb dX9_nextRule_29 (by decide) ?_
    refine lv_icmp_ne (tgt := 46) hx hb dX9_nextRule_31 (by decide) (fun c2 => ?_) (fun c2 => ?_)
    · skip
      refine lv_aload_n hx hb dX9_nextRule_46 rfl (lv_at hl 0 rfl) ?_
      refine get_refusals_6 hx hb hta iwX9 hown hK hP hR hi (hta _ mw94) dX9_nextRule_47 ?_
      refine vp_callSi (W.runS (As := [.int (sI S 34 i)]) (rest := []) ⟨hx, hb, hml, hown, hta⟩ (c_J6_bitCount l (sI S 34 i)) (va_cwS 1 hta (gWS mw439 mw440 mw58 mw441) rfl rfl rfl (by decide +kernel) ⟨Nat.le_of_ble_eq_true rfl, Nat.le_of_ble_eq_true rfl⟩) ⟨fun a U g mk q => ⟨q.1, trivial⟩, fun U hU hW9 => ⟨rfl, trivial⟩⟩ rfl rfl hl.1 rfl (lv_room (Nat.le_of_ble_eq_true rfl)) dX9_nextRule_50 ⟨Nat.zero_le _, Nat.zero_le _⟩) (fun r3 c4 => ?_)
      refine lv_iconst (v := 2) hx hb dX9_nextRule_53 (by decide) ?_
      refine lv_icmp_lt (tgt := 60) hx hb dX9_nextRule_54 (by decide) (fun c5 => ?_) (fun c5 => ?_)
      · skip
        refine lv_aload_n hx hb dX9_nextRule_60 rfl (lv_at hl 0 rfl) ?_
        refine lv_iconst (v := 4) hx hb dX9_nextRule_61 (by decide) ?_
        obtain ⟨q6, e7⟩ := cell_6 hR hi
        refine gro_i (ci := 11) (As := [.int 4]) (rest := []) ⟨hx, hb, hml, hown, hta⟩ (c_X9_areAccepted l hR hi 4) (cwV 1 hta (gWV mw436 mw437 mw15 mw42 mw438) rfl rfl rfl (by decide +kernel) ⟨Nat.le_of_ble_eq_true rfl, Nat.le_of_ble_eq_true rfl⟩) hK hP hD rfl e7 rfl hl.1 rfl (Nat.le_of_ble_eq_true rfl) dX9_nextRule_62 ⟨Nat.zero_le _, Nat.zero_le _⟩ (fun r8 c9 => ?_)
        refine lv_if_eq (tgt := 73) hx hb dX9_nextRule_65 (by decide) (fun c10 => ?_) (fun c10 => ?_)
        · skip
          refine lv_bipush (v := 110) hx hb dX9_nextRule_73 (by decide) ?_
          exact W.zret (v := 110) (ty := .char) hx hb hr (by decide) (fun t ht hWm => ⟨_, rfl, (Or.inl rfl), ht⟩) (fun q h => absurd h List.not_mem_nil) dX9_nextRule_75
        · skip
          refine lv_bipush (v := 114) hx hb dX9_nextRule_68 (by decide) ?_
          refine lv_goto (tgt := 75) hx hb dX9_nextRule_70 (by decide) ?_
          exact W.zret (v := 114) (ty := .char) hx hb hr (by decide) (fun t ht hWm => ⟨_, rfl, (Or.inr (Or.inr rfl)), ht⟩) (fun q h => absurd h List.not_mem_nil) dX9_nextRule_75
      · skip
        refine lv_bipush (v := 116) hx hb dX9_nextRule_57 (by decide) ?_
        exact W.zret (v := 116) (ty := .char) hx hb hr (by decide) (fun t ht hWm => ⟨_, rfl, (Or.inr (Or.inl rfl)), ht⟩) (fun q h => absurd h List.not_mem_nil) dX9_nextRule_59
    · skip
      refine lv_iload_n hx hb dX9_nextRule_34 rfl (lv_at hl 1 rfl) ?_
      refine lv_if_eq (tgt := 43) hx hb dX9_nextRule_35 (by decide) (fun c11 => ?_) (fun c11 => ?_)
      · skip
        refine lv_bipush (v := 114) hx hb dX9_nextRule_43 (by decide) ?_
        exact W.zret (v := 114) (ty := .char) hx hb hr (by decide) (fun t ht hWm => ⟨_, rfl, (Or.inr (Or.inr rfl)), ht⟩) (fun q h => absurd h List.not_mem_nil) dX9_nextRule_45
      · skip
        refine lv_bipush (v := 110) hx hb dX9_nextRule_38 (by decide) ?_
        refine lv_goto (tgt := 45) hx hb dX9_nextRule_40 (by decide) ?_
        exact W.zret (v := 110) (ty := .char) hx hb hr (by decide) (fun t ht hWm => ⟨_, rfl, (Or.inl rfl), ht⟩) (fun q h => absurd h List.not_mem_nil) dX9_nextRule_45
  · skip
    refine lv_aload_n hx hb dX9_nextRule_9 rfl (lv_at hl 0 rfl) ?_
    refine lv_iconst (v := 3) hx hb dX9_nextRule_10 (by decide) ?_
    obtain ⟨q12, e13⟩ := cell_6 hR hi
    refine gro_i (ci := 11) (As := [.int 3]) (rest := []) ⟨hx, hb, hml, hown, hta⟩ (c_X9_areAccepted l hR hi 3) (cwV 1 hta (gWV mw436 mw437 mw15 mw42 mw438) rfl rfl rfl (by decide +kernel) ⟨Nat.le_of_ble_eq_true rfl, Nat.le_of_ble_eq_true rfl⟩) hK hP hD rfl e13 rfl hl.1 rfl (Nat.le_of_ble_eq_true rfl) dX9_nextRule_11 ⟨Nat.zero_le _, Nat.zero_le _⟩ (fun r14 c15 => ?_)
    refine lv_if_eq (tgt := 22) hx hb dX9_nextRule_14 (by decide) (fun c16 => ?_) (fun c16 => ?_)
    · skip
      refine lv_bipush (v := 116) hx hb dX9_nextRule_22 (by decide) ?_
      exact W.zret (v := 116) (ty := .char) hx hb hr (by decide) (fun t ht hWm => ⟨_, rfl, (Or.inr (Or.inl rfl)), ht⟩) (fun q h => absurd h List.not_mem_nil) dX9_nextRule_24
    · skip
      refine lv_bipush (v := 110) hx hb dX9_nextRule_17 (by decide) ?_
      refine lv_goto (tgt := 24) hx hb dX9_nextRule_19 (by decide) ?_
      exact W.zret (v := 110) (ty := .char) hx hb hr (by decide) (fun t ht hWm => ⟨_, rfl, (Or.inl rfl), ht⟩) (fun q h => absurd h List.not_mem_nil) dX9_nextRule_24

/-- only numbers of suppliers differ -/
def SupEq (S T : St) : Prop := T.1 = S.1 ∧ T.2.2 = S.2.2 ∧ ∀ k j, k ≠ 33 → k ≠ 34 → k ≠ 35 → sI T k j = sI S k j
theorem SupEq.WT {S T : St} (h : SupEq S T) (hW : WT S) : WT T := by
  obtain ⟨n, i, j, r, p⟩ := S
  obtain ⟨n', i', j', r', p'⟩ := T
  obtain ⟨h1, h2, -⟩ := h
  dsimp only at h1 h2
  obtain rfl := h1
  obtain ⟨rfl, h3⟩ := Prod.mk.inj h2
  obtain ⟨rfl, rfl⟩ := Prod.mk.inj h3
  exact hW
set_option maxHeartbeats 4000000 in
set_option maxRecDepth 100000 in
theorem c_X9_refuses (l : Launch) {D : va_G} {tA : Nat → ClassId} {S : St} {ad : Nat → Nat → Nat} {L : List Nat} {f : Nat → va_E} {sz : Nat} (hR : Rep tA S ad L f) {i : Nat} (hi : i < 4) (bad : Int32) : Met l yX9_refuses (wsC yX9_refuses cX9_refuses 4 (some .boolean)) ({ frames := 2, cells := 0, slots := 0, locals := 42 }) (va_Pc [.ref (ad 6 i), .int bad] (gZ D tA L f sz)) (va_Qi (fun (r : Int32) (u : gU) => (r = 0 ∨ r = 1) ∧ SupEq S u.1 ∧ ad = u.2.1 ∧ L = u.2.2.1) (gE D tA (va_A (va_pl L f) sz)) (va_A (va_pl L f) sz)) 0 0 (va_A (va_pl L f) sz) := by
  refine Met.ofW (cc := cX9_refuses) (maxL := 4) (ret := (some .boolean)) (by decide) rfl ?_
  intro p e s m args below meth c s₁ B hml hv
  obtain ⟨rfl, hsz, hP, hK, hD0⟩ := hv
  have hx := B.exec
  have hb := B.bytes
  have hr := B.returns
  have hts := atoms_spec (ws := wsC yX9_refuses cX9_refuses 4 (some .boolean)) B.pre
  have hta : ∀ w ∈ WA, w.before _ s = true := fun w h => hts w (List.mem_cons_of_mem _ h)
  have hown : s.vm.findClass RX9 = some m.cls := findClass_of_methodNamed B.named
  have hlocks := B.notSynchronized
  subst hsz
  have hD : va_D (va_A (va_pl L f) s.heap.size) (va_pl L f) := hD0.self (sz := s.heap.size)
  generalize hAe : va_A (va_pl L f) s.heap.size = A at hD ⊢
  have hA : ∀ q : Nat, s.heap.size ≤ q → A q := fun q h => by rw [← hAe]; exact Or.inr h
  have hS : va_S A s.heap s.heap [] := va_S.rf
  have hP : va_P D vwCl (va_pl L f) s.heap := hP
  have hl := lv_entry ([.ref (ad 6 i), .int bad]) (n := 4) (Nat.le_of_ble_eq_true rfl)
  rw [lg_entry_eq]
  generalize (lg_sl ([.ref (ad 6 i), .int bad]) ++ List.replicate (4 - (lg_sl ([.ref (ad 6 i), .int bad])).length) Slot.unset).toArray = ls at hl ⊢
  have hl : lv_has ls 4 [(0, .ref (ad 6 i)), (1, .int bad)] := hl
  refine lv_iload_n hx hb dX9_refuses_0 rfl (lv_at hl 1 rfl) ?_
  refine lv_aload_n hx hb dX9_refuses_1 rfl (lv_at hl 0 rfl) ?_
  obtain ⟨q1, e2⟩ := cell_6 hR hi
  refine gro_i (ci := 11) (As := []) (rest := [.int bad]) ⟨hx, hb, hml, hown, hta⟩ (c_X9_mostBad l hR hi) (cwV 0 hta (gWV mw430 mw431 mw13 mw42 mw432) rfl rfl rfl (by decide +kernel) ⟨Nat.le_of_ble_eq_true rfl, Nat.le_of_ble_eq_true rfl⟩) hK hP hD rfl e2 rfl hl.1 rfl (Nat.le_of_ble_eq_true rfl) dX9_refuses_2 ⟨Nat.zero_le _, Nat.zero_le _⟩ (fun r3 c4 => ?_)
  refine lv_icmp_le (tgt := 12) hx hb dX9_refuses_5 (by decide) (fun c5 => ?_) (fun c5 => ?_)
  · skip
    refine lv_iconst (v := 0) hx hb dX9_refuses_12 (by decide) ?_
    refine lv_istore_n (lv' := [(2, .int 0), (0, .ref (ad 6 i)), (1, .int bad)]) hx hb dX9_refuses_13 rfl hl (by decide) rfl (fun ls hl => ?_)
    refine lv_aload_n hx hb dX9_refuses_14 rfl (lv_at hl 1 rfl) ?_
    refine lv_aload_n hx hb dX9_refuses_15 rfl (lv_at hl 1 rfl) ?_
    refine get_refusals_6 hx hb hta iwX9 hown hK hP hR hi (hta _ mw94) dX9_refuses_16 ?_
    refine lv_iconst (v := 1) hx hb dX9_refuses_19 (by decide) ?_
    refine lv_ishl hx hb dX9_refuses_20 ?_
    refine lv_bipush (v := 31) hx hb dX9_refuses_21 (by decide) ?_
    refine lv_iand hx hb dX9_refuses_23 ?_
    refine lv_iload_n hx hb dX9_refuses_24 rfl (lv_at hl 0 rfl) ?_
    refine lv_if_eq (tgt := 32) hx hb dX9_refuses_25 (by decide) (fun c6 => ?_) (fun c6 => ?_)
    · skip
      refine lv_iconst (v := 0) hx hb dX9_refuses_32 (by decide) ?_
      refine lv_ior hx hb dX9_refuses_33 ?_
      refine put_refusals_6 (v := ((((sI S 34 i) <<< (1 &&& 31)) &&& 31) ||| 0 : Int32)) hx hb hta iwX9 hown hK hP hD hS hR hi (hta _ mw94) dX9_refuses_34 (fun H locs f hP hD hS hR => ?_)
      refine lv_aload_n hx hb dX9_refuses_37 rfl (lv_at hl 1 rfl) ?_
      refine lv_dup hx hb dX9_refuses_38 rfl ?_
      refine get_seen_6 hx hb hta iwX9 hown hK hP hR hi (hta _ mw95) dX9_refuses_39 ?_
      refine lv_topi (fun x7 ex7 => ?_)
      obtain rfl := ex7.trans (show sI (uI S 34 i ((((sI S 34 i) <<< (1 &&& 31)) &&& 31) ||| 0)) 35 i = sI S 35 i from up2_nk (sI S) (k := 34) (i := i) (k' := 35) (i' := i) ((((sI S 34 i) <<< (1 &&& 31)) &&& 31) ||| 0) (by decide))
      refine lv_iconst (v := 1) hx hb dX9_refuses_42 (by decide) ?_
      refine lv_iadd hx hb dX9_refuses_43 ?_
      refine put_seen_6 (v := ((sI S 35 i) + 1 : Int32)) hx hb hta iwX9 hown hK hP hD hS hR hi (hta _ mw95) dX9_refuses_44 (fun H locs f hP hD hS hR => ?_)
      refine lv_aload_n hx hb dX9_refuses_47 rfl (lv_at hl 1 rfl) ?_
      refine lv_iload_n hx hb dX9_refuses_48 rfl (lv_at hl 0 rfl) ?_
      obtain ⟨q8, e9⟩ := cell_6 hR hi
      refine gro_i (ci := 11) (As := [.int 0]) (rest := []) ⟨hx, hb, hml, hown, hta⟩ (c_X9_nextRule l hR hi 0) (cwV 1 hta (gWV mw433 mw434 mw14 mw42 mw435) rfl rfl rfl (by decide +kernel) ⟨Nat.le_of_ble_eq_true rfl, Nat.le_of_ble_eq_true rfl⟩) hK hP hD rfl e9 rfl hl.1 rfl (Nat.le_of_ble_eq_true rfl) dX9_refuses_49 ⟨Nat.zero_le _, Nat.zero_le _⟩ (fun r10 c11 => ?_)
      rcases c11 with rfl | rfl | rfl
      · skip
        refine lv_istore_n (lv' := [(3, .int 110), (2, .int 0), (0, .ref (ad 6 i)), (1, .int bad)]) hx hb dX9_refuses_52 rfl hl (by decide) rfl (fun ls hl => ?_)
        refine lv_iload_n hx hb dX9_refuses_53 rfl (lv_at hl 0 rfl) ?_
        refine lv_aload_n hx hb dX9_refuses_54 rfl (lv_at hl 2 rfl) ?_
        refine get_rule_6 hx hb hta iwX9 hown hK hP hR hi (hta _ mw93) dX9_refuses_55 ?_
        refine lv_topi (fun x12 ex12 => ?_)
        obtain rfl := ex12.trans ((show sI (uI (uI S 34 i ((((sI S 34 i) <<< (1 &&& 31)) &&& 31) ||| 0)) 35 i ((sI S 35 i) + 1)) 33 i = sI (uI S 34 i ((((sI S 34 i) <<< (1 &&& 31)) &&& 31) ||| 0)) 33 i from up2_nk (sI (uI S 34 i ((((sI S 34 i) <<< (1 &&& 31)) &&& 31) ||| 0))) (k := 35) (i := i) (k' := 33) (i' := i) ((sI S 35 i) + 1) (by decide)).trans (show sI (uI S 34 i ((((sI S 34 i) <<< (1 &&& 31)) &&& 31) ||| 0)) 33 i = sI S 33 i from up2_nk (sI S) (k := 34) (i := i) (k' := 33) (i' := i) ((((sI S 34 i) <<< (1 &&& 31)) &&& 31) ||| 0) (by decide)))
        refine lv_icmp_eq (tgt := 76) hx hb dX9_refuses_58 (by decide) (fun c13 => ?_) (fun c13 => ?_)
        · skip
          refine lv_iload_n hx hb dX9_refuses_76 rfl (lv_at hl 1 rfl) ?_
          exact W.zret (v := 0) (ty := .boolean) hx hb hr (by decide) (fun t ht hWm => gend_i (u := (uI (uI S 34 i ((((sI S 34 i) <<< (1 &&& 31)) &&& 31) ||| 0)) 35 i ((sI S 35 i) + 1), ad, L, f)) ⟨Or.inl rfl, ⟨rfl, rfl, fun k j h1 h2 h3 => by simp [sI, uI, up2, h1, h2, h3]⟩, rfl, rfl⟩ hR hP hK hD hS ht hWm) hS.2.2 dX9_refuses_77
        · skip
          refine lv_aload_n hx hb dX9_refuses_61 rfl (lv_at hl 2 rfl) ?_
          refine lv_iload_n hx hb dX9_refuses_62 rfl (lv_at hl 0 rfl) ?_
          refine put_rule_6 (v := (110 : Int32)) hx hb hta iwX9 hown hK hP hD hS hR hi (hta _ mw93) (by decide) (by decide) dX9_refuses_63 (fun H locs f hP hD hS hR => ?_)
          refine lv_aload_n hx hb dX9_refuses_66 rfl (lv_at hl 2 rfl) ?_
          refine lv_iconst (v := 0) hx hb dX9_refuses_67 (by decide) ?_
          refine put_refusals_6 (v := (0 : Int32)) hx hb hta iwX9 hown hK hP hD hS hR hi (hta _ mw94) dX9_refuses_68 (fun H locs f hP hD hS hR => ?_)
          refine lv_aload_n hx hb dX9_refuses_71 rfl (lv_at hl 2 rfl) ?_
          refine lv_iconst (v := 0) hx hb dX9_refuses_72 (by decide) ?_
          refine put_seen_6 (v := (0 : Int32)) hx hb hta iwX9 hown hK hP hD hS hR hi (hta _ mw95) dX9_refuses_73 (fun H locs f hP hD hS hR => ?_)
          refine lv_iload_n hx hb dX9_refuses_76 rfl (lv_at hl 1 rfl) ?_
          exact W.zret (v := 0) (ty := .boolean) hx hb hr (by decide) (fun t ht hWm => gend_i (u := (uI (uI (uI (uI (uI S 34 i ((((sI S 34 i) <<< (1 &&& 31)) &&& 31) ||| 0)) 35 i ((sI S 35 i) + 1)) 33 i 110) 34 i 0) 35 i 0, ad, L, f)) ⟨Or.inl rfl, ⟨rfl, rfl, fun k j h1 h2 h3 => by simp [sI, uI, up2, h1, h2, h3]⟩, rfl, rfl⟩ hR hP hK hD hS ht hWm) hS.2.2 dX9_refuses_77
      · skip
        refine lv_istore_n (lv' := [(3, .int 116), (2, .int 0), (0, .ref (ad 6 i)), (1, .int bad)]) hx hb dX9_refuses_52 rfl hl (by decide) rfl (fun ls hl => ?_)
        refine lv_iload_n hx hb dX9_refuses_53 rfl (lv_at hl 0 rfl) ?_
        refine lv_aload_n hx hb dX9_refuses_54 rfl (lv_at hl 2 rfl) ?_
        refine get_rule_6 hx hb hta iwX9 hown hK hP hR hi (hta _ mw93) dX9_refuses_55 ?_
        refine lv_topi (fun x14 ex14 => ?_)
        obtain rfl := ex14.trans ((show sI (uI (uI S 34 i ((((sI S 34 i) <<< (1 &&& 31)) &&& 31) ||| 0)) 35 i ((sI S 35 i) + 1)) 33 i = sI (uI S 34 i ((((sI S 34 i) <<< (1 &&& 31)) &&& 31) ||| 0)) 33 i from up2_nk (sI (uI S 34 i ((((sI S 34 i) <<< (1 &&& 31)) &&& 31) ||| 0))) (k := 35) (i := i) (k' := 33) (i' := i) ((sI S 35 i) + 1) (by decide)).trans (show sI (uI S 34 i ((((sI S 34 i) <<< (1 &&& 31)) &&& 31) ||| 0)) 33 i = sI S 33 i from up2_nk (sI S) (k := 34) (i := i) (k' := 33) (i' := i) ((((sI S 34 i) <<< (1 &&& 31)) &&& 31) ||| 0) (by decide)))
        refine lv_icmp_eq (tgt := 76) hx hb dX9_refuses_58 (by decide) (fun c15 => ?_) (fun c15 => ?_)
        · skip
          refine lv_iload_n hx hb dX9_refuses_76 rfl (lv_at hl 1 rfl) ?_
          exact W.zret (v := 0) (ty := .boolean) hx hb hr (by decide) (fun t ht hWm => gend_i (u := (uI (uI S 34 i ((((sI S 34 i) <<< (1 &&& 31)) &&& 31) ||| 0)) 35 i ((sI S 35 i) + 1), ad, L, f)) ⟨Or.inl rfl, ⟨rfl, rfl, fun k j h1 h2 h3 => by simp [sI, uI, up2, h1, h2, h3]⟩, rfl, rfl⟩ hR hP hK hD hS ht hWm) hS.2.2 dX9_refuses_77
        · skip
          refine lv_aload_n hx hb dX9_refuses_61 rfl (lv_at hl 2 rfl) ?_
          refine lv_iload_n hx hb dX9_refuses_62 rfl (lv_at hl 0 rfl) ?_
          refine put_rule_6 (v := (116 : Int32)) hx hb hta iwX9 hown hK hP hD hS hR hi (hta _ mw93) (by decide) (by decide) dX9_refuses_63 (fun H locs f hP hD hS hR => ?_)
          refine lv_aload_n hx hb dX9_refuses_66 rfl (lv_at hl 2 rfl) ?_
          refine lv_iconst (v := 0) hx hb dX9_refuses_67 (by decide) ?_
          refine put_refusals_6 (v := (0 : Int32)) hx hb hta iwX9 hown hK hP hD hS hR hi (hta _ mw94) dX9_refuses_68 (fun H locs f hP hD hS hR => ?_)
          refine lv_aload_n hx hb dX9_refuses_71 rfl (lv_at hl 2 rfl) ?_
          refine lv_iconst (v := 0) hx hb dX9_refuses_72 (by decide) ?_
          refine put_seen_6 (v := (0 : Int32)) hx hb hta iwX9 hown hK hP hD hS hR hi (hta _ mw95) dX9_refuses_73 (fun H locs f hP hD hS hR => ?_)
          refine lv_iload_n hx hb dX9_refuses_76 rfl (lv_at hl 1 rfl) ?_
          exact W.zret (v := 0) (ty := .boolean) hx hb hr (by decide) (fun t ht hWm => gend_i (u := (uI (uI (uI (uI (uI S 34 i ((((sI S 34 i) <<< (1 &&& 31)) &&& 31) ||| 0)) 35 i ((sI S 35 i) + 1)) 33 i 116) 34 i 0) 35 i 0, ad, L, f)) ⟨Or.inl rfl, ⟨rfl, rfl, fun k j h1 h2 h3 => by simp [sI, uI, up2, h1, h2, h3]⟩, rfl, rfl⟩ hR hP hK hD hS ht hWm) hS.2.2 dX9_refuses_77
      · skip
        refine lv_istore_n (lv' := [(3, .int 114), (2, .int 0), (0, .ref (ad 6 i)), (1, .int bad)]) hx hb dX9_refuses_52 rfl hl (by decide) rfl (fun ls hl => ?_)
        refine lv_iload_n hx hb dX9_refuses_53 rfl (lv_at hl 0 rfl) ?_
        refine lv_aload_n hx hb dX9_refuses_54 rfl (lv_at hl 2 rfl) ?_
        refine get_rule_6 hx hb hta iwX9 hown hK hP hR hi (hta _ mw93) dX9_refuses_55 ?_
        refine lv_topi (fun x16 ex16 => ?_)
        obtain rfl := ex16.trans ((show sI (uI (uI S 34 i ((((sI S 34 i) <<< (1 &&& 31)) &&& 31) ||| 0)) 35 i ((sI S 35 i) + 1)) 33 i = sI (uI S 34 i ((((sI S 34 i) <<< (1 &&& 31)) &&& 31) ||| 0)) 33 i from up2_nk (sI (uI S 34 i ((((sI S 34 i) <<< (1 &&& 31)) &&& 31) ||| 0))) (k := 35) (i := i) (k' := 33) (i' := i) ((sI S 35 i) + 1) (by decide)).trans (show sI (uI S 34 i ((((sI S 34 i) <<< (1 &&& 31)) &&& 31) ||| 0)) 33 i = sI S 33 i from up2_nk (sI S) (k := 34) (i := i) (k' := 33) (i' := i) ((((sI S 34 i) <<< (1 &&& 31)) &&& 31) ||| 0) (by decide)))
        refine lv_icmp_eq (tgt := 76) hx hb dX9_refuses_58 (by decide) (fun c17 => ?_) (fun c17 => ?_)
        · skip
          refine lv_iload_n hx hb dX9_refuses_76 rfl (lv_at hl 1 rfl) ?_
          exact W.zret (v := 0) (ty := .boolean) hx hb hr (by decide) (fun t ht hWm => gend_i (u := (uI (uI S 34 i ((((sI S 34 i) <<< (1 &&& 31)) &&& 31) ||| 0)) 35 i ((sI S 35 i) + 1), ad, L, f)) ⟨Or.inl rfl, ⟨rfl, rfl, fun k j h1 h2 h3 => by simp [sI, uI, up2, h1, h2, h3]⟩, rfl, rfl⟩ hR hP hK hD hS ht hWm) hS.2.2 dX9_refuses_77
        · skip
          refine lv_aload_n hx hb dX9_refuses_61 rfl (lv_at hl 2 rfl) ?_
          refine lv_iload_n hx hb dX9_refuses_62 rfl (lv_at hl 0 rfl) ?_
          refine put_rule_6 (v := (114 : Int32)) hx hb hta iwX9 hown hK hP hD hS hR hi (hta _ mw93) (by decide) (by decide) dX9_refuses_63 (fun H locs f hP hD hS hR => ?_)
          refine lv_aload_n hx hb dX9_refuses_66 rfl (lv_at hl 2 rfl) ?_
          refine lv_iconst (v := 0) hx hb dX9_refuses_67 (by decide) ?_
          refine put_refusals_6 (v := (0 : Int32)) hx hb hta iwX9 hown hK hP hD hS hR hi (hta _ mw94) dX9_refuses_68 (fun H locs f hP hD hS hR => ?_)
          refine lv_aload_n hx hb dX9_refuses_71 rfl (lv_at hl 2 rfl) ?_
          refine lv_iconst (v := 0) hx hb dX9_refuses_72 (by decide) ?_
          refine put_seen_6 (v := (0 : Int32)) hx hb hta iwX9 hown hK hP hD hS hR hi (hta _ mw95) dX9_refuses_73 (fun H locs f hP hD hS hR => ?_)
          refine lv_iload_n hx hb dX9_refuses_76 rfl (lv_at hl 1 rfl) ?_
          exact W.zret (v := 0) (ty := .boolean) hx hb hr (by decide) (fun t ht hWm => gend_i (u := (uI (uI (uI (uI (uI S 34 i ((((sI S 34 i) <<< (1 &&& 31)) &&& 31) ||| 0)) 35 i ((sI S 35 i) + 1)) 33 i 114) 34 i 0) 35 i 0, ad, L, f)) ⟨Or.inl rfl, ⟨rfl, rfl, fun k j h1 h2 h3 => by simp [sI, uI, up2, h1, h2, h3]⟩, rfl, rfl⟩ hR hP hK hD hS ht hWm) hS.2.2 dX9_refuses_77
    · exact absurd (by decide) c6
  · skip
    refine lv_iconst (v := 1) hx hb dX9_refuses_8 (by decide) ?_
    refine lv_goto (tgt := 13) hx hb dX9_refuses_9 (by decide) ?_
    refine lv_istore_n (lv' := [(2, .int 1), (0, .ref (ad 6 i)), (1, .int bad)]) hx hb dX9_refuses_13 rfl hl (by decide) rfl (fun ls hl => ?_)
    refine lv_aload_n hx hb dX9_refuses_14 rfl (lv_at hl 1 rfl) ?_
    refine lv_aload_n hx hb dX9_refuses_15 rfl (lv_at hl 1 rfl) ?_
    refine get_refusals_6 hx hb hta iwX9 hown hK hP hR hi (hta _ mw94) dX9_refuses_16 ?_
    refine lv_iconst (v := 1) hx hb dX9_refuses_19 (by decide) ?_
    refine lv_ishl hx hb dX9_refuses_20 ?_
    refine lv_bipush (v := 31) hx hb dX9_refuses_21 (by decide) ?_
    refine lv_iand hx hb dX9_refuses_23 ?_
    refine lv_iload_n hx hb dX9_refuses_24 rfl (lv_at hl 0 rfl) ?_
    refine lv_if_eq (tgt := 32) hx hb dX9_refuses_25 (by decide) (fun c18 => ?_) (fun c18 => ?_)
    · exact absurd c18 (by decide)
    · skip
      refine lv_iconst (v := 1) hx hb dX9_refuses_28 (by decide) ?_
      refine lv_goto (tgt := 33) hx hb dX9_refuses_29 (by decide) ?_
      refine lv_ior hx hb dX9_refuses_33 ?_
      refine put_refusals_6 (v := ((((sI S 34 i) <<< (1 &&& 31)) &&& 31) ||| 1 : Int32)) hx hb hta iwX9 hown hK hP hD hS hR hi (hta _ mw94) dX9_refuses_34 (fun H locs f hP hD hS hR => ?_)
      refine lv_aload_n hx hb dX9_refuses_37 rfl (lv_at hl 1 rfl) ?_
      refine lv_dup hx hb dX9_refuses_38 rfl ?_
      refine get_seen_6 hx hb hta iwX9 hown hK hP hR hi (hta _ mw95) dX9_refuses_39 ?_
      refine lv_topi (fun x19 ex19 => ?_)
      obtain rfl := ex19.trans (show sI (uI S 34 i ((((sI S 34 i) <<< (1 &&& 31)) &&& 31) ||| 1)) 35 i = sI S 35 i from up2_nk (sI S) (k := 34) (i := i) (k' := 35) (i' := i) ((((sI S 34 i) <<< (1 &&& 31)) &&& 31) ||| 1) (by decide))
      refine lv_iconst (v := 1) hx hb dX9_refuses_42 (by decide) ?_
      refine lv_iadd hx hb dX9_refuses_43 ?_
      refine put_seen_6 (v := ((sI S 35 i) + 1 : Int32)) hx hb hta iwX9 hown hK hP hD hS hR hi (hta _ mw95) dX9_refuses_44 (fun H locs f hP hD hS hR => ?_)
      refine lv_aload_n hx hb dX9_refuses_47 rfl (lv_at hl 1 rfl) ?_
      refine lv_iload_n hx hb dX9_refuses_48 rfl (lv_at hl 0 rfl) ?_
      obtain ⟨q20, e21⟩ := cell_6 hR hi
      refine gro_i (ci := 11) (As := [.int 1]) (rest := []) ⟨hx, hb, hml, hown, hta⟩ (c_X9_nextRule l hR hi 1) (cwV 1 hta (gWV mw433 mw434 mw14 mw42 mw435) rfl rfl rfl (by decide +kernel) ⟨Nat.le_of_ble_eq_true rfl, Nat.le_of_ble_eq_true rfl⟩) hK hP hD rfl e21 rfl hl.1 rfl (Nat.le_of_ble_eq_true rfl) dX9_refuses_49 ⟨Nat.zero_le _, Nat.zero_le _⟩ (fun r22 c23 => ?_)
      rcases c23 with rfl | rfl | rfl
      · skip
        refine lv_istore_n (lv' := [(3, .int 110), (2, .int 1), (0, .ref (ad 6 i)), (1, .int bad)]) hx hb dX9_refuses_52 rfl hl (by decide) rfl (fun ls hl => ?_)
        refine lv_iload_n hx hb dX9_refuses_53 rfl (lv_at hl 0 rfl) ?_
        refine lv_aload_n hx hb dX9_refuses_54 rfl (lv_at hl 2 rfl) ?_
        refine get_rule_6 hx hb hta iwX9 hown hK hP hR hi (hta _ mw93) dX9_refuses_55 ?_
        refine lv_topi (fun x24 ex24 => ?_)
        obtain rfl := ex24.trans ((show sI (uI (uI S 34 i ((((sI S 34 i) <<< (1 &&& 31)) &&& 31) ||| 1)) 35 i ((sI S 35 i) + 1)) 33 i = sI (uI S 34 i ((((sI S 34 i) <<< (1 &&& 31)) &&& 31) ||| 1)) 33 i from up2_nk (sI (uI S 34 i ((((sI S 34 i) <<< (1 &&& 31)) &&& 31) ||| 1))) (k := 35) (i := i) (k' := 33) (i' := i) ((sI S 35 i) + 1) (by decide)).trans (show sI (uI S 34 i ((((sI S 34 i) <<< (1 &&& 31)) &&& 31) ||| 1)) 33 i = sI S 33 i from up2_nk (sI S) (k := 34) (i := i) (k' := 33) (i' := i) ((((sI S 34 i) <<< (1 &&& 31)) &&& 31) ||| 1) (by decide)))
        refine lv_icmp_eq (tgt := 76) hx hb dX9_refuses_58 (by decide) (fun c25 => ?_) (fun c25 => ?_)
        · skip
          refine lv_iload_n hx hb dX9_refuses_76 rfl (lv_at hl 1 rfl) ?_
          exact W.zret (v := 1) (ty := .boolean) hx hb hr (by decide) (fun t ht hWm => gend_i (u := (uI (uI S 34 i ((((sI S 34 i) <<< (1 &&& 31)) &&& 31) ||| 1)) 35 i ((sI S 35 i) + 1), ad, L, f)) ⟨Or.inr rfl, ⟨rfl, rfl, fun k j h1 h2 h3 => by simp [sI, uI, up2, h1, h2, h3]⟩, rfl, rfl⟩ hR hP hK hD hS ht hWm) hS.2.2 dX9_refuses_77
        · skip
          refine lv_aload_n hx hb dX9_refuses_61 rfl (lv_at hl 2 rfl) ?_
          refine lv_iload_n hx hb dX9_refuses_62 rfl (lv_at hl 0 rfl) ?_
          refine put_rule_6 (v := (110 : Int32)) hx hb hta iwX9 hown hK hP hD hS hR hi (hta _ mw93) (by decide) (by decide) dX9_refuses_63 (fun H locs f hP hD hS hR => ?_)
          refine lv_aload_n hx hb dX9_refuses_66 rfl (lv_at hl 2 rfl) ?_
          refine lv_iconst (v := 0) hx hb dX9_refuses_67 (by decide) ?_
          refine put_refusals_6 (v := (0 : Int32)) hx hb hta iwX9 hown hK hP hD hS hR hi (hta _ mw94) dX9_refuses_68 (fun H locs f hP hD hS hR => ?_)
          refine lv_aload_n hx hb dX9_refuses_71 rfl (lv_at hl 2 rfl) ?_
          refine lv_iconst (v := 0) hx hb dX9_refuses_72 (by decide) ?_
          refine put_seen_6 (v := (0 : Int32)) hx hb hta iwX9 hown hK hP hD hS hR hi (hta _ mw95) dX9_refuses_73 (fun H locs f hP hD hS hR => ?_)
          refine lv_iload_n hx hb dX9_refuses_76 rfl (lv_at hl 1 rfl) ?_
          exact W.zret (v := 1) (ty := .boolean) hx hb hr (by decide) (fun t ht hWm => gend_i (u := (uI (uI (uI (uI (uI S 34 i ((((sI S 34 i) <<< (1 &&& 31)) &&& 31) ||| 1)) 35 i ((sI S 35 i) + 1)) 33 i 110) 34 i 0) 35 i 0, ad, L, f)) ⟨Or.inr rfl, ⟨rfl, rfl, fun k j h1 h2 h3 => by simp [sI, uI, up2, h1, h2, h3]⟩, rfl, rfl⟩ hR hP hK hD hS ht hWm) hS.2.2 dX9_refuses_77
      · skip
        refine lv_istore_n (lv' := [(3, .int 116), (2, .int 1), (0, .ref (ad 6 i)), (1, .int bad)]) hx hb dX9_refuses_52 rfl hl (by decide) rfl (fun ls hl => ?_)
        refine lv_iload_n hx hb dX9_refuses_53 rfl (lv_at hl 0 rfl) ?_
        refine lv_aload_n hx hb dX9_refuses_54 rfl (lv_at hl 2 rfl) ?_
        refine get_rule_6 hx hb hta iwX9 hown hK hP hR hi (hta _ mw93) dX9_refuses_55 ?_
        refine lv_topi (fun x26 ex26 => ?_)
        obtain rfl := ex26.trans ((show sI (uI (uI S 34 i ((((sI S 34 i) <<< (1 &&& 31)) &&& 31) ||| 1)) 35 i ((sI S 35 i) + 1)) 33 i = sI (uI S 34 i ((((sI S 34 i) <<< (1 &&& 31)) &&& 31) ||| 1)) 33 i from up2_nk (sI (uI S 34 i ((((sI S 34 i) <<< (1 &&& 31)) &&& 31) ||| 1))) (k := 35) (i := i) (k' := 33) (i' := i) ((sI S 35 i) + 1) (by decide)).trans (show sI (uI S 34 i ((((sI S 34 i) <<< (1 &&& 31)) &&& 31) ||| 1)) 33 i = sI S 33 i from up2_nk (sI S) (k := 34) (i := i) (k' := 33) (i' := i) ((((sI S 34 i) <<< (1 &&& 31)) &&& 31) ||| 1) (by decide)))
        refine lv_icmp_eq (tgt := 76) hx hb dX9_refuses_58 (by decide) (fun c27 => ?_) (fun c27 => ?_)
        · skip
          refine lv_iload_n hx hb dX9_refuses_76 rfl (lv_at hl 1 rfl) ?_
          exact W.zret (v := 1) (ty := .boolean) hx hb hr (by decide) (fun t ht hWm => gend_i (u := (uI (uI S 34 i ((((sI S 34 i) <<< (1 &&& 31)) &&& 31) ||| 1)) 35 i ((sI S 35 i) + 1), ad, L, f)) ⟨Or.inr rfl, ⟨rfl, rfl, fun k j h1 h2 h3 => by simp [sI, uI, up2, h1, h2, h3]⟩, rfl, rfl⟩ hR hP hK hD hS ht hWm) hS.2.2 dX9_refuses_77
        · skip
          refine lv_aload_n hx hb dX9_refuses_61 rfl (lv_at hl 2 rfl) ?_
          refine lv_iload_n hx hb dX9_refuses_62 rfl (lv_at hl 0 rfl) ?_
          refine put_rule_6 (v := (116 : Int32)) hx hb hta iwX9 hown hK hP hD hS hR hi (hta _ mw93) (by decide) (by decide) dX9_refuses_63 (fun H locs f hP hD hS hR => ?_)
          refine lv_aload_n hx hb dX9_refuses_66 rfl (lv_at hl 2 rfl) ?_
          refine lv_iconst (v := 0) hx hb dX9_refuses_67 (by decide) ?_
          refine put_refusals_6 (v := (0 : Int32)) hx hb hta iwX9 hown hK hP hD hS hR hi (hta _ mw94) dX9_refuses_68 (fun H locs f hP hD hS hR => ?_)
          refine lv_aload_n hx hb dX9_refuses_71 rfl (lv_at hl 2 rfl) ?_
          refine lv_iconst (v := 0) hx hb dX9_refuses_72 (by decide) ?_
          refine put_seen_6 (v := (0 : Int32)) hx hb hta iwX9 hown hK hP hD hS hR hi (hta _ mw95) dX9_refuses_73 (fun H locs f hP hD hS hR => ?_)
          refine lv_iload_n hx hb dX9_refuses_76 rfl (lv_at hl 1 rfl) ?_
          exact W.zret (v := 1) (ty := .boolean) hx hb hr (by decide) (fun t ht hWm => gend_i (u := (uI (uI (uI (uI (uI S 34 i ((((sI S 34 i) <<< (1 &&& 31)) &&& 31) ||| 1)) 35 i ((sI S 35 i) + 1)) 33 i 116) 34 i 0) 35 i 0, ad, L, f)) ⟨Or.inr rfl, ⟨rfl, rfl, fun k j h1 h2 h3 => by simp [sI, uI, up2, h1, h2, h3]⟩, rfl, rfl⟩ hR hP hK hD hS ht hWm) hS.2.2 dX9_refuses_77
      · skip
        refine lv_istore_n (lv' := [(3, .int 114), (2, .int 1), (0, .ref (ad 6 i)), (1, .int bad)]) hx hb dX9_refuses_52 rfl hl (by decide) rfl (fun ls hl => ?_)
        refine lv_iload_n hx hb dX9_refuses_53 rfl (lv_at hl 0 rfl) ?_
        refine lv_aload_n hx hb dX9_refuses_54 rfl (lv_at hl 2 rfl) ?_
        refine get_rule_6 hx hb hta iwX9 hown hK hP hR hi (hta _ mw93) dX9_refuses_55 ?_
        refine lv_topi (fun x28 ex28 => ?_)
        obtain rfl := ex28.trans ((show sI (uI (uI S 34 i ((((sI S 34 i) <<< (1 &&& 31)) &&& 31) ||| 1)) 35 i ((sI S 35 i) + 1)) 33 i = sI (uI S 34 i ((((sI S 34 i) <<< (1 &&& 31)) &&& 31) ||| 1)) 33 i from up2_nk (sI (uI S 34 i ((((sI S 34 i) <<< (1 &&& 31)) &&& 31) ||| 1))) (k := 35) (i := i) (k' := 33) (i' := i) ((sI S 35 i) + 1) (by decide)).trans (show sI (uI S 34 i ((((sI S 34 i) <<< (1 &&& 31)) &&& 31) ||| 1)) 33 i = sI S 33 i from up2_nk (sI S) (k := 34) (i := i) (k' := 33) (i' := i) ((((sI S 34 i) <<< (1 &&& 31)) &&& 31) ||| 1) (by decide)))
        refine lv_icmp_eq (tgt := 76) hx hb dX9_refuses_58 (by decide) (fun c29 => ?_) (fun c29 => ?_)
        · skip
          refine lv_iload_n hx hb dX9_refuses_76 rfl (lv_at hl 1 rfl) ?_
          exact W.zret (v := 1) (ty := .boolean) hx hb hr (by decide) (fun t ht hWm => gend_i (u := (uI (uI S 34 i ((((sI S 34 i) <<< (1 &&& 31)) &&& 31) ||| 1)) 35 i ((sI S 35 i) + 1), ad, L, f)) ⟨Or.inr rfl, ⟨rfl, rfl, fun k j h1 h2 h3 => by simp [sI, uI, up2, h1, h2, h3]⟩, rfl, rfl⟩ hR hP hK hD hS ht hWm) hS.2.2 dX9_refuses_77
        · skip
          refine lv_aload_n hx hb dX9_refuses_61 rfl (lv_at hl 2 rfl) ?_
          refine lv_iload_n hx hb dX9_refuses_62 rfl (lv_at hl 0 rfl) ?_
          refine put_rule_6 (v := (114 : Int32)) hx hb hta iwX9 hown hK hP hD hS hR hi (hta _ mw93) (by decide) (by decide) dX9_refuses_63 (fun H locs f hP hD hS hR => ?_)
          refine lv_aload_n hx hb dX9_refuses_66 rfl (lv_at hl 2 rfl) ?_
          refine lv_iconst (v := 0) hx hb dX9_refuses_67 (by decide) ?_
          refine put_refusals_6 (v := (0 : Int32)) hx hb hta iwX9 hown hK hP hD hS hR hi (hta _ mw94) dX9_refuses_68 (fun H locs f hP hD hS hR => ?_)
          refine lv_aload_n hx hb dX9_refuses_71 rfl (lv_at hl 2 rfl) ?_
          refine lv_iconst (v := 0) hx hb dX9_refuses_72 (by decide) ?_
          refine put_seen_6 (v := (0 : Int32)) hx hb hta iwX9 hown hK hP hD hS hR hi (hta _ mw95) dX9_refuses_73 (fun H locs f hP hD hS hR => ?_)
          refine lv_iload_n hx hb dX9_refuses_76 rfl (lv_at hl 1 rfl) ?_
          exact W.zret (v := 1) (ty := .boolean) hx hb hr (by decide) (fun t ht hWm => gend_i (u := (uI (uI (uI (uI (uI S 34 i ((((sI S 34 i) <<< (1 &&& 31)) &&& 31) ||| 1)) 35 i ((sI S 35 i) + 1)) 33 i 114) 34 i 0) 35 i 0, ad, L, f)) ⟨Or.inr rfl, ⟨rfl, rfl, fun k j h1 h2 h3 => by simp [sI, uI, up2, h1, h2, h3]⟩, rfl, rfl⟩ hR hP hK hD hS ht hWm) hS.2.2 dX9_refuses_77

set_option maxHeartbeats 4000000 in
set_option maxRecDepth 100000 in
theorem c_X10_findSupplier (l : Launch) {D : va_G} {tA : Nat → ClassId} {S : St} {ad : Nat → Nat → Nat} {L : List Nat} {f : Nat → va_E} (hR : Rep tA S ad L f) {i : Nat} (hi : i < 4) : Met l yX10_findSupplier (wsC yX10_findSupplier cX10_findSupplier 2 (some (.object "Foundrymark$Supplier"))) ({ frames := 0, cells := 0, slots := 0, locals := 0 }) (va_Pc [.ref (ad 0 0), .int (nI i)] (gB D tA L f)) (va_Sq (fun r => r = Option.map (ad 6) (some i))) 0 0 (fun _ => False) := by
  refine Met.ofW (cc := cX10_findSupplier) (maxL := 2) (ret := (some (.object "Foundrymark$Supplier"))) (by decide) rfl ?_
  intro p e s m args below meth c s₁ B hml hv
  obtain ⟨rfl, hP, hK, hD⟩ := hv
  have hx := B.exec
  have hb := B.bytes
  have hr := B.returns
  have hts := atoms_spec (ws := wsC yX10_findSupplier cX10_findSupplier 2 (some (.object "Foundrymark$Supplier"))) B.pre
  have hta : ∀ w ∈ WA, w.before _ s = true := fun w h => hts w (List.mem_cons_of_mem _ h)
  have hown : s.vm.findClass RX10 = some m.cls := findClass_of_methodNamed B.named
  have hlocks := B.notSynchronized
  have hP : va_P D vwCl (va_pl L f) s.heap := hP
  have hl := lv_entry ([.ref (ad 0 0), .int (nI i)]) (n := 2) (Nat.le_of_ble_eq_true rfl)
  rw [lg_entry_eq]
  generalize (lg_sl ([.ref (ad 0 0), .int (nI i)]) ++ List.replicate (2 - (lg_sl ([.ref (ad 0 0), .int (nI i)])).length) Slot.unset).toArray = ls at hl ⊢
  have hl : lv_has ls 2 [(0, .ref (ad 0 0)), (1, .int (nI i))] := hl
  refine lv_iload_n hx hb dX10_findSupplier_0 rfl (lv_at hl 1 rfl) ?_
  refine lv_if_lt (tgt := 22) hx hb dX10_findSupplier_1 (by decide) (fun c1 => ?_) (fun c1 => ?_)
  · exact absurd c1 (nI_pos (by omega))
  · skip
    refine lv_iload_n hx hb dX10_findSupplier_4 rfl (lv_at hl 1 rfl) ?_
    refine lv_aload_n hx hb dX10_findSupplier_5 rfl (lv_at hl 0 rfl) ?_
    refine get_suppliers_0 hx hb hta iwX10 hown hK hP hR (rfl : (0 : Nat) = 0) (hta _ mw98) dX10_findSupplier_6 ?_
    refine len_suppliers hx hb hK hP hR (rfl : (0 : Nat) = 0) dX10_findSupplier_9 ?_
    refine lv_icmp_ge (tgt := 22) hx hb dX10_findSupplier_10 (by decide) (fun c2 => ?_) (fun c2 => ?_)
    · exact absurd c2 (nI_ge (a := i) (b := 4) hi (by decide))
    · skip
      refine lv_aload_n hx hb dX10_findSupplier_13 rfl (lv_at hl 0 rfl) ?_
      refine get_suppliers_0 hx hb hta iwX10 hown hK hP hR (rfl : (0 : Nat) = 0) (hta _ mw98) dX10_findSupplier_14 ?_
      refine lv_iload_n hx hb dX10_findSupplier_17 rfl (lv_at hl 1 rfl) ?_
      refine ldn_suppliers hx hb hK hP hR (rfl : (0 : Nat) = 0) hi dX10_findSupplier_18 (fun h3 => ?_) (fun h3 => ?_)
      · skip
        refine lv_goto (tgt := 23) hx hb dX10_findSupplier_19 (by decide) ?_
        exact W.aret (rt := (.object "Foundrymark$Supplier")) hx hb hr (Or.inl ⟨_, rfl⟩) (Or.inr ⟨_, rfl⟩) (fun t ht hWm => ⟨some (ad 6 i), rfl, rfl, ht⟩) (fun q h => absurd h List.not_mem_nil) dX10_findSupplier_23
      · skip
        refine lv_goto (tgt := 23) hx hb dX10_findSupplier_19 (by decide) ?_
        exact absurd hi h3

/-- a lot comes in: the state before the supplier's rule -/
def rcT (S : St) (p : Nat) (qy co : Int32) : St := nlS (uJ (uI S 1 0 (sI S 1 0 + 1)) 1 0 (sJ S 1 0 + qy.toInt64 * co.toInt64)) p qy (qy.toInt64 * co.toInt64)
set_option maxHeartbeats 4000000 in
set_option maxRecDepth 100000 in
theorem c_X10_receive (l : Launch) {D : va_G} {tA : Nat → ClassId} {S : St} {ad : Nat → Nat → Nat} {L : List Nat} {f : Nat → va_E} {sz : Nat} (hR : Rep tA S ad L f) (hW : WT S) {p9 su : Nat} (hp : p9 < sN S 1 0) (hsu : su < 4) (qy co bad : Int32) (hm : sI S 20 p9 = 0) (hqy : inR qy 1 500 = true) (hco : inR co 0 999 = true) (hbad : inR bad 0 20 = true) (hbc : sI S 1 0 < 60) (hn : sN S 2 0 < 90) : Met l yX10_receive (wsC yX10_receive cX10_receive 11 (some .int)) ({ frames := 4, cells := 4, slots := 16, locals := 125 }) (va_Pc [.ref (ad 0 0), .int (nI p9), .int qy, .int co, .int (nI su), .int bad] (gY D tA L f sz)) (va_Qi (fun (r : Int32) (u : gU) => r = nI (sN S 2 0) ∧ (∃ T, SupEq (rcT S p9 qy co) T ∧ (u.1 = T ∨ u.1 = sAdd T 14 0 (sN S 2 0))) ∧ ∀ k i, V S k i → u.2.1 k i = ad k i) (gE D tA (va_A (va_pl L f) sz)) (va_A (va_pl L f) sz)) 4 16 (va_A (va_pl L f) sz) := by
  refine Met.ofW (cc := cX10_receive) (maxL := 11) (ret := (some .int)) (by decide) rfl ?_
  intro p e s m args below meth c s₁ B hml hv
  obtain ⟨rfl, ⟨hsz, hP, hK, hD0⟩, hX⟩ := hv
  have hx := B.exec
  have hb := B.bytes
  have hr := B.returns
  have hts := atoms_spec (ws := wsC yX10_receive cX10_receive 11 (some .int)) B.pre
  have hta : ∀ w ∈ WA, w.before _ s = true := fun w h => hts w (List.mem_cons_of_mem _ h)
  have hown : s.vm.findClass RX10 = some m.cls := findClass_of_methodNamed B.named
  have hlocks := B.notSynchronized
  subst hsz
  have hD : va_D (va_A (va_pl L f) s.heap.size) (va_pl L f) := hD0.self (sz := s.heap.size)
  generalize hAe : va_A (va_pl L f) s.heap.size = A at hD ⊢
  have hA : ∀ q : Nat, s.heap.size ≤ q → A q := fun q h => by rw [← hAe]; exact Or.inr h
  have hS : va_S A s.heap s.heap [] := va_S.rf
  have hP : va_P D vwCl (va_pl L f) s.heap := hP
  have hl := lv_entry ([.ref (ad 0 0), .int (nI p9), .int qy, .int co, .int (nI su), .int bad]) (n := 11) (Nat.le_of_ble_eq_true rfl)
  rw [lg_entry_eq]
  generalize (lg_sl ([.ref (ad 0 0), .int (nI p9), .int qy, .int co, .int (nI su), .int bad]) ++ List.replicate (11 - (lg_sl ([.ref (ad 0 0), .int (nI p9), .int qy, .int co, .int (nI su), .int bad])).length) Slot.unset).toArray = ls at hl ⊢
  have hl : lv_has ls 11 [(0, .ref (ad 0 0)), (1, .int (nI p9)), (2, .int qy), (3, .int co), (4, .int (nI su)), (5, .int bad)] := hl
  refine lv_aload_n hx hb dX10_receive_0 rfl (lv_at hl 0 rfl) ?_
  refine lv_iload_n hx hb dX10_receive_1 rfl (lv_at hl 1 rfl) ?_
  obtain ⟨q1, e2⟩ := cell_0 hR (rfl : (0 : Nat) = 0)
  refine gro_q (ci := 12) (As := [.int (nI p9)]) (rest := []) ⟨hx, hb, hml, hown, hta⟩ (c_X10_knownPart l hR hW hp) (cwV 1 hta (gWV mw318 mw319 mw9 mw40 mw320) rfl rfl rfl (by decide +kernel) ⟨Nat.le_of_ble_eq_true rfl, Nat.le_of_ble_eq_true rfl⟩) hK hP hD rfl e2 rfl hl.1 rfl (Nat.le_of_ble_eq_true rfl) dX10_receive_2 ⟨Nat.le_of_ble_eq_true rfl, Nat.le_of_ble_eq_true rfl⟩ (fun r3 c4 => ?_)
  obtain rfl := c4
  change W _ _ _ _ _ _ _ _ _ _ _ _ _ _ _ (F0 _ _ _ (rf ad 2 (some p9) :: []))
  rw [rf_some]
  refine lv_astore (lv' := [(6, .ref (ad 2 p9)), (0, .ref (ad 0 0)), (1, .int (nI p9)), (2, .int qy), (3, .int co), (4, .int (nI su)), (5, .int bad)]) hx hb dX10_receive_5 hl (by decide) rfl (fun ls hl => ?_)
  refine lv_aload_n hx hb dX10_receive_7 rfl (lv_at hl 1 rfl) ?_
  refine lv_iload hx hb dX10_receive_8 (lv_at hl 5 rfl) ?_
  obtain ⟨q5, e6⟩ := cell_0 hR (rfl : (0 : Nat) = 0)
  refine gro_q (ci := 12) (As := [.int (nI su)]) (rest := []) ⟨hx, hb, hml, hown, hta⟩ (c_X10_findSupplier l hR hsu) (cwV 1 hta (gWV mw392 mw393 mw11 mw40 mw394) rfl rfl rfl (by decide +kernel) ⟨Nat.le_of_ble_eq_true rfl, Nat.le_of_ble_eq_true rfl⟩) hK hP hD rfl e6 rfl hl.1 rfl (Nat.le_of_ble_eq_true rfl) dX10_receive_10 ⟨Nat.le_of_ble_eq_true rfl, Nat.le_of_ble_eq_true rfl⟩ (fun r7 c8 => ?_)
  obtain rfl := c8
  change W _ _ _ _ _ _ _ _ _ _ _ _ _ _ _ (F0 _ _ _ (rf ad 6 (some su) :: []))
  rw [rf_some]
  refine lv_astore (lv' := [(7, .ref (ad 6 su)), (6, .ref (ad 2 p9)), (0, .ref (ad 0 0)), (1, .int (nI p9)), (2, .int qy), (3, .int co), (4, .int (nI su)), (5, .int bad)]) hx hb dX10_receive_13 hl (by decide) rfl (fun ls hl => ?_)
  refine lv_aload hx hb dX10_receive_15 (lv_at hl 1 rfl) ?_
  refine get_isMade_2 hx hb hta iwX8 hown hK hP hR hp (hta _ mw290) dX10_receive_17 ?_
  refine lv_if_eq (tgt := 33) hx hb dX10_receive_20 (by decide) (fun c9 => ?_) (fun c9 => ?_)
  · skip
    refine lv_aload hx hb dX10_receive_33 (lv_at hl 0 rfl) ?_
    refine lv_ifnull hx hb dX10_receive_35 ?_
    refine lv_iload_n hx hb dX10_receive_38 rfl (lv_at hl 4 rfl) ?_
    refine lv_iconst (v := 1) hx hb dX10_receive_39 (by decide) ?_
    refine lv_sipush (v := 500) hx hb dX10_receive_40 (by decide) ?_
    refine vp_callSi (W.runS (As := [.int qy, .int 1, .int 500]) (rest := []) ⟨hx, hb, hml, hown, hta⟩ (c_X10_isFrom l qy 1 500) (va_cwS 3 hta (gWS mw223 mw224 mw40 mw225) rfl rfl rfl (by decide +kernel) ⟨Nat.le_of_ble_eq_true rfl, Nat.le_of_ble_eq_true rfl⟩) ⟨fun a U g mk q => ⟨q.1, trivial⟩, fun U hU hW9 => ⟨rfl, trivial⟩⟩ rfl rfl hl.1 rfl (lv_room (Nat.le_of_ble_eq_true rfl)) dX10_receive_43 ⟨Nat.le_of_ble_eq_true rfl, Nat.le_of_ble_eq_true rfl⟩) (fun r10 c11 => ?_)
    obtain rfl : r10 = 1 := c11.trans (by rw [hqy]; rfl)
    refine lv_if_eq (tgt := 71) hx hb dX10_receive_46 (by decide) (fun c12 => ?_) (fun c12 => ?_)
    · exact absurd c12 (by decide)
    · skip
      refine lv_iload_n hx hb dX10_receive_49 rfl (lv_at hl 5 rfl) ?_
      refine lv_iconst (v := 0) hx hb dX10_receive_50 (by decide) ?_
      refine lv_sipush (v := 999) hx hb dX10_receive_51 (by decide) ?_
      refine vp_callSi (W.runS (As := [.int co, .int 0, .int 999]) (rest := []) ⟨hx, hb, hml, hown, hta⟩ (c_X10_isFrom l co 0 999) (va_cwS 3 hta (gWS mw223 mw224 mw40 mw225) rfl rfl rfl (by decide +kernel) ⟨Nat.le_of_ble_eq_true rfl, Nat.le_of_ble_eq_true rfl⟩) ⟨fun a U g mk q => ⟨q.1, trivial⟩, fun U hU hW9 => ⟨rfl, trivial⟩⟩ rfl rfl hl.1 rfl (lv_room (Nat.le_of_ble_eq_true rfl)) dX10_receive_54 ⟨Nat.le_of_ble_eq_true rfl, Nat.le_of_ble_eq_true rfl⟩) (fun r13 c14 => ?_)
      obtain rfl : r13 = 1 := c14.trans (by rw [hco]; rfl)
      refine lv_if_eq (tgt := 71) hx hb dX10_receive_57 (by decide) (fun c15 => ?_) (fun c15 => ?_)
      · exact absurd c15 (by decide)
      · skip
        refine lv_iload hx hb dX10_receive_60 (lv_at hl 7 rfl) ?_
        refine lv_iconst (v := 0) hx hb dX10_receive_62 (by decide) ?_
        refine lv_bipush (v := 20) hx hb dX10_receive_63 (by decide) ?_
        refine vp_callSi (W.runS (As := [.int bad, .int 0, .int 20]) (rest := []) ⟨hx, hb, hml, hown, hta⟩ (c_X10_isFrom l bad 0 20) (va_cwS 3 hta (gWS mw223 mw224 mw40 mw225) rfl rfl rfl (by decide +kernel) ⟨Nat.le_of_ble_eq_true rfl, Nat.le_of_ble_eq_true rfl⟩) ⟨fun a U g mk q => ⟨q.1, trivial⟩, fun U hU hW9 => ⟨rfl, trivial⟩⟩ rfl rfl hl.1 rfl (lv_room (Nat.le_of_ble_eq_true rfl)) dX10_receive_65 ⟨Nat.le_of_ble_eq_true rfl, Nat.le_of_ble_eq_true rfl⟩) (fun r16 c17 => ?_)
        obtain rfl : r16 = 1 := c17.trans (by rw [hbad]; rfl)
        refine lv_if_ne (tgt := 81) hx hb dX10_receive_68 (by decide) (fun c18 => ?_) (fun c18 => ?_)
        · skip
          refine lv_aload_n hx hb dX10_receive_81 rfl (lv_at hl 2 rfl) ?_
          refine get_boughtCount_0 hx hb hta iwX10 hown hK hP hR (rfl : (0 : Nat) = 0) (hta _ mw105) dX10_receive_82 ?_
          refine lv_bipush (v := 60) hx hb dX10_receive_85 (by decide) ?_
          refine lv_icmp_lt (tgt := 100) hx hb dX10_receive_87 (by decide) (fun c19 => ?_) (fun c19 => ?_)
          · skip
            refine lv_aload_n hx hb dX10_receive_100 rfl (lv_at hl 2 rfl) ?_
            refine lv_dup hx hb dX10_receive_101 rfl ?_
            refine get_boughtCount_0 hx hb hta iwX10 hown hK hP hR (rfl : (0 : Nat) = 0) (hta _ mw105) dX10_receive_102 ?_
            refine lv_iconst (v := 1) hx hb dX10_receive_105 (by decide) ?_
            refine lv_iadd hx hb dX10_receive_106 ?_
            refine put_boughtCount_0 (v := ((sI S 1 0) + 1 : Int32)) hx hb hta iwX10 hown hK hP hD hS hR (rfl : (0 : Nat) = 0) (hta _ mw105) dX10_receive_107 (fun H locs f hP hD hS hR => ?_)
            refine lv_iload_n hx hb dX10_receive_110 rfl (lv_at hl 4 rfl) ?_
            refine lv_i2l (v := qy.toInt64) hx hb dX10_receive_111 rfl ?_
            refine lv_iload_n hx hb dX10_receive_112 rfl (lv_at hl 5 rfl) ?_
            refine lv_i2l (v := co.toInt64) hx hb dX10_receive_113 rfl ?_
            refine lv_lmul hx hb dX10_receive_114 ?_
            refine lv_lstore (lv' := [(8, .long (qy.toInt64 * co.toInt64)), (7, .ref (ad 6 su)), (6, .ref (ad 2 p9)), (0, .ref (ad 0 0)), (1, .int (nI p9)), (2, .int qy), (3, .int co), (4, .int (nI su)), (5, .int bad)]) hx hb dX10_receive_115 hl (by decide) rfl (fun ls hl => ?_)
            refine lv_aload_n hx hb dX10_receive_117 rfl (lv_at hl 3 rfl) ?_
            refine lv_dup hx hb dX10_receive_118 rfl ?_
            refine get_costIn_0 hx hb hta iwX10 hown hK hP hR (rfl : (0 : Nat) = 0) (hta _ mw108) dX10_receive_119 ?_
            refine lv_lload hx hb dX10_receive_122 (lv_at hl 0 rfl) ?_
            refine lv_ladd hx hb dX10_receive_124 ?_
            refine put_costIn_0 (v := ((sJ S 1 0) + (qy.toInt64 * co.toInt64) : Int64)) hx hb hta iwX10 hown hK hP hD hS hR (rfl : (0 : Nat) = 0) (hta _ mw108) dX10_receive_125 (fun H locs f hP hD hS hR => ?_)
            refine lv_aload_n hx hb dX10_receive_128 rfl (lv_at hl 3 rfl) ?_
            refine lv_aload hx hb dX10_receive_129 (lv_at hl 2 rfl) ?_
            refine lv_iload_n hx hb dX10_receive_131 rfl (lv_at hl 5 rfl) ?_
            refine lv_lload hx hb dX10_receive_132 (lv_at hl 0 rfl) ?_
            obtain ⟨q20, e21⟩ := cell_0 hR (rfl : (0 : Nat) = 0)
            refine gwr_qY (ci := 12) (As := [.ref (ad 2 p9), .int qy, .long (qy.toInt64 * co.toInt64)]) (rest := []) ⟨hx, hb, hml, hown, hta⟩ (c_X10_putLot l hR hW (hp) qy (qy.toInt64 * co.toInt64) hn) (cwV 3 hta (gWV mw395 mw396 mw12 mw40 mw397) rfl rfl rfl (by decide +kernel) ⟨Nat.le_of_ble_eq_true rfl, Nat.le_of_ble_eq_true rfl⟩) hX hK hP hD hS hA rfl e21 rfl hl.1 rfl (Nat.le_of_ble_eq_true rfl) dX10_receive_134 ⟨Nat.le_of_ble_eq_true rfl, Nat.le_of_ble_eq_true rfl⟩ (fun r22 u H locs hw hR hP hD hS => ?_)
            obtain ⟨S9, ad24, L25, f⟩ := u
            obtain ⟨rfl, rfl, hx23⟩ := hw
            dsimp only at hR hP hD hx23 ⊢
            rw [← hx23 6 su (hsu), ← hx23 2 p9 (hp), ← hx23 0 0 ((rfl : (0 : Nat) = 0))] at hl
            have hWn : WT (rcT S p9 qy co) := WT.nl (S := uJ (uI S 1 0 (sI S 1 0 + 1)) 1 0 (sJ S 1 0 + qy.toInt64 * co.toInt64)) hW hp hn
            have hln : sN S 2 0 < sN (rcT S p9 qy co) 2 0 := Nat.lt_of_lt_of_le (Nat.lt_succ_self _) (Nat.le_of_eq (nlS_nL (S := uJ (uI S 1 0 (sI S 1 0 + 1)) 1 0 (sJ S 1 0 + qy.toInt64 * co.toInt64))).symm)
            change Rep tA (rcT S p9 qy co) _ _ _ at hR
            generalize hT : rcT S p9 qy co = T at hR hWn hln
            change W _ _ _ _ _ _ _ _ _ _ _ _ _ _ _ (F0 _ _ _ (rf ad24 7 (some (sN S 2 0)) :: []))
            rw [rf_some]
            refine lv_astore (lv' := [(10, .ref (ad24 7 (sN S 2 0))), (8, .long (qy.toInt64 * co.toInt64)), (7, .ref (ad24 6 su)), (6, .ref (ad24 2 p9)), (0, .ref (ad24 0 0)), (1, .int (nI p9)), (2, .int qy), (3, .int co), (4, .int (nI su)), (5, .int bad)]) hx hb dX10_receive_137 hl (by decide) rfl (fun ls hl => ?_)
            refine lv_aload hx hb dX10_receive_139 (lv_at hl 2 rfl) ?_
            refine lv_iload hx hb dX10_receive_141 (lv_at hl 9 rfl) ?_
            obtain ⟨q26, e27⟩ := cell_6 hR hsu
            refine gwr_i (mc := 0) (ms := 0) (ci := 11) (As := [.int bad]) (rest := []) ⟨hx, hb, hml, hown, hta⟩ (c_X9_refuses l hR hsu bad) (cwV 1 hta (gWV mw426 mw427 mw428 mw42 mw429) rfl rfl rfl (by decide +kernel) ⟨Nat.le_of_ble_eq_true rfl, Nat.le_of_ble_eq_true rfl⟩) hK hP hD hS hA rfl e27 rfl hl.1 rfl (Nat.le_of_ble_eq_true rfl) dX10_receive_143 ⟨Nat.le_of_ble_eq_true rfl, Nat.le_of_ble_eq_true rfl⟩ (fun r28 u H locs hw hR hP hD hS => ?_)
            obtain ⟨S9, ad9, L9, f⟩ := u
            obtain ⟨hr9, hSup, rfl, rfl⟩ := hw
            dsimp only at hR hP hD hSup
            have hW9 : WT S9 := hSup.WT hWn
            have hl9 : sN S 2 0 < sN S9 2 0 := by rw [show sN S9 = sN T from hSup.1]; exact hln
            rcases hr9 with rfl | rfl
            · skip
              refine lv_if_eq (tgt := 161) hx hb dX10_receive_146 (by decide) (fun c29 => ?_) (fun c29 => ?_)
              · skip
                refine lv_aload hx hb dX10_receive_161 (lv_at hl 0 rfl) ?_
                refine get_number_7 hx hb hta iwX3 hown hK hP hR hl9 (hta _ mw407) dX10_receive_163 ?_
                refine W.widen (k := 4) (n := 16) (Nat.le_of_ble_eq_true rfl) (Nat.le_of_ble_eq_true rfl) ?_
                exact W.iret (v := (nI (sN S 2 0))) hx hb hr (fun t ht hWm => gend_i (u := (S9, ad24, L25, f)) ⟨rfl, ⟨S9, by first | exact hSup | (rw [hT]; exact hSup), Or.inl rfl⟩, hx23⟩ hR hP hK hD hS ht hWm) hS.2.2 dX10_receive_166
              · exact absurd (by decide) c29
            · skip
              refine lv_if_eq (tgt := 161) hx hb dX10_receive_146 (by decide) (fun c30 => ?_) (fun c30 => ?_)
              · exact absurd c30 (by decide)
              · skip
                refine lv_aload_n hx hb dX10_receive_149 rfl (lv_at hl 4 rfl) ?_
                refine get_onHold_0 hx hb hta iwX10 hown hK hP hR (rfl : (0 : Nat) = 0) (hta _ mw101) dX10_receive_150 ?_
                refine lv_aload hx hb dX10_receive_153 (lv_at hl 0 rfl) ?_
                refine get_number_7 hx hb hta iwX3 hown hK hP hR hl9 (hta _ mw407) dX10_receive_155 ?_
                obtain ⟨q31, e32⟩ := cell_14 hR (rfl : (0 : Nat) = 0)
                refine gwr_v (mc := 0) (ms := 0) (ci := 7) (As := [.int (nI (sN S 2 0))]) (rest := []) ⟨hx, hb, hml, hown, hta⟩ (c_X5_add l hR (k := 14) (i := 0) ⟨rfl, rfl⟩ (j := sN S 2 0) (Nat.lt_trans hn (by decide))) (cwV 1 hta (gWV mw445 mw446 mw447 mw41 mw448) rfl rfl rfl (by decide +kernel) ⟨Nat.le_of_ble_eq_true rfl, Nat.le_of_ble_eq_true rfl⟩) hK hP hD hS hA rfl e32 rfl hl.1 rfl (Nat.le_of_ble_eq_true rfl) dX10_receive_158 ⟨Nat.le_of_ble_eq_true rfl, Nat.le_of_ble_eq_true rfl⟩ (fun u H locs hw hR hP hD hS => ?_)
                obtain ⟨S9, ad9, L9, f⟩ := u
                obtain ⟨rfl, rfl, rfl⟩ := hw
                dsimp only at hR hP hD
                refine lv_aload hx hb dX10_receive_161 (lv_at hl 0 rfl) ?_
                refine get_number_7 hx hb hta iwX3 hown hK hP hR hl9 (hta _ mw407) dX10_receive_163 ?_
                refine W.widen (k := 4) (n := 16) (Nat.le_of_ble_eq_true rfl) (Nat.le_of_ble_eq_true rfl) ?_
                exact W.iret (v := (nI (sN S 2 0))) hx hb hr (fun t ht hWm => gend_i (u := ((sAdd S9 14 0 (sN S 2 0)), ad24, L25, f)) ⟨rfl, ⟨S9, by first | exact hSup | (rw [hT]; exact hSup), Or.inr rfl⟩, hx23⟩ hR hP hK hD hS ht hWm) hS.2.2 dX10_receive_166
          · exact absurd hbc c19
        · exact absurd c18 (by decide)
  · exact absurd hm c9

