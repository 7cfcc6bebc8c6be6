set_option maxHeartbeats 4000000 in
set_option maxRecDepth 100000 in
theorem c_X10_isFrom (l : Launch) (v a b : Int32) : Met l ⟨"Foundrymark", "isFrom", "(III)Z"⟩ (wsC ⟨"Foundrymark", "isFrom", "(III)Z"⟩ cX10_isFrom 3 (some .boolean)) ({ frames := 0, cells := 0, slots := 0, locals := 0 }) (va_Pc [.int v, .int a, .int b] (fun _ => True)) (vp_Si (fun r => r = bI (inR v a b))) 0 0 (fun _ => False) := by
  refine Met.ofW (cc := cX10_isFrom) (maxL := 3) (ret := (some .boolean)) (by decide) rfl ?_
  intro p e s m args below meth c s₁ B hml hv
  obtain ⟨rfl, -⟩ := hv
  have hx := B.exec
  have hb := B.bytes
  have hr := B.returns
  have hlocks := B.notSynchronized
  have hts := atoms_spec (ws := wsC ⟨"Foundrymark", "isFrom", "(III)Z"⟩ cX10_isFrom 3 (some .boolean)) B.pre
  have hta : ∀ w ∈ WA, w.before _ s = true := fun w h => hts w (List.mem_cons_of_mem _ h)
  have hown : s.vm.findClass "Foundrymark" = some m.cls := findClass_of_methodNamed B.named
  have hl := lv_entry ([.int v, .int a, .int b]) (n := 3) (Nat.le_of_ble_eq_true rfl)
  rw [lg_entry_eq]
  generalize (lg_sl ([.int v, .int a, .int b]) ++ List.replicate (3 - (lg_sl ([.int v, .int a, .int b])).length) Slot.unset).toArray = ls at hl ⊢
  have hl : lv_has ls 3 [(0, .int v), (1, .int a), (2, .int b)] := hl
  refine lv_iload_n hx hb dX10_isFrom_0 rfl (lv_at hl 0 rfl) ?_
  refine lv_iload_n hx hb dX10_isFrom_1 rfl (lv_at hl 1 rfl) ?_
  refine lv_icmp_lt (tgt := 14) hx hb dX10_isFrom_2 (by decide) (fun c1 => ?_) (fun c1 => ?_)
  · skip
    refine lv_iconst (v := 0) hx hb dX10_isFrom_14 (by decide) ?_
    have a9 : inR v a b = false := inR_f1 (Int32.not_le.mpr c1)
    exact W.zret (v := 0) (ty := .boolean) hx hb hr (by decide) (fun t ht hWm => ⟨_, rfl, (by rw [a9]; rfl), ht⟩) (fun q h => absurd h List.not_mem_nil) dX10_isFrom_15
  · skip
    refine lv_iload_n hx hb dX10_isFrom_5 rfl (lv_at hl 0 rfl) ?_
    refine lv_iload_n hx hb dX10_isFrom_6 rfl (lv_at hl 2 rfl) ?_
    refine lv_icmp_gt (tgt := 14) hx hb dX10_isFrom_7 (by decide) (fun c2 => ?_) (fun c2 => ?_)
    · skip
      refine lv_iconst (v := 0) hx hb dX10_isFrom_14 (by decide) ?_
      have a9 : inR v a b = false := inR_f2 (Int32.not_le.mpr c2)
      exact W.zret (v := 0) (ty := .boolean) hx hb hr (by decide) (fun t ht hWm => ⟨_, rfl, (by rw [a9]; rfl), ht⟩) (fun q h => absurd h List.not_mem_nil) dX10_isFrom_15
    · skip
      refine lv_iconst (v := 1) hx hb dX10_isFrom_10 (by decide) ?_
      refine lv_goto (tgt := 15) hx hb dX10_isFrom_11 (by decide) ?_
      have a9 : inR v a b = true := inR_t (Int32.not_lt.mp c1) (Int32.not_lt.mp c2)
      exact W.zret (v := 1) (ty := .boolean) hx hb hr (by decide) (fun t ht hWm => ⟨_, rfl, (by rw [a9]; rfl), ht⟩) (fun q h => absurd h List.not_mem_nil) dX10_isFrom_15

set_option maxHeartbeats 4000000 in
set_option maxRecDepth 100000 in
theorem c_X15_in (l : Launch) (v a b : Int32) : Met l ⟨"FoundrymarkModel", "in", "(III)Z"⟩ (wsC ⟨"FoundrymarkModel", "in", "(III)Z"⟩ cX15_in 3 (some .boolean)) ({ frames := 0, cells := 0, slots := 0, locals := 0 }) (va_Pc [.int v, .int a, .int b] (fun _ => True)) (vp_Si (fun r => r = bI (inR v a b))) 0 0 (fun _ => False) := by
  refine Met.ofW (cc := cX15_in) (maxL := 3) (ret := (some .boolean)) (by decide) rfl ?_
  intro p e s m args below meth c s₁ B hml hv
  obtain ⟨rfl, -⟩ := hv
  have hx := B.exec
  have hb := B.bytes
  have hr := B.returns
  have hlocks := B.notSynchronized
  have hts := atoms_spec (ws := wsC ⟨"FoundrymarkModel", "in", "(III)Z"⟩ cX15_in 3 (some .boolean)) B.pre
  have hta : ∀ w ∈ WA, w.before _ s = true := fun w h => hts w (List.mem_cons_of_mem _ h)
  have hown : s.vm.findClass "FoundrymarkModel" = some m.cls := findClass_of_methodNamed B.named
  have hl := lv_entry ([.int v, .int a, .int b]) (n := 3) (Nat.le_of_ble_eq_true rfl)
  rw [lg_entry_eq]
  generalize (lg_sl ([.int v, .int a, .int b]) ++ List.replicate (3 - (lg_sl ([.int v, .int a, .int b])).length) Slot.unset).toArray = ls at hl ⊢
  have hl : lv_has ls 3 [(0, .int v), (1, .int a), (2, .int b)] := hl
  refine lv_iload_n hx hb dX15_in_0 rfl (lv_at hl 0 rfl) ?_
  refine lv_iload_n hx hb dX15_in_1 rfl (lv_at hl 1 rfl) ?_
  refine lv_icmp_lt (tgt := 14) hx hb dX15_in_2 (by decide) (fun c1 => ?_) (fun c1 => ?_)
  · skip
    refine lv_iconst (v := 0) hx hb dX15_in_14 (by decide) ?_
    have a9 : inR v a b = false := inR_f1 (Int32.not_le.mpr c1)
    exact W.zret (v := 0) (ty := .boolean) hx hb hr (by decide) (fun t ht hWm => ⟨_, rfl, (by rw [a9]; rfl), ht⟩) (fun q h => absurd h List.not_mem_nil) dX15_in_15
  · skip
    refine lv_iload_n hx hb dX15_in_5 rfl (lv_at hl 0 rfl) ?_
    refine lv_iload_n hx hb dX15_in_6 rfl (lv_at hl 2 rfl) ?_
    refine lv_icmp_gt (tgt := 14) hx hb dX15_in_7 (by decide) (fun c2 => ?_) (fun c2 => ?_)
    · skip
      refine lv_iconst (v := 0) hx hb dX15_in_14 (by decide) ?_
      have a9 : inR v a b = false := inR_f2 (Int32.not_le.mpr c2)
      exact W.zret (v := 0) (ty := .boolean) hx hb hr (by decide) (fun t ht hWm => ⟨_, rfl, (by rw [a9]; rfl), ht⟩) (fun q h => absurd h List.not_mem_nil) dX15_in_15
    · skip
      refine lv_iconst (v := 1) hx hb dX15_in_10 (by decide) ?_
      refine lv_goto (tgt := 15) hx hb dX15_in_11 (by decide) ?_
      have a9 : inR v a b = true := inR_t (Int32.not_lt.mp c1) (Int32.not_lt.mp c2)
      exact W.zret (v := 1) (ty := .boolean) hx hb hr (by decide) (fun t ht hWm => ⟨_, rfl, (by rw [a9]; rfl), ht⟩) (fun q h => absurd h List.not_mem_nil) dX15_in_15
