/-! THE SCRIPT: an int array outside the class' world; cell and some -/
abbrev gS (b Ln : Nat) (xs : Nat → Int32) (U : State) : Prop := va_X b Ln xs U U.heap ∧ b < U.heap.size
theorem gS_blind {b Ln : Nat} {xs : Nat → Int32} {av : List Value} : FrameBlind (va_Pc av (gS b Ln xs)) := fun a U g mk q => by
  obtain ⟨q0, q1, q2⟩ := q
  exact ⟨q0, va_X.moved (u := U) (U := U.calling g mk a) (Vm.Alike.refl U.vm) q1, q2⟩
theorem gPreS {s : State} {H : Heap} {locs : List Loc} {A : Nat → Prop} {b Ln : Nat} {xs : Nat → Int32} {As : List Value} (hX : va_X b Ln xs s s.heap) (hbl : b < s.heap.size) (hbA : ¬ A b) (hS : va_S A s.heap H locs) : PreS s H (va_Pc As (gS b Ln xs)) As :=
  ⟨gS_blind, fun U hU hW9 => ⟨rfl, by rw [hU]; exact va_X.moved hW9.alike (hX.kept (hS.2.1 b hbl hbA)), by rw [hU]; exact Nat.lt_of_lt_of_le hbl hS.1⟩⟩
/-- what the script gives at the place k -/
def sxv (Ln : Nat) (xs : Nat → Int32) (k : Nat) : Int32 := if k < Ln then xs k else 7919 * nI k + 12
def smV (Ln : Nat) (xs : Nat → Int32) (k n : Nat) : Nat := ((sxv Ln xs k).toUInt32.toNat / 8) % n
theorem smV_lt {Ln : Nat} {xs : Nat → Int32} {k n : Nat} (h : 0 < n) : smV Ln xs k n < n := Nat.mod_lt _ h
theorem sh3 (x : Int32) : (x.toUInt32 >>> ((3 : Int32).toUInt32 &&& Int32.toUInt32 31)).toInt32 = nI (x.toUInt32.toNat / 8) := by
  rw [show ((3 : Int32).toUInt32 &&& Int32.toUInt32 31) = (3 : UInt32) from by decide +kernel]
  apply Int32.toBitVec_inj.1
  apply BitVec.eq_of_toNat_eq
  show (x.toUInt32 >>> (3 : UInt32)).toNat = (BitVec.ofNat 32 _).toNat
  have hl := x.toUInt32.toNat_lt
  rw [UInt32.toNat_shiftRight, show ((3 : UInt32).toNat % 32) = 3 from rfl, Nat.shiftRight_eq_div_pow, BitVec.toNat_ofNat, Nat.mod_eq_of_lt (by omega)]
theorem nI_rem {a n : Nat} (ha : a < 2 ^ 31) (h0 : 0 < n) (hn : n < 2 ^ 31) : nI a - nI a / nI n * nI n = nI (a % n) := by
  have hq : a / n ≤ a := Nat.div_le_self _ _
  have e1 : nI a / nI n = nI (a / n) := by
    apply Int32.toInt_inj.mp
    rw [Int32.toInt_div, nI_toInt ha, nI_toInt hn, nI_toInt (by omega), ← Int.ofNat_tdiv]
    generalize a / n = q at hq ⊢
    exact Int.bmod_eq_of_le_mul_two (by omega) (by omega)
  have hm := Nat.div_add_mod a n
  rw [Nat.mul_comm] at hm
  rw [e1, show nI (a / n) * nI n = nI (a / n * n) from (Int32.ofNat_mul _ _).symm]
  have e2 : nI a = nI (a / n * n) + nI (a % n) := by rw [nI_add, hm]
  rw [e2, Int32.add_comm, Int32.add_sub_cancel]
theorem sm_ne {n : Nat} (h0 : 0 < n) (hn : n < 2 ^ 31) : ¬ nI n = 0 := nI_ne0 h0 hn
set_option maxHeartbeats 4000000 in
theorem c_L_cell (l : Launch) {b Ln : Nat} {xs : Nat → Int32} (hL : Ln ≤ 1000) {k : Nat} (hk : k < 1000) : Met l yL_cell (wsC yL_cell cL_cell 2 (some .int)) ({ frames := 1, cells := 0, slots := 0, locals := 13 }) (va_Pc [.ref b, .int (nI k)] (gS b Ln xs)) (vp_Si (fun r => r = sxv Ln xs k)) 0 0 (fun _ => False) := by
  refine Met.ofW (cc := cL_cell) (maxL := 2) (ret := (some .int)) (by decide) rfl ?_
  intro p e s m args below meth c s₁ B hml hv
  obtain ⟨rfl, hX, hbl⟩ := hv
  have hx := B.exec
  have hb := B.bytes
  have hr := B.returns
  have hlocks := B.notSynchronized
  have hl := lv_entry ([.ref b, .int (nI k)]) (n := 2) (Nat.le_of_ble_eq_true rfl)
  rw [lg_entry_eq]
  generalize (lg_sl ([.ref b, .int (nI k)]) ++ List.replicate (2 - (lg_sl ([.ref b, .int (nI k)])).length) Slot.unset).toArray = ls at hl ⊢
  have hl : lv_has ls 2 [(0, .ref b), (1, .int (nI k))] := hl
  refine lv_iload_n hx hb dL_cell_0 rfl (lv_at hl 1 rfl) ?_
  refine lv_aload_n hx hb dL_cell_1 rfl (lv_at hl 0 rfl) ?_
  refine va_slen (A := fun _ => False) hx hb hX hbl id va_S.rf dL_cell_2 ?_
  refine lv_icmp_ge (tgt := 12) hx hb dL_cell_3 (by decide) (fun c1 => ?_) (fun c1 => ?_)
  · have hge : ¬ k < Ln := fun h => nI_ge (a := k) (b := Ln) h (by omega) c1
    refine lv_sipush (v := 7919) hx hb dL_cell_12 (by decide) ?_
    refine lv_iload_n hx hb dL_cell_15 rfl (lv_at hl 1 rfl) ?_
    refine lv_imul hx hb dL_cell_16 ?_
    refine lv_bipush (v := 12) hx hb dL_cell_17 (by decide) ?_
    refine lv_iadd hx hb dL_cell_19 ?_
    exact W.iret (v := 7919 * nI k + 12) hx hb hr (fun t ht hWm => ⟨_, rfl, by unfold sxv; rw [if_neg hge], ht⟩) (fun q h => absurd h List.not_mem_nil) dL_cell_20
  · have hlt : k < Ln := Nat.not_le.mp (fun h => c1 (nI_le h (by omega)))
    refine lv_aload_n hx hb dL_cell_6 rfl (lv_at hl 0 rfl) ?_
    refine lv_iload_n hx hb dL_cell_7 rfl (lv_at hl 1 rfl) ?_
    refine va_sld (A := fun _ => False) hx hb hX hbl id va_S.rf (vp_in_nI hlt (by omega)) dL_cell_8 ?_
    rw [nI_clamp (by omega)]
    refine lv_goto (tgt := 20) hx hb dL_cell_9 (by decide) ?_
    exact W.iret (v := xs k) hx hb hr (fun t ht hWm => ⟨_, rfl, by unfold sxv; rw [if_pos hlt], ht⟩) (fun q h => absurd h List.not_mem_nil) dL_cell_20
set_option maxHeartbeats 4000000 in
theorem c_L_some (l : Launch) {b Ln : Nat} {xs : Nat → Int32} (hL : Ln ≤ 1000) {k n : Nat} (hk : k < 1000) (h0 : 0 < n) (hn : n < 1000) : Met l yL_some (wsC yL_some cL_some 3 (some .int)) ({ frames := 2, cells := 0, slots := 0, locals := 40 }) (va_Pc [.ref b, .int (nI k), .int (nI n)] (gS b Ln xs)) (vp_Si (fun r => r = nI (smV Ln xs k n))) 0 0 (fun _ => False) := by
  refine Met.ofW (cc := cL_some) (maxL := 3) (ret := (some .int)) (by decide) rfl ?_
  intro p e s m args below meth c s₁ B hml hv
  obtain ⟨rfl, hX, hbl⟩ := hv
  have hx := B.exec
  have hb := B.bytes
  have hr := B.returns
  have hlocks := B.notSynchronized
  have hts9 := atoms_spec (ws := (wsC yL_some cL_some 3 (some .int))) B.pre
  have hta : ∀ w ∈ WA, w.before _ s = true := fun w h => hts9 w (List.mem_cons_of_mem _ h)
  have hown : s.vm.findClass RL = some m.cls := findClass_of_methodNamed B.named
  have hl := lv_entry ([.ref b, .int (nI k), .int (nI n)]) (n := 3) (Nat.le_of_ble_eq_true rfl)
  rw [lg_entry_eq]
  generalize (lg_sl ([.ref b, .int (nI k), .int (nI n)]) ++ List.replicate (3 - (lg_sl ([.ref b, .int (nI k), .int (nI n)])).length) Slot.unset).toArray = ls at hl ⊢
  have hl : lv_has ls 3 [(0, .ref b), (1, .int (nI k)), (2, .int (nI n))] := hl
  refine lv_aload_n hx hb dL_some_0 rfl (lv_at hl 0 rfl) ?_
  refine lv_iload_n hx hb dL_some_1 rfl (lv_at hl 1 rfl) ?_
  refine vp_callSi (run_of (va_runS (g := F0 m 2 ls [.int (nI k), .ref b]) (As := [.ref b, .int (nI k)]) (rest := []) ⟨hx, hb, hml, hown, hta⟩ (c_L_cell l hL hk) (va_cwS 2 hta (gWS mw211 mw212 mw39 mw213) rfl rfl rfl (by decide +kernel) ⟨Nat.le_of_ble_eq_true rfl, Nat.le_of_ble_eq_true rfl⟩) (gPreS (A := fun _ => False) hX hbl id va_S.rf) rfl rfl hl.1 rfl (lv_room (Nat.le_of_ble_eq_true rfl)) dL_some_2 ⟨Nat.le_of_ble_eq_true rfl, Nat.le_of_ble_eq_true rfl⟩)) (fun r1 c1 => ?_)
  obtain rfl := c1
  refine lv_iconst (v := 3) hx hb dL_some_5 (by decide) ?_
  refine lv_iushr (v := nI ((sxv Ln xs k).toUInt32.toNat / 8)) hx hb dL_some_6 (sh3 _) ?_
  refine lv_iload_n hx hb dL_some_7 rfl (lv_at hl 2 rfl) ?_
  refine lv_irem hx hb dL_some_8 (nI_ne0 h0 (by omega)) ?_
  have hl9 := (sxv Ln xs k).toUInt32.toNat_lt
  rw [nI_rem (by omega) h0 (by omega)]
  exact W.iret (v := nI (smV Ln xs k n)) hx hb hr (fun t ht hWm => ⟨_, rfl, rfl, ht⟩) (fun q h => absurd h List.not_mem_nil) dL_some_9
