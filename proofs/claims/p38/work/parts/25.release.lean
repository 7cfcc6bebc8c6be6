/-! release, where it does not throw (made by wip/gen/spec_l.py) -/
theorem WT.ra {S : St} (h : WT S) {o : Nat} : WT (raS S o) := h
theorem WT.tr {S : St} (h : WT S) {o : Nat} : WT (trS S o) := h
theorem snS_some {S : St} {o i : Nat} (h : snM S o = some i) : snS S o = uR (uI S 53 o 119) 3 o (some i) := by unfold snS; rw [h]
theorem WT.sn {S : St} (h : WT S) {o : Nat} (ho : o < sN S 3 0) : WT (snS S o) := by
  cases e : snM S o with
  | none => rw [snS_none e]; exact h.setRn
  | some i =>
    rw [snS_some e]
    exact WT.setR (S := uI S 53 o 119) h (fun a q => by cases q; exact ⟨fun z => by omega, fun z => by omega, fun _ => snM_lt h ho e, fun z => by omega⟩)
/-- a promised order is released: its pieces are taken, its job goes to a machine, or is finished at once -/
def rl2 (S : St) (o : Nat) : St := match snM (trS S o) o with
  | none => fiS (snS (trS S o) o) o
  | some i => bnS (snS (trS S o) o) i
/-- an order without a promise is released: all is reserved first, or nothing is done -/
def rl1 (S : St) (o : Nat) : St := if raR S o = true then rl2 (raS S o) o else raS S o
set_option maxHeartbeats 4000000 in
set_option maxRecDepth 100000 in
theorem c_X10_release45 (l : Launch) {D : va_G} {tA : Nat → ClassId} {S : St} {ad : Nat → Nat → Nat} {L : List Nat} {f : Nat → va_E} {sz : Nat} (hR : Rep tA S ad L f) (hW : WT S) {o : Nat} (ho : o < sN S 3 0) (hm : ¬ sI S 20 (sN S 7 o) = 0) (hs : sI S 53 o = 45) (hn : sN S 2 0 < 90) : Met l yX10_release (wsC yX10_release cX10_release 4 (some .boolean)) ({ frames := 5, cells := 4, slots := 16, locals := 147 }) (va_Pc [.ref (ad 0 0), .int (nI o)] (gY D tA L f sz)) (va_Qi (fun (r : Int32) (u : gU) => r = bI (raR S o) ∧ rl1 S o = u.1 ∧ ∀ k i, V S k i → u.2.1 k i = ad k i) (gE D tA (va_A (va_pl L f) sz)) (va_A (va_pl L f) sz)) 4 16 (va_A (va_pl L f) sz) := by
  refine Met.ofW (cc := cX10_release) (maxL := 4) (ret := (some .boolean)) (by decide) rfl ?_
  intro p e s m args below meth c s₁ B hml hv
  obtain ⟨rfl, ⟨hsz, hP, hK, hD0⟩, hX⟩ := hv
  have hx := B.exec
  have hb := B.bytes
  have hr := B.returns
  have hts := atoms_spec (ws := wsC yX10_release cX10_release 4 (some .boolean)) B.pre
  have hta : ∀ w ∈ WA, w.before _ s = true := fun w h => hts w (List.mem_cons_of_mem _ h)
  have hown : s.vm.findClass RX10 = some m.cls := findClass_of_methodNamed B.named
  have hlocks := B.notSynchronized
  subst hsz
  have hD : va_D (va_A (va_pl L f) s.heap.size) (va_pl L f) := hD0.self (sz := s.heap.size)
  generalize hAe : va_A (va_pl L f) s.heap.size = A at hD ⊢
  have hA : ∀ q : Nat, s.heap.size ≤ q → A q := fun q h => by rw [← hAe]; exact Or.inr h
  have hS : va_S A s.heap s.heap [] := va_S.rf
  have hP : va_P D vwCl (va_pl L f) s.heap := hP
  have hl := lv_entry ([.ref (ad 0 0), .int (nI o)]) (n := 4) (Nat.le_of_ble_eq_true rfl)
  rw [lg_entry_eq]
  generalize (lg_sl ([.ref (ad 0 0), .int (nI o)]) ++ List.replicate (4 - (lg_sl ([.ref (ad 0 0), .int (nI o)])).length) Slot.unset).toArray = ls at hl ⊢
  have hl : lv_has ls 4 [(0, .ref (ad 0 0)), (1, .int (nI o))] := hl
  refine lv_aload_n hx hb dX10_release_0 rfl (lv_at hl 0 rfl) ?_
  refine lv_iload_n hx hb dX10_release_1 rfl (lv_at hl 1 rfl) ?_
  obtain ⟨q1, e2⟩ := cell_0 hR (rfl : (0 : Nat) = 0)
  refine gro_q (ci := 12) (As := [.int (nI o)]) (rest := []) ⟨hx, hb, hml, hown, hta⟩ (c_X10_knownOrder l hR hW ho) (cwV 1 hta (gWV mw559 mw560 mw20 mw40 mw561) rfl rfl rfl (by decide +kernel) ⟨Nat.le_of_ble_eq_true rfl, Nat.le_of_ble_eq_true rfl⟩) hK hP hD rfl e2 rfl hl.1 rfl (Nat.le_of_ble_eq_true rfl) dX10_release_2 ⟨Nat.le_of_ble_eq_true rfl, Nat.le_of_ble_eq_true rfl⟩ (fun r3 c4 => ?_)
  obtain rfl := c4
  change W _ _ _ _ _ _ _ _ _ _ _ _ _ _ _ (F0 _ _ _ (rf ad 11 (some o) :: []))
  rw [rf_some]
  refine lv_astore_n (lv' := [(2, .ref (ad 11 o)), (0, .ref (ad 0 0)), (1, .int (nI o))]) hx hb dX10_release_5 rfl hl (by decide) rfl (fun ls hl => ?_)
  refine lv_aload_n hx hb dX10_release_6 rfl (lv_at hl 0 rfl) ?_
  refine get_part_11 hx hb hta iwX7 hown hK hP hR ho (hta _ mw533) dX10_release_7 ?_
  refine get_isMade_2 hx hb hta iwX8 hown hK hP hR (hW.ordPart ho) (hta _ mw290) dX10_release_10 ?_
  refine lv_if_eq (tgt := 34) hx hb dX10_release_13 (by decide) (fun c5 => ?_) (fun c5 => ?_)
  · exact absurd c5 hm
  · skip
    refine lv_aload_n hx hb dX10_release_16 rfl (lv_at hl 0 rfl) ?_
    refine get_state_11 hx hb hta iwX7 hown hK hP hR ho (hta _ mw546) dX10_release_17 ?_
    refine lv_bipush (v := 45) hx hb dX10_release_20 (by decide) ?_
    refine lv_icmp_eq (tgt := 45) hx hb dX10_release_22 (by decide) (fun c6 => ?_) (fun c6 => ?_)
    · skip
      refine lv_aload_n hx hb dX10_release_45 rfl (lv_at hl 0 rfl) ?_
      refine get_state_11 hx hb hta iwX7 hown hK hP hR ho (hta _ mw546) dX10_release_46 ?_
      refine lv_bipush (v := 112) hx hb dX10_release_49 (by decide) ?_
      refine lv_icmp_eq (tgt := 64) hx hb dX10_release_51 (by decide) (fun c7 => ?_) (fun c7 => ?_)
      · exact absurd c7 (by rw [hs]; decide)
      · skip
        refine lv_aload_n hx hb dX10_release_54 rfl (lv_at hl 1 rfl) ?_
        refine lv_aload_n hx hb dX10_release_55 rfl (lv_at hl 0 rfl) ?_
        obtain ⟨q8, e9⟩ := cell_0 hR (rfl : (0 : Nat) = 0)
        refine gwr_i (mc := 0) (ms := 0) (ci := 12) (As := [.ref (ad 11 o)]) (rest := []) ⟨hx, hb, hml, hown, hta⟩ (c_X10_reserveAll l hR hW ho) (cwV 1 hta (gWV mw697 mw698 mw31 mw40 mw699) rfl rfl rfl (by decide +kernel) ⟨Nat.le_of_ble_eq_true rfl, Nat.le_of_ble_eq_true rfl⟩) hK hP hD hS hA rfl e9 rfl hl.1 rfl (Nat.le_of_ble_eq_true rfl) dX10_release_56 ⟨Nat.le_of_ble_eq_true rfl, Nat.le_of_ble_eq_true rfl⟩ (fun r10 u H locs hw hR hP hD hS => ?_)
        obtain ⟨S9, ad9, L9, f⟩ := u
        obtain ⟨rfl, rfl, rfl, rfl⟩ := hw
        dsimp only at hR hP hD
        refine lv_if_ne (tgt := 64) hx hb dX10_release_59 (by decide) (fun c11 => ?_) (fun c11 => ?_)
        · skip
          have c11 := bI_t c11
          have hW1 : WT (raS S o) := hW
          refine lv_aload_n hx hb dX10_release_64 rfl (lv_at hl 1 rfl) ?_
          refine lv_aload_n hx hb dX10_release_65 rfl (lv_at hl 0 rfl) ?_
          obtain ⟨q12, e13⟩ := cell_0 hR (rfl : (0 : Nat) = 0)
          refine gwr_v (mc := 0) (ms := 0) (ci := 12) (As := [.ref (ad 11 o)]) (rest := []) ⟨hx, hb, hml, hown, hta⟩ (c_X10_takeReserved l hR hW1 ho) (cwV 1 hta (gWV mw717 mw718 mw34 mw40 mw719) rfl rfl rfl (by decide +kernel) ⟨Nat.le_of_ble_eq_true rfl, Nat.le_of_ble_eq_true rfl⟩) hK hP hD hS hA rfl e13 rfl hl.1 rfl (Nat.le_of_ble_eq_true rfl) dX10_release_66 ⟨Nat.le_of_ble_eq_true rfl, Nat.le_of_ble_eq_true rfl⟩ (fun u H locs hw hR hP hD hS => ?_)
          obtain ⟨S9, ad9, L9, f⟩ := u
          obtain ⟨rfl, rfl, rfl⟩ := hw
          dsimp only at hR hP hD
          have hW2 : WT (trS (raS S o) o) := WT.tr (S := (raS S o)) hW1
          have ho2 : o < sN (trS (raS S o) o) 3 0 := ho
          refine lv_aload_n hx hb dX10_release_69 rfl (lv_at hl 1 rfl) ?_
          refine lv_aload_n hx hb dX10_release_70 rfl (lv_at hl 0 rfl) ?_
          obtain ⟨q15, e16⟩ := cell_0 hR (rfl : (0 : Nat) = 0)
          refine gwr_q (mc := 0) (ms := 0) (ci := 12) (As := [.ref (ad 11 o)]) (rest := []) ⟨hx, hb, hml, hown, hta⟩ (c_X10_sendOn l hR hW2 ho2) (cwV 1 hta (gWV mw587 mw588 mw23 mw40 mw589) rfl rfl rfl (by decide +kernel) ⟨Nat.le_of_ble_eq_true rfl, Nat.le_of_ble_eq_true rfl⟩) hK hP hD hS hA rfl e16 rfl hl.1 rfl (Nat.le_of_ble_eq_true rfl) dX10_release_71 ⟨Nat.le_of_ble_eq_true rfl, Nat.le_of_ble_eq_true rfl⟩ (fun r17 u H locs hw hR hP hD hS => ?_)
          obtain ⟨S9, ad9, L9, f⟩ := u
          obtain ⟨rfl, rfl, rfl, rfl⟩ := hw
          dsimp only at hR hP hD
          change W _ _ _ _ _ _ _ _ _ _ _ _ _ _ _ (F0 _ _ _ (rf ad 1 (snM ((trS ((raS S o)) o)) o) :: []))
          rcases h18 : snM ((trS ((raS S o)) o)) o with _ | o19
          · rw [rf_none]
            refine lv_astore_nN (lv' := [(3, .null), (2, .ref (ad 11 o)), (0, .ref (ad 0 0)), (1, .int (nI o))]) hx hb dX10_release_74 rfl hl (by decide) rfl (fun ls hl => ?_)
            refine lv_aload_nN hx hb dX10_release_75 rfl (lv_at hl 0 rfl) ?_
            refine lv_ifnonnullN hx hb dX10_release_76 ?_
            rw [snS_none h18] at hR
            have hW3 : WT (uR (trS (raS S o) o) 3 o none) := WT.setRn hW2
            have ho3 : o < sN (uR (trS (raS S o) o) 3 o none) 3 0 := ho
            refine lv_aload_n hx hb dX10_release_79 rfl (lv_at hl 2 rfl) ?_
            refine lv_aload_n hx hb dX10_release_80 rfl (lv_at hl 1 rfl) ?_
            obtain ⟨q20, e21⟩ := cell_0 hR (rfl : (0 : Nat) = 0)
            refine gwr_vY (ci := 12) (As := [.ref (ad 11 o)]) (rest := []) ⟨hx, hb, hml, hown, hta⟩ (c_X10_finish l hR hW3 ho3 (show sN (uR (trS (raS S o) o) 3 o none) 2 0 < 90 from hn)) (cwV 1 hta (gWV mw603 mw604 mw27 mw40 mw605) rfl rfl rfl (by decide +kernel) ⟨Nat.le_of_ble_eq_true rfl, Nat.le_of_ble_eq_true rfl⟩) hX hK hP hD hS hA rfl e21 rfl hl.1 rfl (Nat.le_of_ble_eq_true rfl) dX10_release_81 ⟨Nat.le_of_ble_eq_true rfl, Nat.le_of_ble_eq_true rfl⟩ (fun u H locs hw hR hP hD hS => ?_)
            obtain ⟨S9, ad24, L25, f⟩ := u
            obtain ⟨rfl, hx23⟩ := hw
            dsimp only at hR hP hD hx23 ⊢
            rw [← hx23 11 o (ho3), ← hx23 0 0 ((rfl : (0 : Nat) = 0))] at hl
            refine lv_goto (tgt := 92) hx hb dX10_release_84 (by decide) ?_
            refine lv_iconst (v := 1) hx hb dX10_release_92 (by decide) ?_
            refine W.widen (k := 4) (n := 16) (Nat.le_of_ble_eq_true rfl) (Nat.le_of_ble_eq_true rfl) ?_
            exact W.zret (v := 1) (ty := .boolean) hx hb hr (by decide) (fun t ht hWm => gend_i (u := ((fiS ((uR (trS (raS S o) o) 3 o none)) o), ad24, L25, f)) ⟨by rw [c11]; rfl, by rw [rl1, if_pos c11]; exact (by unfold rl2; rw [show snM (trS (raS S o) o) o = none from h18]; exact congrArg (fun z => fiS z o) (snS_none (S := (trS (raS S o) o)) h18)), hx23⟩ hR hP hK hD hS ht hWm) hS.2.2 dX10_release_93
          · rw [rf_some]
            refine lv_astore_n (lv' := [(3, .ref (ad 1 o19)), (2, .ref (ad 11 o)), (0, .ref (ad 0 0)), (1, .int (nI o))]) hx hb dX10_release_74 rfl hl (by decide) rfl (fun ls hl => ?_)
            refine lv_aload_n hx hb dX10_release_75 rfl (lv_at hl 0 rfl) ?_
            refine lv_ifnonnull (tgt := 87) hx hb dX10_release_76 (by decide) ?_
            have hW3 : WT (snS (trS (raS S o) o) o) := hW2.sn ho2
            have hm3 : o19 < sN (snS (trS (raS S o) o) o) 0 0 := by rw [snS_some h18]; exact snM_lt hW2 ho2 h18
            refine lv_aload_n hx hb dX10_release_87 rfl (lv_at hl 2 rfl) ?_
            refine lv_aload_n hx hb dX10_release_88 rfl (lv_at hl 0 rfl) ?_
            obtain ⟨q26, e27⟩ := cell_0 hR (rfl : (0 : Nat) = 0)
            refine gwr_v (mc := 0) (ms := 0) (ci := 12) (As := [.ref (ad 1 o19)]) (rest := []) ⟨hx, hb, hml, hown, hta⟩ (c_X10_beginNext l hR hW3 hm3) (cwV 1 hta (gWV mw614 mw615 mw29 mw40 mw616) rfl rfl rfl (by decide +kernel) ⟨Nat.le_of_ble_eq_true rfl, Nat.le_of_ble_eq_true rfl⟩) hK hP hD hS hA rfl e27 rfl hl.1 rfl (Nat.le_of_ble_eq_true rfl) dX10_release_89 ⟨Nat.le_of_ble_eq_true rfl, Nat.le_of_ble_eq_true rfl⟩ (fun u H locs hw hR hP hD hS => ?_)
            obtain ⟨S9, ad9, L9, f⟩ := u
            obtain ⟨rfl, rfl, rfl⟩ := hw
            dsimp only at hR hP hD
            refine lv_iconst (v := 1) hx hb dX10_release_92 (by decide) ?_
            refine W.widen (k := 4) (n := 16) (Nat.le_of_ble_eq_true rfl) (Nat.le_of_ble_eq_true rfl) ?_
            exact W.zret (v := 1) (ty := .boolean) hx hb hr (by decide) (fun t ht hWm => gend_i (u := ((bnS ((snS ((trS ((raS S o)) o)) o)) o19), ad, L, f)) ⟨by rw [c11]; rfl, by rw [rl1, if_pos c11]; exact (by unfold rl2; rw [show snM (trS (raS S o) o) o = some _ from h18]), fun _ _ _ => rfl⟩ hR hP hK hD hS ht hWm) hS.2.2 dX10_release_93
        · skip
          have c11 := bI_f c11
          refine lv_iconst (v := 0) hx hb dX10_release_62 (by decide) ?_
          refine W.widen (k := 4) (n := 16) (Nat.le_of_ble_eq_true rfl) (Nat.le_of_ble_eq_true rfl) ?_
          exact W.zret (v := 0) (ty := .boolean) hx hb hr (by decide) (fun t ht hWm => gend_i (u := ((raS S o), ad, L, f)) ⟨by rw [c11]; rfl, by rw [rl1, if_neg (by rw [c11]; decide)]; (try rfl), fun _ _ _ => rfl⟩ hR hP hK hD hS ht hWm) hS.2.2 dX10_release_63
    · exact absurd hs c6

set_option maxHeartbeats 4000000 in
set_option maxRecDepth 100000 in
theorem c_X10_release112 (l : Launch) {D : va_G} {tA : Nat → ClassId} {S : St} {ad : Nat → Nat → Nat} {L : List Nat} {f : Nat → va_E} {sz : Nat} (hR : Rep tA S ad L f) (hW : WT S) {o : Nat} (ho : o < sN S 3 0) (hm : ¬ sI S 20 (sN S 7 o) = 0) (hs : sI S 53 o = 112) (hn : sN S 2 0 < 90) : Met l yX10_release (wsC yX10_release cX10_release 4 (some .boolean)) ({ frames := 5, cells := 4, slots := 16, locals := 147 }) (va_Pc [.ref (ad 0 0), .int (nI o)] (gY D tA L f sz)) (va_Qi (fun (r : Int32) (u : gU) => r = 1 ∧ rl2 S o = u.1 ∧ ∀ k i, V S k i → u.2.1 k i = ad k i) (gE D tA (va_A (va_pl L f) sz)) (va_A (va_pl L f) sz)) 4 16 (va_A (va_pl L f) sz) := by
  refine Met.ofW (cc := cX10_release) (maxL := 4) (ret := (some .boolean)) (by decide) rfl ?_
  intro p e s m args below meth c s₁ B hml hv
  obtain ⟨rfl, ⟨hsz, hP, hK, hD0⟩, hX⟩ := hv
  have hx := B.exec
  have hb := B.bytes
  have hr := B.returns
  have hts := atoms_spec (ws := wsC yX10_release cX10_release 4 (some .boolean)) B.pre
  have hta : ∀ w ∈ WA, w.before _ s = true := fun w h => hts w (List.mem_cons_of_mem _ h)
  have hown : s.vm.findClass RX10 = some m.cls := findClass_of_methodNamed B.named
  have hlocks := B.notSynchronized
  subst hsz
  have hD : va_D (va_A (va_pl L f) s.heap.size) (va_pl L f) := hD0.self (sz := s.heap.size)
  generalize hAe : va_A (va_pl L f) s.heap.size = A at hD ⊢
  have hA : ∀ q : Nat, s.heap.size ≤ q → A q := fun q h => by rw [← hAe]; exact Or.inr h
  have hS : va_S A s.heap s.heap [] := va_S.rf
  have hP : va_P D vwCl (va_pl L f) s.heap := hP
  have hl := lv_entry ([.ref (ad 0 0), .int (nI o)]) (n := 4) (Nat.le_of_ble_eq_true rfl)
  rw [lg_entry_eq]
  generalize (lg_sl ([.ref (ad 0 0), .int (nI o)]) ++ List.replicate (4 - (lg_sl ([.ref (ad 0 0), .int (nI o)])).length) Slot.unset).toArray = ls at hl ⊢
  have hl : lv_has ls 4 [(0, .ref (ad 0 0)), (1, .int (nI o))] := hl
  refine lv_aload_n hx hb dX10_release_0 rfl (lv_at hl 0 rfl) ?_
  refine lv_iload_n hx hb dX10_release_1 rfl (lv_at hl 1 rfl) ?_
  obtain ⟨q1, e2⟩ := cell_0 hR (rfl : (0 : Nat) = 0)
  refine gro_q (ci := 12) (As := [.int (nI o)]) (rest := []) ⟨hx, hb, hml, hown, hta⟩ (c_X10_knownOrder l hR hW ho) (cwV 1 hta (gWV mw559 mw560 mw20 mw40 mw561) rfl rfl rfl (by decide +kernel) ⟨Nat.le_of_ble_eq_true rfl, Nat.le_of_ble_eq_true rfl⟩) hK hP hD rfl e2 rfl hl.1 rfl (Nat.le_of_ble_eq_true rfl) dX10_release_2 ⟨Nat.le_of_ble_eq_true rfl, Nat.le_of_ble_eq_true rfl⟩ (fun r3 c4 => ?_)
  obtain rfl := c4
  change W _ _ _ _ _ _ _ _ _ _ _ _ _ _ _ (F0 _ _ _ (rf ad 11 (some o) :: []))
  rw [rf_some]
  refine lv_astore_n (lv' := [(2, .ref (ad 11 o)), (0, .ref (ad 0 0)), (1, .int (nI o))]) hx hb dX10_release_5 rfl hl (by decide) rfl (fun ls hl => ?_)
  refine lv_aload_n hx hb dX10_release_6 rfl (lv_at hl 0 rfl) ?_
  refine get_part_11 hx hb hta iwX7 hown hK hP hR ho (hta _ mw533) dX10_release_7 ?_
  refine get_isMade_2 hx hb hta iwX8 hown hK hP hR (hW.ordPart ho) (hta _ mw290) dX10_release_10 ?_
  refine lv_if_eq (tgt := 34) hx hb dX10_release_13 (by decide) (fun c5 => ?_) (fun c5 => ?_)
  · exact absurd c5 hm
  · skip
    refine lv_aload_n hx hb dX10_release_16 rfl (lv_at hl 0 rfl) ?_
    refine get_state_11 hx hb hta iwX7 hown hK hP hR ho (hta _ mw546) dX10_release_17 ?_
    refine lv_bipush (v := 45) hx hb dX10_release_20 (by decide) ?_
    refine lv_icmp_eq (tgt := 45) hx hb dX10_release_22 (by decide) (fun c6 => ?_) (fun c6 => ?_)
    · exact absurd c6 (by rw [hs]; decide)
    · skip
      refine lv_aload_n hx hb dX10_release_25 rfl (lv_at hl 0 rfl) ?_
      refine get_state_11 hx hb hta iwX7 hown hK hP hR ho (hta _ mw546) dX10_release_26 ?_
      refine lv_bipush (v := 112) hx hb dX10_release_29 (by decide) ?_
      refine lv_icmp_eq (tgt := 45) hx hb dX10_release_31 (by decide) (fun c7 => ?_) (fun c7 => ?_)
      · skip
        refine lv_aload_n hx hb dX10_release_45 rfl (lv_at hl 0 rfl) ?_
        refine get_state_11 hx hb hta iwX7 hown hK hP hR ho (hta _ mw546) dX10_release_46 ?_
        refine lv_bipush (v := 112) hx hb dX10_release_49 (by decide) ?_
        refine lv_icmp_eq (tgt := 64) hx hb dX10_release_51 (by decide) (fun c8 => ?_) (fun c8 => ?_)
        · skip
          have hW1 : WT S := hW
          refine lv_aload_n hx hb dX10_release_64 rfl (lv_at hl 1 rfl) ?_
          refine lv_aload_n hx hb dX10_release_65 rfl (lv_at hl 0 rfl) ?_
          obtain ⟨q9, e10⟩ := cell_0 hR (rfl : (0 : Nat) = 0)
          refine gwr_v (mc := 0) (ms := 0) (ci := 12) (As := [.ref (ad 11 o)]) (rest := []) ⟨hx, hb, hml, hown, hta⟩ (c_X10_takeReserved l hR hW1 ho) (cwV 1 hta (gWV mw717 mw718 mw34 mw40 mw719) rfl rfl rfl (by decide +kernel) ⟨Nat.le_of_ble_eq_true rfl, Nat.le_of_ble_eq_true rfl⟩) hK hP hD hS hA rfl e10 rfl hl.1 rfl (Nat.le_of_ble_eq_true rfl) dX10_release_66 ⟨Nat.le_of_ble_eq_true rfl, Nat.le_of_ble_eq_true rfl⟩ (fun u H locs hw hR hP hD hS => ?_)
          obtain ⟨S9, ad9, L9, f⟩ := u
          obtain ⟨rfl, rfl, rfl⟩ := hw
          dsimp only at hR hP hD
          have hW2 : WT (trS S o) := WT.tr (S := S) hW1
          have ho2 : o < sN (trS S o) 3 0 := ho
          refine lv_aload_n hx hb dX10_release_69 rfl (lv_at hl 1 rfl) ?_
          refine lv_aload_n hx hb dX10_release_70 rfl (lv_at hl 0 rfl) ?_
          obtain ⟨q12, e13⟩ := cell_0 hR (rfl : (0 : Nat) = 0)
          refine gwr_q (mc := 0) (ms := 0) (ci := 12) (As := [.ref (ad 11 o)]) (rest := []) ⟨hx, hb, hml, hown, hta⟩ (c_X10_sendOn l hR hW2 ho2) (cwV 1 hta (gWV mw587 mw588 mw23 mw40 mw589) rfl rfl rfl (by decide +kernel) ⟨Nat.le_of_ble_eq_true rfl, Nat.le_of_ble_eq_true rfl⟩) hK hP hD hS hA rfl e13 rfl hl.1 rfl (Nat.le_of_ble_eq_true rfl) dX10_release_71 ⟨Nat.le_of_ble_eq_true rfl, Nat.le_of_ble_eq_true rfl⟩ (fun r14 u H locs hw hR hP hD hS => ?_)
          obtain ⟨S9, ad9, L9, f⟩ := u
          obtain ⟨rfl, rfl, rfl, rfl⟩ := hw
          dsimp only at hR hP hD
          change W _ _ _ _ _ _ _ _ _ _ _ _ _ _ _ (F0 _ _ _ (rf ad 1 (snM ((trS S o)) o) :: []))
          rcases h15 : snM ((trS S o)) o with _ | o16
          · rw [rf_none]
            refine lv_astore_nN (lv' := [(3, .null), (2, .ref (ad 11 o)), (0, .ref (ad 0 0)), (1, .int (nI o))]) hx hb dX10_release_74 rfl hl (by decide) rfl (fun ls hl => ?_)
            refine lv_aload_nN hx hb dX10_release_75 rfl (lv_at hl 0 rfl) ?_
            refine lv_ifnonnullN hx hb dX10_release_76 ?_
            rw [snS_none h15] at hR
            have hW3 : WT (uR (trS S o) 3 o none) := WT.setRn hW2
            have ho3 : o < sN (uR (trS S o) 3 o none) 3 0 := ho
            refine lv_aload_n hx hb dX10_release_79 rfl (lv_at hl 2 rfl) ?_
            refine lv_aload_n hx hb dX10_release_80 rfl (lv_at hl 1 rfl) ?_
            obtain ⟨q17, e18⟩ := cell_0 hR (rfl : (0 : Nat) = 0)
            refine gwr_vY (ci := 12) (As := [.ref (ad 11 o)]) (rest := []) ⟨hx, hb, hml, hown, hta⟩ (c_X10_finish l hR hW3 ho3 (show sN (uR (trS S o) 3 o none) 2 0 < 90 from hn)) (cwV 1 hta (gWV mw603 mw604 mw27 mw40 mw605) rfl rfl rfl (by decide +kernel) ⟨Nat.le_of_ble_eq_true rfl, Nat.le_of_ble_eq_true rfl⟩) hX hK hP hD hS hA rfl e18 rfl hl.1 rfl (Nat.le_of_ble_eq_true rfl) dX10_release_81 ⟨Nat.le_of_ble_eq_true rfl, Nat.le_of_ble_eq_true rfl⟩ (fun u H locs hw hR hP hD hS => ?_)
            obtain ⟨S9, ad21, L22, f⟩ := u
            obtain ⟨rfl, hx20⟩ := hw
            dsimp only at hR hP hD hx20 ⊢
            rw [← hx20 11 o (ho3), ← hx20 0 0 ((rfl : (0 : Nat) = 0))] at hl
            refine lv_goto (tgt := 92) hx hb dX10_release_84 (by decide) ?_
            refine lv_iconst (v := 1) hx hb dX10_release_92 (by decide) ?_
            refine W.widen (k := 4) (n := 16) (Nat.le_of_ble_eq_true rfl) (Nat.le_of_ble_eq_true rfl) ?_
            exact W.zret (v := 1) (ty := .boolean) hx hb hr (by decide) (fun t ht hWm => gend_i (u := ((fiS ((uR (trS S o) 3 o none)) o), ad21, L22, f)) ⟨rfl, by unfold rl2; rw [show snM (trS S o) o = none from h15]; exact congrArg (fun z => fiS z o) (snS_none (S := (trS S o)) h15), hx20⟩ hR hP hK hD hS ht hWm) hS.2.2 dX10_release_93
          · rw [rf_some]
            refine lv_astore_n (lv' := [(3, .ref (ad 1 o16)), (2, .ref (ad 11 o)), (0, .ref (ad 0 0)), (1, .int (nI o))]) hx hb dX10_release_74 rfl hl (by decide) rfl (fun ls hl => ?_)
            refine lv_aload_n hx hb dX10_release_75 rfl (lv_at hl 0 rfl) ?_
            refine lv_ifnonnull (tgt := 87) hx hb dX10_release_76 (by decide) ?_
            have hW3 : WT (snS (trS S o) o) := hW2.sn ho2
            have hm3 : o16 < sN (snS (trS S o) o) 0 0 := by rw [snS_some h15]; exact snM_lt hW2 ho2 h15
            refine lv_aload_n hx hb dX10_release_87 rfl (lv_at hl 2 rfl) ?_
            refine lv_aload_n hx hb dX10_release_88 rfl (lv_at hl 0 rfl) ?_
            obtain ⟨q23, e24⟩ := cell_0 hR (rfl : (0 : Nat) = 0)
            refine gwr_v (mc := 0) (ms := 0) (ci := 12) (As := [.ref (ad 1 o16)]) (rest := []) ⟨hx, hb, hml, hown, hta⟩ (c_X10_beginNext l hR hW3 hm3) (cwV 1 hta (gWV mw614 mw615 mw29 mw40 mw616) rfl rfl rfl (by decide +kernel) ⟨Nat.le_of_ble_eq_true rfl, Nat.le_of_ble_eq_true rfl⟩) hK hP hD hS hA rfl e24 rfl hl.1 rfl (Nat.le_of_ble_eq_true rfl) dX10_release_89 ⟨Nat.le_of_ble_eq_true rfl, Nat.le_of_ble_eq_true rfl⟩ (fun u H locs hw hR hP hD hS => ?_)
            obtain ⟨S9, ad9, L9, f⟩ := u
            obtain ⟨rfl, rfl, rfl⟩ := hw
            dsimp only at hR hP hD
            refine lv_iconst (v := 1) hx hb dX10_release_92 (by decide) ?_
            refine W.widen (k := 4) (n := 16) (Nat.le_of_ble_eq_true rfl) (Nat.le_of_ble_eq_true rfl) ?_
            exact W.zret (v := 1) (ty := .boolean) hx hb hr (by decide) (fun t ht hWm => gend_i (u := ((bnS ((snS ((trS S o)) o)) o16), ad, L, f)) ⟨rfl, by unfold rl2; rw [show snM (trS S o) o = some _ from h15], fun _ _ _ => rfl⟩ hR hP hK hD hS ht hWm) hS.2.2 dX10_release_93
        · exact absurd hs c8
      · exact absurd hs c7

