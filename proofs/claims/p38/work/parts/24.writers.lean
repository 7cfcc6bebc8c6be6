/-! the public face that writes without making cells, where it does not throw (made by wip/gen/spec_k.py) -/
/-- a number is from a to b -/
def inR (v a b : Int32) : Bool := decide (a ≤ v) && decide (v ≤ b)
theorem inR_t {v a b : Int32} (h : a ≤ v) (h2 : v ≤ b) : inR v a b = true := by rw [inR, decide_eq_true h, decide_eq_true h2]; rfl
theorem inR_f1 {v a b : Int32} (h : v < a) : inR v a b = false := by rw [inR, decide_eq_false (Int32.not_le.mpr h)]; rfl
theorem inR_f2 {v a b : Int32} (h : b < v) : inR v a b = false := by rw [inR, decide_eq_false (p := v ≤ b) (Int32.not_le.mpr h)]; exact Bool.and_false _
set_option maxHeartbeats 4000000 in
set_option maxRecDepth 100000 in
theorem c_X10_isFrom (l : Launch)  (v a b : Int32) : Met l yX10_isFrom (wsC yX10_isFrom cX10_isFrom 3 (some .boolean)) ({ frames := 0, cells := 0, slots := 0, locals := 0 }) (va_Pc [.int v, .int a, .int b] (fun _ => True)) (vp_Si (fun r => r = bI (inR v a b))) 0 0 (fun _ => False) := by
  refine Met.ofW (cc := cX10_isFrom) (maxL := 3) (ret := (some .boolean)) (by decide) rfl ?_
  intro p e s m args below meth c s₁ B hml hv
  obtain ⟨rfl, -⟩ := hv
  have hx := B.exec
  have hb := B.bytes
  have hr := B.returns
  have hts := atoms_spec (ws := wsC yX10_isFrom cX10_isFrom 3 (some .boolean)) B.pre
  have hta : ∀ w ∈ WA, w.before _ s = true := fun w h => hts w (List.mem_cons_of_mem _ h)
  have hown : s.vm.findClass RX10 = some m.cls := findClass_of_methodNamed B.named
  have hlocks := B.notSynchronized
  have hl := lv_entry ([.int v, .int a, .int b]) (n := 3) (Nat.le_of_ble_eq_true rfl)
  rw [lg_entry_eq]
  generalize (lg_sl ([.int v, .int a, .int b]) ++ List.replicate (3 - (lg_sl ([.int v, .int a, .int b])).length) Slot.unset).toArray = ls at hl ⊢
  have hl : lv_has ls 3 [(0, .int v), (1, .int a), (2, .int b)] := hl
  refine lv_iload_n hx hb dX10_isFrom_0 rfl (lv_at hl 0 rfl) ?_
  refine lv_iload_n hx hb dX10_isFrom_1 rfl (lv_at hl 1 rfl) ?_
  refine lv_icmp_lt (tgt := 14) hx hb dX10_isFrom_2 (by decide) (fun c1 => ?_) (fun c1 => ?_)
  · skip
    refine lv_iconst (v := 0) hx hb dX10_isFrom_14 (by decide) ?_
    exact W.zret (v := 0) (ty := .boolean) hx hb hr (by decide) (fun t ht hWm => ⟨_, rfl, (by rw [inR_f1 c1]; rfl), ht⟩) (fun q h => absurd h List.not_mem_nil) dX10_isFrom_15
  · skip
    refine lv_iload_n hx hb dX10_isFrom_5 rfl (lv_at hl 0 rfl) ?_
    refine lv_iload_n hx hb dX10_isFrom_6 rfl (lv_at hl 2 rfl) ?_
    refine lv_icmp_gt (tgt := 14) hx hb dX10_isFrom_7 (by decide) (fun c2 => ?_) (fun c2 => ?_)
    · skip
      refine lv_iconst (v := 0) hx hb dX10_isFrom_14 (by decide) ?_
      exact W.zret (v := 0) (ty := .boolean) hx hb hr (by decide) (fun t ht hWm => ⟨_, rfl, (by rw [inR_f2 c2]; rfl), ht⟩) (fun q h => absurd h List.not_mem_nil) dX10_isFrom_15
    · skip
      refine lv_iconst (v := 1) hx hb dX10_isFrom_10 (by decide) ?_
      refine lv_goto (tgt := 15) hx hb dX10_isFrom_11 (by decide) ?_
      exact W.zret (v := 1) (ty := .boolean) hx hb hr (by decide) (fun t ht hWm => ⟨_, rfl, (by rw [inR_t (Int32.not_lt.mp c1) (Int32.not_lt.mp c2)]; rfl), ht⟩) (fun q h => absurd h List.not_mem_nil) dX10_isFrom_15

set_option maxHeartbeats 4000000 in
set_option maxRecDepth 100000 in
theorem c_X10_hold1 (l : Launch) {D : va_G} {tA : Nat → ClassId} {S : St} {ad : Nat → Nat → Nat} {L : List Nat} {f : Nat → va_E} {sz : Nat} (hR : Rep tA S ad L f) (hW : WT S) {i : Nat} (hi : i < sN S 2 0) : Met l yX10_hold (wsC yX10_hold cX10_hold 4 (some .int)) ({ frames := 4, cells := 0, slots := 0, locals := 93 }) (va_Pc [.ref (ad 0 0), .int (nI i), .int 1] (gZ D tA L f sz)) (va_Qi (fun (r : Int32) (u : gU) => r = pohR S i ∧ pohS S i = u.1 ∧ ad = u.2.1 ∧ L = u.2.2.1) (gE D tA (va_A (va_pl L f) sz)) (va_A (va_pl L f) sz)) 0 0 (va_A (va_pl L f) sz) := by
  refine Met.ofW (cc := cX10_hold) (maxL := 4) (ret := (some .int)) (by decide) rfl ?_
  intro p e s m args below meth c s₁ B hml hv
  obtain ⟨rfl, hsz, hP, hK, hD0⟩ := hv
  have hx := B.exec
  have hb := B.bytes
  have hr := B.returns
  have hts := atoms_spec (ws := wsC yX10_hold cX10_hold 4 (some .int)) B.pre
  have hta : ∀ w ∈ WA, w.before _ s = true := fun w h => hts w (List.mem_cons_of_mem _ h)
  have hown : s.vm.findClass RX10 = some m.cls := findClass_of_methodNamed B.named
  have hlocks := B.notSynchronized
  subst hsz
  have hD : va_D (va_A (va_pl L f) s.heap.size) (va_pl L f) := hD0.self (sz := s.heap.size)
  generalize hAe : va_A (va_pl L f) s.heap.size = A at hD ⊢
  have hA : ∀ q : Nat, s.heap.size ≤ q → A q := fun q h => by rw [← hAe]; exact Or.inr h
  have hS : va_S A s.heap s.heap [] := va_S.rf
  have hP : va_P D vwCl (va_pl L f) s.heap := hP
  have hl := lv_entry ([.ref (ad 0 0), .int (nI i), .int 1]) (n := 4) (Nat.le_of_ble_eq_true rfl)
  rw [lg_entry_eq]
  generalize (lg_sl ([.ref (ad 0 0), .int (nI i), .int 1]) ++ List.replicate (4 - (lg_sl ([.ref (ad 0 0), .int (nI i), .int 1])).length) Slot.unset).toArray = ls at hl ⊢
  have hl : lv_has ls 4 [(0, .ref (ad 0 0)), (1, .int (nI i)), (2, .int 1)] := hl
  refine lv_aload_n hx hb dX10_hold_0 rfl (lv_at hl 0 rfl) ?_
  refine lv_iload_n hx hb dX10_hold_1 rfl (lv_at hl 1 rfl) ?_
  obtain ⟨q1, e2⟩ := cell_0 hR (rfl : (0 : Nat) = 0)
  refine gro_q (ci := 12) (As := [.int (nI i)]) (rest := []) ⟨hx, hb, hml, hown, hta⟩ (c_X10_knownLot l hR hW hi) (cwV 1 hta (gWV mw456 mw457 mw16 mw40 mw458) rfl rfl rfl (by decide +kernel) ⟨Nat.le_of_ble_eq_true rfl, Nat.le_of_ble_eq_true rfl⟩) hK hP hD rfl e2 rfl hl.1 rfl (Nat.le_of_ble_eq_true rfl) dX10_hold_2 ⟨Nat.zero_le _, Nat.zero_le _⟩ (fun r3 c4 => ?_)
  obtain rfl := c4
  change W _ _ _ _ _ _ _ _ _ _ _ _ _ _ _ (F0 _ _ _ (rf ad 7 (some i) :: []))
  rw [rf_some]
  refine lv_astore_n (lv' := [(3, .ref (ad 7 i)), (0, .ref (ad 0 0)), (1, .int (nI i)), (2, .int 1)]) hx hb dX10_hold_5 rfl hl (by decide) rfl (fun ls hl => ?_)
  refine lv_iload_n hx hb dX10_hold_6 rfl (lv_at hl 3 rfl) ?_
  refine lv_if_eq (tgt := 16) hx hb dX10_hold_7 (by decide) (fun c5 => ?_) (fun c5 => ?_)
  · exact absurd c5 (by decide)
  · skip
    refine lv_aload_n hx hb dX10_hold_10 rfl (lv_at hl 1 rfl) ?_
    refine lv_aload_n hx hb dX10_hold_11 rfl (lv_at hl 0 rfl) ?_
    obtain ⟨q6, e7⟩ := cell_0 hR (rfl : (0 : Nat) = 0)
    refine gwr_i (mc := 0) (ms := 0) (ci := 12) (As := [.ref (ad 7 i)]) (rest := []) ⟨hx, hb, hml, hown, hta⟩ (c_X10_putOnHold l hR hW hi) (cwV 1 hta (gWV mw459 mw460 mw17 mw40 mw461) rfl rfl rfl (by decide +kernel) ⟨Nat.le_of_ble_eq_true rfl, Nat.le_of_ble_eq_true rfl⟩) hK hP hD hS hA rfl e7 rfl hl.1 rfl (Nat.le_of_ble_eq_true rfl) dX10_hold_12 ⟨Nat.zero_le _, Nat.zero_le _⟩ (fun r8 u H locs hw hR hP hD hS => ?_)
    obtain ⟨S9, ad9, L9, f⟩ := u
    obtain ⟨rfl, rfl, rfl, rfl⟩ := hw
    dsimp only at hR hP hD
    exact W.iret (v := (pohR S i)) hx hb hr (fun t ht hWm => gend_i (u := ((pohS S i), ad, L, f)) ⟨rfl, rfl, rfl, rfl⟩ hR hP hK hD hS ht hWm) hS.2.2 dX10_hold_15

set_option maxHeartbeats 4000000 in
set_option maxRecDepth 100000 in
theorem c_X10_hold0 (l : Launch) {D : va_G} {tA : Nat → ClassId} {S : St} {ad : Nat → Nat → Nat} {L : List Nat} {f : Nat → va_E} {sz : Nat} (hR : Rep tA S ad L f) (hW : WT S) {i : Nat} (hi : i < sN S 2 0) : Met l yX10_hold (wsC yX10_hold cX10_hold 4 (some .int)) ({ frames := 1, cells := 0, slots := 0, locals := 22 }) (va_Pc [.ref (ad 0 0), .int (nI i), .int 0] (gZ D tA L f sz)) (va_Qi (fun (r : Int32) (u : gU) => r = 0 ∧ sDel S 14 0 i = u.1 ∧ ad = u.2.1 ∧ L = u.2.2.1) (gE D tA (va_A (va_pl L f) sz)) (va_A (va_pl L f) sz)) 0 0 (va_A (va_pl L f) sz) := by
  refine Met.ofW (cc := cX10_hold) (maxL := 4) (ret := (some .int)) (by decide) rfl ?_
  intro p e s m args below meth c s₁ B hml hv
  obtain ⟨rfl, hsz, hP, hK, hD0⟩ := hv
  have hx := B.exec
  have hb := B.bytes
  have hr := B.returns
  have hts := atoms_spec (ws := wsC yX10_hold cX10_hold 4 (some .int)) B.pre
  have hta : ∀ w ∈ WA, w.before _ s = true := fun w h => hts w (List.mem_cons_of_mem _ h)
  have hown : s.vm.findClass RX10 = some m.cls := findClass_of_methodNamed B.named
  have hlocks := B.notSynchronized
  subst hsz
  have hD : va_D (va_A (va_pl L f) s.heap.size) (va_pl L f) := hD0.self (sz := s.heap.size)
  generalize hAe : va_A (va_pl L f) s.heap.size = A at hD ⊢
  have hA : ∀ q : Nat, s.heap.size ≤ q → A q := fun q h => by rw [← hAe]; exact Or.inr h
  have hS : va_S A s.heap s.heap [] := va_S.rf
  have hP : va_P D vwCl (va_pl L f) s.heap := hP
  have hl := lv_entry ([.ref (ad 0 0), .int (nI i), .int 0]) (n := 4) (Nat.le_of_ble_eq_true rfl)
  rw [lg_entry_eq]
  generalize (lg_sl ([.ref (ad 0 0), .int (nI i), .int 0]) ++ List.replicate (4 - (lg_sl ([.ref (ad 0 0), .int (nI i), .int 0])).length) Slot.unset).toArray = ls at hl ⊢
  have hl : lv_has ls 4 [(0, .ref (ad 0 0)), (1, .int (nI i)), (2, .int 0)] := hl
  refine lv_aload_n hx hb dX10_hold_0 rfl (lv_at hl 0 rfl) ?_
  refine lv_iload_n hx hb dX10_hold_1 rfl (lv_at hl 1 rfl) ?_
  obtain ⟨q1, e2⟩ := cell_0 hR (rfl : (0 : Nat) = 0)
  refine gro_q (ci := 12) (As := [.int (nI i)]) (rest := []) ⟨hx, hb, hml, hown, hta⟩ (c_X10_knownLot l hR hW hi) (cwV 1 hta (gWV mw456 mw457 mw16 mw40 mw458) rfl rfl rfl (by decide +kernel) ⟨Nat.le_of_ble_eq_true rfl, Nat.le_of_ble_eq_true rfl⟩) hK hP hD rfl e2 rfl hl.1 rfl (Nat.le_of_ble_eq_true rfl) dX10_hold_2 ⟨Nat.zero_le _, Nat.zero_le _⟩ (fun r3 c4 => ?_)
  obtain rfl := c4
  change W _ _ _ _ _ _ _ _ _ _ _ _ _ _ _ (F0 _ _ _ (rf ad 7 (some i) :: []))
  rw [rf_some]
  refine lv_astore_n (lv' := [(3, .ref (ad 7 i)), (0, .ref (ad 0 0)), (1, .int (nI i)), (2, .int 0)]) hx hb dX10_hold_5 rfl hl (by decide) rfl (fun ls hl => ?_)
  refine lv_iload_n hx hb dX10_hold_6 rfl (lv_at hl 3 rfl) ?_
  refine lv_if_eq (tgt := 16) hx hb dX10_hold_7 (by decide) (fun c5 => ?_) (fun c5 => ?_)
  · skip
    refine lv_aload_n hx hb dX10_hold_16 rfl (lv_at hl 1 rfl) ?_
    refine get_onHold_0 hx hb hta iwX10 hown hK hP hR (rfl : (0 : Nat) = 0) (hta _ mw101) dX10_hold_17 ?_
    refine lv_iload_n hx hb dX10_hold_20 rfl (lv_at hl 2 rfl) ?_
    obtain ⟨q6, e7⟩ := cell_14 hR (rfl : (0 : Nat) = 0)
    refine gwr_v (mc := 0) (ms := 0) (ci := 7) (As := [.int (nI i)]) (rest := []) ⟨hx, hb, hml, hown, hta⟩ (c_X5_remove l hR (k := 14) (i := 0) ⟨rfl, (rfl : (0 : Nat) = 0)⟩ (j := i) (Nat.lt_of_lt_of_le hi (Nat.le_trans hW.nL (by decide)))) (cwV 1 hta (gWV mw472 mw473 mw474 mw41 mw475) rfl rfl rfl (by decide +kernel) ⟨Nat.le_of_ble_eq_true rfl, Nat.le_of_ble_eq_true rfl⟩) hK hP hD hS hA rfl e7 rfl hl.1 rfl (Nat.le_of_ble_eq_true rfl) dX10_hold_21 ⟨Nat.zero_le _, Nat.zero_le _⟩ (fun u H locs hw hR hP hD hS => ?_)
    obtain ⟨S9, ad9, L9, f⟩ := u
    obtain ⟨rfl, rfl, rfl⟩ := hw
    dsimp only at hR hP hD
    refine lv_iconst (v := 0) hx hb dX10_hold_24 (by decide) ?_
    exact W.iret (v := 0) hx hb hr (fun t ht hWm => gend_i (u := ((sDel S 14 0 i), ad, L, f)) ⟨rfl, rfl, rfl, rfl⟩ hR hP hK hD hS ht hWm) hS.2.2 dX10_hold_25
  · exact absurd (by decide) c5

set_option maxHeartbeats 4000000 in
set_option maxRecDepth 100000 in
theorem c_X10_promise (l : Launch) {D : va_G} {tA : Nat → ClassId} {S : St} {ad : Nat → Nat → Nat} {L : List Nat} {f : Nat → va_E} {sz : Nat} (hR : Rep tA S ad L f) (hW : WT S) {o : Nat} (ho : o < sN S 3 0) (hm : ¬ sI S 20 (sN S 7 o) = 0) (h45 : sI S 53 o = 45) : Met l yX10_promise (wsC yX10_promise cX10_promise 3 (some .boolean)) ({ frames := 5, cells := 0, slots := 0, locals := 116 }) (va_Pc [.ref (ad 0 0), .int (nI o)] (gZ D tA L f sz)) (va_Qi (fun (r : Int32) (u : gU) => r = bI (raR S o) ∧ raS S o = u.1 ∧ ad = u.2.1 ∧ L = u.2.2.1) (gE D tA (va_A (va_pl L f) sz)) (va_A (va_pl L f) sz)) 0 0 (va_A (va_pl L f) sz) := by
  refine Met.ofW (cc := cX10_promise) (maxL := 3) (ret := (some .boolean)) (by decide) rfl ?_
  intro p e s m args below meth c s₁ B hml hv
  obtain ⟨rfl, hsz, hP, hK, hD0⟩ := hv
  have hx := B.exec
  have hb := B.bytes
  have hr := B.returns
  have hts := atoms_spec (ws := wsC yX10_promise cX10_promise 3 (some .boolean)) B.pre
  have hta : ∀ w ∈ WA, w.before _ s = true := fun w h => hts w (List.mem_cons_of_mem _ h)
  have hown : s.vm.findClass RX10 = some m.cls := findClass_of_methodNamed B.named
  have hlocks := B.notSynchronized
  subst hsz
  have hD : va_D (va_A (va_pl L f) s.heap.size) (va_pl L f) := hD0.self (sz := s.heap.size)
  generalize hAe : va_A (va_pl L f) s.heap.size = A at hD ⊢
  have hA : ∀ q : Nat, s.heap.size ≤ q → A q := fun q h => by rw [← hAe]; exact Or.inr h
  have hS : va_S A s.heap s.heap [] := va_S.rf
  have hP : va_P D vwCl (va_pl L f) s.heap := hP
  have hl := lv_entry ([.ref (ad 0 0), .int (nI o)]) (n := 3) (Nat.le_of_ble_eq_true rfl)
  rw [lg_entry_eq]
  generalize (lg_sl ([.ref (ad 0 0), .int (nI o)]) ++ List.replicate (3 - (lg_sl ([.ref (ad 0 0), .int (nI o)])).length) Slot.unset).toArray = ls at hl ⊢
  have hl : lv_has ls 3 [(0, .ref (ad 0 0)), (1, .int (nI o))] := hl
  refine lv_aload_n hx hb dX10_promise_0 rfl (lv_at hl 0 rfl) ?_
  refine lv_iload_n hx hb dX10_promise_1 rfl (lv_at hl 1 rfl) ?_
  obtain ⟨q1, e2⟩ := cell_0 hR (rfl : (0 : Nat) = 0)
  refine gro_q (ci := 12) (As := [.int (nI o)]) (rest := []) ⟨hx, hb, hml, hown, hta⟩ (c_X10_knownOrder l hR hW ho) (cwV 1 hta (gWV mw559 mw560 mw20 mw40 mw561) rfl rfl rfl (by decide +kernel) ⟨Nat.le_of_ble_eq_true rfl, Nat.le_of_ble_eq_true rfl⟩) hK hP hD rfl e2 rfl hl.1 rfl (Nat.le_of_ble_eq_true rfl) dX10_promise_2 ⟨Nat.zero_le _, Nat.zero_le _⟩ (fun r3 c4 => ?_)
  obtain rfl := c4
  change W _ _ _ _ _ _ _ _ _ _ _ _ _ _ _ (F0 _ _ _ (rf ad 11 (some o) :: []))
  rw [rf_some]
  refine lv_astore_n (lv' := [(2, .ref (ad 11 o)), (0, .ref (ad 0 0)), (1, .int (nI o))]) hx hb dX10_promise_5 rfl hl (by decide) rfl (fun ls hl => ?_)
  refine lv_aload_n hx hb dX10_promise_6 rfl (lv_at hl 0 rfl) ?_
  refine get_part_11 hx hb hta iwX7 hown hK hP hR ho (hta _ mw533) dX10_promise_7 ?_
  refine get_isMade_2 hx hb hta iwX8 hown hK hP hR (hW.ordPart ho) (hta _ mw290) dX10_promise_10 ?_
  refine lv_if_eq (tgt := 25) hx hb dX10_promise_13 (by decide) (fun c5 => ?_) (fun c5 => ?_)
  · exact absurd c5 hm
  · skip
    refine lv_aload_n hx hb dX10_promise_16 rfl (lv_at hl 0 rfl) ?_
    refine get_state_11 hx hb hta iwX7 hown hK hP hR ho (hta _ mw546) dX10_promise_17 ?_
    refine lv_bipush (v := 45) hx hb dX10_promise_20 (by decide) ?_
    refine lv_icmp_eq (tgt := 35) hx hb dX10_promise_22 (by decide) (fun c6 => ?_) (fun c6 => ?_)
    · skip
      refine lv_aload_n hx hb dX10_promise_35 rfl (lv_at hl 1 rfl) ?_
      refine lv_aload_n hx hb dX10_promise_36 rfl (lv_at hl 0 rfl) ?_
      obtain ⟨q7, e8⟩ := cell_0 hR (rfl : (0 : Nat) = 0)
      refine gwr_i (mc := 0) (ms := 0) (ci := 12) (As := [.ref (ad 11 o)]) (rest := []) ⟨hx, hb, hml, hown, hta⟩ (c_X10_reserveAll l hR hW ho) (cwV 1 hta (gWV mw697 mw698 mw31 mw40 mw699) rfl rfl rfl (by decide +kernel) ⟨Nat.le_of_ble_eq_true rfl, Nat.le_of_ble_eq_true rfl⟩) hK hP hD hS hA rfl e8 rfl hl.1 rfl (Nat.le_of_ble_eq_true rfl) dX10_promise_37 ⟨Nat.zero_le _, Nat.zero_le _⟩ (fun r9 u H locs hw hR hP hD hS => ?_)
      obtain ⟨S9, ad9, L9, f⟩ := u
      obtain ⟨rfl, rfl, rfl, rfl⟩ := hw
      dsimp only at hR hP hD
      exact W.zret (v := (bI (raR S o))) (ty := .boolean) hx hb hr (by cases raR S o <;> decide) (fun t ht hWm => gend_i (u := ((raS S o), ad, L, f)) ⟨rfl, rfl, rfl, rfl⟩ hR hP hK hD hS ht hWm) hS.2.2 dX10_promise_40
    · exact absurd h45 c6

set_option maxHeartbeats 4000000 in
set_option maxRecDepth 100000 in
theorem c_X10_withdraw (l : Launch) {D : va_G} {tA : Nat → ClassId} {S : St} {ad : Nat → Nat → Nat} {L : List Nat} {f : Nat → va_E} {sz : Nat} (hR : Rep tA S ad L f) (hW : WT S) {o : Nat} (ho : o < sN S 3 0) (h112 : sI S 53 o = 112) : Met l yX10_withdraw (wsC yX10_withdraw cX10_withdraw 3 (some .int)) ({ frames := 2, cells := 0, slots := 0, locals := 50 }) (va_Pc [.ref (ad 0 0), .int (nI o)] (gZ D tA L f sz)) (va_Qi (fun (r : Int32) (u : gU) => r = dpR S o ∧ dpS S o = u.1 ∧ ad = u.2.1 ∧ L = u.2.2.1) (gE D tA (va_A (va_pl L f) sz)) (va_A (va_pl L f) sz)) 0 0 (va_A (va_pl L f) sz) := by
  refine Met.ofW (cc := cX10_withdraw) (maxL := 3) (ret := (some .int)) (by decide) rfl ?_
  intro p e s m args below meth c s₁ B hml hv
  obtain ⟨rfl, hsz, hP, hK, hD0⟩ := hv
  have hx := B.exec
  have hb := B.bytes
  have hr := B.returns
  have hts := atoms_spec (ws := wsC yX10_withdraw cX10_withdraw 3 (some .int)) B.pre
  have hta : ∀ w ∈ WA, w.before _ s = true := fun w h => hts w (List.mem_cons_of_mem _ h)
  have hown : s.vm.findClass RX10 = some m.cls := findClass_of_methodNamed B.named
  have hlocks := B.notSynchronized
  subst hsz
  have hD : va_D (va_A (va_pl L f) s.heap.size) (va_pl L f) := hD0.self (sz := s.heap.size)
  generalize hAe : va_A (va_pl L f) s.heap.size = A at hD ⊢
  have hA : ∀ q : Nat, s.heap.size ≤ q → A q := fun q h => by rw [← hAe]; exact Or.inr h
  have hS : va_S A s.heap s.heap [] := va_S.rf
  have hP : va_P D vwCl (va_pl L f) s.heap := hP
  have hl := lv_entry ([.ref (ad 0 0), .int (nI o)]) (n := 3) (Nat.le_of_ble_eq_true rfl)
  rw [lg_entry_eq]
  generalize (lg_sl ([.ref (ad 0 0), .int (nI o)]) ++ List.replicate (3 - (lg_sl ([.ref (ad 0 0), .int (nI o)])).length) Slot.unset).toArray = ls at hl ⊢
  have hl : lv_has ls 3 [(0, .ref (ad 0 0)), (1, .int (nI o))] := hl
  refine lv_aload_n hx hb dX10_withdraw_0 rfl (lv_at hl 0 rfl) ?_
  refine lv_iload_n hx hb dX10_withdraw_1 rfl (lv_at hl 1 rfl) ?_
  obtain ⟨q1, e2⟩ := cell_0 hR (rfl : (0 : Nat) = 0)
  refine gro_q (ci := 12) (As := [.int (nI o)]) (rest := []) ⟨hx, hb, hml, hown, hta⟩ (c_X10_knownOrder l hR hW ho) (cwV 1 hta (gWV mw559 mw560 mw20 mw40 mw561) rfl rfl rfl (by decide +kernel) ⟨Nat.le_of_ble_eq_true rfl, Nat.le_of_ble_eq_true rfl⟩) hK hP hD rfl e2 rfl hl.1 rfl (Nat.le_of_ble_eq_true rfl) dX10_withdraw_2 ⟨Nat.zero_le _, Nat.zero_le _⟩ (fun r3 c4 => ?_)
  obtain rfl := c4
  change W _ _ _ _ _ _ _ _ _ _ _ _ _ _ _ (F0 _ _ _ (rf ad 11 (some o) :: []))
  rw [rf_some]
  refine lv_astore_n (lv' := [(2, .ref (ad 11 o)), (0, .ref (ad 0 0)), (1, .int (nI o))]) hx hb dX10_withdraw_5 rfl hl (by decide) rfl (fun ls hl => ?_)
  refine lv_aload_n hx hb dX10_withdraw_6 rfl (lv_at hl 0 rfl) ?_
  refine get_state_11 hx hb hta iwX7 hown hK hP hR ho (hta _ mw546) dX10_withdraw_7 ?_
  refine lv_bipush (v := 112) hx hb dX10_withdraw_10 (by decide) ?_
  refine lv_icmp_eq (tgt := 25) hx hb dX10_withdraw_12 (by decide) (fun c5 => ?_) (fun c5 => ?_)
  · skip
    refine lv_aload_n hx hb dX10_withdraw_25 rfl (lv_at hl 1 rfl) ?_
    refine lv_aload_n hx hb dX10_withdraw_26 rfl (lv_at hl 0 rfl) ?_
    obtain ⟨q6, e7⟩ := cell_0 hR (rfl : (0 : Nat) = 0)
    refine gwr_i (mc := 0) (ms := 0) (ci := 12) (As := [.ref (ad 11 o)]) (rest := []) ⟨hx, hb, hml, hown, hta⟩ (c_X10_dropPromise l hR hW ho) (cwV 1 hta (gWV mw465 mw466 mw19 mw40 mw467) rfl rfl rfl (by decide +kernel) ⟨Nat.le_of_ble_eq_true rfl, Nat.le_of_ble_eq_true rfl⟩) hK hP hD hS hA rfl e7 rfl hl.1 rfl (Nat.le_of_ble_eq_true rfl) dX10_withdraw_27 ⟨Nat.zero_le _, Nat.zero_le _⟩ (fun r8 u H locs hw hR hP hD hS => ?_)
    obtain ⟨S9, ad9, L9, f⟩ := u
    obtain ⟨rfl, rfl, rfl, rfl⟩ := hw
    dsimp only at hR hP hD
    exact W.iret (v := (dpR S o)) hx hb hr (fun t ht hWm => gend_i (u := ((dpS S o), ad, L, f)) ⟨rfl, rfl, rfl, rfl⟩ hR hP hK hD hS ht hWm) hS.2.2 dX10_withdraw_30
  · exact absurd h112 c5

/-- k pieces of a job are scrapped -/
def scS (S : St) (o : Nat) (k : Int32) : St := uI (uI S 60 o (sI S 60 o - k)) 61 o (sI (uI S 60 o (sI S 60 o - k)) 61 o + k)
set_option maxHeartbeats 4000000 in
set_option maxRecDepth 100000 in
theorem c_X10_scrap (l : Launch) {D : va_G} {tA : Nat → ClassId} {S : St} {ad : Nat → Nat → Nat} {L : List Nat} {f : Nat → va_E} {sz : Nat} (hR : Rep tA S ad L f) (hW : WT S) {o : Nat} (ho : o < sN S 3 0) (k : Int32) (hwk : oInWork S o = true) (hk : inR k 1 (sI S 60 o) = true) : Met l yX10_scrap (wsC yX10_scrap cX10_scrap 5 (some .int)) ({ frames := 1, cells := 0, slots := 0, locals := 22 }) (va_Pc [.ref (ad 0 0), .int (nI o), .int k] (gZ D tA L f sz)) (va_Qi (fun (r : Int32) (u : gU) => r = sI S 60 o - k ∧ scS S o k = u.1 ∧ ad = u.2.1 ∧ L = u.2.2.1) (gE D tA (va_A (va_pl L f) sz)) (va_A (va_pl L f) sz)) 0 0 (va_A (va_pl L f) sz) := by
  refine Met.ofW (cc := cX10_scrap) (maxL := 5) (ret := (some .int)) (by decide) rfl ?_
  intro p e s m args below meth c s₁ B hml hv
  obtain ⟨rfl, hsz, hP, hK, hD0⟩ := hv
  have hx := B.exec
  have hb := B.bytes
  have hr := B.returns
  have hts := atoms_spec (ws := wsC yX10_scrap cX10_scrap 5 (some .int)) B.pre
  have hta : ∀ w ∈ WA, w.before _ s = true := fun w h => hts w (List.mem_cons_of_mem _ h)
  have hown : s.vm.findClass RX10 = some m.cls := findClass_of_methodNamed B.named
  have hlocks := B.notSynchronized
  subst hsz
  have hD : va_D (va_A (va_pl L f) s.heap.size) (va_pl L f) := hD0.self (sz := s.heap.size)
  generalize hAe : va_A (va_pl L f) s.heap.size = A at hD ⊢
  have hA : ∀ q : Nat, s.heap.size ≤ q → A q := fun q h => by rw [← hAe]; exact Or.inr h
  have hS : va_S A s.heap s.heap [] := va_S.rf
  have hP : va_P D vwCl (va_pl L f) s.heap := hP
  have hl := lv_entry ([.ref (ad 0 0), .int (nI o), .int k]) (n := 5) (Nat.le_of_ble_eq_true rfl)
  rw [lg_entry_eq]
  generalize (lg_sl ([.ref (ad 0 0), .int (nI o), .int k]) ++ List.replicate (5 - (lg_sl ([.ref (ad 0 0), .int (nI o), .int k])).length) Slot.unset).toArray = ls at hl ⊢
  have hl : lv_has ls 5 [(0, .ref (ad 0 0)), (1, .int (nI o)), (2, .int k)] := hl
  refine lv_aload_n hx hb dX10_scrap_0 rfl (lv_at hl 0 rfl) ?_
  refine lv_iload_n hx hb dX10_scrap_1 rfl (lv_at hl 1 rfl) ?_
  obtain ⟨q1, e2⟩ := cell_0 hR (rfl : (0 : Nat) = 0)
  refine gro_q (ci := 12) (As := [.int (nI o)]) (rest := []) ⟨hx, hb, hml, hown, hta⟩ (c_X10_knownOrder l hR hW ho) (cwV 1 hta (gWV mw559 mw560 mw20 mw40 mw561) rfl rfl rfl (by decide +kernel) ⟨Nat.le_of_ble_eq_true rfl, Nat.le_of_ble_eq_true rfl⟩) hK hP hD rfl e2 rfl hl.1 rfl (Nat.le_of_ble_eq_true rfl) dX10_scrap_2 ⟨Nat.zero_le _, Nat.zero_le _⟩ (fun r3 c4 => ?_)
  obtain rfl := c4
  change W _ _ _ _ _ _ _ _ _ _ _ _ _ _ _ (F0 _ _ _ (rf ad 11 (some o) :: []))
  rw [rf_some]
  refine lv_astore_n (lv' := [(3, .ref (ad 11 o)), (0, .ref (ad 0 0)), (1, .int (nI o)), (2, .int k)]) hx hb dX10_scrap_5 rfl hl (by decide) rfl (fun ls hl => ?_)
  refine lv_aload_n hx hb dX10_scrap_6 rfl (lv_at hl 0 rfl) ?_
  obtain ⟨q5, e6⟩ := cell_11 hR ho
  refine gro_i (ci := 9) (As := []) (rest := []) ⟨hx, hb, hml, hown, hta⟩ (c_X7_isInWork l hR ho) (cwV 0 hta (gWV mw569 mw182 mw183 mw59 mw184) rfl rfl rfl (by decide +kernel) ⟨Nat.le_of_ble_eq_true rfl, Nat.le_of_ble_eq_true rfl⟩) hK hP hD rfl e6 rfl hl.1 rfl (Nat.le_of_ble_eq_true rfl) dX10_scrap_7 ⟨Nat.zero_le _, Nat.zero_le _⟩ (fun r7 c8 => ?_)
  obtain rfl := c8
  refine lv_if_ne (tgt := 24) hx hb dX10_scrap_10 (by decide) (fun c9 => ?_) (fun c9 => ?_)
  · skip
    refine lv_aload_n hx hb dX10_scrap_24 rfl (lv_at hl 0 rfl) ?_
    refine get_job_11 hx hb hta iwX7 hown hK hP hR ho (hta _ mw541) dX10_scrap_25 ?_
    refine lv_astore (lv' := [(4, .ref (ad 12 o)), (3, .ref (ad 11 o)), (0, .ref (ad 0 0)), (1, .int (nI o)), (2, .int k)]) hx hb dX10_scrap_28 hl (by decide) rfl (fun ls hl => ?_)
    refine lv_iload_n hx hb dX10_scrap_30 rfl (lv_at hl 4 rfl) ?_
    refine lv_iconst (v := 1) hx hb dX10_scrap_31 (by decide) ?_
    refine lv_aload hx hb dX10_scrap_32 (lv_at hl 0 rfl) ?_
    refine get_pieces_12 hx hb hta iwX2 hown hK hP hR ho (hta _ mw517) dX10_scrap_34 ?_
    refine vp_callSi (W.runS (As := [.int k, .int 1, .int (sI S 60 o)]) (rest := []) ⟨hx, hb, hml, hown, hta⟩ (c_X10_isFrom l k 1 (sI S 60 o)) (va_cwS 3 hta (gWS mw223 mw224 mw40 mw225) rfl rfl rfl (by decide +kernel) ⟨Nat.le_of_ble_eq_true rfl, Nat.le_of_ble_eq_true rfl⟩) ⟨fun a U g mk q => ⟨q.1, trivial⟩, fun U hU hW9 => ⟨rfl, trivial⟩⟩ rfl rfl hl.1 rfl (lv_room (Nat.le_of_ble_eq_true rfl)) dX10_scrap_37 ⟨Nat.zero_le _, Nat.zero_le _⟩) (fun r10 c11 => ?_)
    obtain rfl : r10 = 1 := c11.trans (by rw [hk]; rfl)
    refine lv_if_ne (tgt := 54) hx hb dX10_scrap_40 (by decide) (fun c12 => ?_) (fun c12 => ?_)
    · skip
      refine lv_aload hx hb dX10_scrap_54 (lv_at hl 0 rfl) ?_
      refine lv_dup hx hb dX10_scrap_56 rfl ?_
      refine get_pieces_12 hx hb hta iwX2 hown hK hP hR ho (hta _ mw517) dX10_scrap_57 ?_
      refine lv_iload_n hx hb dX10_scrap_60 rfl (lv_at hl 4 rfl) ?_
      refine lv_isub hx hb dX10_scrap_61 ?_
      refine put_pieces_12 (v := ((sI S 60 o) - k : Int32)) hx hb hta iwX2 hown hK hP hD hS hR ho (hta _ mw517) dX10_scrap_62 (fun H locs f hP hD hS hR => ?_)
      refine lv_aload hx hb dX10_scrap_65 (lv_at hl 0 rfl) ?_
      refine lv_dup hx hb dX10_scrap_67 rfl ?_
      refine get_scrapped_12 hx hb hta iwX2 hown hK hP hR ho (hta _ mw519) dX10_scrap_68 ?_
      refine lv_topi (fun x13 ex13 => ?_)
      obtain rfl := ex13.trans (show sI (uI S 60 o ((sI S 60 o) - k)) 61 o = sI S 61 o from up2_nk (sI S) (k := 60) (i := o) (k' := 61) (i' := o) ((sI S 60 o) - k) (by decide))
      refine lv_iload_n hx hb dX10_scrap_71 rfl (lv_at hl 4 rfl) ?_
      refine lv_iadd hx hb dX10_scrap_72 ?_
      refine put_scrapped_12 (v := ((sI S 61 o) + k : Int32)) hx hb hta iwX2 hown hK hP hD hS hR ho (hta _ mw519) dX10_scrap_73 (fun H locs f hP hD hS hR => ?_)
      refine lv_aload hx hb dX10_scrap_76 (lv_at hl 0 rfl) ?_
      refine get_pieces_12 hx hb hta iwX2 hown hK hP hR ho (hta _ mw517) dX10_scrap_78 ?_
      refine lv_topi (fun x14 ex14 => ?_)
      obtain rfl := ex14.trans ((show sI (uI (uI S 60 o ((sI S 60 o) - k)) 61 o ((sI S 61 o) + k)) 60 o = sI (uI S 60 o ((sI S 60 o) - k)) 60 o from up2_nk (sI (uI S 60 o ((sI S 60 o) - k))) (k := 61) (i := o) (k' := 60) (i' := o) ((sI S 61 o) + k) (by decide)).trans (show sI (uI S 60 o ((sI S 60 o) - k)) 60 o = (sI S 60 o) - k from up2_self (sI S) 60 o ((sI S 60 o) - k)))
      exact W.iret (v := ((sI S 60 o) - k)) hx hb hr (fun t ht hWm => gend_i (u := (uI (uI S 60 o ((sI S 60 o) - k)) 61 o ((sI S 61 o) + k), ad, L, f)) ⟨rfl, rfl, rfl, rfl⟩ hR hP hK hD hS ht hWm) hS.2.2 dX10_scrap_81
    · exact absurd c12 (by decide)
  · exact absurd c9 (by rw [hwk]; decide)

/-- an order is delivered, if what is free reaches -/
def dlR (S : St) (o : Nat) : Bool := if sI S 50 o ≤ fpo S (sN S 7 o) then true else false
def dlS (S : St) (o : Nat) : St := if sI S 50 o ≤ fpo S (sN S 7 o) then uI (uI (noS (tdS S o) o) 53 o 100) 54 o (sI (noS (tdS S o) o) 2 0) else S
set_option maxHeartbeats 4000000 in
set_option maxRecDepth 100000 in
theorem c_X10_deliver (l : Launch) {D : va_G} {tA : Nat → ClassId} {S : St} {ad : Nat → Nat → Nat} {L : List Nat} {f : Nat → va_E} {sz : Nat} (hR : Rep tA S ad L f) (hW : WT S) {o : Nat} (ho : o < sN S 3 0) (hd : ¬ sI S 53 o = 100) (hf : ¬ sI S 20 (sN S 7 o) = 0 → sI S 53 o = 102) : Met l yX10_deliver (wsC yX10_deliver cX10_deliver 3 (some .boolean)) ({ frames := 5, cells := 0, slots := 0, locals := 114 }) (va_Pc [.ref (ad 0 0), .int (nI o)] (gZ D tA L f sz)) (va_Qi (fun (r : Int32) (u : gU) => r = bI (dlR S o) ∧ dlS S o = u.1 ∧ ad = u.2.1 ∧ L = u.2.2.1) (gE D tA (va_A (va_pl L f) sz)) (va_A (va_pl L f) sz)) 0 0 (va_A (va_pl L f) sz) := by
  refine Met.ofW (cc := cX10_deliver) (maxL := 3) (ret := (some .boolean)) (by decide) rfl ?_
  intro p e s m args below meth c s₁ B hml hv
  obtain ⟨rfl, hsz, hP, hK, hD0⟩ := hv
  have hx := B.exec
  have hb := B.bytes
  have hr := B.returns
  have hts := atoms_spec (ws := wsC yX10_deliver cX10_deliver 3 (some .boolean)) B.pre
  have hta : ∀ w ∈ WA, w.before _ s = true := fun w h => hts w (List.mem_cons_of_mem _ h)
  have hown : s.vm.findClass RX10 = some m.cls := findClass_of_methodNamed B.named
  have hlocks := B.notSynchronized
  subst hsz
  have hD : va_D (va_A (va_pl L f) s.heap.size) (va_pl L f) := hD0.self (sz := s.heap.size)
  generalize hAe : va_A (va_pl L f) s.heap.size = A at hD ⊢
  have hA : ∀ q : Nat, s.heap.size ≤ q → A q := fun q h => by rw [← hAe]; exact Or.inr h
  have hS : va_S A s.heap s.heap [] := va_S.rf
  have hP : va_P D vwCl (va_pl L f) s.heap := hP
  have hl := lv_entry ([.ref (ad 0 0), .int (nI o)]) (n := 3) (Nat.le_of_ble_eq_true rfl)
  rw [lg_entry_eq]
  generalize (lg_sl ([.ref (ad 0 0), .int (nI o)]) ++ List.replicate (3 - (lg_sl ([.ref (ad 0 0), .int (nI o)])).length) Slot.unset).toArray = ls at hl ⊢
  have hl : lv_has ls 3 [(0, .ref (ad 0 0)), (1, .int (nI o))] := hl
  refine lv_aload_n hx hb dX10_deliver_0 rfl (lv_at hl 0 rfl) ?_
  refine lv_iload_n hx hb dX10_deliver_1 rfl (lv_at hl 1 rfl) ?_
  obtain ⟨q1, e2⟩ := cell_0 hR (rfl : (0 : Nat) = 0)
  refine gro_q (ci := 12) (As := [.int (nI o)]) (rest := []) ⟨hx, hb, hml, hown, hta⟩ (c_X10_knownOrder l hR hW ho) (cwV 1 hta (gWV mw559 mw560 mw20 mw40 mw561) rfl rfl rfl (by decide +kernel) ⟨Nat.le_of_ble_eq_true rfl, Nat.le_of_ble_eq_true rfl⟩) hK hP hD rfl e2 rfl hl.1 rfl (Nat.le_of_ble_eq_true rfl) dX10_deliver_2 ⟨Nat.zero_le _, Nat.zero_le _⟩ (fun r3 c4 => ?_)
  obtain rfl := c4
  change W _ _ _ _ _ _ _ _ _ _ _ _ _ _ _ (F0 _ _ _ (rf ad 11 (some o) :: []))
  rw [rf_some]
  refine lv_astore_n (lv' := [(2, .ref (ad 11 o)), (0, .ref (ad 0 0)), (1, .int (nI o))]) hx hb dX10_deliver_5 rfl hl (by decide) rfl (fun ls hl => ?_)
  refine lv_aload_n hx hb dX10_deliver_6 rfl (lv_at hl 0 rfl) ?_
  refine get_state_11 hx hb hta iwX7 hown hK hP hR ho (hta _ mw546) dX10_deliver_7 ?_
  refine lv_bipush (v := 100) hx hb dX10_deliver_10 (by decide) ?_
  refine lv_icmp_eq (tgt := 34) hx hb dX10_deliver_12 (by decide) (fun c5 => ?_) (fun c5 => ?_)
  · exact absurd c5 hd
  · skip
    refine lv_aload_n hx hb dX10_deliver_15 rfl (lv_at hl 0 rfl) ?_
    refine get_part_11 hx hb hta iwX7 hown hK hP hR ho (hta _ mw533) dX10_deliver_16 ?_
    refine get_isMade_2 hx hb hta iwX8 hown hK hP hR (hW.ordPart ho) (hta _ mw290) dX10_deliver_19 ?_
    refine lv_if_eq (tgt := 45) hx hb dX10_deliver_22 (by decide) (fun c6 => ?_) (fun c6 => ?_)
    · skip
      refine lv_aload_n hx hb dX10_deliver_45 rfl (lv_at hl 1 rfl) ?_
      refine lv_aload_n hx hb dX10_deliver_46 rfl (lv_at hl 0 rfl) ?_
      refine get_part_11 hx hb hta iwX7 hown hK hP hR ho (hta _ mw533) dX10_deliver_47 ?_
      obtain ⟨q7, e8⟩ := cell_0 hR (rfl : (0 : Nat) = 0)
      refine gro_i (ci := 12) (As := [.ref (ad 2 (sN S 7 o))]) (rest := []) ⟨hx, hb, hml, hown, hta⟩ (c_X10_freePiecesOf l hR hW (hW.ordPart ho)) (cwV 1 hta (gWV mw728 mw729 mw35 mw40 mw730) rfl rfl rfl (by decide +kernel) ⟨Nat.le_of_ble_eq_true rfl, Nat.le_of_ble_eq_true rfl⟩) hK hP hD rfl e8 rfl hl.1 rfl (Nat.le_of_ble_eq_true rfl) dX10_deliver_50 ⟨Nat.zero_le _, Nat.zero_le _⟩ (fun r9 c10 => ?_)
      obtain rfl := c10
      refine lv_aload_n hx hb dX10_deliver_53 rfl (lv_at hl 0 rfl) ?_
      refine get_quantity_11 hx hb hta iwX7 hown hK hP hR ho (hta _ mw535) dX10_deliver_54 ?_
      refine lv_icmp_ge (tgt := 62) hx hb dX10_deliver_57 (by decide) (fun c11 => ?_) (fun c11 => ?_)
      · skip
        refine lv_aload_n hx hb dX10_deliver_62 rfl (lv_at hl 1 rfl) ?_
        refine lv_aload_n hx hb dX10_deliver_63 rfl (lv_at hl 0 rfl) ?_
        obtain ⟨q12, e13⟩ := cell_0 hR (rfl : (0 : Nat) = 0)
        refine gwr_v (mc := 0) (ms := 0) (ci := 12) (As := [.ref (ad 11 o)]) (rest := []) ⟨hx, hb, hml, hown, hta⟩ (c_X10_takeForDelivery l hR hW ho) (cwV 1 hta (gWV mw731 mw732 mw36 mw40 mw733) rfl rfl rfl (by decide +kernel) ⟨Nat.le_of_ble_eq_true rfl, Nat.le_of_ble_eq_true rfl⟩) hK hP hD hS hA rfl e13 rfl hl.1 rfl (Nat.le_of_ble_eq_true rfl) dX10_deliver_64 ⟨Nat.zero_le _, Nat.zero_le _⟩ (fun u H locs hw hR hP hD hS => ?_)
        obtain ⟨S9, ad9, L9, f⟩ := u
        obtain ⟨rfl, rfl, rfl⟩ := hw
        dsimp only at hR hP hD
        refine lv_aload_n hx hb dX10_deliver_67 rfl (lv_at hl 1 rfl) ?_
        refine lv_aload_n hx hb dX10_deliver_68 rfl (lv_at hl 0 rfl) ?_
        obtain ⟨q15, e16⟩ := cell_0 hR (rfl : (0 : Nat) = 0)
        refine gwr_v (mc := 0) (ms := 0) (ci := 12) (As := [.ref (ad 11 o)]) (rest := []) ⟨hx, hb, hml, hown, hta⟩ (c_X10_noteOrderOnLots l hR hW ho) (cwV 1 hta (gWV mw737 mw738 mw38 mw40 mw739) rfl rfl rfl (by decide +kernel) ⟨Nat.le_of_ble_eq_true rfl, Nat.le_of_ble_eq_true rfl⟩) hK hP hD hS hA rfl e16 rfl hl.1 rfl (Nat.le_of_ble_eq_true rfl) dX10_deliver_69 ⟨Nat.zero_le _, Nat.zero_le _⟩ (fun u H locs hw hR hP hD hS => ?_)
        obtain ⟨S9, ad9, L9, f⟩ := u
        obtain ⟨rfl, rfl, rfl⟩ := hw
        dsimp only at hR hP hD
        refine lv_aload_n hx hb dX10_deliver_72 rfl (lv_at hl 0 rfl) ?_
        refine lv_bipush (v := 100) hx hb dX10_deliver_73 (by decide) ?_
        refine put_state_11 (v := (100 : Int32)) hx hb hta iwX7 hown hK hP hD hS hR ho (hta _ mw546) (by decide) (by decide) dX10_deliver_75 (fun H locs f hP hD hS hR => ?_)
        refine lv_aload_n hx hb dX10_deliver_78 rfl (lv_at hl 0 rfl) ?_
        refine lv_aload_n hx hb dX10_deliver_79 rfl (lv_at hl 1 rfl) ?_
        refine get_now_0 hx hb hta iwX10 hown hK hP hR (rfl : (0 : Nat) = 0) (hta _ mw107) dX10_deliver_80 ?_
        refine lv_topi (fun x18 ex18 => ?_)
        obtain rfl := ex18.trans (show sI (uI ((noS ((tdS S o)) o)) 53 o 100) 2 0 = sI ((noS ((tdS S o)) o)) 2 0 from up2_nk (sI ((noS ((tdS S o)) o))) (k := 53) (i := o) (k' := 2) (i' := 0) 100 (by decide))
        refine put_deliveredAt_11 (v := (sI (noS ((tdS S o)) o) 2 0 : Int32)) hx hb hta iwX7 hown hK hP hD hS hR ho (hta _ mw547) dX10_deliver_83 (fun H locs f hP hD hS hR => ?_)
        refine lv_iconst (v := 1) hx hb dX10_deliver_86 (by decide) ?_
        exact W.zret (v := 1) (ty := .boolean) hx hb hr (by decide) (fun t ht hWm => gend_i (u := (uI (uI ((noS ((tdS S o)) o)) 53 o 100) 54 o (sI (noS ((tdS S o)) o) 2 0), ad, L, f)) ⟨by simp only [dlR, if_pos c11]; (try rfl), by simp only [dlS, if_pos c11]; (try rfl), rfl, rfl⟩ hR hP hK hD hS ht hWm) hS.2.2 dX10_deliver_87
      · skip
        refine lv_iconst (v := 0) hx hb dX10_deliver_60 (by decide) ?_
        exact W.zret (v := 0) (ty := .boolean) hx hb hr (by decide) (fun t ht hWm => gend_i (u := (S, ad, L, f)) ⟨by simp only [dlR, if_neg c11]; (try rfl), by simp only [dlS, if_neg c11]; (try rfl), rfl, rfl⟩ hR hP hK hD hS ht hWm) hS.2.2 dX10_deliver_61
    · skip
      refine lv_aload_n hx hb dX10_deliver_25 rfl (lv_at hl 0 rfl) ?_
      refine get_state_11 hx hb hta iwX7 hown hK hP hR ho (hta _ mw546) dX10_deliver_26 ?_
      refine lv_bipush (v := 102) hx hb dX10_deliver_29 (by decide) ?_
      refine lv_icmp_eq (tgt := 45) hx hb dX10_deliver_31 (by decide) (fun c19 => ?_) (fun c19 => ?_)
      · skip
        refine lv_aload_n hx hb dX10_deliver_45 rfl (lv_at hl 1 rfl) ?_
        refine lv_aload_n hx hb dX10_deliver_46 rfl (lv_at hl 0 rfl) ?_
        refine get_part_11 hx hb hta iwX7 hown hK hP hR ho (hta _ mw533) dX10_deliver_47 ?_
        obtain ⟨q20, e21⟩ := cell_0 hR (rfl : (0 : Nat) = 0)
        refine gro_i (ci := 12) (As := [.ref (ad 2 (sN S 7 o))]) (rest := []) ⟨hx, hb, hml, hown, hta⟩ (c_X10_freePiecesOf l hR hW (hW.ordPart ho)) (cwV 1 hta (gWV mw728 mw729 mw35 mw40 mw730) rfl rfl rfl (by decide +kernel) ⟨Nat.le_of_ble_eq_true rfl, Nat.le_of_ble_eq_true rfl⟩) hK hP hD rfl e21 rfl hl.1 rfl (Nat.le_of_ble_eq_true rfl) dX10_deliver_50 ⟨Nat.zero_le _, Nat.zero_le _⟩ (fun r22 c23 => ?_)
        obtain rfl := c23
        refine lv_aload_n hx hb dX10_deliver_53 rfl (lv_at hl 0 rfl) ?_
        refine get_quantity_11 hx hb hta iwX7 hown hK hP hR ho (hta _ mw535) dX10_deliver_54 ?_
        refine lv_icmp_ge (tgt := 62) hx hb dX10_deliver_57 (by decide) (fun c24 => ?_) (fun c24 => ?_)
        · skip
          refine lv_aload_n hx hb dX10_deliver_62 rfl (lv_at hl 1 rfl) ?_
          refine lv_aload_n hx hb dX10_deliver_63 rfl (lv_at hl 0 rfl) ?_
          obtain ⟨q25, e26⟩ := cell_0 hR (rfl : (0 : Nat) = 0)
          refine gwr_v (mc := 0) (ms := 0) (ci := 12) (As := [.ref (ad 11 o)]) (rest := []) ⟨hx, hb, hml, hown, hta⟩ (c_X10_takeForDelivery l hR hW ho) (cwV 1 hta (gWV mw731 mw732 mw36 mw40 mw733) rfl rfl rfl (by decide +kernel) ⟨Nat.le_of_ble_eq_true rfl, Nat.le_of_ble_eq_true rfl⟩) hK hP hD hS hA rfl e26 rfl hl.1 rfl (Nat.le_of_ble_eq_true rfl) dX10_deliver_64 ⟨Nat.zero_le _, Nat.zero_le _⟩ (fun u H locs hw hR hP hD hS => ?_)
          obtain ⟨S9, ad9, L9, f⟩ := u
          obtain ⟨rfl, rfl, rfl⟩ := hw
          dsimp only at hR hP hD
          refine lv_aload_n hx hb dX10_deliver_67 rfl (lv_at hl 1 rfl) ?_
          refine lv_aload_n hx hb dX10_deliver_68 rfl (lv_at hl 0 rfl) ?_
          obtain ⟨q28, e29⟩ := cell_0 hR (rfl : (0 : Nat) = 0)
          refine gwr_v (mc := 0) (ms := 0) (ci := 12) (As := [.ref (ad 11 o)]) (rest := []) ⟨hx, hb, hml, hown, hta⟩ (c_X10_noteOrderOnLots l hR hW ho) (cwV 1 hta (gWV mw737 mw738 mw38 mw40 mw739) rfl rfl rfl (by decide +kernel) ⟨Nat.le_of_ble_eq_true rfl, Nat.le_of_ble_eq_true rfl⟩) hK hP hD hS hA rfl e29 rfl hl.1 rfl (Nat.le_of_ble_eq_true rfl) dX10_deliver_69 ⟨Nat.zero_le _, Nat.zero_le _⟩ (fun u H locs hw hR hP hD hS => ?_)
          obtain ⟨S9, ad9, L9, f⟩ := u
          obtain ⟨rfl, rfl, rfl⟩ := hw
          dsimp only at hR hP hD
          refine lv_aload_n hx hb dX10_deliver_72 rfl (lv_at hl 0 rfl) ?_
          refine lv_bipush (v := 100) hx hb dX10_deliver_73 (by decide) ?_
          refine put_state_11 (v := (100 : Int32)) hx hb hta iwX7 hown hK hP hD hS hR ho (hta _ mw546) (by decide) (by decide) dX10_deliver_75 (fun H locs f hP hD hS hR => ?_)
          refine lv_aload_n hx hb dX10_deliver_78 rfl (lv_at hl 0 rfl) ?_
          refine lv_aload_n hx hb dX10_deliver_79 rfl (lv_at hl 1 rfl) ?_
          refine get_now_0 hx hb hta iwX10 hown hK hP hR (rfl : (0 : Nat) = 0) (hta _ mw107) dX10_deliver_80 ?_
          refine lv_topi (fun x31 ex31 => ?_)
          obtain rfl := ex31.trans (show sI (uI ((noS ((tdS S o)) o)) 53 o 100) 2 0 = sI ((noS ((tdS S o)) o)) 2 0 from up2_nk (sI ((noS ((tdS S o)) o))) (k := 53) (i := o) (k' := 2) (i' := 0) 100 (by decide))
          refine put_deliveredAt_11 (v := (sI (noS ((tdS S o)) o) 2 0 : Int32)) hx hb hta iwX7 hown hK hP hD hS hR ho (hta _ mw547) dX10_deliver_83 (fun H locs f hP hD hS hR => ?_)
          refine lv_iconst (v := 1) hx hb dX10_deliver_86 (by decide) ?_
          exact W.zret (v := 1) (ty := .boolean) hx hb hr (by decide) (fun t ht hWm => gend_i (u := (uI (uI ((noS ((tdS S o)) o)) 53 o 100) 54 o (sI (noS ((tdS S o)) o) 2 0), ad, L, f)) ⟨by simp only [dlR, if_pos c24]; (try rfl), by simp only [dlS, if_pos c24]; (try rfl), rfl, rfl⟩ hR hP hK hD hS ht hWm) hS.2.2 dX10_deliver_87
        · skip
          refine lv_iconst (v := 0) hx hb dX10_deliver_60 (by decide) ?_
          exact W.zret (v := 0) (ty := .boolean) hx hb hr (by decide) (fun t ht hWm => gend_i (u := (S, ad, L, f)) ⟨by simp only [dlR, if_neg c24]; (try rfl), by simp only [dlS, if_neg c24]; (try rfl), rfl, rfl⟩ hR hP hK hD hS ht hWm) hS.2.2 dX10_deliver_61
      · exact absurd (hf c6) c19

