/-! machines and jobs (made by wip/gen/spec_c.py) -/
theorem WT.setR {S : St} (h : WT S) {k i : Nat} {v : Option Nat} (hv : ∀ a, v = some a → (k = 1 → a < sN S 3 0) ∧ (k = 2 → a < sN S 0 0) ∧ (k = 3 → a < sN S 0 0) ∧ (k = 4 → a < sN S 2 0)) : WT (uR S k i v) := by
  have key : ∀ k' i' a, sR (uR S k i v) k' i' = some a → (k' = k ∧ v = some a) ∨ sR S k' i' = some a := by
    intro k' i' a ha
    by_cases q : k' = k ∧ i' = i
    · obtain ⟨rfl, rfl⟩ := q
      rw [show sR (uR S k' i' v) k' i' = v from up2_self _ _ _ _] at ha
      exact Or.inl ⟨rfl, ha⟩
    · rw [show sR (uR S k i v) k' i' = sR S k' i' from up2_ne _ _ q] at ha
      exact Or.inr ha
  refine ⟨h.1, h.2.1, h.2.2.1, h.2.2.2.1, ?_, ?_, ?_, ?_, h.2.2.2.2.2.2.2.2⟩
  · intro q a hq ha
    rcases key _ _ _ ha with ⟨e1, e2⟩ | e
    · exact (hv a e2).2.1 e1.symm
    · exact h.alt hq e
  · intro q a hq ha
    rcases key _ _ _ ha with ⟨e1, e2⟩ | e
    · exact (hv a e2).1 e1.symm
    · exact h.doing hq e
  · intro q a hq ha
    rcases key _ _ _ ha with ⟨e1, e2⟩ | e
    · exact (hv a e2).2.2.1 e1.symm
    · exact h.waits hq e
  · intro q a hq ha
    rcases key _ _ _ ha with ⟨e1, e2⟩ | e
    · exact (hv a e2).2.2.2 e1.symm
    · exact h.jlot hq e
theorem WT.setRn {S : St} (h : WT S) {k i : Nat} : WT (uR S k i none) := h.setR (fun a q => by cases q)
def cw1 (S : St) (i j : Nat) (a : Int32) : Int32 := if j < sN S 3 0 then (if sR S 3 j = some i then a + 1 else a) else a
def cwL (S : St) (i j : Nat) : Int32 := it (cw1 S i) j 0
theorem cwL_s (S : St) (i j : Nat) : cwL S i (j + 1) = cw1 S i j (cwL S i j) := rfl
/-- how many jobs wait for a machine; with the one that is done there -/
def cwN (S : St) (i : Nat) : Int32 := cwL S i 30
def ldN (S : St) (i : Nat) : Int32 := cwN S i + (if sR S 1 i = none then 0 else 1)
set_option maxHeartbeats 4000000 in
set_option maxRecDepth 100000 in
theorem c_X10_countWaiting (l : Launch) {D : va_G} {tA : Nat → ClassId} {S : St} {ad : Nat → Nat → Nat} {L : List Nat} {f : Nat → va_E} (hR : Rep tA S ad L f) (hW : WT S) {i : Nat} (hi : i < sN S 0 0) : Met l yX10_countWaiting wsX10_countWaiting ({ frames := 0, cells := 0, slots := 0, locals := 0 }) (va_Pc [.ref (ad 0 0), .ref (ad 1 i)] (gB D tA L f)) (vp_Si (fun r => r = cwN S i)) 0 0 (fun _ => False) := by
  refine Met.ofW (cc := cX10_countWaiting) (maxL := 7) (ret := (some .int)) (by decide) rfl ?_
  intro p e s m args below meth c s₁ B hml hv
  obtain ⟨rfl, hP, hK, hD⟩ := hv
  have hx := B.exec
  have hb := B.bytes
  have hr := B.returns
  have hts := atoms_spec (ws := wsX10_countWaiting) B.pre
  have hown : s.vm.findClass RX10 = some m.cls := findClass_of_methodNamed B.named
  have hlocks := B.notSynchronized
  have iX2 : ∀ w ∈ u_ws RX2 TX2 7, w ∈ wsX10_countWaiting := by decide +kernel
  have iX7 : ∀ w ∈ u_ws RX7 TX7 12, w ∈ wsX10_countWaiting := by decide +kernel
  have iX10 : ∀ w ∈ u_ws RX10 TX10 14, w ∈ wsX10_countWaiting := by decide +kernel
  have hP : va_P D vwCl (va_pl L f) s.heap := hP
  have hl := lv_entry ([.ref (ad 0 0), .ref (ad 1 i)]) (n := 7) (Nat.le_of_ble_eq_true rfl)
  rw [lg_entry_eq]
  generalize (lg_sl ([.ref (ad 0 0), .ref (ad 1 i)]) ++ List.replicate (7 - (lg_sl ([.ref (ad 0 0), .ref (ad 1 i)])).length) Slot.unset).toArray = ls at hl ⊢
  have hl : lv_has ls 7 [(0, .ref (ad 0 0)), (1, .ref (ad 1 i))] := hl
  refine lv_iconst (v := 0) hx hb dX10_countWaiting_0 (by decide) ?_
  refine lv_istore_n (lv' := [(2, .int 0), (0, .ref (ad 0 0)), (1, .ref (ad 1 i))]) hx hb dX10_countWaiting_1 rfl hl (by decide) rfl (fun ls hl => ?_)
  refine lv_aload_n hx hb dX10_countWaiting_2 rfl (lv_at hl 1 rfl) ?_
  refine get_orders_0 hx hb hts iX10 hown hK hP hR (rfl : (0 : Nat) = 0) (hts (.fieldLink RX10 35 "Foundrymark" "orders" "[LFoundrymark$Order;") (by decide +kernel)) dX10_countWaiting_3 ?_
  refine lv_astore_n (lv' := [(3, .ref (ad 19 0)), (2, .int 0), (0, .ref (ad 0 0)), (1, .ref (ad 1 i))]) hx hb dX10_countWaiting_6 rfl hl (by decide) rfl (fun ls hl => ?_)
  refine lv_aload_n hx hb dX10_countWaiting_7 rfl (lv_at hl 0 rfl) ?_
  refine len_orders hx hb hK hP hR (rfl : (0 : Nat) = 0) dX10_countWaiting_8 ?_
  refine lv_istore (lv' := [(4, .int 30), (3, .ref (ad 19 0)), (2, .int 0), (0, .ref (ad 0 0)), (1, .ref (ad 1 i))]) hx hb dX10_countWaiting_9 hl (by decide) rfl (fun ls hl => ?_)
  refine lv_iconst (v := 0) hx hb dX10_countWaiting_11 (by decide) ?_
  refine lv_istore (lv' := [(5, .int 0), (4, .int 30), (3, .ref (ad 19 0)), (2, .int 0), (0, .ref (ad 0 0)), (1, .ref (ad 1 i))]) hx hb dX10_countWaiting_12 hl (by decide) rfl (fun ls hl => ?_)
  refine loop_g (σ := Array Slot) (Wg := fun ls => W p l e _ s m _ below meth c _ _ _ _ _ (F0 m 14 ls [])) 30 (fun j1 ls => lv_has ls 7 [(0, .ref (ad 0 0)), (1, .ref (ad 1 i)), (2, .int (cwL S i j1)), (3, .ref (ad 19 0)), (4, .int 30), (5, .int (nI j1))]) (fun j1 hj2 ih3 ls hl => ?_) (fun ls hl => ?_) ls (lv_sub hl [4, 5, 3, 2, 1, 0] rfl)
  · skip
    refine lv_iload hx hb dX10_countWaiting_14 (lv_at hl 5 rfl) ?_
    refine lv_iload hx hb dX10_countWaiting_16 (lv_at hl 4 rfl) ?_
    refine lv_icmp_ge (tgt := 53) hx hb dX10_countWaiting_18 (by decide) (fun c4 => ?_) (fun c4 => ?_)
    · exact absurd c4 (nI_ge (a := j1) (b := 30) hj2 (by decide))
    · skip
      refine lv_aload_n hx hb dX10_countWaiting_21 rfl (lv_at hl 3 rfl) ?_
      refine lv_iload hx hb dX10_countWaiting_22 (lv_at hl 5 rfl) ?_
      refine ldn_orders hx hb hK hP hR (rfl : (0 : Nat) = 0) hj2 dX10_countWaiting_24 (fun h5 => ?_) (fun h5 => ?_)
      · skip
        refine lv_astore (lv' := [(6, .ref (ad 11 j1)), (0, .ref (ad 0 0)), (1, .ref (ad 1 i)), (2, .int (cwL S i j1)), (3, .ref (ad 19 0)), (4, .int 30), (5, .int (nI j1))]) hx hb dX10_countWaiting_25 hl (by decide) rfl (fun ls hl => ?_)
        refine lv_aload hx hb dX10_countWaiting_27 (lv_at hl 0 rfl) ?_
        refine lv_ifnull hx hb dX10_countWaiting_29 ?_
        refine lv_aload hx hb dX10_countWaiting_32 (lv_at hl 0 rfl) ?_
        refine get_job_11 hx hb hts iX7 hown hK hP hR h5 (hts (.fieldLink RX10 280 "Foundrymark$Order" "job" "LFoundrymark$Job;") (by decide +kernel)) dX10_countWaiting_34 ?_
        refine get_waitsAt_12 hx hb hts iX2 hown hK hP hR h5 (hts (.fieldLink RX10 453 "Foundrymark$Job" "waitsAt" "LFoundrymark$Machine;") (by decide +kernel)) dX10_countWaiting_37 ?_
        refine lv_aload_n hx hb dX10_countWaiting_40 rfl (lv_at hl 2 rfl) ?_
        refine lv_acmp_ne (rx := Option.map (ad 1) (sR S 3 j1)) (ry := some (ad 1 i)) (tgt := 47) hx hb dX10_countWaiting_41 (by decide) (fun c6 => ?_) (fun c6 => ?_)
        · skip
          have c6 := Rep.noeq c6
          refine lv_iinc (v := nI (j1 + 1)) (lv' := [(5, .int (nI (j1 + 1))), (6, .ref (ad 11 j1)), (0, .ref (ad 0 0)), (1, .ref (ad 1 i)), (2, .int (cwL S i j1)), (3, .ref (ad 19 0)), (4, .int 30)]) hx hb dX10_countWaiting_47 hl (k := 6) rfl (nI_1 _) (by decide) rfl (fun ls hl => ?_)
          refine lv_goto (tgt := 14) hx hb dX10_countWaiting_50 (by decide) ?_
          refine ih3 _ ?_
          have a8 : cwL S i (j1 + 1) = cwL S i j1 := (by rw [cwL_s]; simp only [cw1, if_neg c4, if_pos h5, if_neg c6]; try rfl)
          rw [a8]
          exact lv_sub hl [2, 3, 4, 5, 6, 0] rfl
        · skip
          have c6 := hR.oeq (k := 1) (j := i) (fun _ z9 => hW.waits h5 z9) (hi) c6
          refine lv_iinc (v := (cwL S i j1) + 1) (lv' := [(2, .int ((cwL S i j1) + 1)), (6, .ref (ad 11 j1)), (0, .ref (ad 0 0)), (1, .ref (ad 1 i)), (3, .ref (ad 19 0)), (4, .int 30), (5, .int (nI j1))]) hx hb dX10_countWaiting_44 hl (k := 3) rfl (rfl) (by decide) rfl (fun ls hl => ?_)
          refine lv_iinc (v := nI (j1 + 1)) (lv' := [(5, .int (nI (j1 + 1))), (2, .int ((cwL S i j1) + 1)), (6, .ref (ad 11 j1)), (0, .ref (ad 0 0)), (1, .ref (ad 1 i)), (3, .ref (ad 19 0)), (4, .int 30)]) hx hb dX10_countWaiting_47 hl (k := 6) rfl (nI_1 _) (by decide) rfl (fun ls hl => ?_)
          refine lv_goto (tgt := 14) hx hb dX10_countWaiting_50 (by decide) ?_
          refine ih3 _ ?_
          have a8 : cwL S i (j1 + 1) = (cwL S i j1) + 1 := (by rw [cwL_s]; simp only [cw1, if_neg c4, if_pos h5, if_pos c6]; try rfl)
          rw [a8]
          exact lv_sub hl [3, 4, 1, 5, 6, 0] rfl
      · skip
        refine lv_astoreN (lv' := [(6, .null), (0, .ref (ad 0 0)), (1, .ref (ad 1 i)), (2, .int (cwL S i j1)), (3, .ref (ad 19 0)), (4, .int 30), (5, .int (nI j1))]) hx hb dX10_countWaiting_25 hl (by decide) rfl (fun ls hl => ?_)
        refine lv_aloadN hx hb dX10_countWaiting_27 (lv_at hl 0 rfl) ?_
        refine lv_ifnullN (tgt := 47) hx hb dX10_countWaiting_29 (by decide) ?_
        refine lv_iinc (v := nI (j1 + 1)) (lv' := [(5, .int (nI (j1 + 1))), (6, .null), (0, .ref (ad 0 0)), (1, .ref (ad 1 i)), (2, .int (cwL S i j1)), (3, .ref (ad 19 0)), (4, .int 30)]) hx hb dX10_countWaiting_47 hl (k := 6) rfl (nI_1 _) (by decide) rfl (fun ls hl => ?_)
        refine lv_goto (tgt := 14) hx hb dX10_countWaiting_50 (by decide) ?_
        refine ih3 _ ?_
        have a8 : cwL S i (j1 + 1) = cwL S i j1 := (by rw [cwL_s]; simp only [cw1, if_neg c4, if_neg h5]; try rfl)
        rw [a8]
        exact lv_sub hl [2, 3, 4, 5, 6, 0] rfl
  · skip
    refine lv_iload hx hb dX10_countWaiting_14 (lv_at hl 5 rfl) ?_
    refine lv_iload hx hb dX10_countWaiting_16 (lv_at hl 4 rfl) ?_
    refine lv_icmp_ge (tgt := 53) hx hb dX10_countWaiting_18 (by decide) (fun c7 => ?_) (fun c7 => ?_)
    · skip
      refine lv_iload_n hx hb dX10_countWaiting_53 rfl (lv_at hl 2 rfl) ?_
      exact W.iret (v := (cwL S i 30)) hx hb hr (fun t ht hWm => ⟨_, rfl, rfl, ht⟩) (fun q h => absurd h List.not_mem_nil) dX10_countWaiting_54
    · exact absurd (nI_le (a := 30) (b := 30) (Nat.le_refl _) (by decide)) c7

set_option maxHeartbeats 4000000 in
set_option maxRecDepth 100000 in
theorem c_X10_load (l : Launch) {D : va_G} {tA : Nat → ClassId} {S : St} {ad : Nat → Nat → Nat} {L : List Nat} {f : Nat → va_E} (hR : Rep tA S ad L f) (hW : WT S) {i : Nat} (hi : i < sN S 0 0) : Met l yX10_load wsX10_load ({ frames := 1, cells := 0, slots := 0, locals := 26 }) (va_Pc [.ref (ad 0 0), .ref (ad 1 i)] (gB D tA L f)) (vp_Si (fun r => r = ldN S i)) 0 0 (fun _ => False) := by
  refine Met.ofW (cc := cX10_load) (maxL := 2) (ret := (some .int)) (by decide) rfl ?_
  intro p e s m args below meth c s₁ B hml hv
  obtain ⟨rfl, hP, hK, hD⟩ := hv
  have hx := B.exec
  have hb := B.bytes
  have hr := B.returns
  have hts := atoms_spec (ws := wsX10_load) B.pre
  have hown : s.vm.findClass RX10 = some m.cls := findClass_of_methodNamed B.named
  have hlocks := B.notSynchronized
  have iX4 : ∀ w ∈ u_ws RX4 TX4 11, w ∈ wsX10_load := by decide +kernel
  have hP : va_P D vwCl (va_pl L f) s.heap := hP
  have hl := lv_entry ([.ref (ad 0 0), .ref (ad 1 i)]) (n := 2) (Nat.le_of_ble_eq_true rfl)
  rw [lg_entry_eq]
  generalize (lg_sl ([.ref (ad 0 0), .ref (ad 1 i)]) ++ List.replicate (2 - (lg_sl ([.ref (ad 0 0), .ref (ad 1 i)])).length) Slot.unset).toArray = ls at hl ⊢
  have hl : lv_has ls 2 [(0, .ref (ad 0 0)), (1, .ref (ad 1 i))] := hl
  refine lv_aload_n hx hb dX10_load_0 rfl (lv_at hl 0 rfl) ?_
  refine lv_aload_n hx hb dX10_load_1 rfl (lv_at hl 1 rfl) ?_
  obtain ⟨q1, e2⟩ := cell_0 hR (rfl : (0 : Nat) = 0)
  refine gro_i (ci := 15) (As := [.ref (ad 1 i)]) (rest := []) ⟨hx, hb, hml, hown, hts⟩ (c_X10_countWaiting l hR hW hi) (cwV 1 hts gX10_load_X10_countWaiting rfl rfl rfl (by decide +kernel) ⟨Nat.le_of_ble_eq_true rfl, Nat.le_of_ble_eq_true rfl⟩) hK hP hD rfl e2 rfl hl.1 rfl (Nat.le_of_ble_eq_true rfl) dX10_load_2 ⟨Nat.zero_le _, Nat.zero_le _⟩ (fun r3 c4 => ?_)
  obtain rfl := c4
  refine lv_aload_n hx hb dX10_load_5 rfl (lv_at hl 1 rfl) ?_
  refine get_doing_1 hx hb hts iX4 hown hK hP hR hi (hts (.fieldLink RX10 466 "Foundrymark$Machine" "doing" "LFoundrymark$Order;") (by decide +kernel)) dX10_load_6 ?_
  rcases h5 : sR S 1 i with _ | o6
  · rw [rf_none]
    refine lv_ifnullN (tgt := 16) hx hb dX10_load_9 (by decide) ?_
    refine lv_iconst (v := 0) hx hb dX10_load_16 (by decide) ?_
    refine lv_iadd hx hb dX10_load_17 ?_
    exact W.iret (v := ((cwN S i) + 0)) hx hb hr (fun t ht hWm => ⟨_, rfl, (by rw [ldN, if_pos h5]; (try rfl)), ht⟩) (fun q h => absurd h List.not_mem_nil) dX10_load_18
  · rw [rf_some]
    have v7 := hW.doing hi h5
    refine lv_ifnull hx hb dX10_load_9 ?_
    refine lv_iconst (v := 1) hx hb dX10_load_12 (by decide) ?_
    refine lv_goto (tgt := 17) hx hb dX10_load_13 (by decide) ?_
    refine lv_iadd hx hb dX10_load_17 ?_
    exact W.iret (v := ((cwN S i) + 1)) hx hb hr (fun t ht hWm => ⟨_, rfl, (by rw [ldN, if_neg (by rw [h5]; exact fun q => by cases q)]; (try rfl)), ht⟩) (fun q h => absurd h List.not_mem_nil) dX10_load_18

/-- the machine that a job goes to for an operation -/
def chM (S : St) (q : Nat) : Nat := match sR S 2 q with
  | none => sN S 9 q
  | some a => if ldN S (sN S 9 q) ≤ ldN S a then sN S 9 q else a
theorem chM_lt {S : St} (h : WT S) {q : Nat} (hq : V S 5 q) : chM S q < sN S 0 0 := by
  unfold chM
  cases e : sR S 2 q with
  | none => exact h.opMach hq
  | some a =>
    show (if _ then _ else _) < _
    split
    · exact h.opMach hq
    · exact h.alt hq e
set_option maxHeartbeats 4000000 in
set_option maxRecDepth 100000 in
theorem c_X10_chooseMachine (l : Launch) {D : va_G} {tA : Nat → ClassId} {S : St} {ad : Nat → Nat → Nat} {L : List Nat} {f : Nat → va_E} (hR : Rep tA S ad L f) (hW : WT S) {q : Nat} (hq : V S 5 q) : Met l yX10_chooseMachine wsX10_chooseMachine ({ frames := 2, cells := 0, slots := 0, locals := 47 }) (va_Pc [.ref (ad 0 0), .ref (ad 5 q)] (gB D tA L f)) (va_Sq (fun r => r = Option.map (ad 1) (some (chM S q)))) 0 0 (fun _ => False) := by
  refine Met.ofW (cc := cX10_chooseMachine) (maxL := 4) (ret := (some (.object "Foundrymark$Machine"))) (by decide) rfl ?_
  intro p e s m args below meth c s₁ B hml hv
  obtain ⟨rfl, hP, hK, hD⟩ := hv
  have hx := B.exec
  have hb := B.bytes
  have hr := B.returns
  have hts := atoms_spec (ws := wsX10_chooseMachine) B.pre
  have hown : s.vm.findClass RX10 = some m.cls := findClass_of_methodNamed B.named
  have hlocks := B.notSynchronized
  have iX6 : ∀ w ∈ u_ws RX6 TX6 3, w ∈ wsX10_chooseMachine := by decide +kernel
  have hP : va_P D vwCl (va_pl L f) s.heap := hP
  have hl := lv_entry ([.ref (ad 0 0), .ref (ad 5 q)]) (n := 4) (Nat.le_of_ble_eq_true rfl)
  rw [lg_entry_eq]
  generalize (lg_sl ([.ref (ad 0 0), .ref (ad 5 q)]) ++ List.replicate (4 - (lg_sl ([.ref (ad 0 0), .ref (ad 5 q)])).length) Slot.unset).toArray = ls at hl ⊢
  have hl : lv_has ls 4 [(0, .ref (ad 0 0)), (1, .ref (ad 5 q))] := hl
  refine lv_aload_n hx hb dX10_chooseMachine_0 rfl (lv_at hl 1 rfl) ?_
  refine get_machine_5 hx hb hts iX6 hown hK hP hR hq (hts (.fieldLink RX10 457 "Foundrymark$Operation" "machine" "LFoundrymark$Machine;") (by decide +kernel)) dX10_chooseMachine_1 ?_
  refine lv_astore_n (lv' := [(2, .ref (ad 1 (sN S 9 q))), (0, .ref (ad 0 0)), (1, .ref (ad 5 q))]) hx hb dX10_chooseMachine_4 rfl hl (by decide) rfl (fun ls hl => ?_)
  refine lv_aload_n hx hb dX10_chooseMachine_5 rfl (lv_at hl 2 rfl) ?_
  refine get_alternative_5 hx hb hts iX6 hown hK hP hR hq (hts (.fieldLink RX10 460 "Foundrymark$Operation" "alternative" "LFoundrymark$Machine;") (by decide +kernel)) dX10_chooseMachine_6 ?_
  rcases h1 : sR S 2 q with _ | o2
  · rw [rf_none]
    refine lv_astore_nN (lv' := [(3, .null), (2, .ref (ad 1 (sN S 9 q))), (0, .ref (ad 0 0)), (1, .ref (ad 5 q))]) hx hb dX10_chooseMachine_9 rfl hl (by decide) rfl (fun ls hl => ?_)
    refine lv_aload_nN hx hb dX10_chooseMachine_10 rfl (lv_at hl 0 rfl) ?_
    refine lv_ifnullN (tgt := 31) hx hb dX10_chooseMachine_11 (by decide) ?_
    refine lv_aload_n hx hb dX10_chooseMachine_31 rfl (lv_at hl 1 rfl) ?_
    exact W.aret (rt := (.object "Foundrymark$Machine")) hx hb hr (Or.inl ⟨_, rfl⟩) (Or.inr ⟨_, rfl⟩) (fun t ht hWm => ⟨some (ad 1 (sN S 9 q)), rfl, (by simp only [chM, h1]; (try rfl)), ht⟩) (fun q h => absurd h List.not_mem_nil) dX10_chooseMachine_32
  · rw [rf_some]
    have v3 := hW.alt hq h1
    refine lv_astore_n (lv' := [(3, .ref (ad 1 o2)), (2, .ref (ad 1 (sN S 9 q))), (0, .ref (ad 0 0)), (1, .ref (ad 5 q))]) hx hb dX10_chooseMachine_9 rfl hl (by decide) rfl (fun ls hl => ?_)
    refine lv_aload_n hx hb dX10_chooseMachine_10 rfl (lv_at hl 0 rfl) ?_
    refine lv_ifnull hx hb dX10_chooseMachine_11 ?_
    refine lv_aload_n hx hb dX10_chooseMachine_14 rfl (lv_at hl 2 rfl) ?_
    refine lv_aload_n hx hb dX10_chooseMachine_15 rfl (lv_at hl 0 rfl) ?_
    obtain ⟨q4, e5⟩ := cell_0 hR (rfl : (0 : Nat) = 0)
    refine gro_i (ci := 15) (As := [.ref (ad 1 o2)]) (rest := []) ⟨hx, hb, hml, hown, hts⟩ (c_X10_load l hR hW v3) (cwV 1 hts gX10_chooseMachine_X10_load rfl rfl rfl (by decide +kernel) ⟨Nat.le_of_ble_eq_true rfl, Nat.le_of_ble_eq_true rfl⟩) hK hP hD rfl e5 rfl hl.1 rfl (Nat.le_of_ble_eq_true rfl) dX10_chooseMachine_16 ⟨Nat.zero_le _, Nat.zero_le _⟩ (fun r6 c7 => ?_)
    obtain rfl := c7
    refine lv_aload_n hx hb dX10_chooseMachine_19 rfl (lv_at hl 2 rfl) ?_
    refine lv_aload_n hx hb dX10_chooseMachine_20 rfl (lv_at hl 1 rfl) ?_
    obtain ⟨q8, e9⟩ := cell_0 hR (rfl : (0 : Nat) = 0)
    refine gro_i (ci := 15) (As := [.ref (ad 1 (sN S 9 q))]) (rest := [.int (ldN S o2)]) ⟨hx, hb, hml, hown, hts⟩ (c_X10_load l hR hW (hW.opMach hq)) (cwV 1 hts gX10_chooseMachine_X10_load rfl rfl rfl (by decide +kernel) ⟨Nat.le_of_ble_eq_true rfl, Nat.le_of_ble_eq_true rfl⟩) hK hP hD rfl e9 rfl hl.1 rfl (Nat.le_of_ble_eq_true rfl) dX10_chooseMachine_21 ⟨Nat.zero_le _, Nat.zero_le _⟩ (fun r10 c11 => ?_)
    obtain rfl := c11
    refine lv_icmp_ge (tgt := 31) hx hb dX10_chooseMachine_24 (by decide) (fun c12 => ?_) (fun c12 => ?_)
    · skip
      refine lv_aload_n hx hb dX10_chooseMachine_31 rfl (lv_at hl 1 rfl) ?_
      exact W.aret (rt := (.object "Foundrymark$Machine")) hx hb hr (Or.inl ⟨_, rfl⟩) (Or.inr ⟨_, rfl⟩) (fun t ht hWm => ⟨some (ad 1 (sN S 9 q)), rfl, (by simp only [chM, h1, if_pos c12]; (try rfl)), ht⟩) (fun q h => absurd h List.not_mem_nil) dX10_chooseMachine_32
    · skip
      refine lv_aload_n hx hb dX10_chooseMachine_27 rfl (lv_at hl 0 rfl) ?_
      refine lv_goto (tgt := 32) hx hb dX10_chooseMachine_28 (by decide) ?_
      exact W.aret (rt := (.object "Foundrymark$Machine")) hx hb hr (Or.inl ⟨_, rfl⟩) (Or.inr ⟨_, rfl⟩) (fun t ht hWm => ⟨some (ad 1 o2), rfl, (by simp only [chM, h1, if_neg c12]; (try rfl)), ht⟩) (fun q h => absurd h List.not_mem_nil) dX10_chooseMachine_32

/-- the operation of a part at a number -/
def opAt (S : St) (p : Nat) (n : Int32) : Option Nat := if n < 0 then none else if 3 ≤ n then none else if n.toNatClampNeg < sN S 5 p then some (4 * p + n.toNatClampNeg) else none
theorem opAt_V {S : St} (h : WT S) {p q : Nat} {n : Int32} (hp : p < sN S 1 0) (e : opAt S p n = some q) : V S 5 q := by
  unfold opAt at e
  split at e
  · cases e
  · split at e
    · cases e
    · split at e
      · next hj => cases e; exact vop h hp hj
      · cases e
set_option maxHeartbeats 4000000 in
set_option maxRecDepth 100000 in
theorem c_X8_operationAt (l : Launch) {D : va_G} {tA : Nat → ClassId} {S : St} {ad : Nat → Nat → Nat} {L : List Nat} {f : Nat → va_E} (hR : Rep tA S ad L f) (hW : WT S) {p9 : Nat} (hp : p9 < sN S 1 0) (n : Int32) : Met l yX8_operationAt wsX8_operationAt ({ frames := 0, cells := 0, slots := 0, locals := 0 }) (va_Pc [.ref (ad 2 p9), .int n] (gB D tA L f)) (va_Sq (fun r => r = Option.map (ad 5) (opAt S p9 n))) 0 0 (fun _ => False) := by
  refine Met.ofW (cc := cX8_operationAt) (maxL := 2) (ret := (some (.object "Foundrymark$Operation"))) (by decide) rfl ?_
  intro p e s m args below meth c s₁ B hml hv
  obtain ⟨rfl, hP, hK, hD⟩ := hv
  have hx := B.exec
  have hb := B.bytes
  have hr := B.returns
  have hts := atoms_spec (ws := wsX8_operationAt) B.pre
  have hown : s.vm.findClass RX8 = some m.cls := findClass_of_methodNamed B.named
  have hlocks := B.notSynchronized
  have iX8 : ∀ w ∈ u_ws RX8 TX8 8, w ∈ wsX8_operationAt := by decide +kernel
  have hP : va_P D vwCl (va_pl L f) s.heap := hP
  have hl := lv_entry ([.ref (ad 2 p9), .int n]) (n := 2) (Nat.le_of_ble_eq_true rfl)
  rw [lg_entry_eq]
  generalize (lg_sl ([.ref (ad 2 p9), .int n]) ++ List.replicate (2 - (lg_sl ([.ref (ad 2 p9), .int n])).length) Slot.unset).toArray = ls at hl ⊢
  have hl : lv_has ls 2 [(0, .ref (ad 2 p9)), (1, .int n)] := hl
  refine lv_iload_n hx hb dX8_operationAt_0 rfl (lv_at hl 1 rfl) ?_
  refine lv_if_lt (tgt := 22) hx hb dX8_operationAt_1 (by decide) (fun c1 => ?_) (fun c1 => ?_)
  · skip
    refine lv_null hx hb dX8_operationAt_22 ?_
    exact W.aret (rt := (.object "Foundrymark$Operation")) hx hb hr (Or.inl ⟨_, rfl⟩) (Or.inl rfl) (fun t ht hWm => ⟨none, rfl, (by simp only [opAt, if_pos c1]; (try rfl)), ht⟩) (fun q h => absurd h List.not_mem_nil) dX8_operationAt_23
  · skip
    refine lv_iload_n hx hb dX8_operationAt_4 rfl (lv_at hl 1 rfl) ?_
    refine lv_aload_n hx hb dX8_operationAt_5 rfl (lv_at hl 0 rfl) ?_
    refine get_operations_2 hx hb hts iX8 hown hK hP hR hp (hts (.fieldLink RX8 19 "Foundrymark$Part" "operations" "[LFoundrymark$Operation;") (by decide +kernel)) dX8_operationAt_6 ?_
    refine len_operations hx hb hK hP hR hp dX8_operationAt_9 ?_
    refine lv_icmp_ge (tgt := 22) hx hb dX8_operationAt_10 (by decide) (fun c2 => ?_) (fun c2 => ?_)
    · skip
      refine lv_null hx hb dX8_operationAt_22 ?_
      exact W.aret (rt := (.object "Foundrymark$Operation")) hx hb hr (Or.inl ⟨_, rfl⟩) (Or.inl rfl) (fun t ht hWm => ⟨none, rfl, (by simp only [opAt, if_neg c1, if_pos c2]; (try rfl)), ht⟩) (fun q h => absurd h List.not_mem_nil) dX8_operationAt_23
    · skip
      obtain ⟨j9, hj9, rfl⟩ := idx_of (N := 3) (by decide) c1 c2
      have e9 : (nI j9).toNatClampNeg = j9 := nI_clamp (by omega)
      refine lv_aload_n hx hb dX8_operationAt_13 rfl (lv_at hl 0 rfl) ?_
      refine get_operations_2 hx hb hts iX8 hown hK hP hR hp (hts (.fieldLink RX8 19 "Foundrymark$Part" "operations" "[LFoundrymark$Operation;") (by decide +kernel)) dX8_operationAt_14 ?_
      refine lv_iload_n hx hb dX8_operationAt_17 rfl (lv_at hl 1 rfl) ?_
      refine ldn_operations hx hb hK hP hR hp hj9 dX8_operationAt_18 (fun h3 => ?_) (fun h3 => ?_)
      · skip
        refine lv_goto (tgt := 23) hx hb dX8_operationAt_19 (by decide) ?_
        exact W.aret (rt := (.object "Foundrymark$Operation")) hx hb hr (Or.inl ⟨_, rfl⟩) (Or.inr ⟨_, rfl⟩) (fun t ht hWm => ⟨some (ad 5 (4 * (p9) + j9)), rfl, (by simp only [opAt, e9, if_neg c1, if_neg c2, if_pos h3]; (try rfl)), ht⟩) (fun q h => absurd h List.not_mem_nil) dX8_operationAt_23
      · skip
        refine lv_goto (tgt := 23) hx hb dX8_operationAt_19 (by decide) ?_
        exact W.aret (rt := (.object "Foundrymark$Operation")) hx hb hr (Or.inl ⟨_, rfl⟩) (Or.inl rfl) (fun t ht hWm => ⟨none, rfl, (by simp only [opAt, e9, if_neg c1, if_neg c2, if_neg h3]; (try rfl)), ht⟩) (fun q h => absurd h List.not_mem_nil) dX8_operationAt_23

