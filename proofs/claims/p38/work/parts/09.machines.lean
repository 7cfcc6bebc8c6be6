/-! machines and jobs (made by wip/gen/spec_c.py) -/
theorem WT.setR {S : St} (h : WT S) {k i : Nat} {v : Option Nat} (hv : ∀ a, v = some a → (k = 1 → a < sN S 3 0) ∧ (k = 2 → a < sN S 0 0) ∧ (k = 3 → a < sN S 0 0) ∧ (k = 4 → a < sN S 2 0)) : WT (uR S k i v) := by
  have key : ∀ k' i' a, sR (uR S k i v) k' i' = some a → (k' = k ∧ v = some a) ∨ sR S k' i' = some a := by
    intro k' i' a ha
    by_cases q : k' = k ∧ i' = i
    · obtain ⟨rfl, rfl⟩ := q
      rw [show sR (uR S k' i' v) k' i' = v from up2_self _ _ _ _] at ha
      exact Or.inl ⟨rfl, ha⟩
    · rw [show sR (uR S k i v) k' i' = sR S k' i' from up2_ne _ _ q] at ha
      exact Or.inr ha
  refine ⟨h.1, h.2.1, h.2.2.1, h.2.2.2.1, ?_, ?_, ?_, ?_, h.2.2.2.2.2.2.2.2⟩
  · intro q a hq ha
    rcases key _ _ _ ha with ⟨e1, e2⟩ | e
    · exact (hv a e2).2.1 e1.symm
    · exact h.alt hq e
  · intro q a hq ha
    rcases key _ _ _ ha with ⟨e1, e2⟩ | e
    · exact (hv a e2).1 e1.symm
    · exact h.doing hq e
  · intro q a hq ha
    rcases key _ _ _ ha with ⟨e1, e2⟩ | e
    · exact (hv a e2).2.2.1 e1.symm
    · exact h.waits hq e
  · intro q a hq ha
    rcases key _ _ _ ha with ⟨e1, e2⟩ | e
    · exact (hv a e2).2.2.2 e1.symm
    · exact h.jlot hq e
theorem WT.setRn {S : St} (h : WT S) {k i : Nat} : WT (uR S k i none) := h.setR (fun a q => by cases q)
def cw1 (S : St) (i j : Nat) (a : Int32) : Int32 := if j < sN S 3 0 then (if sR S 3 j = some i then a + 1 else a) else a
def cwL (S : St) (i j : Nat) : Int32 := it (cw1 S i) j 0
theorem cwL_s (S : St) (i j : Nat) : cwL S i (j + 1) = cw1 S i j (cwL S i j) := rfl
/-- how many jobs wait for a machine; with the one that is done there -/
def cwN (S : St) (i : Nat) : Int32 := cwL S i 30
def ldN (S : St) (i : Nat) : Int32 := cwN S i + (if sR S 1 i = none then 0 else 1)
set_option maxHeartbeats 4000000 in
set_option maxRecDepth 100000 in
theorem c_X10_countWaiting (l : Launch) {D : va_G} {tA : Nat → ClassId} {S : St} {ad : Nat → Nat → Nat} {L : List Nat} {f : Nat → va_E} (hR : Rep tA S ad L f) (hW : WT S) {i : Nat} (hi : i < sN S 0 0) : Met l yX10_countWaiting (wsC yX10_countWaiting cX10_countWaiting 7 (some .int)) ({ frames := 0, cells := 0, slots := 0, locals := 0 }) (va_Pc [.ref (ad 0 0), .ref (ad 1 i)] (gB D tA L f)) (vp_Si (fun r => r = cwN S i)) 0 0 (fun _ => False) := by
  refine Met.ofW (cc := cX10_countWaiting) (maxL := 7) (ret := (some .int)) (by decide) rfl ?_
  intro p e s m args below meth c s₁ B hml hv
  obtain ⟨rfl, hP, hK, hD⟩ := hv
  have hx := B.exec
  have hb := B.bytes
  have hr := B.returns
  have hts := atoms_spec (ws := wsC yX10_countWaiting cX10_countWaiting 7 (some .int)) B.pre
  have hta : ∀ w ∈ WA, w.before _ s = true := fun w h => hts w (List.mem_cons_of_mem _ h)
  have hown : s.vm.findClass RX10 = some m.cls := findClass_of_methodNamed B.named
  have hlocks := B.notSynchronized
  have hP : va_P D vwCl (va_pl L f) s.heap := hP
  have hl := lv_entry ([.ref (ad 0 0), .ref (ad 1 i)]) (n := 7) (Nat.le_of_ble_eq_true rfl)
  rw [lg_entry_eq]
  generalize (lg_sl ([.ref (ad 0 0), .ref (ad 1 i)]) ++ List.replicate (7 - (lg_sl ([.ref (ad 0 0), .ref (ad 1 i)])).length) Slot.unset).toArray = ls at hl ⊢
  have hl : lv_has ls 7 [(0, .ref (ad 0 0)), (1, .ref (ad 1 i))] := hl
  refine lv_iconst (v := 0) hx hb dX10_countWaiting_0 (by decide) ?_
  refine lv_istore_n (lv' := [(2, .int 0), (0, .ref (ad 0 0)), (1, .ref (ad 1 i))]) hx hb dX10_countWaiting_1 rfl hl (by decide) rfl (fun ls hl => ?_)
  refine lv_aload_n hx hb dX10_countWaiting_2 rfl (lv_at hl 1 rfl) ?_
  refine get_orders_0 hx hb hta iwX10 hown hK hP hR (rfl : (0 : Nat) = 0) (hta _ mw100) dX10_countWaiting_3 ?_
  refine lv_astore_n (lv' := [(3, .ref (ad 19 0)), (2, .int 0), (0, .ref (ad 0 0)), (1, .ref (ad 1 i))]) hx hb dX10_countWaiting_6 rfl hl (by decide) rfl (fun ls hl => ?_)
  refine lv_aload_n hx hb dX10_countWaiting_7 rfl (lv_at hl 0 rfl) ?_
  refine len_orders hx hb hK hP hR (rfl : (0 : Nat) = 0) dX10_countWaiting_8 ?_
  refine lv_istore (lv' := [(4, .int 30), (3, .ref (ad 19 0)), (2, .int 0), (0, .ref (ad 0 0)), (1, .ref (ad 1 i))]) hx hb dX10_countWaiting_9 hl (by decide) rfl (fun ls hl => ?_)
  refine lv_iconst (v := 0) hx hb dX10_countWaiting_11 (by decide) ?_
  refine lv_istore (lv' := [(5, .int 0), (4, .int 30), (3, .ref (ad 19 0)), (2, .int 0), (0, .ref (ad 0 0)), (1, .ref (ad 1 i))]) hx hb dX10_countWaiting_12 hl (by decide) rfl (fun ls hl => ?_)
  refine loop_g (σ := Array Slot) (Wg := fun ls => W p l e _ s m _ below meth c _ _ _ _ _ (F0 m 14 ls [])) 30 (fun j1 ls => lv_has ls 7 [(0, .ref (ad 0 0)), (1, .ref (ad 1 i)), (2, .int (cwL S i j1)), (3, .ref (ad 19 0)), (4, .int 30), (5, .int (nI j1))]) (fun j1 hj2 ih3 ls hl => ?_) (fun ls hl => ?_) ls (lv_sub hl [4, 5, 3, 2, 1, 0] rfl)
  · skip
    refine lv_iload hx hb dX10_countWaiting_14 (lv_at hl 5 rfl) ?_
    refine lv_iload hx hb dX10_countWaiting_16 (lv_at hl 4 rfl) ?_
    refine lv_icmp_ge (tgt := 53) hx hb dX10_countWaiting_18 (by decide) (fun c4 => ?_) (fun c4 => ?_)
    · exact absurd c4 (nI_ge (a := j1) (b := 30) hj2 (by decide))
    · skip
      refine lv_aload_n hx hb dX10_countWaiting_21 rfl (lv_at hl 3 rfl) ?_
      refine lv_iload hx hb dX10_countWaiting_22 (lv_at hl 5 rfl) ?_
      refine ldn_orders hx hb hK hP hR (rfl : (0 : Nat) = 0) hj2 dX10_countWaiting_24 (fun h5 => ?_) (fun h5 => ?_)
      · skip
        refine lv_astore (lv' := [(6, .ref (ad 11 j1)), (0, .ref (ad 0 0)), (1, .ref (ad 1 i)), (2, .int (cwL S i j1)), (3, .ref (ad 19 0)), (4, .int 30), (5, .int (nI j1))]) hx hb dX10_countWaiting_25 hl (by decide) rfl (fun ls hl => ?_)
        refine lv_aload hx hb dX10_countWaiting_27 (lv_at hl 0 rfl) ?_
        refine lv_ifnull hx hb dX10_countWaiting_29 ?_
        refine lv_aload hx hb dX10_countWaiting_32 (lv_at hl 0 rfl) ?_
        refine get_job_11 hx hb hta iwX7 hown hK hP hR h5 (hta _ mw541) dX10_countWaiting_34 ?_
        refine get_waitsAt_12 hx hb hta iwX2 hown hK hP hR h5 (hta _ mw525) dX10_countWaiting_37 ?_
        refine lv_aload_n hx hb dX10_countWaiting_40 rfl (lv_at hl 2 rfl) ?_
        refine lv_acmp_ne (rx := Option.map (ad 1) (sR S 3 j1)) (ry := some (ad 1 i)) (tgt := 47) hx hb dX10_countWaiting_41 (by decide) (fun c6 => ?_) (fun c6 => ?_)
        · skip
          have c6 := Rep.noeq c6
          refine lv_iinc (v := nI (j1 + 1)) (lv' := [(5, .int (nI (j1 + 1))), (6, .ref (ad 11 j1)), (0, .ref (ad 0 0)), (1, .ref (ad 1 i)), (2, .int (cwL S i j1)), (3, .ref (ad 19 0)), (4, .int 30)]) hx hb dX10_countWaiting_47 hl (k := 6) rfl (nI_1 _) (by decide) rfl (fun ls hl => ?_)
          refine lv_goto (tgt := 14) hx hb dX10_countWaiting_50 (by decide) ?_
          refine ih3 _ ?_
          have a8 : cwL S i (j1 + 1) = cwL S i j1 := (by rw [cwL_s]; simp only [cw1, if_pos h5, if_neg c6]; try rfl)
          rw [a8]
          exact lv_sub hl [2, 3, 4, 5, 6, 0] rfl
        · skip
          have c6 := hR.oeq (k := 1) (j := i) (fun _ z9 => hW.waits h5 z9) (hi) c6
          refine lv_iinc (v := (cwL S i j1) + 1) (lv' := [(2, .int ((cwL S i j1) + 1)), (6, .ref (ad 11 j1)), (0, .ref (ad 0 0)), (1, .ref (ad 1 i)), (3, .ref (ad 19 0)), (4, .int 30), (5, .int (nI j1))]) hx hb dX10_countWaiting_44 hl (k := 3) rfl (rfl) (by decide) rfl (fun ls hl => ?_)
          refine lv_iinc (v := nI (j1 + 1)) (lv' := [(5, .int (nI (j1 + 1))), (2, .int ((cwL S i j1) + 1)), (6, .ref (ad 11 j1)), (0, .ref (ad 0 0)), (1, .ref (ad 1 i)), (3, .ref (ad 19 0)), (4, .int 30)]) hx hb dX10_countWaiting_47 hl (k := 6) rfl (nI_1 _) (by decide) rfl (fun ls hl => ?_)
          refine lv_goto (tgt := 14) hx hb dX10_countWaiting_50 (by decide) ?_
          refine ih3 _ ?_
          have a8 : cwL S i (j1 + 1) = (cwL S i j1) + 1 := (by rw [cwL_s]; simp only [cw1, if_pos h5, if_pos c6]; try rfl)
          rw [a8]
          exact lv_sub hl [3, 4, 1, 5, 6, 0] rfl
      · skip
        refine lv_astoreN (lv' := [(6, .null), (0, .ref (ad 0 0)), (1, .ref (ad 1 i)), (2, .int (cwL S i j1)), (3, .ref (ad 19 0)), (4, .int 30), (5, .int (nI j1))]) hx hb dX10_countWaiting_25 hl (by decide) rfl (fun ls hl => ?_)
        refine lv_aloadN hx hb dX10_countWaiting_27 (lv_at hl 0 rfl) ?_
        refine lv_ifnullN (tgt := 47) hx hb dX10_countWaiting_29 (by decide) ?_
        refine lv_iinc (v := nI (j1 + 1)) (lv' := [(5, .int (nI (j1 + 1))), (6, .null), (0, .ref (ad 0 0)), (1, .ref (ad 1 i)), (2, .int (cwL S i j1)), (3, .ref (ad 19 0)), (4, .int 30)]) hx hb dX10_countWaiting_47 hl (k := 6) rfl (nI_1 _) (by decide) rfl (fun ls hl => ?_)
        refine lv_goto (tgt := 14) hx hb dX10_countWaiting_50 (by decide) ?_
        refine ih3 _ ?_
        have a8 : cwL S i (j1 + 1) = cwL S i j1 := (by rw [cwL_s]; simp only [cw1, if_neg h5]; try rfl)
        rw [a8]
        exact lv_sub hl [2, 3, 4, 5, 6, 0] rfl
  · skip
    refine lv_iload hx hb dX10_countWaiting_14 (lv_at hl 5 rfl) ?_
    refine lv_iload hx hb dX10_countWaiting_16 (lv_at hl 4 rfl) ?_
    refine lv_icmp_ge (tgt := 53) hx hb dX10_countWaiting_18 (by decide) (fun c7 => ?_) (fun c7 => ?_)
    · skip
      refine lv_iload_n hx hb dX10_countWaiting_53 rfl (lv_at hl 2 rfl) ?_
      exact W.iret (v := (cwL S i 30)) hx hb hr (fun t ht hWm => ⟨_, rfl, rfl, ht⟩) (fun q h => absurd h List.not_mem_nil) dX10_countWaiting_54
    · exact absurd (nI_le (a := 30) (b := 30) (Nat.le_refl _) (by decide)) c7

set_option maxHeartbeats 4000000 in
set_option maxRecDepth 100000 in
theorem c_X10_load (l : Launch) {D : va_G} {tA : Nat → ClassId} {S : St} {ad : Nat → Nat → Nat} {L : List Nat} {f : Nat → va_E} (hR : Rep tA S ad L f) (hW : WT S) {i : Nat} (hi : i < sN S 0 0) : Met l yX10_load (wsC yX10_load cX10_load 2 (some .int)) ({ frames := 1, cells := 0, slots := 0, locals := 26 }) (va_Pc [.ref (ad 0 0), .ref (ad 1 i)] (gB D tA L f)) (vp_Si (fun r => r = ldN S i)) 0 0 (fun _ => False) := by
  refine Met.ofW (cc := cX10_load) (maxL := 2) (ret := (some .int)) (by decide) rfl ?_
  intro p e s m args below meth c s₁ B hml hv
  obtain ⟨rfl, hP, hK, hD⟩ := hv
  have hx := B.exec
  have hb := B.bytes
  have hr := B.returns
  have hts := atoms_spec (ws := wsC yX10_load cX10_load 2 (some .int)) B.pre
  have hta : ∀ w ∈ WA, w.before _ s = true := fun w h => hts w (List.mem_cons_of_mem _ h)
  have hown : s.vm.findClass RX10 = some m.cls := findClass_of_methodNamed B.named
  have hlocks := B.notSynchronized
  have hP : va_P D vwCl (va_pl L f) s.heap := hP
  have hl := lv_entry ([.ref (ad 0 0), .ref (ad 1 i)]) (n := 2) (Nat.le_of_ble_eq_true rfl)
  rw [lg_entry_eq]
  generalize (lg_sl ([.ref (ad 0 0), .ref (ad 1 i)]) ++ List.replicate (2 - (lg_sl ([.ref (ad 0 0), .ref (ad 1 i)])).length) Slot.unset).toArray = ls at hl ⊢
  have hl : lv_has ls 2 [(0, .ref (ad 0 0)), (1, .ref (ad 1 i))] := hl
  refine lv_aload_n hx hb dX10_load_0 rfl (lv_at hl 0 rfl) ?_
  refine lv_aload_n hx hb dX10_load_1 rfl (lv_at hl 1 rfl) ?_
  obtain ⟨q1, e2⟩ := cell_0 hR (rfl : (0 : Nat) = 0)
  refine gro_i (ci := 12) (As := [.ref (ad 1 i)]) (rest := []) ⟨hx, hb, hml, hown, hta⟩ (c_X10_countWaiting l hR hW hi) (cwV 1 hta (gWV mw600 mw601 mw26 mw40 mw602) rfl rfl rfl (by decide +kernel) ⟨Nat.le_of_ble_eq_true rfl, Nat.le_of_ble_eq_true rfl⟩) hK hP hD rfl e2 rfl hl.1 rfl (Nat.le_of_ble_eq_true rfl) dX10_load_2 ⟨Nat.zero_le _, Nat.zero_le _⟩ (fun r3 c4 => ?_)
  obtain rfl := c4
  refine lv_aload_n hx hb dX10_load_5 rfl (lv_at hl 1 rfl) ?_
  refine get_doing_1 hx hb hta iwX4 hown hK hP hR hi (hta _ mw260) dX10_load_6 ?_
  rcases h5 : sR S 1 i with _ | o6
  · rw [rf_none]
    refine lv_ifnullN (tgt := 16) hx hb dX10_load_9 (by decide) ?_
    refine lv_iconst (v := 0) hx hb dX10_load_16 (by decide) ?_
    refine lv_iadd hx hb dX10_load_17 ?_
    exact W.iret (v := ((cwN S i) + 0)) hx hb hr (fun t ht hWm => ⟨_, rfl, (by rw [ldN, if_pos h5]; (try rfl)), ht⟩) (fun q h => absurd h List.not_mem_nil) dX10_load_18
  · rw [rf_some]
    have v7 := hW.doing hi h5
    refine lv_ifnull hx hb dX10_load_9 ?_
    refine lv_iconst (v := 1) hx hb dX10_load_12 (by decide) ?_
    refine lv_goto (tgt := 17) hx hb dX10_load_13 (by decide) ?_
    refine lv_iadd hx hb dX10_load_17 ?_
    exact W.iret (v := ((cwN S i) + 1)) hx hb hr (fun t ht hWm => ⟨_, rfl, (by rw [ldN, if_neg (by rw [h5]; exact fun q => by cases q)]; (try rfl)), ht⟩) (fun q h => absurd h List.not_mem_nil) dX10_load_18

/-- the machine that a job goes to for an operation -/
def chM (S : St) (q : Nat) : Nat := match sR S 2 q with
  | none => sN S 9 q
  | some a => if ldN S (sN S 9 q) ≤ ldN S a then sN S 9 q else a
theorem chM_lt {S : St} (h : WT S) {q : Nat} (hq : V S 5 q) : chM S q < sN S 0 0 := by
  unfold chM
  cases e : sR S 2 q with
  | none => exact h.opMach hq
  | some a =>
    show (if _ then _ else _) < _
    split
    · exact h.opMach hq
    · exact h.alt hq e
set_option maxHeartbeats 4000000 in
set_option maxRecDepth 100000 in
theorem c_X10_chooseMachine (l : Launch) {D : va_G} {tA : Nat → ClassId} {S : St} {ad : Nat → Nat → Nat} {L : List Nat} {f : Nat → va_E} (hR : Rep tA S ad L f) (hW : WT S) {q : Nat} (hq : V S 5 q) : Met l yX10_chooseMachine (wsC yX10_chooseMachine cX10_chooseMachine 4 (some (.object "Foundrymark$Machine"))) ({ frames := 2, cells := 0, slots := 0, locals := 47 }) (va_Pc [.ref (ad 0 0), .ref (ad 5 q)] (gB D tA L f)) (va_Sq (fun r => r = Option.map (ad 1) (some (chM S q)))) 0 0 (fun _ => False) := by
  refine Met.ofW (cc := cX10_chooseMachine) (maxL := 4) (ret := (some (.object "Foundrymark$Machine"))) (by decide) rfl ?_
  intro p e s m args below meth c s₁ B hml hv
  obtain ⟨rfl, hP, hK, hD⟩ := hv
  have hx := B.exec
  have hb := B.bytes
  have hr := B.returns
  have hts := atoms_spec (ws := wsC yX10_chooseMachine cX10_chooseMachine 4 (some (.object "Foundrymark$Machine"))) B.pre
  have hta : ∀ w ∈ WA, w.before _ s = true := fun w h => hts w (List.mem_cons_of_mem _ h)
  have hown : s.vm.findClass RX10 = some m.cls := findClass_of_methodNamed B.named
  have hlocks := B.notSynchronized
  have hP : va_P D vwCl (va_pl L f) s.heap := hP
  have hl := lv_entry ([.ref (ad 0 0), .ref (ad 5 q)]) (n := 4) (Nat.le_of_ble_eq_true rfl)
  rw [lg_entry_eq]
  generalize (lg_sl ([.ref (ad 0 0), .ref (ad 5 q)]) ++ List.replicate (4 - (lg_sl ([.ref (ad 0 0), .ref (ad 5 q)])).length) Slot.unset).toArray = ls at hl ⊢
  have hl : lv_has ls 4 [(0, .ref (ad 0 0)), (1, .ref (ad 5 q))] := hl
  refine lv_aload_n hx hb dX10_chooseMachine_0 rfl (lv_at hl 1 rfl) ?_
  refine get_machine_5 hx hb hta iwX6 hown hK hP hR hq (hta _ mw375) dX10_chooseMachine_1 ?_
  refine lv_astore_n (lv' := [(2, .ref (ad 1 (sN S 9 q))), (0, .ref (ad 0 0)), (1, .ref (ad 5 q))]) hx hb dX10_chooseMachine_4 rfl hl (by decide) rfl (fun ls hl => ?_)
  refine lv_aload_n hx hb dX10_chooseMachine_5 rfl (lv_at hl 2 rfl) ?_
  refine get_alternative_5 hx hb hta iwX6 hown hK hP hR hq (hta _ mw377) dX10_chooseMachine_6 ?_
  rcases h1 : sR S 2 q with _ | o2
  · rw [rf_none]
    refine lv_astore_nN (lv' := [(3, .null), (2, .ref (ad 1 (sN S 9 q))), (0, .ref (ad 0 0)), (1, .ref (ad 5 q))]) hx hb dX10_chooseMachine_9 rfl hl (by decide) rfl (fun ls hl => ?_)
    refine lv_aload_nN hx hb dX10_chooseMachine_10 rfl (lv_at hl 0 rfl) ?_
    refine lv_ifnullN (tgt := 31) hx hb dX10_chooseMachine_11 (by decide) ?_
    refine lv_aload_n hx hb dX10_chooseMachine_31 rfl (lv_at hl 1 rfl) ?_
    exact W.aret (rt := (.object "Foundrymark$Machine")) hx hb hr (Or.inl ⟨_, rfl⟩) (Or.inr ⟨_, rfl⟩) (fun t ht hWm => ⟨some (ad 1 (sN S 9 q)), rfl, (by simp only [chM, h1]; (try rfl)), ht⟩) (fun q h => absurd h List.not_mem_nil) dX10_chooseMachine_32
  · rw [rf_some]
    have v3 := hW.alt hq h1
    refine lv_astore_n (lv' := [(3, .ref (ad 1 o2)), (2, .ref (ad 1 (sN S 9 q))), (0, .ref (ad 0 0)), (1, .ref (ad 5 q))]) hx hb dX10_chooseMachine_9 rfl hl (by decide) rfl (fun ls hl => ?_)
    refine lv_aload_n hx hb dX10_chooseMachine_10 rfl (lv_at hl 0 rfl) ?_
    refine lv_ifnull hx hb dX10_chooseMachine_11 ?_
    refine lv_aload_n hx hb dX10_chooseMachine_14 rfl (lv_at hl 2 rfl) ?_
    refine lv_aload_n hx hb dX10_chooseMachine_15 rfl (lv_at hl 0 rfl) ?_
    obtain ⟨q4, e5⟩ := cell_0 hR (rfl : (0 : Nat) = 0)
    refine gro_i (ci := 12) (As := [.ref (ad 1 o2)]) (rest := []) ⟨hx, hb, hml, hown, hta⟩ (c_X10_load l hR hW v3) (cwV 1 hta (gWV mw597 mw598 mw25 mw40 mw599) rfl rfl rfl (by decide +kernel) ⟨Nat.le_of_ble_eq_true rfl, Nat.le_of_ble_eq_true rfl⟩) hK hP hD rfl e5 rfl hl.1 rfl (Nat.le_of_ble_eq_true rfl) dX10_chooseMachine_16 ⟨Nat.zero_le _, Nat.zero_le _⟩ (fun r6 c7 => ?_)
    obtain rfl := c7
    refine lv_aload_n hx hb dX10_chooseMachine_19 rfl (lv_at hl 2 rfl) ?_
    refine lv_aload_n hx hb dX10_chooseMachine_20 rfl (lv_at hl 1 rfl) ?_
    obtain ⟨q8, e9⟩ := cell_0 hR (rfl : (0 : Nat) = 0)
    refine gro_i (ci := 12) (As := [.ref (ad 1 (sN S 9 q))]) (rest := [.int (ldN S o2)]) ⟨hx, hb, hml, hown, hta⟩ (c_X10_load l hR hW (hW.opMach hq)) (cwV 1 hta (gWV mw597 mw598 mw25 mw40 mw599) rfl rfl rfl (by decide +kernel) ⟨Nat.le_of_ble_eq_true rfl, Nat.le_of_ble_eq_true rfl⟩) hK hP hD rfl e9 rfl hl.1 rfl (Nat.le_of_ble_eq_true rfl) dX10_chooseMachine_21 ⟨Nat.zero_le _, Nat.zero_le _⟩ (fun r10 c11 => ?_)
    obtain rfl := c11
    refine lv_icmp_ge (tgt := 31) hx hb dX10_chooseMachine_24 (by decide) (fun c12 => ?_) (fun c12 => ?_)
    · skip
      refine lv_aload_n hx hb dX10_chooseMachine_31 rfl (lv_at hl 1 rfl) ?_
      exact W.aret (rt := (.object "Foundrymark$Machine")) hx hb hr (Or.inl ⟨_, rfl⟩) (Or.inr ⟨_, rfl⟩) (fun t ht hWm => ⟨some (ad 1 (sN S 9 q)), rfl, (by simp only [chM, h1, if_pos c12]; (try rfl)), ht⟩) (fun q h => absurd h List.not_mem_nil) dX10_chooseMachine_32
    · skip
      refine lv_aload_n hx hb dX10_chooseMachine_27 rfl (lv_at hl 0 rfl) ?_
      refine lv_goto (tgt := 32) hx hb dX10_chooseMachine_28 (by decide) ?_
      exact W.aret (rt := (.object "Foundrymark$Machine")) hx hb hr (Or.inl ⟨_, rfl⟩) (Or.inr ⟨_, rfl⟩) (fun t ht hWm => ⟨some (ad 1 o2), rfl, (by simp only [chM, h1, if_neg c12]; (try rfl)), ht⟩) (fun q h => absurd h List.not_mem_nil) dX10_chooseMachine_32

/-- the operation of a part at a number -/
def opAt (S : St) (p : Nat) (n : Int32) : Option Nat := if n < 0 then none else if 3 ≤ n then none else if n.toNatClampNeg < sN S 5 p then some (4 * p + n.toNatClampNeg) else none
theorem opAt_V {S : St} (h : WT S) {p q : Nat} {n : Int32} (hp : p < sN S 1 0) (e : opAt S p n = some q) : V S 5 q := by
  unfold opAt at e
  split at e
  · cases e
  · split at e
    · cases e
    · split at e
      · next hj => cases e; exact vop h hp hj
      · cases e
set_option maxHeartbeats 4000000 in
set_option maxRecDepth 100000 in
theorem c_X8_operationAt (l : Launch) {D : va_G} {tA : Nat → ClassId} {S : St} {ad : Nat → Nat → Nat} {L : List Nat} {f : Nat → va_E} (hR : Rep tA S ad L f) (hW : WT S) {p9 : Nat} (hp : p9 < sN S 1 0) (n : Int32) : Met l yX8_operationAt (wsC yX8_operationAt cX8_operationAt 2 (some (.object "Foundrymark$Operation"))) ({ frames := 0, cells := 0, slots := 0, locals := 0 }) (va_Pc [.ref (ad 2 p9), .int n] (gB D tA L f)) (va_Sq (fun r => r = Option.map (ad 5) (opAt S p9 n))) 0 0 (fun _ => False) := by
  refine Met.ofW (cc := cX8_operationAt) (maxL := 2) (ret := (some (.object "Foundrymark$Operation"))) (by decide) rfl ?_
  intro p e s m args below meth c s₁ B hml hv
  obtain ⟨rfl, hP, hK, hD⟩ := hv
  have hx := B.exec
  have hb := B.bytes
  have hr := B.returns
  have hts := atoms_spec (ws := wsC yX8_operationAt cX8_operationAt 2 (some (.object "Foundrymark$Operation"))) B.pre
  have hta : ∀ w ∈ WA, w.before _ s = true := fun w h => hts w (List.mem_cons_of_mem _ h)
  have hown : s.vm.findClass RX8 = some m.cls := findClass_of_methodNamed B.named
  have hlocks := B.notSynchronized
  have hP : va_P D vwCl (va_pl L f) s.heap := hP
  have hl := lv_entry ([.ref (ad 2 p9), .int n]) (n := 2) (Nat.le_of_ble_eq_true rfl)
  rw [lg_entry_eq]
  generalize (lg_sl ([.ref (ad 2 p9), .int n]) ++ List.replicate (2 - (lg_sl ([.ref (ad 2 p9), .int n])).length) Slot.unset).toArray = ls at hl ⊢
  have hl : lv_has ls 2 [(0, .ref (ad 2 p9)), (1, .int n)] := hl
  refine lv_iload_n hx hb dX8_operationAt_0 rfl (lv_at hl 1 rfl) ?_
  refine lv_if_lt (tgt := 22) hx hb dX8_operationAt_1 (by decide) (fun c1 => ?_) (fun c1 => ?_)
  · skip
    refine lv_null hx hb dX8_operationAt_22 ?_
    exact W.aret (rt := (.object "Foundrymark$Operation")) hx hb hr (Or.inl ⟨_, rfl⟩) (Or.inl rfl) (fun t ht hWm => ⟨none, rfl, (by simp only [opAt, if_pos c1]; (try rfl)), ht⟩) (fun q h => absurd h List.not_mem_nil) dX8_operationAt_23
  · skip
    refine lv_iload_n hx hb dX8_operationAt_4 rfl (lv_at hl 1 rfl) ?_
    refine lv_aload_n hx hb dX8_operationAt_5 rfl (lv_at hl 0 rfl) ?_
    refine get_operations_2 hx hb hta iwX8 hown hK hP hR hp (hta _ mw295) dX8_operationAt_6 ?_
    refine len_operations hx hb hK hP hR hp dX8_operationAt_9 ?_
    refine lv_icmp_ge (tgt := 22) hx hb dX8_operationAt_10 (by decide) (fun c2 => ?_) (fun c2 => ?_)
    · skip
      refine lv_null hx hb dX8_operationAt_22 ?_
      exact W.aret (rt := (.object "Foundrymark$Operation")) hx hb hr (Or.inl ⟨_, rfl⟩) (Or.inl rfl) (fun t ht hWm => ⟨none, rfl, (by simp only [opAt, if_neg c1, if_pos c2]; (try rfl)), ht⟩) (fun q h => absurd h List.not_mem_nil) dX8_operationAt_23
    · skip
      obtain ⟨j9, hj9, rfl⟩ := idx_of (N := 3) (by decide) c1 c2
      have e9 : (nI j9).toNatClampNeg = j9 := nI_clamp (by omega)
      refine lv_aload_n hx hb dX8_operationAt_13 rfl (lv_at hl 0 rfl) ?_
      refine get_operations_2 hx hb hta iwX8 hown hK hP hR hp (hta _ mw295) dX8_operationAt_14 ?_
      refine lv_iload_n hx hb dX8_operationAt_17 rfl (lv_at hl 1 rfl) ?_
      refine ldn_operations hx hb hK hP hR hp hj9 dX8_operationAt_18 (fun h3 => ?_) (fun h3 => ?_)
      · skip
        refine lv_goto (tgt := 23) hx hb dX8_operationAt_19 (by decide) ?_
        exact W.aret (rt := (.object "Foundrymark$Operation")) hx hb hr (Or.inl ⟨_, rfl⟩) (Or.inr ⟨_, rfl⟩) (fun t ht hWm => ⟨some (ad 5 (4 * (p9) + j9)), rfl, (by simp only [opAt, e9, if_neg c1, if_neg c2, if_pos h3]; (try rfl)), ht⟩) (fun q h => absurd h List.not_mem_nil) dX8_operationAt_23
      · skip
        refine lv_goto (tgt := 23) hx hb dX8_operationAt_19 (by decide) ?_
        exact W.aret (rt := (.object "Foundrymark$Operation")) hx hb hr (Or.inl ⟨_, rfl⟩) (Or.inl rfl) (fun t ht hWm => ⟨none, rfl, (by simp only [opAt, e9, if_neg c1, if_neg c2, if_neg h3]; (try rfl)), ht⟩) (fun q h => absurd h List.not_mem_nil) dX8_operationAt_23

/-- where a job goes on: its machine, or none; the state behind -/
def snM (S : St) (o : Nat) : Option Nat := Option.map (chM S) (opAt S (sN S 7 o) (sI S 62 o))
def snS (S : St) (o : Nat) : St := match snM S o with
  | none => uR S 3 o none
  | some i => uR (uI S 53 o 119) 3 o (some i)
theorem snM_lt {S : St} (h : WT S) {o i : Nat} (ho : o < sN S 3 0) (e : snM S o = some i) : i < sN S 0 0 := by
  unfold snM at e
  cases q : opAt S (sN S 7 o) (sI S 62 o) with
  | none => rw [q] at e; cases e
  | some z => rw [q] at e; cases e; exact chM_lt h (opAt_V h (h.ordPart ho) q)
theorem snS_WT {S : St} (h : WT S) {o : Nat} (ho : o < sN S 3 0) : WT (snS S o) := by
  unfold snS
  cases e : snM S o with
  | none => exact h.setRn
  | some i =>
    have hh : WT (uI S 53 o 119) := h
    exact hh.setR (fun a q => by cases q; exact ⟨fun z => by omega, fun z => by omega, fun _ => snM_lt h ho e, fun z => by omega⟩)
theorem snS_N (S : St) (o : Nat) : (snS S o).1 = S.1 := by
  unfold snS
  cases snM S o <;> rfl
set_option maxHeartbeats 4000000 in
set_option maxRecDepth 100000 in
theorem c_X10_sendOn (l : Launch) {D : va_G} {tA : Nat → ClassId} {S : St} {ad : Nat → Nat → Nat} {L : List Nat} {f : Nat → va_E} {sz : Nat} (hR : Rep tA S ad L f) (hW : WT S) {o : Nat} (ho : o < sN S 3 0) : Met l yX10_sendOn (wsC yX10_sendOn cX10_sendOn 4 (some (.object "Foundrymark$Machine"))) ({ frames := 3, cells := 0, slots := 0, locals := 70 }) (va_Pc [.ref (ad 0 0), .ref (ad 11 o)] (gZ D tA L f sz)) (va_Qq (fun (r : Option Nat) (u : gU) => r = Option.map (ad 1) (snM S o) ∧ snS S o = u.1 ∧ ad = u.2.1 ∧ L = u.2.2.1) (gE D tA (va_A (va_pl L f) sz)) (va_A (va_pl L f) sz)) 0 0 (va_A (va_pl L f) sz) := by
  refine Met.ofW (cc := cX10_sendOn) (maxL := 4) (ret := (some (.object "Foundrymark$Machine"))) (by decide) rfl ?_
  intro p e s m args below meth c s₁ B hml hv
  obtain ⟨rfl, hsz, hP, hK, hD0⟩ := hv
  have hx := B.exec
  have hb := B.bytes
  have hr := B.returns
  have hts := atoms_spec (ws := wsC yX10_sendOn cX10_sendOn 4 (some (.object "Foundrymark$Machine"))) B.pre
  have hta : ∀ w ∈ WA, w.before _ s = true := fun w h => hts w (List.mem_cons_of_mem _ h)
  have hown : s.vm.findClass RX10 = some m.cls := findClass_of_methodNamed B.named
  have hlocks := B.notSynchronized
  subst hsz
  have hD : va_D (va_A (va_pl L f) s.heap.size) (va_pl L f) := hD0.self (sz := s.heap.size)
  generalize hAe : va_A (va_pl L f) s.heap.size = A at hD ⊢
  have hA : ∀ q : Nat, s.heap.size ≤ q → A q := fun q h => by rw [← hAe]; exact Or.inr h
  have hS : va_S A s.heap s.heap [] := va_S.rf
  have hP : va_P D vwCl (va_pl L f) s.heap := hP
  have hl := lv_entry ([.ref (ad 0 0), .ref (ad 11 o)]) (n := 4) (Nat.le_of_ble_eq_true rfl)
  rw [lg_entry_eq]
  generalize (lg_sl ([.ref (ad 0 0), .ref (ad 11 o)]) ++ List.replicate (4 - (lg_sl ([.ref (ad 0 0), .ref (ad 11 o)])).length) Slot.unset).toArray = ls at hl ⊢
  have hl : lv_has ls 4 [(0, .ref (ad 0 0)), (1, .ref (ad 11 o))] := hl
  refine lv_aload_n hx hb dX10_sendOn_0 rfl (lv_at hl 1 rfl) ?_
  refine get_part_11 hx hb hta iwX7 hown hK hP hR ho (hta _ mw533) dX10_sendOn_1 ?_
  refine lv_aload_n hx hb dX10_sendOn_4 rfl (lv_at hl 1 rfl) ?_
  refine get_job_11 hx hb hta iwX7 hown hK hP hR ho (hta _ mw541) dX10_sendOn_5 ?_
  refine get_operation_12 hx hb hta iwX2 hown hK hP hR ho (hta _ mw520) dX10_sendOn_8 ?_
  obtain ⟨q1, e2⟩ := cell_2 hR (hW.ordPart ho)
  refine gro_q (ci := 10) (As := [.int (sI S 62 o)]) (rest := []) ⟨hx, hb, hml, hown, hta⟩ (c_X8_operationAt l hR hW (hW.ordPart ho) (sI S 62 o)) (cwV 1 hta (gWV mw590 mw591 mw592 mw49 mw593) rfl rfl rfl (by decide +kernel) ⟨Nat.le_of_ble_eq_true rfl, Nat.le_of_ble_eq_true rfl⟩) hK hP hD rfl e2 rfl hl.1 rfl (Nat.le_of_ble_eq_true rfl) dX10_sendOn_11 ⟨Nat.zero_le _, Nat.zero_le _⟩ (fun r3 c4 => ?_)
  obtain rfl := c4
  change W _ _ _ _ _ _ _ _ _ _ _ _ _ _ _ (F0 _ _ _ (rf ad 5 (opAt S (sN S 7 o) (sI S 62 o)) :: []))
  rcases h5 : opAt S (sN S 7 o) (sI S 62 o) with _ | o6
  · rw [rf_none]
    refine lv_astore_nN (lv' := [(2, .null), (0, .ref (ad 0 0)), (1, .ref (ad 11 o))]) hx hb dX10_sendOn_14 rfl hl (by decide) rfl (fun ls hl => ?_)
    refine lv_aload_nN hx hb dX10_sendOn_15 rfl (lv_at hl 0 rfl) ?_
    refine lv_ifnullN (tgt := 27) hx hb dX10_sendOn_16 (by decide) ?_
    refine lv_null hx hb dX10_sendOn_27 ?_
    refine lv_astore_nN (lv' := [(3, .null), (2, .null), (0, .ref (ad 0 0)), (1, .ref (ad 11 o))]) hx hb dX10_sendOn_28 rfl hl (by decide) rfl (fun ls hl => ?_)
    refine lv_aload_nN hx hb dX10_sendOn_29 rfl (lv_at hl 0 rfl) ?_
    refine lv_ifnullN (tgt := 39) hx hb dX10_sendOn_30 (by decide) ?_
    refine lv_aload_n hx hb dX10_sendOn_39 rfl (lv_at hl 3 rfl) ?_
    refine get_job_11 hx hb hta iwX7 hown hK hP hR ho (hta _ mw541) dX10_sendOn_40 ?_
    refine lv_aload_nN hx hb dX10_sendOn_43 rfl (lv_at hl 0 rfl) ?_
    refine put_waitsAt_12 (v := (none : Option Nat)) hx hb hta iwX2 hown hK hP hD hS hR ho (hta _ mw525) dX10_sendOn_44 (fun H locs f hP hD hS hR => ?_)
    refine lv_aload_nN hx hb dX10_sendOn_47 rfl (lv_at hl 0 rfl) ?_
    exact W.aret (rt := (.object "Foundrymark$Machine")) hx hb hr (Or.inl ⟨_, rfl⟩) (Or.inl rfl) (fun t ht hWm => gend_q (r := none) (u := (uR S 3 o none, ad, L, f)) ⟨by simp only [snM, h5]; (try rfl), by simp only [snS, snM, h5]; (try rfl), rfl, rfl⟩ hR hP hK hD hS ht hWm) hS.2.2 dX10_sendOn_48
  · rw [rf_some]
    have v7 := opAt_V hW (by first | exact hW.ordPart (by assumption) | assumption) h5
    refine lv_astore_n (lv' := [(2, .ref (ad 5 o6)), (0, .ref (ad 0 0)), (1, .ref (ad 11 o))]) hx hb dX10_sendOn_14 rfl hl (by decide) rfl (fun ls hl => ?_)
    refine lv_aload_n hx hb dX10_sendOn_15 rfl (lv_at hl 0 rfl) ?_
    refine lv_ifnull hx hb dX10_sendOn_16 ?_
    refine lv_aload_n hx hb dX10_sendOn_19 rfl (lv_at hl 1 rfl) ?_
    refine lv_aload_n hx hb dX10_sendOn_20 rfl (lv_at hl 0 rfl) ?_
    obtain ⟨q8, e9⟩ := cell_0 hR (rfl : (0 : Nat) = 0)
    refine gro_q (ci := 12) (As := [.ref (ad 5 o6)]) (rest := []) ⟨hx, hb, hml, hown, hta⟩ (c_X10_chooseMachine l hR hW v7) (cwV 1 hta (gWV mw594 mw595 mw24 mw40 mw596) rfl rfl rfl (by decide +kernel) ⟨Nat.le_of_ble_eq_true rfl, Nat.le_of_ble_eq_true rfl⟩) hK hP hD rfl e9 rfl hl.1 rfl (Nat.le_of_ble_eq_true rfl) dX10_sendOn_21 ⟨Nat.zero_le _, Nat.zero_le _⟩ (fun r10 c11 => ?_)
    obtain rfl := c11
    change W _ _ _ _ _ _ _ _ _ _ _ _ _ _ _ (F0 _ _ _ (rf ad 1 (some (chM S o6)) :: []))
    rw [rf_some]
    refine lv_goto (tgt := 28) hx hb dX10_sendOn_24 (by decide) ?_
    refine lv_astore_n (lv' := [(3, .ref (ad 1 (chM S o6))), (2, .ref (ad 5 o6)), (0, .ref (ad 0 0)), (1, .ref (ad 11 o))]) hx hb dX10_sendOn_28 rfl hl (by decide) rfl (fun ls hl => ?_)
    refine lv_aload_n hx hb dX10_sendOn_29 rfl (lv_at hl 0 rfl) ?_
    refine lv_ifnull hx hb dX10_sendOn_30 ?_
    refine lv_aload_n hx hb dX10_sendOn_33 rfl (lv_at hl 3 rfl) ?_
    refine lv_bipush (v := 119) hx hb dX10_sendOn_34 (by decide) ?_
    refine put_state_11 (v := (119 : Int32)) hx hb hta iwX7 hown hK hP hD hS hR ho (hta _ mw546) (by decide) (by decide) dX10_sendOn_36 (fun H locs f hP hD hS hR => ?_)
    refine lv_aload_n hx hb dX10_sendOn_39 rfl (lv_at hl 3 rfl) ?_
    refine get_job_11 hx hb hta iwX7 hown hK hP hR ho (hta _ mw541) dX10_sendOn_40 ?_
    refine lv_aload_n hx hb dX10_sendOn_43 rfl (lv_at hl 0 rfl) ?_
    refine put_waitsAt_12 (v := (some (chM S o6) : Option Nat)) hx hb hta iwX2 hown hK hP hD hS hR ho (hta _ mw525) dX10_sendOn_44 (fun H locs f hP hD hS hR => ?_)
    refine lv_aload_n hx hb dX10_sendOn_47 rfl (lv_at hl 0 rfl) ?_
    exact W.aret (rt := (.object "Foundrymark$Machine")) hx hb hr (Or.inl ⟨_, rfl⟩) (Or.inr ⟨_, rfl⟩) (fun t ht hWm => gend_q (r := some (ad 1 (chM S o6))) (u := (uR (uI S 53 o 119) 3 o (some (chM S o6)), ad, L, f)) ⟨by simp only [snM, h5]; (try rfl), by simp only [snS, snM, h5]; (try rfl), rfl, rfl⟩ hR hP hK hD hS ht hWm) hS.2.2 dX10_sendOn_48

def fw1 (S : St) (i j : Nat) (x : Option Nat) : Option Nat := if j < sN S 3 0 then (if sR S 3 j = some i then (match x with
  | none => some j
  | some b => if sI S 52 b ≤ sI S 52 j then some b else some j) else x) else x
def fwL (S : St) (i j : Nat) : Option Nat := it (fw1 S i) j none
theorem fwL_s (S : St) (i j : Nat) : fwL S i (j + 1) = fw1 S i j (fwL S i j) := rfl
/-- the job that a machine does next: the earliest due time, of several the lowest order -/
def fwO (S : St) (i : Nat) : Option Nat := fwL S i 30
theorem fwL_in {S : St} {i : Nat} : ∀ {j b : Nat}, fwL S i j = some b → b < sN S 3 0 ∧ sR S 3 b = some i := by
  intro j
  induction j with
  | zero => intro b h; cases h
  | succ j ih =>
    intro b h
    rw [fwL_s] at h
    unfold fw1 at h
    split at h
    · split at h
      · next h1 h2 =>
        cases e : fwL S i j with
        | none => rw [e] at h; cases h; exact ⟨h1, h2⟩
        | some z =>
          rw [e] at h
          simp only at h
          split at h
          · cases h; exact ih e
          · cases h; exact ⟨h1, h2⟩
      · exact ih h
    · exact ih h
set_option maxHeartbeats 4000000 in
set_option maxRecDepth 100000 in
theorem c_X10_firstWaiting (l : Launch) {D : va_G} {tA : Nat → ClassId} {S : St} {ad : Nat → Nat → Nat} {L : List Nat} {f : Nat → va_E} (hR : Rep tA S ad L f) (hW : WT S) {i : Nat} (hi : i < sN S 0 0) : Met l yX10_firstWaiting (wsC yX10_firstWaiting cX10_firstWaiting 7 (some (.object "Foundrymark$Order"))) ({ frames := 0, cells := 0, slots := 0, locals := 0 }) (va_Pc [.ref (ad 0 0), .ref (ad 1 i)] (gB D tA L f)) (va_Sq (fun r => r = Option.map (ad 11) (fwO S i))) 0 0 (fun _ => False) := by
  refine Met.ofW (cc := cX10_firstWaiting) (maxL := 7) (ret := (some (.object "Foundrymark$Order"))) (by decide) rfl ?_
  intro p e s m args below meth c s₁ B hml hv
  obtain ⟨rfl, hP, hK, hD⟩ := hv
  have hx := B.exec
  have hb := B.bytes
  have hr := B.returns
  have hts := atoms_spec (ws := wsC yX10_firstWaiting cX10_firstWaiting 7 (some (.object "Foundrymark$Order"))) B.pre
  have hta : ∀ w ∈ WA, w.before _ s = true := fun w h => hts w (List.mem_cons_of_mem _ h)
  have hown : s.vm.findClass RX10 = some m.cls := findClass_of_methodNamed B.named
  have hlocks := B.notSynchronized
  have hP : va_P D vwCl (va_pl L f) s.heap := hP
  have hl := lv_entry ([.ref (ad 0 0), .ref (ad 1 i)]) (n := 7) (Nat.le_of_ble_eq_true rfl)
  rw [lg_entry_eq]
  generalize (lg_sl ([.ref (ad 0 0), .ref (ad 1 i)]) ++ List.replicate (7 - (lg_sl ([.ref (ad 0 0), .ref (ad 1 i)])).length) Slot.unset).toArray = ls at hl ⊢
  have hl : lv_has ls 7 [(0, .ref (ad 0 0)), (1, .ref (ad 1 i))] := hl
  refine lv_null hx hb dX10_firstWaiting_0 ?_
  refine lv_astore_nN (lv' := [(2, .null), (0, .ref (ad 0 0)), (1, .ref (ad 1 i))]) hx hb dX10_firstWaiting_1 rfl hl (by decide) rfl (fun ls hl => ?_)
  refine lv_aload_n hx hb dX10_firstWaiting_2 rfl (lv_at hl 1 rfl) ?_
  refine get_orders_0 hx hb hta iwX10 hown hK hP hR (rfl : (0 : Nat) = 0) (hta _ mw100) dX10_firstWaiting_3 ?_
  refine lv_astore_n (lv' := [(3, .ref (ad 19 0)), (2, .null), (0, .ref (ad 0 0)), (1, .ref (ad 1 i))]) hx hb dX10_firstWaiting_6 rfl hl (by decide) rfl (fun ls hl => ?_)
  refine lv_aload_n hx hb dX10_firstWaiting_7 rfl (lv_at hl 0 rfl) ?_
  refine len_orders hx hb hK hP hR (rfl : (0 : Nat) = 0) dX10_firstWaiting_8 ?_
  refine lv_istore (lv' := [(4, .int 30), (3, .ref (ad 19 0)), (2, .null), (0, .ref (ad 0 0)), (1, .ref (ad 1 i))]) hx hb dX10_firstWaiting_9 hl (by decide) rfl (fun ls hl => ?_)
  refine lv_iconst (v := 0) hx hb dX10_firstWaiting_11 (by decide) ?_
  refine lv_istore (lv' := [(5, .int 0), (4, .int 30), (3, .ref (ad 19 0)), (2, .null), (0, .ref (ad 0 0)), (1, .ref (ad 1 i))]) hx hb dX10_firstWaiting_12 hl (by decide) rfl (fun ls hl => ?_)
  refine loop_g (σ := Array Slot) (Wg := fun ls => W p l e _ s m _ below meth c _ _ _ _ _ (F0 m 14 ls [])) 30 (fun j9 ls => lv_has ls 7 [(0, .ref (ad 0 0)), (1, .ref (ad 1 i)), (2, rf ad 11 (fwL S i j9)), (3, .ref (ad 19 0)), (4, .int 30), (5, .int (nI j9))]) (fun j9 hj1 ih2 ls hl => ?_) (fun ls hl => ?_) ls (lv_sub hl [4, 5, 3, 2, 1, 0] rfl)
  · skip
    refine lv_iload hx hb dX10_firstWaiting_14 (lv_at hl 5 rfl) ?_
    refine lv_iload hx hb dX10_firstWaiting_16 (lv_at hl 4 rfl) ?_
    refine lv_icmp_ge (tgt := 69) hx hb dX10_firstWaiting_18 (by decide) (fun c3 => ?_) (fun c3 => ?_)
    · exact absurd c3 (nI_ge (a := j9) (b := 30) hj1 (by decide))
    · skip
      refine lv_aload_n hx hb dX10_firstWaiting_21 rfl (lv_at hl 3 rfl) ?_
      refine lv_iload hx hb dX10_firstWaiting_22 (lv_at hl 5 rfl) ?_
      refine ldn_orders hx hb hK hP hR (rfl : (0 : Nat) = 0) hj1 dX10_firstWaiting_24 (fun h4 => ?_) (fun h4 => ?_)
      · skip
        refine lv_astore (lv' := [(6, .ref (ad 11 j9)), (0, .ref (ad 0 0)), (1, .ref (ad 1 i)), (2, rf ad 11 (fwL S i j9)), (3, .ref (ad 19 0)), (4, .int 30), (5, .int (nI j9))]) hx hb dX10_firstWaiting_25 hl (by decide) rfl (fun ls hl => ?_)
        refine lv_aload hx hb dX10_firstWaiting_27 (lv_at hl 0 rfl) ?_
        refine lv_ifnull hx hb dX10_firstWaiting_29 ?_
        refine lv_aload hx hb dX10_firstWaiting_32 (lv_at hl 0 rfl) ?_
        refine get_job_11 hx hb hta iwX7 hown hK hP hR h4 (hta _ mw541) dX10_firstWaiting_34 ?_
        refine get_waitsAt_12 hx hb hta iwX2 hown hK hP hR h4 (hta _ mw525) dX10_firstWaiting_37 ?_
        refine lv_aload_n hx hb dX10_firstWaiting_40 rfl (lv_at hl 2 rfl) ?_
        refine lv_acmp_ne (rx := Option.map (ad 1) (sR S 3 j9)) (ry := some (ad 1 i)) (tgt := 63) hx hb dX10_firstWaiting_41 (by decide) (fun c5 => ?_) (fun c5 => ?_)
        · skip
          have c5 := Rep.noeq c5
          refine lv_iinc (v := nI (j9 + 1)) (lv' := [(5, .int (nI (j9 + 1))), (6, .ref (ad 11 j9)), (0, .ref (ad 0 0)), (1, .ref (ad 1 i)), (2, rf ad 11 (fwL S i j9)), (3, .ref (ad 19 0)), (4, .int 30)]) hx hb dX10_firstWaiting_63 hl (k := 6) rfl (nI_1 _) (by decide) rfl (fun ls hl => ?_)
          refine lv_goto (tgt := 14) hx hb dX10_firstWaiting_66 (by decide) ?_
          refine ih2 _ ?_
          have a8 : fwL S i (j9 + 1) = fwL S i j9 := (by rw [fwL_s]; simp only [fw1, if_pos h4, if_neg c5]; (try rfl))
          rw [a8]
          exact lv_sub hl [2, 3, 4, 5, 6, 0] rfl
        · skip
          have c5 := hR.oeq (k := 1) (j := i) (fun _ z9 => hW.waits h4 z9) (hi) c5
          revert hl
          rcases h6 : fwL S i j9 with _ | o7
          · intro hl
            rw [rf_none] at hl
            refine lv_aload_nN hx hb dX10_firstWaiting_44 rfl (lv_at hl 3 rfl) ?_
            refine lv_ifnullN (tgt := 60) hx hb dX10_firstWaiting_45 (by decide) ?_
            refine lv_aload hx hb dX10_firstWaiting_60 (lv_at hl 0 rfl) ?_
            refine lv_astore_n (lv' := [(2, .ref (ad 11 j9)), (6, .ref (ad 11 j9)), (0, .ref (ad 0 0)), (1, .ref (ad 1 i)), (3, .ref (ad 19 0)), (4, .int 30), (5, .int (nI j9))]) hx hb dX10_firstWaiting_62 rfl hl (by decide) rfl (fun ls hl => ?_)
            refine lv_iinc (v := nI (j9 + 1)) (lv' := [(5, .int (nI (j9 + 1))), (2, .ref (ad 11 j9)), (6, .ref (ad 11 j9)), (0, .ref (ad 0 0)), (1, .ref (ad 1 i)), (3, .ref (ad 19 0)), (4, .int 30)]) hx hb dX10_firstWaiting_63 hl (k := 6) rfl (nI_1 _) (by decide) rfl (fun ls hl => ?_)
            refine lv_goto (tgt := 14) hx hb dX10_firstWaiting_66 (by decide) ?_
            refine ih2 _ ?_
            have a8 : fwL S i (j9 + 1) = some j9 := (by rw [fwL_s]; simp only [fw1, if_pos h4, if_pos c5, h6]; (try rfl))
            rw [a8]
            exact lv_sub hl [3, 4, 1, 5, 6, 0] rfl
          · intro hl
            rw [rf_some] at hl
            have v8 := (fwL_in h6).1
            refine lv_aload_n hx hb dX10_firstWaiting_44 rfl (lv_at hl 3 rfl) ?_
            refine lv_ifnull hx hb dX10_firstWaiting_45 ?_
            refine lv_aload hx hb dX10_firstWaiting_48 (lv_at hl 0 rfl) ?_
            refine get_due_11 hx hb hta iwX7 hown hK hP hR h4 (hta _ mw539) dX10_firstWaiting_50 ?_
            refine lv_aload_n hx hb dX10_firstWaiting_53 rfl (lv_at hl 3 rfl) ?_
            refine get_due_11 hx hb hta iwX7 hown hK hP hR v8 (hta _ mw539) dX10_firstWaiting_54 ?_
            refine lv_icmp_ge (tgt := 63) hx hb dX10_firstWaiting_57 (by decide) (fun c9 => ?_) (fun c9 => ?_)
            · skip
              refine lv_iinc (v := nI (j9 + 1)) (lv' := [(5, .int (nI (j9 + 1))), (6, .ref (ad 11 j9)), (0, .ref (ad 0 0)), (1, .ref (ad 1 i)), (2, .ref (ad 11 o7)), (3, .ref (ad 19 0)), (4, .int 30)]) hx hb dX10_firstWaiting_63 hl (k := 6) rfl (nI_1 _) (by decide) rfl (fun ls hl => ?_)
              refine lv_goto (tgt := 14) hx hb dX10_firstWaiting_66 (by decide) ?_
              refine ih2 _ ?_
              have a8 : fwL S i (j9 + 1) = some o7 := (by rw [fwL_s]; simp only [fw1, if_pos h4, if_pos c5, h6, if_pos c9]; (try rfl))
              rw [a8]
              exact lv_sub hl [2, 3, 4, 5, 6, 0] rfl
            · skip
              refine lv_aload hx hb dX10_firstWaiting_60 (lv_at hl 0 rfl) ?_
              refine lv_astore_n (lv' := [(2, .ref (ad 11 j9)), (6, .ref (ad 11 j9)), (0, .ref (ad 0 0)), (1, .ref (ad 1 i)), (3, .ref (ad 19 0)), (4, .int 30), (5, .int (nI j9))]) hx hb dX10_firstWaiting_62 rfl hl (by decide) rfl (fun ls hl => ?_)
              refine lv_iinc (v := nI (j9 + 1)) (lv' := [(5, .int (nI (j9 + 1))), (2, .ref (ad 11 j9)), (6, .ref (ad 11 j9)), (0, .ref (ad 0 0)), (1, .ref (ad 1 i)), (3, .ref (ad 19 0)), (4, .int 30)]) hx hb dX10_firstWaiting_63 hl (k := 6) rfl (nI_1 _) (by decide) rfl (fun ls hl => ?_)
              refine lv_goto (tgt := 14) hx hb dX10_firstWaiting_66 (by decide) ?_
              refine ih2 _ ?_
              have a8 : fwL S i (j9 + 1) = some j9 := (by rw [fwL_s]; simp only [fw1, if_pos h4, if_pos c5, h6, if_neg c9]; (try rfl))
              rw [a8]
              exact lv_sub hl [3, 4, 1, 5, 6, 0] rfl
      · skip
        refine lv_astoreN (lv' := [(6, .null), (0, .ref (ad 0 0)), (1, .ref (ad 1 i)), (2, rf ad 11 (fwL S i j9)), (3, .ref (ad 19 0)), (4, .int 30), (5, .int (nI j9))]) hx hb dX10_firstWaiting_25 hl (by decide) rfl (fun ls hl => ?_)
        refine lv_aloadN hx hb dX10_firstWaiting_27 (lv_at hl 0 rfl) ?_
        refine lv_ifnullN (tgt := 63) hx hb dX10_firstWaiting_29 (by decide) ?_
        refine lv_iinc (v := nI (j9 + 1)) (lv' := [(5, .int (nI (j9 + 1))), (6, .null), (0, .ref (ad 0 0)), (1, .ref (ad 1 i)), (2, rf ad 11 (fwL S i j9)), (3, .ref (ad 19 0)), (4, .int 30)]) hx hb dX10_firstWaiting_63 hl (k := 6) rfl (nI_1 _) (by decide) rfl (fun ls hl => ?_)
        refine lv_goto (tgt := 14) hx hb dX10_firstWaiting_66 (by decide) ?_
        refine ih2 _ ?_
        have a8 : fwL S i (j9 + 1) = fwL S i j9 := (by rw [fwL_s]; simp only [fw1, if_neg h4]; (try rfl))
        rw [a8]
        exact lv_sub hl [2, 3, 4, 5, 6, 0] rfl
  · skip
    refine lv_iload hx hb dX10_firstWaiting_14 (lv_at hl 5 rfl) ?_
    refine lv_iload hx hb dX10_firstWaiting_16 (lv_at hl 4 rfl) ?_
    refine lv_icmp_ge (tgt := 69) hx hb dX10_firstWaiting_18 (by decide) (fun c10 => ?_) (fun c10 => ?_)
    · skip
      revert hl
      rcases h11 : fwL S i 30 with _ | o12
      · intro hl
        rw [rf_none] at hl
        refine lv_aload_nN hx hb dX10_firstWaiting_69 rfl (lv_at hl 2 rfl) ?_
        exact W.aret (rt := (.object "Foundrymark$Order")) hx hb hr (Or.inl ⟨_, rfl⟩) (Or.inl rfl) (fun t ht hWm => ⟨none, rfl, (by simp only [fwO, h11]; (try rfl)), ht⟩) (fun q h => absurd h List.not_mem_nil) dX10_firstWaiting_70
      · intro hl
        rw [rf_some] at hl
        have v13 := (fwL_in h11).1
        refine lv_aload_n hx hb dX10_firstWaiting_69 rfl (lv_at hl 2 rfl) ?_
        exact W.aret (rt := (.object "Foundrymark$Order")) hx hb hr (Or.inl ⟨_, rfl⟩) (Or.inr ⟨_, rfl⟩) (fun t ht hWm => ⟨some (ad 11 o12), rfl, (by simp only [fwO, h11]; (try rfl)), ht⟩) (fun q h => absurd h List.not_mem_nil) dX10_firstWaiting_70
    · exact absurd (nI_le (a := 30) (b := 30) (Nat.le_refl _) (by decide)) c10

/-- a machine begins an operation -/
def mbS (S : St) (i o : Nat) (wk tm : Int32) : St := uI (uI (uR (uI (sM S (if sI S 15 i = sI S 21 (sN S 7 o) then sA S else sA (uI S 15 i (sI S 21 (sN S 7 o))))) 14 i 111) 1 i (some o)) 17 i tm) 18 i (tm + imax 1 (if sI S 15 i = sI S 21 (sN S 7 o) then wk else wk + sI S 11 i))
def meT (S : St) (i : Nat) (k tm : Int32) : St := uI (uI (uR (uI S 19 i (sI S 19 i + (tm - sI S 17 i))) 1 i none) 14 i 45) 16 i (sI S 16 i + k)
/-- a machine ends an operation -/
def meS (S : St) (i : Nat) (k tm : Int32) : St := sM (meT S i k tm) (if sI S 16 i + k < sI S 12 i then sA (meT S i k tm) else sA (uI (uI (uI (meT S i k tm) 16 i 0) 14 i 98) 18 i (tm + sI S 13 i)))
/-- how long a machine did operations up to now -/
def buN (S : St) (i : Nat) (tm : Int32) : Int32 := if sR S 1 i = none then sI S 19 i else sI S 19 i + tm - sI S 17 i
set_option maxHeartbeats 4000000 in
set_option maxRecDepth 100000 in
theorem c_X4_begin (l : Launch) {D : va_G} {tA : Nat → ClassId} {S : St} {ad : Nat → Nat → Nat} {L : List Nat} {f : Nat → va_E} {sz : Nat} (hR : Rep tA S ad L f) (hW : WT S) {i o : Nat} (hi : i < sN S 0 0) (ho : o < sN S 3 0) (wk tm : Int32) : Met l yX4_begin (wsC yX4_begin cX4_begin 5 none) ({ frames := 1, cells := 0, slots := 0, locals := 21 }) (va_Pc [.ref (ad 1 i), .ref (ad 11 o), .int wk, .int tm] (gZ D tA L f sz)) (va_Qv (fun (u : gU) => mbS S i o wk tm = u.1 ∧ ad = u.2.1 ∧ L = u.2.2.1) (gE D tA (va_A (va_pl L f) sz)) (va_A (va_pl L f) sz)) 0 0 (va_A (va_pl L f) sz) := by
  refine Met.ofW (cc := cX4_begin) (maxL := 5) (ret := none) (by decide) rfl ?_
  intro p e s m args below meth c s₁ B hml hv
  obtain ⟨rfl, hsz, hP, hK, hD0⟩ := hv
  have hx := B.exec
  have hb := B.bytes
  have hr := B.returns
  have hts := atoms_spec (ws := wsC yX4_begin cX4_begin 5 none) B.pre
  have hta : ∀ w ∈ WA, w.before _ s = true := fun w h => hts w (List.mem_cons_of_mem _ h)
  have hown : s.vm.findClass RX4 = some m.cls := findClass_of_methodNamed B.named
  have hlocks := B.notSynchronized
  subst hsz
  have hD : va_D (va_A (va_pl L f) s.heap.size) (va_pl L f) := hD0.self (sz := s.heap.size)
  generalize hAe : va_A (va_pl L f) s.heap.size = A at hD ⊢
  have hA : ∀ q : Nat, s.heap.size ≤ q → A q := fun q h => by rw [← hAe]; exact Or.inr h
  have hS : va_S A s.heap s.heap [] := va_S.rf
  have hP : va_P D vwCl (va_pl L f) s.heap := hP
  have hl := lv_entry ([.ref (ad 1 i), .ref (ad 11 o), .int wk, .int tm]) (n := 5) (Nat.le_of_ble_eq_true rfl)
  rw [lg_entry_eq]
  generalize (lg_sl ([.ref (ad 1 i), .ref (ad 11 o), .int wk, .int tm]) ++ List.replicate (5 - (lg_sl ([.ref (ad 1 i), .ref (ad 11 o), .int wk, .int tm])).length) Slot.unset).toArray = ls at hl ⊢
  have hl : lv_has ls 5 [(0, .ref (ad 1 i)), (1, .ref (ad 11 o)), (2, .int wk), (3, .int tm)] := hl
  refine lv_iload_n hx hb dX4_begin_0 rfl (lv_at hl 2 rfl) ?_
  refine lv_istore (lv' := [(4, .int wk), (0, .ref (ad 1 i)), (1, .ref (ad 11 o)), (2, .int wk), (3, .int tm)]) hx hb dX4_begin_1 hl (by decide) rfl (fun ls hl => ?_)
  refine lv_aload_n hx hb dX4_begin_3 rfl (lv_at hl 1 rfl) ?_
  refine get_family_1 hx hb hta iwX4 hown hK hP hR hi (hta _ mw252) dX4_begin_4 ?_
  refine lv_aload_n hx hb dX4_begin_7 rfl (lv_at hl 2 rfl) ?_
  refine get_part_11 hx hb hta iwX7 hown hK hP hR ho (hta _ mw532) dX4_begin_8 ?_
  refine get_family_2 hx hb hta iwX8 hown hK hP hR (hW.ordPart ho) (hta _ mw292) dX4_begin_11 ?_
  refine lv_icmp_eq (tgt := 37) hx hb dX4_begin_14 (by decide) (fun c1 => ?_) (fun c1 => ?_)
  · skip
    refine lv_aload_n hx hb dX4_begin_37 rfl (lv_at hl 1 rfl) ?_
    refine lv_bipush (v := 111) hx hb dX4_begin_38 (by decide) ?_
    refine put_state_1 (v := (111 : Int32)) hx hb hta iwX4 hown hK hP hD hS hR hi (hta _ mw250) (by decide) (by decide) dX4_begin_40 (fun H locs f hP hD hS hR => ?_)
    refine lv_aload_n hx hb dX4_begin_43 rfl (lv_at hl 1 rfl) ?_
    refine lv_aload_n hx hb dX4_begin_44 rfl (lv_at hl 2 rfl) ?_
    refine put_doing_1 (v := (some o : Option Nat)) hx hb hta iwX4 hown hK hP hD hS hR hi (hta _ mw259) dX4_begin_45 (fun H locs f hP hD hS hR => ?_)
    refine lv_aload_n hx hb dX4_begin_48 rfl (lv_at hl 1 rfl) ?_
    refine lv_iload_n hx hb dX4_begin_49 rfl (lv_at hl 4 rfl) ?_
    refine put_begunAt_1 (v := (tm : Int32)) hx hb hta iwX4 hown hK hP hD hS hR hi (hta _ mw254) dX4_begin_50 (fun H locs f hP hD hS hR => ?_)
    refine lv_aload_n hx hb dX4_begin_53 rfl (lv_at hl 1 rfl) ?_
    refine lv_iload_n hx hb dX4_begin_54 rfl (lv_at hl 4 rfl) ?_
    refine lv_iconst (v := 1) hx hb dX4_begin_55 (by decide) ?_
    refine lv_iload hx hb dX4_begin_56 (lv_at hl 0 rfl) ?_
    refine va_mmax (own := RX4) hx hb (hml.trans hl.1.symm) hown (hta _ mw624) (hta _ mw625) (hta _ mw61) (hta _ mw626) (Nat.le_of_ble_eq_true rfl) (Nat.le_of_ble_eq_true rfl) (Nat.zero_le _) (Nat.zero_le _) dX4_begin_58 ?_
    refine lv_topi (fun x2 ex2 => ?_)
    obtain rfl : x2 = imax 1 wk := ex2
    refine lv_iadd hx hb dX4_begin_61 ?_
    refine put_endsAt_1 (v := (tm + (imax 1 wk) : Int32)) hx hb hta iwX4 hown hK hP hD hS hR hi (hta _ mw256) dX4_begin_62 (fun H locs f hP hD hS hR => ?_)
    exact W.vret hx hb hr (fun t ht hWm => gend_v (u := (uI (uI (uR (uI S 14 i 111) 1 i (some o)) 17 i tm) 18 i (tm + (imax 1 wk)), ad, L, f)) ⟨by simp only [mbS, if_pos c1]; (try rfl), rfl, rfl⟩ hR hP hK hD hS ht hWm) hS.2.2 dX4_begin_65
  · skip
    refine lv_aload_n hx hb dX4_begin_17 rfl (lv_at hl 1 rfl) ?_
    refine lv_aload_n hx hb dX4_begin_18 rfl (lv_at hl 2 rfl) ?_
    refine get_part_11 hx hb hta iwX7 hown hK hP hR ho (hta _ mw532) dX4_begin_19 ?_
    refine get_family_2 hx hb hta iwX8 hown hK hP hR (hW.ordPart ho) (hta _ mw292) dX4_begin_22 ?_
    refine put_family_1 (v := (sI S 21 (sN S 7 o) : Int32)) hx hb hta iwX4 hown hK hP hD hS hR hi (hta _ mw252) dX4_begin_25 (fun H locs f hP hD hS hR => ?_)
    refine lv_iload hx hb dX4_begin_28 (lv_at hl 0 rfl) ?_
    refine lv_aload_n hx hb dX4_begin_30 rfl (lv_at hl 1 rfl) ?_
    refine get_setup_1 hx hb hta iwX4 hown hK hP hR hi (hta _ mw247) dX4_begin_31 ?_
    refine lv_topi (fun x3 ex3 => ?_)
    obtain rfl := ex3.trans (show sI (uI S 15 i (sI S 21 (sN S 7 o))) 11 i = sI S 11 i from up2_nk (sI S) (k := 15) (i := i) (k' := 11) (i' := i) (sI S 21 (sN S 7 o)) (by decide))
    refine lv_iadd hx hb dX4_begin_34 ?_
    refine lv_istore (lv' := [(4, .int (wk + (sI S 11 i))), (0, .ref (ad 1 i)), (1, .ref (ad 11 o)), (2, .int wk), (3, .int tm)]) hx hb dX4_begin_35 hl (by decide) rfl (fun ls hl => ?_)
    refine lv_aload_n hx hb dX4_begin_37 rfl (lv_at hl 1 rfl) ?_
    refine lv_bipush (v := 111) hx hb dX4_begin_38 (by decide) ?_
    refine put_state_1 (v := (111 : Int32)) hx hb hta iwX4 hown hK hP hD hS hR hi (hta _ mw250) (by decide) (by decide) dX4_begin_40 (fun H locs f hP hD hS hR => ?_)
    refine lv_aload_n hx hb dX4_begin_43 rfl (lv_at hl 1 rfl) ?_
    refine lv_aload_n hx hb dX4_begin_44 rfl (lv_at hl 2 rfl) ?_
    refine put_doing_1 (v := (some o : Option Nat)) hx hb hta iwX4 hown hK hP hD hS hR hi (hta _ mw259) dX4_begin_45 (fun H locs f hP hD hS hR => ?_)
    refine lv_aload_n hx hb dX4_begin_48 rfl (lv_at hl 1 rfl) ?_
    refine lv_iload_n hx hb dX4_begin_49 rfl (lv_at hl 4 rfl) ?_
    refine put_begunAt_1 (v := (tm : Int32)) hx hb hta iwX4 hown hK hP hD hS hR hi (hta _ mw254) dX4_begin_50 (fun H locs f hP hD hS hR => ?_)
    refine lv_aload_n hx hb dX4_begin_53 rfl (lv_at hl 1 rfl) ?_
    refine lv_iload_n hx hb dX4_begin_54 rfl (lv_at hl 4 rfl) ?_
    refine lv_iconst (v := 1) hx hb dX4_begin_55 (by decide) ?_
    refine lv_iload hx hb dX4_begin_56 (lv_at hl 0 rfl) ?_
    refine va_mmax (own := RX4) hx hb (hml.trans hl.1.symm) hown (hta _ mw624) (hta _ mw625) (hta _ mw61) (hta _ mw626) (Nat.le_of_ble_eq_true rfl) (Nat.le_of_ble_eq_true rfl) (Nat.zero_le _) (Nat.zero_le _) dX4_begin_58 ?_
    refine lv_topi (fun x4 ex4 => ?_)
    obtain rfl : x4 = imax 1 (wk + (sI S 11 i)) := ex4
    refine lv_iadd hx hb dX4_begin_61 ?_
    refine put_endsAt_1 (v := (tm + (imax 1 (wk + (sI S 11 i))) : Int32)) hx hb hta iwX4 hown hK hP hD hS hR hi (hta _ mw256) dX4_begin_62 (fun H locs f hP hD hS hR => ?_)
    exact W.vret hx hb hr (fun t ht hWm => gend_v (u := (uI (uI (uR (uI (uI S 15 i (sI S 21 (sN S 7 o))) 14 i 111) 1 i (some o)) 17 i tm) 18 i (tm + (imax 1 (wk + (sI S 11 i)))), ad, L, f)) ⟨by simp only [mbS, if_neg c1]; (try rfl), rfl, rfl⟩ hR hP hK hD hS ht hWm) hS.2.2 dX4_begin_65

set_option maxHeartbeats 4000000 in
set_option maxRecDepth 100000 in
theorem c_X4_end (l : Launch) {D : va_G} {tA : Nat → ClassId} {S : St} {ad : Nat → Nat → Nat} {L : List Nat} {f : Nat → va_E} {sz : Nat} (hR : Rep tA S ad L f) (hW : WT S) {i : Nat} (hi : i < sN S 0 0) (k tm : Int32) : Met l yX4_end (wsC yX4_end cX4_end 3 none) ({ frames := 0, cells := 0, slots := 0, locals := 0 }) (va_Pc [.ref (ad 1 i), .int k, .int tm] (gZ D tA L f sz)) (va_Qv (fun (u : gU) => meS S i k tm = u.1 ∧ ad = u.2.1 ∧ L = u.2.2.1) (gE D tA (va_A (va_pl L f) sz)) (va_A (va_pl L f) sz)) 0 0 (va_A (va_pl L f) sz) := by
  refine Met.ofW (cc := cX4_end) (maxL := 3) (ret := none) (by decide) rfl ?_
  intro p e s m args below meth c s₁ B hml hv
  obtain ⟨rfl, hsz, hP, hK, hD0⟩ := hv
  have hx := B.exec
  have hb := B.bytes
  have hr := B.returns
  have hts := atoms_spec (ws := wsC yX4_end cX4_end 3 none) B.pre
  have hta : ∀ w ∈ WA, w.before _ s = true := fun w h => hts w (List.mem_cons_of_mem _ h)
  have hown : s.vm.findClass RX4 = some m.cls := findClass_of_methodNamed B.named
  have hlocks := B.notSynchronized
  subst hsz
  have hD : va_D (va_A (va_pl L f) s.heap.size) (va_pl L f) := hD0.self (sz := s.heap.size)
  generalize hAe : va_A (va_pl L f) s.heap.size = A at hD ⊢
  have hA : ∀ q : Nat, s.heap.size ≤ q → A q := fun q h => by rw [← hAe]; exact Or.inr h
  have hS : va_S A s.heap s.heap [] := va_S.rf
  have hP : va_P D vwCl (va_pl L f) s.heap := hP
  have hl := lv_entry ([.ref (ad 1 i), .int k, .int tm]) (n := 3) (Nat.le_of_ble_eq_true rfl)
  rw [lg_entry_eq]
  generalize (lg_sl ([.ref (ad 1 i), .int k, .int tm]) ++ List.replicate (3 - (lg_sl ([.ref (ad 1 i), .int k, .int tm])).length) Slot.unset).toArray = ls at hl ⊢
  have hl : lv_has ls 3 [(0, .ref (ad 1 i)), (1, .int k), (2, .int tm)] := hl
  refine lv_aload_n hx hb dX4_end_0 rfl (lv_at hl 0 rfl) ?_
  refine lv_dup hx hb dX4_end_1 rfl ?_
  refine get_busy_1 hx hb hta iwX4 hown hK hP hR hi (hta _ mw258) dX4_end_2 ?_
  refine lv_iload_n hx hb dX4_end_5 rfl (lv_at hl 2 rfl) ?_
  refine lv_aload_n hx hb dX4_end_6 rfl (lv_at hl 0 rfl) ?_
  refine get_begunAt_1 hx hb hta iwX4 hown hK hP hR hi (hta _ mw254) dX4_end_7 ?_
  refine lv_isub hx hb dX4_end_10 ?_
  refine lv_iadd hx hb dX4_end_11 ?_
  refine put_busy_1 (v := ((sI S 19 i) + (tm - (sI S 17 i)) : Int32)) hx hb hta iwX4 hown hK hP hD hS hR hi (hta _ mw258) dX4_end_12 (fun H locs f hP hD hS hR => ?_)
  refine lv_aload_n hx hb dX4_end_15 rfl (lv_at hl 0 rfl) ?_
  refine lv_null hx hb dX4_end_16 ?_
  refine put_doing_1 (v := (none : Option Nat)) hx hb hta iwX4 hown hK hP hD hS hR hi (hta _ mw259) dX4_end_17 (fun H locs f hP hD hS hR => ?_)
  refine lv_aload_n hx hb dX4_end_20 rfl (lv_at hl 0 rfl) ?_
  refine lv_bipush (v := 45) hx hb dX4_end_21 (by decide) ?_
  refine put_state_1 (v := (45 : Int32)) hx hb hta iwX4 hown hK hP hD hS hR hi (hta _ mw250) (by decide) (by decide) dX4_end_23 (fun H locs f hP hD hS hR => ?_)
  refine lv_aload_n hx hb dX4_end_26 rfl (lv_at hl 0 rfl) ?_
  refine lv_dup hx hb dX4_end_27 rfl ?_
  refine get_wear_1 hx hb hta iwX4 hown hK hP hR hi (hta _ mw253) dX4_end_28 ?_
  refine lv_topi (fun x1 ex1 => ?_)
  obtain rfl := ex1.trans ((show sI (uI (uR (uI S 19 i ((sI S 19 i) + (tm - (sI S 17 i)))) 1 i none) 14 i 45) 16 i = sI (uR (uI S 19 i ((sI S 19 i) + (tm - (sI S 17 i)))) 1 i none) 16 i from up2_nk (sI (uR (uI S 19 i ((sI S 19 i) + (tm - (sI S 17 i)))) 1 i none)) (k := 14) (i := i) (k' := 16) (i' := i) 45 (by decide)).trans (show sI (uI S 19 i ((sI S 19 i) + (tm - (sI S 17 i)))) 16 i = sI S 16 i from up2_nk (sI S) (k := 19) (i := i) (k' := 16) (i' := i) ((sI S 19 i) + (tm - (sI S 17 i))) (by decide)))
  refine lv_iload_n hx hb dX4_end_31 rfl (lv_at hl 1 rfl) ?_
  refine lv_iadd hx hb dX4_end_32 ?_
  refine put_wear_1 (v := ((sI S 16 i) + k : Int32)) hx hb hta iwX4 hown hK hP hD hS hR hi (hta _ mw253) dX4_end_33 (fun H locs f hP hD hS hR => ?_)
  refine lv_aload_n hx hb dX4_end_36 rfl (lv_at hl 0 rfl) ?_
  refine get_wear_1 hx hb hta iwX4 hown hK hP hR hi (hta _ mw253) dX4_end_37 ?_
  refine lv_topi (fun x2 ex2 => ?_)
  obtain rfl := ex2.trans (show sI (uI (uI (uR (uI S 19 i ((sI S 19 i) + (tm - (sI S 17 i)))) 1 i none) 14 i 45) 16 i ((sI S 16 i) + k)) 16 i = (sI S 16 i) + k from up2_self (sI (uI (uR (uI S 19 i ((sI S 19 i) + (tm - (sI S 17 i)))) 1 i none) 14 i 45)) 16 i ((sI S 16 i) + k))
  refine lv_aload_n hx hb dX4_end_40 rfl (lv_at hl 0 rfl) ?_
  refine get_life_1 hx hb hta iwX4 hown hK hP hR hi (hta _ mw248) dX4_end_41 ?_
  refine lv_topi (fun x3 ex3 => ?_)
  obtain rfl := ex3.trans ((show sI (uI (uI (uR (uI S 19 i ((sI S 19 i) + (tm - (sI S 17 i)))) 1 i none) 14 i 45) 16 i ((sI S 16 i) + k)) 12 i = sI (uI (uR (uI S 19 i ((sI S 19 i) + (tm - (sI S 17 i)))) 1 i none) 14 i 45) 12 i from up2_nk (sI (uI (uR (uI S 19 i ((sI S 19 i) + (tm - (sI S 17 i)))) 1 i none) 14 i 45)) (k := 16) (i := i) (k' := 12) (i' := i) ((sI S 16 i) + k) (by decide)).trans ((show sI (uI (uR (uI S 19 i ((sI S 19 i) + (tm - (sI S 17 i)))) 1 i none) 14 i 45) 12 i = sI (uR (uI S 19 i ((sI S 19 i) + (tm - (sI S 17 i)))) 1 i none) 12 i from up2_nk (sI (uR (uI S 19 i ((sI S 19 i) + (tm - (sI S 17 i)))) 1 i none)) (k := 14) (i := i) (k' := 12) (i' := i) 45 (by decide)).trans (show sI (uI S 19 i ((sI S 19 i) + (tm - (sI S 17 i)))) 12 i = sI S 12 i from up2_nk (sI S) (k := 19) (i := i) (k' := 12) (i' := i) ((sI S 19 i) + (tm - (sI S 17 i))) (by decide))))
  refine lv_icmp_lt (tgt := 68) hx hb dX4_end_44 (by decide) (fun c4 => ?_) (fun c4 => ?_)
  · skip
    exact W.vret hx hb hr (fun t ht hWm => gend_v (u := (uI (uI (uR (uI S 19 i ((sI S 19 i) + (tm - (sI S 17 i)))) 1 i none) 14 i 45) 16 i ((sI S 16 i) + k), ad, L, f)) ⟨by simp only [meS, if_pos c4]; (try rfl), rfl, rfl⟩ hR hP hK hD hS ht hWm) hS.2.2 dX4_end_68
  · skip
    refine lv_aload_n hx hb dX4_end_47 rfl (lv_at hl 0 rfl) ?_
    refine lv_iconst (v := 0) hx hb dX4_end_48 (by decide) ?_
    refine put_wear_1 (v := (0 : Int32)) hx hb hta iwX4 hown hK hP hD hS hR hi (hta _ mw253) dX4_end_49 (fun H locs f hP hD hS hR => ?_)
    refine lv_aload_n hx hb dX4_end_52 rfl (lv_at hl 0 rfl) ?_
    refine lv_bipush (v := 98) hx hb dX4_end_53 (by decide) ?_
    refine put_state_1 (v := (98 : Int32)) hx hb hta iwX4 hown hK hP hD hS hR hi (hta _ mw250) (by decide) (by decide) dX4_end_55 (fun H locs f hP hD hS hR => ?_)
    refine lv_aload_n hx hb dX4_end_58 rfl (lv_at hl 0 rfl) ?_
    refine lv_iload_n hx hb dX4_end_59 rfl (lv_at hl 2 rfl) ?_
    refine lv_aload_n hx hb dX4_end_60 rfl (lv_at hl 0 rfl) ?_
    refine get_repair_1 hx hb hta iwX4 hown hK hP hR hi (hta _ mw249) dX4_end_61 ?_
    refine lv_topi (fun x5 ex5 => ?_)
    obtain rfl := ex5.trans ((show sI (uI (uI (uI (uI (uR (uI S 19 i ((sI S 19 i) + (tm - (sI S 17 i)))) 1 i none) 14 i 45) 16 i ((sI S 16 i) + k)) 16 i 0) 14 i 98) 13 i = sI (uI (uI (uI (uR (uI S 19 i ((sI S 19 i) + (tm - (sI S 17 i)))) 1 i none) 14 i 45) 16 i ((sI S 16 i) + k)) 16 i 0) 13 i from up2_nk (sI (uI (uI (uI (uR (uI S 19 i ((sI S 19 i) + (tm - (sI S 17 i)))) 1 i none) 14 i 45) 16 i ((sI S 16 i) + k)) 16 i 0)) (k := 14) (i := i) (k' := 13) (i' := i) 98 (by decide)).trans ((show sI (uI (uI (uI (uR (uI S 19 i ((sI S 19 i) + (tm - (sI S 17 i)))) 1 i none) 14 i 45) 16 i ((sI S 16 i) + k)) 16 i 0) 13 i = sI (uI (uI (uR (uI S 19 i ((sI S 19 i) + (tm - (sI S 17 i)))) 1 i none) 14 i 45) 16 i ((sI S 16 i) + k)) 13 i from up2_nk (sI (uI (uI (uR (uI S 19 i ((sI S 19 i) + (tm - (sI S 17 i)))) 1 i none) 14 i 45) 16 i ((sI S 16 i) + k))) (k := 16) (i := i) (k' := 13) (i' := i) 0 (by decide)).trans ((show sI (uI (uI (uR (uI S 19 i ((sI S 19 i) + (tm - (sI S 17 i)))) 1 i none) 14 i 45) 16 i ((sI S 16 i) + k)) 13 i = sI (uI (uR (uI S 19 i ((sI S 19 i) + (tm - (sI S 17 i)))) 1 i none) 14 i 45) 13 i from up2_nk (sI (uI (uR (uI S 19 i ((sI S 19 i) + (tm - (sI S 17 i)))) 1 i none) 14 i 45)) (k := 16) (i := i) (k' := 13) (i' := i) ((sI S 16 i) + k) (by decide)).trans ((show sI (uI (uR (uI S 19 i ((sI S 19 i) + (tm - (sI S 17 i)))) 1 i none) 14 i 45) 13 i = sI (uR (uI S 19 i ((sI S 19 i) + (tm - (sI S 17 i)))) 1 i none) 13 i from up2_nk (sI (uR (uI S 19 i ((sI S 19 i) + (tm - (sI S 17 i)))) 1 i none)) (k := 14) (i := i) (k' := 13) (i' := i) 45 (by decide)).trans (show sI (uI S 19 i ((sI S 19 i) + (tm - (sI S 17 i)))) 13 i = sI S 13 i from up2_nk (sI S) (k := 19) (i := i) (k' := 13) (i' := i) ((sI S 19 i) + (tm - (sI S 17 i))) (by decide))))))
    refine lv_iadd hx hb dX4_end_64 ?_
    refine put_endsAt_1 (v := (tm + (sI S 13 i) : Int32)) hx hb hta iwX4 hown hK hP hD hS hR hi (hta _ mw256) dX4_end_65 (fun H locs f hP hD hS hR => ?_)
    exact W.vret hx hb hr (fun t ht hWm => gend_v (u := (uI (uI (uI (uI (uI (uR (uI S 19 i ((sI S 19 i) + (tm - (sI S 17 i)))) 1 i none) 14 i 45) 16 i ((sI S 16 i) + k)) 16 i 0) 14 i 98) 18 i (tm + (sI S 13 i)), ad, L, f)) ⟨by simp only [meS, if_neg c4]; (try rfl), rfl, rfl⟩ hR hP hK hD hS ht hWm) hS.2.2 dX4_end_68

set_option maxHeartbeats 4000000 in
set_option maxRecDepth 100000 in
theorem c_X4_busyUntil (l : Launch) {D : va_G} {tA : Nat → ClassId} {S : St} {ad : Nat → Nat → Nat} {L : List Nat} {f : Nat → va_E} (hR : Rep tA S ad L f) (hW : WT S) {i : Nat} (hi : i < sN S 0 0) (tm : Int32) : Met l yX4_busyUntil (wsC yX4_busyUntil cX4_busyUntil 2 (some .int)) ({ frames := 0, cells := 0, slots := 0, locals := 0 }) (va_Pc [.ref (ad 1 i), .int tm] (gB D tA L f)) (vp_Si (fun r => r = buN S i tm)) 0 0 (fun _ => False) := by
  refine Met.ofW (cc := cX4_busyUntil) (maxL := 2) (ret := (some .int)) (by decide) rfl ?_
  intro p e s m args below meth c s₁ B hml hv
  obtain ⟨rfl, hP, hK, hD⟩ := hv
  have hx := B.exec
  have hb := B.bytes
  have hr := B.returns
  have hts := atoms_spec (ws := wsC yX4_busyUntil cX4_busyUntil 2 (some .int)) B.pre
  have hta : ∀ w ∈ WA, w.before _ s = true := fun w h => hts w (List.mem_cons_of_mem _ h)
  have hown : s.vm.findClass RX4 = some m.cls := findClass_of_methodNamed B.named
  have hlocks := B.notSynchronized
  have hP : va_P D vwCl (va_pl L f) s.heap := hP
  have hl := lv_entry ([.ref (ad 1 i), .int tm]) (n := 2) (Nat.le_of_ble_eq_true rfl)
  rw [lg_entry_eq]
  generalize (lg_sl ([.ref (ad 1 i), .int tm]) ++ List.replicate (2 - (lg_sl ([.ref (ad 1 i), .int tm])).length) Slot.unset).toArray = ls at hl ⊢
  have hl : lv_has ls 2 [(0, .ref (ad 1 i)), (1, .int tm)] := hl
  refine lv_aload_n hx hb dX4_busyUntil_0 rfl (lv_at hl 0 rfl) ?_
  refine get_doing_1 hx hb hta iwX4 hown hK hP hR hi (hta _ mw259) dX4_busyUntil_1 ?_
  rcases h1 : sR S 1 i with _ | o2
  · rw [rf_none]
    refine lv_ifnullN (tgt := 21) hx hb dX4_busyUntil_4 (by decide) ?_
    refine lv_aload_n hx hb dX4_busyUntil_21 rfl (lv_at hl 0 rfl) ?_
    refine get_busy_1 hx hb hta iwX4 hown hK hP hR hi (hta _ mw258) dX4_busyUntil_22 ?_
    exact W.iret (v := (sI S 19 i)) hx hb hr (fun t ht hWm => ⟨_, rfl, (by rw [buN, if_pos h1]), ht⟩) (fun q h => absurd h List.not_mem_nil) dX4_busyUntil_25
  · rw [rf_some]
    have v3 := hW.doing hi h1
    refine lv_ifnull hx hb dX4_busyUntil_4 ?_
    refine lv_aload_n hx hb dX4_busyUntil_7 rfl (lv_at hl 0 rfl) ?_
    refine get_busy_1 hx hb hta iwX4 hown hK hP hR hi (hta _ mw258) dX4_busyUntil_8 ?_
    refine lv_iload_n hx hb dX4_busyUntil_11 rfl (lv_at hl 1 rfl) ?_
    refine lv_iadd hx hb dX4_busyUntil_12 ?_
    refine lv_aload_n hx hb dX4_busyUntil_13 rfl (lv_at hl 0 rfl) ?_
    refine get_begunAt_1 hx hb hta iwX4 hown hK hP hR hi (hta _ mw254) dX4_busyUntil_14 ?_
    refine lv_isub hx hb dX4_busyUntil_17 ?_
    refine lv_goto (tgt := 25) hx hb dX4_busyUntil_18 (by decide) ?_
    exact W.iret (v := (((sI S 19 i) + tm) - (sI S 17 i))) hx hb hr (fun t ht hWm => ⟨_, rfl, (by rw [buN, if_neg (by rw [h1]; exact fun q => by cases q)]), ht⟩) (fun q h => absurd h List.not_mem_nil) dX4_busyUntil_25

