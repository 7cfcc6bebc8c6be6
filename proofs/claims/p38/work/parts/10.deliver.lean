/-! deliveries, what isSound looks at, beginNext (made by wip/gen/spec_d.py) -/
/-- a machine that is free begins the next job that waits for it -/
def bnS (S : St) (i : Nat) : St := if sI S 14 i = 45 then (match fwO S i with
  | none => S
  | some o => match opAt S (sN S 7 o) (sI S 62 o) with
    | none => S
    | some q => uR (uI (mbS S i o (sI S 32 q * sI S 60 o) (sI S 2 0)) 53 o 111) 3 o none) else S
set_option maxHeartbeats 4000000 in
set_option maxRecDepth 100000 in
theorem c_X10_beginNext (l : Launch) {D : va_G} {tA : Nat → ClassId} {S : St} {ad : Nat → Nat → Nat} {L : List Nat} {f : Nat → va_E} {sz : Nat} (hR : Rep tA S ad L f) (hW : WT S) {i : Nat} (hi : i < sN S 0 0) : Met l yX10_beginNext (wsC yX10_beginNext cX10_beginNext 4 none) ({ frames := 2, cells := 0, slots := 0, locals := 45 }) (va_Pc [.ref (ad 0 0), .ref (ad 1 i)] (gZ D tA L f sz)) (va_Qv (fun (u : gU) => bnS S i = u.1 ∧ ad = u.2.1 ∧ L = u.2.2.1) (gE D tA (va_A (va_pl L f) sz)) (va_A (va_pl L f) sz)) 0 0 (va_A (va_pl L f) sz) := by
  refine Met.ofW (cc := cX10_beginNext) (maxL := 4) (ret := none) (by decide) rfl ?_
  intro p e s m args below meth c s₁ B hml hv
  obtain ⟨rfl, hsz, hP, hK, hD0⟩ := hv
  have hx := B.exec
  have hb := B.bytes
  have hr := B.returns
  have hts := atoms_spec (ws := wsC yX10_beginNext cX10_beginNext 4 none) B.pre
  have hta : ∀ w ∈ WA, w.before _ s = true := fun w h => hts w (List.mem_cons_of_mem _ h)
  have hown : s.vm.findClass RX10 = some m.cls := findClass_of_methodNamed B.named
  have hlocks := B.notSynchronized
  subst hsz
  have hD : va_D (va_A (va_pl L f) s.heap.size) (va_pl L f) := hD0.self (sz := s.heap.size)
  generalize hAe : va_A (va_pl L f) s.heap.size = A at hD ⊢
  have hA : ∀ q : Nat, s.heap.size ≤ q → A q := fun q h => by rw [← hAe]; exact Or.inr h
  have hS : va_S A s.heap s.heap [] := va_S.rf
  have hP : va_P D vwCl (va_pl L f) s.heap := hP
  have hl := lv_entry ([.ref (ad 0 0), .ref (ad 1 i)]) (n := 4) (Nat.le_of_ble_eq_true rfl)
  rw [lg_entry_eq]
  generalize (lg_sl ([.ref (ad 0 0), .ref (ad 1 i)]) ++ List.replicate (4 - (lg_sl ([.ref (ad 0 0), .ref (ad 1 i)])).length) Slot.unset).toArray = ls at hl ⊢
  have hl : lv_has ls 4 [(0, .ref (ad 0 0)), (1, .ref (ad 1 i))] := hl
  refine lv_aload_n hx hb dX10_beginNext_0 rfl (lv_at hl 1 rfl) ?_
  refine get_state_1 hx hb hta iwX4 hown hK hP hR hi (hta _ mw251) dX10_beginNext_1 ?_
  refine lv_bipush (v := 45) hx hb dX10_beginNext_4 (by decide) ?_
  refine lv_icmp_ne (tgt := 17) hx hb dX10_beginNext_6 (by decide) (fun c1 => ?_) (fun c1 => ?_)
  · skip
    refine lv_null hx hb dX10_beginNext_17 ?_
    refine lv_astore_nN (lv' := [(2, .null), (0, .ref (ad 0 0)), (1, .ref (ad 1 i))]) hx hb dX10_beginNext_18 rfl hl (by decide) rfl (fun ls hl => ?_)
    refine lv_aload_nN hx hb dX10_beginNext_19 rfl (lv_at hl 0 rfl) ?_
    refine lv_ifnonnullN hx hb dX10_beginNext_20 ?_
    exact W.vret hx hb hr (fun t ht hWm => gend_v (u := (S, ad, L, f)) ⟨by simp only [bnS, if_neg c1]; (try rfl), rfl, rfl⟩ hR hP hK hD hS ht hWm) hS.2.2 dX10_beginNext_23
  · skip
    refine lv_aload_n hx hb dX10_beginNext_9 rfl (lv_at hl 0 rfl) ?_
    refine lv_aload_n hx hb dX10_beginNext_10 rfl (lv_at hl 1 rfl) ?_
    obtain ⟨q2, e3⟩ := cell_0 hR (rfl : (0 : Nat) = 0)
    refine gro_q (ci := 12) (As := [.ref (ad 1 i)]) (rest := []) ⟨hx, hb, hml, hown, hta⟩ (c_X10_firstWaiting l hR hW hi) (cwV 1 hta (gWV mw617 mw618 mw30 mw40 mw619) rfl rfl rfl (by decide +kernel) ⟨Nat.le_of_ble_eq_true rfl, Nat.le_of_ble_eq_true rfl⟩) hK hP hD rfl e3 rfl hl.1 rfl (Nat.le_of_ble_eq_true rfl) dX10_beginNext_11 ⟨Nat.zero_le _, Nat.zero_le _⟩ (fun r4 c5 => ?_)
    obtain rfl := c5
    change W _ _ _ _ _ _ _ _ _ _ _ _ _ _ _ (F0 _ _ _ (rf ad 11 (fwO S i) :: []))
    rcases h6 : fwO S i with _ | o7
    · rw [rf_none]
      refine lv_goto (tgt := 18) hx hb dX10_beginNext_14 (by decide) ?_
      refine lv_astore_nN (lv' := [(2, .null), (0, .ref (ad 0 0)), (1, .ref (ad 1 i))]) hx hb dX10_beginNext_18 rfl hl (by decide) rfl (fun ls hl => ?_)
      refine lv_aload_nN hx hb dX10_beginNext_19 rfl (lv_at hl 0 rfl) ?_
      refine lv_ifnonnullN hx hb dX10_beginNext_20 ?_
      exact W.vret hx hb hr (fun t ht hWm => gend_v (u := (S, ad, L, f)) ⟨by simp only [bnS, if_pos c1, h6]; (try rfl), rfl, rfl⟩ hR hP hK hD hS ht hWm) hS.2.2 dX10_beginNext_23
    · rw [rf_some]
      have v8 := (fwL_in h6).1
      refine lv_goto (tgt := 18) hx hb dX10_beginNext_14 (by decide) ?_
      refine lv_astore_n (lv' := [(2, .ref (ad 11 o7)), (0, .ref (ad 0 0)), (1, .ref (ad 1 i))]) hx hb dX10_beginNext_18 rfl hl (by decide) rfl (fun ls hl => ?_)
      refine lv_aload_n hx hb dX10_beginNext_19 rfl (lv_at hl 0 rfl) ?_
      refine lv_ifnonnull (tgt := 24) hx hb dX10_beginNext_20 (by decide) ?_
      refine lv_aload_n hx hb dX10_beginNext_24 rfl (lv_at hl 0 rfl) ?_
      refine get_part_11 hx hb hta iwX7 hown hK hP hR v8 (hta _ mw533) dX10_beginNext_25 ?_
      refine lv_aload_n hx hb dX10_beginNext_28 rfl (lv_at hl 0 rfl) ?_
      refine get_job_11 hx hb hta iwX7 hown hK hP hR v8 (hta _ mw541) dX10_beginNext_29 ?_
      refine get_operation_12 hx hb hta iwX2 hown hK hP hR v8 (hta _ mw520) dX10_beginNext_32 ?_
      obtain ⟨q9, e10⟩ := cell_2 hR (hW.ordPart v8)
      refine gro_q (ci := 10) (As := [.int (sI S 62 o7)]) (rest := []) ⟨hx, hb, hml, hown, hta⟩ (c_X8_operationAt l hR hW (hW.ordPart v8) (sI S 62 o7)) (cwV 1 hta (gWV mw590 mw591 mw592 mw49 mw593) rfl rfl rfl (by decide +kernel) ⟨Nat.le_of_ble_eq_true rfl, Nat.le_of_ble_eq_true rfl⟩) hK hP hD rfl e10 rfl hl.1 rfl (Nat.le_of_ble_eq_true rfl) dX10_beginNext_35 ⟨Nat.zero_le _, Nat.zero_le _⟩ (fun r11 c12 => ?_)
      obtain rfl := c12
      change W _ _ _ _ _ _ _ _ _ _ _ _ _ _ _ (F0 _ _ _ (rf ad 5 (opAt S (sN S 7 o7) (sI S 62 o7)) :: []))
      rcases h13 : opAt S (sN S 7 o7) (sI S 62 o7) with _ | o14
      · rw [rf_none]
        refine lv_astore_nN (lv' := [(3, .null), (2, .ref (ad 11 o7)), (0, .ref (ad 0 0)), (1, .ref (ad 1 i))]) hx hb dX10_beginNext_38 rfl hl (by decide) rfl (fun ls hl => ?_)
        refine lv_aload_nN hx hb dX10_beginNext_39 rfl (lv_at hl 0 rfl) ?_
        refine lv_ifnullN (tgt := 78) hx hb dX10_beginNext_40 (by decide) ?_
        exact W.vret hx hb hr (fun t ht hWm => gend_v (u := (S, ad, L, f)) ⟨by simp only [bnS, if_pos c1, h6, h13]; (try rfl), rfl, rfl⟩ hR hP hK hD hS ht hWm) hS.2.2 dX10_beginNext_78
      · rw [rf_some]
        have v15 := opAt_V hW (by first | exact hW.ordPart (by assumption) | assumption) h13
        refine lv_astore_n (lv' := [(3, .ref (ad 5 o14)), (2, .ref (ad 11 o7)), (0, .ref (ad 0 0)), (1, .ref (ad 1 i))]) hx hb dX10_beginNext_38 rfl hl (by decide) rfl (fun ls hl => ?_)
        refine lv_aload_n hx hb dX10_beginNext_39 rfl (lv_at hl 0 rfl) ?_
        refine lv_ifnull hx hb dX10_beginNext_40 ?_
        refine lv_aload_n hx hb dX10_beginNext_43 rfl (lv_at hl 3 rfl) ?_
        refine lv_aload_n hx hb dX10_beginNext_44 rfl (lv_at hl 1 rfl) ?_
        refine lv_aload_n hx hb dX10_beginNext_45 rfl (lv_at hl 0 rfl) ?_
        refine get_time_5 hx hb hta iwX6 hown hK hP hR v15 (hta _ mw379) dX10_beginNext_46 ?_
        refine lv_aload_n hx hb dX10_beginNext_49 rfl (lv_at hl 1 rfl) ?_
        refine get_job_11 hx hb hta iwX7 hown hK hP hR v8 (hta _ mw541) dX10_beginNext_50 ?_
        refine get_pieces_12 hx hb hta iwX2 hown hK hP hR v8 (hta _ mw517) dX10_beginNext_53 ?_
        refine lv_imul hx hb dX10_beginNext_56 ?_
        refine lv_aload_n hx hb dX10_beginNext_57 rfl (lv_at hl 2 rfl) ?_
        refine get_now_0 hx hb hta iwX10 hown hK hP hR (rfl : (0 : Nat) = 0) (hta _ mw107) dX10_beginNext_58 ?_
        obtain ⟨q16, e17⟩ := cell_1 hR hi
        refine gwr_v (mc := 0) (ms := 0) (ci := 6) (As := [.ref (ad 11 o7), .int ((sI S 32 o14) * (sI S 60 o7)), .int (sI S 2 0)]) (rest := []) ⟨hx, hb, hml, hown, hta⟩ (c_X4_begin l hR hW hi v8 ((sI S 32 o14) * (sI S 60 o7)) (sI S 2 0)) (cwV 3 hta (gWV mw620 mw621 mw622 mw48 mw623) rfl rfl rfl (by decide +kernel) ⟨Nat.le_of_ble_eq_true rfl, Nat.le_of_ble_eq_true rfl⟩) hK hP hD hS hA rfl e17 rfl hl.1 rfl (Nat.le_of_ble_eq_true rfl) dX10_beginNext_61 ⟨Nat.zero_le _, Nat.zero_le _⟩ (fun u H locs hw hR hP hD hS => ?_)
        obtain ⟨S9, ad9, L9, f⟩ := u
        obtain ⟨rfl, rfl, rfl⟩ := hw
        dsimp only at hR hP hD
        refine lv_aload_n hx hb dX10_beginNext_64 rfl (lv_at hl 1 rfl) ?_
        refine lv_bipush (v := 111) hx hb dX10_beginNext_65 (by decide) ?_
        refine put_state_11 (v := (111 : Int32)) hx hb hta iwX7 hown hK hP hD hS hR v8 (hta _ mw546) (by decide) (by decide) dX10_beginNext_67 (fun H locs f hP hD hS hR => ?_)
        refine lv_aload_n hx hb dX10_beginNext_70 rfl (lv_at hl 1 rfl) ?_
        refine get_job_11 hx hb hta iwX7 hown hK hP hR v8 (hta _ mw541) dX10_beginNext_71 ?_
        refine lv_null hx hb dX10_beginNext_74 ?_
        refine put_waitsAt_12 (v := (none : Option Nat)) hx hb hta iwX2 hown hK hP hD hS hR v8 (hta _ mw525) dX10_beginNext_75 (fun H locs f hP hD hS hR => ?_)
        exact W.vret hx hb hr (fun t ht hWm => gend_v (u := (uR (uI ((mbS S i o7 ((sI S 32 o14) * (sI S 60 o7)) (sI S 2 0))) 53 o7 111) 3 o7 none, ad, L, f)) ⟨by simp only [bnS, if_pos c1, h6, h13]; (try rfl), rfl, rfl⟩ hR hP hK hD hS ht hWm) hS.2.2 dX10_beginNext_78

/-- a lot, and all that is in it, comes into a set -/
def sAddW (S : St) (k i j : Nat) : St := uJ (uJ (sAdd S k i j) (2 * k) i (sJ (sAdd S k i j) (2 * k) i ||| sJ (sAdd S k i j) 16 j)) (2 * k + 1) i (sJ (sAdd S k i j) (2 * k + 1) i ||| sJ (sAdd S k i j) 17 j)
set_option maxHeartbeats 4000000 in
set_option maxRecDepth 100000 in
theorem c_X5_addWith (l : Launch) {D : va_G} {tA : Nat → ClassId} {S : St} {ad : Nat → Nat → Nat} {L : List Nat} {f : Nat → va_E} {sz : Nat} (hR : Rep tA S ad L f) (hW : WT S) {k i j : Nat} (hk : isNS k = true ∧ V S k i) (hj : j < sN S 2 0) : Met l yX5_addWith (wsC yX5_addWith cX5_addWith 2 none) ({ frames := 1, cells := 0, slots := 0, locals := 21 }) (va_Pc [.ref (ad k i), .ref (ad 7 j)] (gZ D tA L f sz)) (va_Qv (fun (u : gU) => sAddW S k i j = u.1 ∧ ad = u.2.1 ∧ L = u.2.2.1) (gE D tA (va_A (va_pl L f) sz)) (va_A (va_pl L f) sz)) 0 0 (va_A (va_pl L f) sz) := by
  refine Met.ofW (cc := cX5_addWith) (maxL := 2) (ret := none) (by decide) rfl ?_
  intro p e s m args below meth c s₁ B hml hv
  obtain ⟨rfl, hsz, hP, hK, hD0⟩ := hv
  have hx := B.exec
  have hb := B.bytes
  have hr := B.returns
  have hts := atoms_spec (ws := wsC yX5_addWith cX5_addWith 2 none) B.pre
  have hta : ∀ w ∈ WA, w.before _ s = true := fun w h => hts w (List.mem_cons_of_mem _ h)
  have hown : s.vm.findClass RX5 = some m.cls := findClass_of_methodNamed B.named
  have hlocks := B.notSynchronized
  subst hsz
  have hD : va_D (va_A (va_pl L f) s.heap.size) (va_pl L f) := hD0.self (sz := s.heap.size)
  generalize hAe : va_A (va_pl L f) s.heap.size = A at hD ⊢
  have hA : ∀ q : Nat, s.heap.size ≤ q → A q := fun q h => by rw [← hAe]; exact Or.inr h
  have hS : va_S A s.heap s.heap [] := va_S.rf
  have hP : va_P D vwCl (va_pl L f) s.heap := hP
  have hl := lv_entry ([.ref (ad k i), .ref (ad 7 j)]) (n := 2) (Nat.le_of_ble_eq_true rfl)
  rw [lg_entry_eq]
  generalize (lg_sl ([.ref (ad k i), .ref (ad 7 j)]) ++ List.replicate (2 - (lg_sl ([.ref (ad k i), .ref (ad 7 j)])).length) Slot.unset).toArray = ls at hl ⊢
  have hl : lv_has ls 2 [(0, .ref (ad k i)), (1, .ref (ad 7 j))] := hl
  refine lv_aload_n hx hb dX5_addWith_0 rfl (lv_at hl 0 rfl) ?_
  refine lv_aload_n hx hb dX5_addWith_1 rfl (lv_at hl 1 rfl) ?_
  refine get_number_7 hx hb hta iwX3 hown hK hP hR hj (hta _ mw406) dX5_addWith_2 ?_
  obtain ⟨q1, e2⟩ := cell_ns hR hk
  refine gwr_v (mc := 0) (ms := 0) (ci := 7) (As := [.int (nI j)]) (rest := []) ⟨hx, hb, hml, hown, hta⟩ (c_X5_add l hR (k := k) (i := i) hk (j := j) (Nat.lt_of_lt_of_le hj (Nat.le_trans hW.nL (by decide)))) (cwV 1 hta (gWV mw613 mw446 mw447 mw41 mw448) rfl rfl rfl (by decide +kernel) ⟨Nat.le_of_ble_eq_true rfl, Nat.le_of_ble_eq_true rfl⟩) hK hP hD hS hA rfl e2 rfl hl.1 rfl (Nat.le_of_ble_eq_true rfl) dX5_addWith_5 ⟨Nat.zero_le _, Nat.zero_le _⟩ (fun u H locs hw hR hP hD hS => ?_)
  obtain ⟨S9, ad9, L9, f⟩ := u
  obtain ⟨rfl, rfl, rfl⟩ := hw
  dsimp only at hR hP hD
  refine lv_aload_n hx hb dX5_addWith_8 rfl (lv_at hl 0 rfl) ?_
  refine lv_dup hx hb dX5_addWith_9 rfl ?_
  refine get_low_ns hx hb hta iwX5 hown hK hP hR hk (hta _ mw87) dX5_addWith_10 ?_
  refine lv_aload_n hx hb dX5_addWith_13 rfl (lv_at hl 1 rfl) ?_
  refine get_inside_7 hx hb hta iwX3 hown hK hP hR hj (hta _ mw414) dX5_addWith_14 ?_
  refine get_low_8 hx hb hta iwX5 hown hK hP hR hj (hta _ mw87) dX5_addWith_17 ?_
  refine lv_lor hx hb dX5_addWith_20 ?_
  refine put_low_ns (v := ((sJ (sAdd S k i j) ((2 * k)) i) ||| (sJ (sAdd S k i j) 16 j) : Int64)) hx hb hta iwX5 hown hK hP hD hS hR hk (hta _ mw87) dX5_addWith_21 (fun H locs f hP hD hS hR => ?_)
  refine lv_aload_n hx hb dX5_addWith_24 rfl (lv_at hl 0 rfl) ?_
  refine lv_dup hx hb dX5_addWith_25 rfl ?_
  refine get_high_ns hx hb hta iwX5 hown hK hP hR hk (hta _ mw88) dX5_addWith_26 ?_
  refine lv_topl (fun x4 ex4 => ?_)
  obtain rfl := ex4.trans (show sJ (uJ ((sAdd S k i j)) (2 * k) i ((sJ (sAdd S k i j) ((2 * k)) i) ||| (sJ (sAdd S k i j) 16 j))) ((2 * k + 1)) i = sJ ((sAdd S k i j)) ((2 * k + 1)) i from up2_nk (sJ ((sAdd S k i j))) (k := (2 * k)) (i := i) (k' := (2 * k + 1)) (i' := i) ((sJ (sAdd S k i j) ((2 * k)) i) ||| (sJ (sAdd S k i j) 16 j)) (by omega))
  refine lv_aload_n hx hb dX5_addWith_29 rfl (lv_at hl 1 rfl) ?_
  refine get_inside_7 hx hb hta iwX3 hown hK hP hR hj (hta _ mw414) dX5_addWith_30 ?_
  refine get_high_8 hx hb hta iwX5 hown hK hP hR hj (hta _ mw88) dX5_addWith_33 ?_
  refine lv_topl (fun x5 ex5 => ?_)
  obtain rfl := ex5.trans (show sJ (uJ ((sAdd S k i j)) (2 * k) i ((sJ (sAdd S k i j) ((2 * k)) i) ||| (sJ (sAdd S k i j) 16 j))) 17 j = sJ ((sAdd S k i j)) 17 j from up2_nk (sJ ((sAdd S k i j))) (k := (2 * k)) (i := i) (k' := 17) (i' := j) ((sJ (sAdd S k i j) ((2 * k)) i) ||| (sJ (sAdd S k i j) 16 j)) (by omega))
  refine lv_lor hx hb dX5_addWith_36 ?_
  refine put_high_ns (v := ((sJ (sAdd S k i j) ((2 * k + 1)) i) ||| (sJ (sAdd S k i j) 17 j) : Int64)) hx hb hta iwX5 hown hK hP hD hS hR hk (hta _ mw88) dX5_addWith_37 (fun H locs f hP hD hS hR => ?_)
  exact W.vret hx hb hr (fun t ht hWm => gend_v (u := (uJ (uJ ((sAdd S k i j)) (2 * k) i ((sJ (sAdd S k i j) ((2 * k)) i) ||| (sJ (sAdd S k i j) 16 j))) (2 * k + 1) i ((sJ (sAdd S k i j) ((2 * k + 1)) i) ||| (sJ (sAdd S k i j) 17 j)), ad, L, f)) ⟨rfl, rfl, rfl⟩ hR hP hK hD hS ht hWm) hS.2.2 dX5_addWith_40

def doT (S : St) (i o : Nat) (k : Int32) : St := uI (uJ (tkS S i k) 4 o (sJ S 4 o + tkC S i k)) 55 o (sI (uJ (tkS S i k) 4 o (sJ S 4 o + tkC S i k)) 55 o + k)
/-- what is delivered of a lot: how many pieces, and the state behind -/
def doR (S : St) (i : Nat) (w : Int32) : Int32 := if 0 < imin w (free S i) then imin w (free S i) else 0
abbrev doS (S : St) (i o : Nat) (w : Int32) : St := sM S (if 0 < imin w (free S i) then sA (uI (sAddW (doT S i o (imin w (free S i))) 13 o i) 43 i (sI (sAddW (doT S i o (imin w (free S i))) 13 o i) 43 i + imin w (free S i))) else sA S)
set_option maxHeartbeats 4000000 in
set_option maxRecDepth 100000 in
theorem c_X10_deliverOf (l : Launch) {D : va_G} {tA : Nat → ClassId} {S : St} {ad : Nat → Nat → Nat} {L : List Nat} {f : Nat → va_E} {sz : Nat} (hR : Rep tA S ad L f) (hW : WT S) {i o : Nat} (hi : i < sN S 2 0) (ho : o < sN S 3 0) (v : Int32) : Met l yX10_deliverOf (wsC yX10_deliverOf cX10_deliverOf 5 (some .int)) ({ frames := 3, cells := 0, slots := 0, locals := 63 }) (va_Pc [.ref (ad 0 0), .ref (ad 7 i), .int v, .ref (ad 11 o)] (gZ D tA L f sz)) (va_Qi (fun (r : Int32) (u : gU) => r = doR S i v ∧ doS S i o v = u.1 ∧ ad = u.2.1 ∧ L = u.2.2.1) (gE D tA (va_A (va_pl L f) sz)) (va_A (va_pl L f) sz)) 0 0 (va_A (va_pl L f) sz) := by
  refine Met.ofW (cc := cX10_deliverOf) (maxL := 5) (ret := (some .int)) (by decide) rfl ?_
  intro p e s m args below meth c s₁ B hml hv
  obtain ⟨rfl, hsz, hP, hK, hD0⟩ := hv
  have hx := B.exec
  have hb := B.bytes
  have hr := B.returns
  have hts := atoms_spec (ws := wsC yX10_deliverOf cX10_deliverOf 5 (some .int)) B.pre
  have hta : ∀ w ∈ WA, w.before _ s = true := fun w h => hts w (List.mem_cons_of_mem _ h)
  have hown : s.vm.findClass RX10 = some m.cls := findClass_of_methodNamed B.named
  have hlocks := B.notSynchronized
  subst hsz
  have hD : va_D (va_A (va_pl L f) s.heap.size) (va_pl L f) := hD0.self (sz := s.heap.size)
  generalize hAe : va_A (va_pl L f) s.heap.size = A at hD ⊢
  have hA : ∀ q : Nat, s.heap.size ≤ q → A q := fun q h => by rw [← hAe]; exact Or.inr h
  have hS : va_S A s.heap s.heap [] := va_S.rf
  have hP : va_P D vwCl (va_pl L f) s.heap := hP
  have hl := lv_entry ([.ref (ad 0 0), .ref (ad 7 i), .int v, .ref (ad 11 o)]) (n := 5) (Nat.le_of_ble_eq_true rfl)
  rw [lg_entry_eq]
  generalize (lg_sl ([.ref (ad 0 0), .ref (ad 7 i), .int v, .ref (ad 11 o)]) ++ List.replicate (5 - (lg_sl ([.ref (ad 0 0), .ref (ad 7 i), .int v, .ref (ad 11 o)])).length) Slot.unset).toArray = ls at hl ⊢
  have hl : lv_has ls 5 [(0, .ref (ad 0 0)), (1, .ref (ad 7 i)), (2, .int v), (3, .ref (ad 11 o))] := hl
  refine lv_iload_n hx hb dX10_deliverOf_0 rfl (lv_at hl 2 rfl) ?_
  refine lv_aload_n hx hb dX10_deliverOf_1 rfl (lv_at hl 0 rfl) ?_
  refine lv_aload_n hx hb dX10_deliverOf_2 rfl (lv_at hl 1 rfl) ?_
  obtain ⟨q1, e2⟩ := cell_0 hR (rfl : (0 : Nat) = 0)
  refine gro_i (ci := 12) (As := [.ref (ad 7 i)]) (rest := [.int v]) ⟨hx, hb, hml, hown, hta⟩ (c_X10_freePieces l hR hW hi) (cwV 1 hta (gWV mw707 mw708 mw33 mw40 mw709) rfl rfl rfl (by decide +kernel) ⟨Nat.le_of_ble_eq_true rfl, Nat.le_of_ble_eq_true rfl⟩) hK hP hD rfl e2 rfl hl.1 rfl (Nat.le_of_ble_eq_true rfl) dX10_deliverOf_3 ⟨Nat.zero_le _, Nat.zero_le _⟩ (fun r3 c4 => ?_)
  obtain rfl := c4
  refine va_mmin (own := RX10) hx hb (hml.trans hl.1.symm) hown (hta _ mw710) (hta _ mw711) (hta _ mw61) (hta _ mw712) (Nat.le_of_ble_eq_true rfl) (Nat.le_of_ble_eq_true rfl) (Nat.zero_le _) (Nat.zero_le _) dX10_deliverOf_6 ?_
  refine lv_topi (fun x5 ex5 => ?_)
  obtain rfl : x5 = imin v (free S i) := ex5
  refine lv_istore (lv' := [(4, .int (imin v (free S i))), (0, .ref (ad 0 0)), (1, .ref (ad 7 i)), (2, .int v), (3, .ref (ad 11 o))]) hx hb dX10_deliverOf_9 hl (by decide) rfl (fun ls hl => ?_)
  refine lv_iload hx hb dX10_deliverOf_11 (lv_at hl 0 rfl) ?_
  refine lv_if_gt (tgt := 18) hx hb dX10_deliverOf_13 (by decide) (fun c6 => ?_) (fun c6 => ?_)
  · skip
    refine lv_aload_n hx hb dX10_deliverOf_18 rfl (lv_at hl 4 rfl) ?_
    refine lv_dup hx hb dX10_deliverOf_19 rfl ?_
    refine get_deliveredCost_11 hx hb hta iwX7 hown hK hP hR ho (hta _ mw550) dX10_deliverOf_20 ?_
    refine lv_aload_n hx hb dX10_deliverOf_23 rfl (lv_at hl 2 rfl) ?_
    refine lv_iload hx hb dX10_deliverOf_24 (lv_at hl 0 rfl) ?_
    obtain ⟨q7, e8⟩ := cell_7 hR hi
    refine gwr_l (mc := 0) (ms := 0) (ci := 5) (As := [.int (imin v (free S i))]) (rest := [.long (sJ S 4 o), .ref (ad 11 o)]) ⟨hx, hb, hml, hown, hta⟩ (c_X3_take l hR hi (imin v (free S i))) (cwV 1 hta (gWV mw720 mw721 mw722 mw57 mw723) rfl rfl rfl (by decide +kernel) ⟨Nat.le_of_ble_eq_true rfl, Nat.le_of_ble_eq_true rfl⟩) hK hP hD hS hA rfl e8 rfl hl.1 rfl (Nat.le_of_ble_eq_true rfl) dX10_deliverOf_26 ⟨Nat.zero_le _, Nat.zero_le _⟩ (fun r9 u H locs hw hR hP hD hS => ?_)
    obtain ⟨S9, ad9, L9, f⟩ := u
    obtain ⟨rfl, rfl, rfl, rfl⟩ := hw
    dsimp only at hR hP hD
    refine lv_ladd hx hb dX10_deliverOf_29 ?_
    refine put_deliveredCost_11 (v := ((sJ S 4 o) + (tkC S i (imin v (free S i))) : Int64)) hx hb hta iwX7 hown hK hP hD hS hR ho (hta _ mw550) dX10_deliverOf_30 (fun H locs f hP hD hS hR => ?_)
    refine lv_aload_n hx hb dX10_deliverOf_33 rfl (lv_at hl 4 rfl) ?_
    refine lv_dup hx hb dX10_deliverOf_34 rfl ?_
    refine get_delivered_11 hx hb hta iwX7 hown hK hP hR ho (hta _ mw549) dX10_deliverOf_35 ?_
    refine lv_iload hx hb dX10_deliverOf_38 (lv_at hl 0 rfl) ?_
    refine lv_iadd hx hb dX10_deliverOf_40 ?_
    refine put_delivered_11 (v := ((sI (tkS S i (imin v (free S i))) 55 o) + (imin v (free S i)) : Int32)) hx hb hta iwX7 hown hK hP hD hS hR ho (hta _ mw549) dX10_deliverOf_41 (fun H locs f hP hD hS hR => ?_)
    refine lv_aload_n hx hb dX10_deliverOf_44 rfl (lv_at hl 4 rfl) ?_
    refine get_inside_11 hx hb hta iwX7 hown hK hP hR ho (hta _ mw543) dX10_deliverOf_45 ?_
    refine lv_aload_n hx hb dX10_deliverOf_48 rfl (lv_at hl 2 rfl) ?_
    obtain ⟨q10, e11⟩ := cell_13 hR ho
    refine gwr_v (mc := 0) (ms := 0) (ci := 7) (As := [.ref (ad 7 i)]) (rest := []) ⟨hx, hb, hml, hown, hta⟩ (c_X5_addWith l hR hW (k := 13) (i := o) ⟨rfl, ho⟩ hi) (cwV 1 hta (gWV mw609 mw610 mw611 mw41 mw612) rfl rfl rfl (by decide +kernel) ⟨Nat.le_of_ble_eq_true rfl, Nat.le_of_ble_eq_true rfl⟩) hK hP hD hS hA rfl e11 rfl hl.1 rfl (Nat.le_of_ble_eq_true rfl) dX10_deliverOf_49 ⟨Nat.zero_le _, Nat.zero_le _⟩ (fun u H locs hw hR hP hD hS => ?_)
    obtain ⟨S9, ad9, L9, f⟩ := u
    obtain ⟨rfl, rfl, rfl⟩ := hw
    dsimp only at hR hP hD
    refine lv_aload_n hx hb dX10_deliverOf_52 rfl (lv_at hl 2 rfl) ?_
    refine lv_dup hx hb dX10_deliverOf_53 rfl ?_
    refine get_delivered_7 hx hb hta iwX3 hown hK hP hR hi (hta _ mw423) dX10_deliverOf_54 ?_
    refine lv_iload hx hb dX10_deliverOf_57 (lv_at hl 0 rfl) ?_
    refine lv_iadd hx hb dX10_deliverOf_59 ?_
    refine put_delivered_7 (v := ((sI (sAddW (uI (uJ ((tkS S i (imin v (free S i)))) 4 o ((sJ S 4 o) + (tkC S i (imin v (free S i))))) 55 o ((sI (tkS S i (imin v (free S i))) 55 o) + (imin v (free S i)))) 13 o i) 43 i) + (imin v (free S i)) : Int32)) hx hb hta iwX3 hown hK hP hD hS hR hi (hta _ mw423) dX10_deliverOf_60 (fun H locs f hP hD hS hR => ?_)
    refine lv_iload hx hb dX10_deliverOf_63 (lv_at hl 0 rfl) ?_
    exact W.iret (v := (imin v (free S i))) hx hb hr (fun t ht hWm => gend_i (u := (uI ((sAddW (uI (uJ ((tkS S i (imin v (free S i)))) 4 o ((sJ S 4 o) + (tkC S i (imin v (free S i))))) 55 o ((sI (tkS S i (imin v (free S i))) 55 o) + (imin v (free S i)))) 13 o i)) 43 i ((sI (sAddW (uI (uJ ((tkS S i (imin v (free S i)))) 4 o ((sJ S 4 o) + (tkC S i (imin v (free S i))))) 55 o ((sI (tkS S i (imin v (free S i))) 55 o) + (imin v (free S i)))) 13 o i) 43 i) + (imin v (free S i))), ad, L, f)) ⟨by simp only [doR, if_pos c6]; (try rfl), by simp only [doS, if_pos c6]; (try rfl), rfl, rfl⟩ hR hP hK hD hS ht hWm) hS.2.2 dX10_deliverOf_65
  · skip
    refine lv_iconst (v := 0) hx hb dX10_deliverOf_16 (by decide) ?_
    exact W.iret (v := 0) hx hb hr (fun t ht hWm => gend_i (u := (S, ad, L, f)) ⟨by simp only [doR, if_neg c6]; (try rfl), by simp only [doS, if_neg c6]; (try rfl), rfl, rfl⟩ hR hP hK hD hS ht hWm) hS.2.2 dX10_deliverOf_17

def td1 (S : St) (o j : Nat) (x : IJP × Int32) : IJP × Int32 := if j < sN S 2 0 then (if sN S 6 j = sN S 7 o then (sA (doS (sM S x.1) j o x.2), x.2 - doR (sM S x.1) j x.2) else x) else x
def td0 (S : St) (o : Nat) : IJP × Int32 := match sR S 4 o with
  | none => (sA S, sI S 50 o)
  | some i => (sA (doS S i o (sI S 50 o)), sI S 50 o - doR S i (sI S 50 o))
def tdL (S : St) (o j : Nat) : IJP × Int32 := it (td1 S o) j (td0 S o)
theorem tdL_s (S : St) (o j : Nat) : tdL S o (j + 1) = td1 S o j (tdL S o j) := rfl
theorem tdL_0 (S : St) (o : Nat) : tdL S o 0 = td0 S o := rfl
/-- an order's pieces are delivered: its own lot first, then by rising numbers -/
abbrev tdS (S : St) (o : Nat) : St := sM S (tdL S o 90).1
set_option maxHeartbeats 4000000 in
set_option maxRecDepth 100000 in
theorem c_X10_takeForDelivery (l : Launch) {D : va_G} {tA : Nat → ClassId} {S : St} {ad : Nat → Nat → Nat} {L : List Nat} {f : Nat → va_E} {sz : Nat} (hR : Rep tA S ad L f) (hW : WT S) {o : Nat} (ho : o < sN S 3 0) : Met l yX10_takeForDelivery (wsC yX10_takeForDelivery cX10_takeForDelivery 8 none) ({ frames := 4, cells := 0, slots := 0, locals := 87 }) (va_Pc [.ref (ad 0 0), .ref (ad 11 o)] (gZ D tA L f sz)) (va_Qv (fun (u : gU) => tdS S o = u.1 ∧ ad = u.2.1 ∧ L = u.2.2.1) (gE D tA (va_A (va_pl L f) sz)) (va_A (va_pl L f) sz)) 0 0 (va_A (va_pl L f) sz) := by
  refine Met.ofW (cc := cX10_takeForDelivery) (maxL := 8) (ret := none) (by decide) rfl ?_
  intro p e s m args below meth c s₁ B hml hv
  obtain ⟨rfl, hsz, hP, hK, hD0⟩ := hv
  have hx := B.exec
  have hb := B.bytes
  have hr := B.returns
  have hts := atoms_spec (ws := wsC yX10_takeForDelivery cX10_takeForDelivery 8 none) B.pre
  have hta : ∀ w ∈ WA, w.before _ s = true := fun w h => hts w (List.mem_cons_of_mem _ h)
  have hown : s.vm.findClass RX10 = some m.cls := findClass_of_methodNamed B.named
  have hlocks := B.notSynchronized
  subst hsz
  have hD : va_D (va_A (va_pl L f) s.heap.size) (va_pl L f) := hD0.self (sz := s.heap.size)
  generalize hAe : va_A (va_pl L f) s.heap.size = A at hD ⊢
  have hA : ∀ q : Nat, s.heap.size ≤ q → A q := fun q h => by rw [← hAe]; exact Or.inr h
  have hS : va_S A s.heap s.heap [] := va_S.rf
  have hP : va_P D vwCl (va_pl L f) s.heap := hP
  have hl := lv_entry ([.ref (ad 0 0), .ref (ad 11 o)]) (n := 8) (Nat.le_of_ble_eq_true rfl)
  rw [lg_entry_eq]
  generalize (lg_sl ([.ref (ad 0 0), .ref (ad 11 o)]) ++ List.replicate (8 - (lg_sl ([.ref (ad 0 0), .ref (ad 11 o)])).length) Slot.unset).toArray = ls at hl ⊢
  have hl : lv_has ls 8 [(0, .ref (ad 0 0)), (1, .ref (ad 11 o))] := hl
  refine lv_aload_n hx hb dX10_takeForDelivery_0 rfl (lv_at hl 1 rfl) ?_
  refine get_quantity_11 hx hb hta iwX7 hown hK hP hR ho (hta _ mw535) dX10_takeForDelivery_1 ?_
  refine lv_istore_n (lv' := [(2, .int (sI S 50 o)), (0, .ref (ad 0 0)), (1, .ref (ad 11 o))]) hx hb dX10_takeForDelivery_4 rfl hl (by decide) rfl (fun ls hl => ?_)
  refine lv_aload_n hx hb dX10_takeForDelivery_5 rfl (lv_at hl 2 rfl) ?_
  refine get_job_11 hx hb hta iwX7 hown hK hP hR ho (hta _ mw541) dX10_takeForDelivery_6 ?_
  refine get_lot_12 hx hb hta iwX2 hown hK hP hR ho (hta _ mw527) dX10_takeForDelivery_9 ?_
  rcases h1 : sR S 4 o with _ | o2
  · rw [rf_none]
    refine lv_astore_nN (lv' := [(3, .null), (2, .int (sI S 50 o)), (0, .ref (ad 0 0)), (1, .ref (ad 11 o))]) hx hb dX10_takeForDelivery_12 rfl hl (by decide) rfl (fun ls hl => ?_)
    refine lv_aload_nN hx hb dX10_takeForDelivery_13 rfl (lv_at hl 0 rfl) ?_
    refine lv_ifnullN (tgt := 27) hx hb dX10_takeForDelivery_14 (by decide) ?_
    refine lv_aload_n hx hb dX10_takeForDelivery_27 rfl (lv_at hl 2 rfl) ?_
    refine get_lots_0 hx hb hta iwX10 hown hK hP hR (rfl : (0 : Nat) = 0) (hta _ mw99) dX10_takeForDelivery_28 ?_
    refine lv_astore (lv' := [(4, .ref (ad 18 0)), (3, .null), (2, .int (sI S 50 o)), (0, .ref (ad 0 0)), (1, .ref (ad 11 o))]) hx hb dX10_takeForDelivery_31 hl (by decide) rfl (fun ls hl => ?_)
    refine lv_aload hx hb dX10_takeForDelivery_33 (lv_at hl 0 rfl) ?_
    refine len_lots hx hb hK hP hR (rfl : (0 : Nat) = 0) dX10_takeForDelivery_35 ?_
    refine lv_istore (lv' := [(5, .int 90), (4, .ref (ad 18 0)), (3, .null), (2, .int (sI S 50 o)), (0, .ref (ad 0 0)), (1, .ref (ad 11 o))]) hx hb dX10_takeForDelivery_36 hl (by decide) rfl (fun ls hl => ?_)
    refine lv_iconst (v := 0) hx hb dX10_takeForDelivery_38 (by decide) ?_
    refine lv_istore (lv' := [(6, .int 0), (5, .int 90), (4, .ref (ad 18 0)), (3, .null), (2, .int (sI S 50 o)), (0, .ref (ad 0 0)), (1, .ref (ad 11 o))]) hx hb dX10_takeForDelivery_39 hl (by decide) rfl (fun ls hl => ?_)
    have z0 : td0 S o = (sA S, sI S 50 o) := by simp only [td0, h1]; (try rfl)
    have z1 : (tdL S o 0).2 = sI S 50 o := by rw [tdL_0, z0]
    have z2 : sM S (tdL S o 0).1 = S := by rw [tdL_0, z0]; (try rfl)
    rw [← z1] at hl
    rw [← z2] at hR
    refine loop_g (σ := Heap × List Loc × (Nat → va_E) × Array Slot) (Wg := fun z => W p l e _ s m _ below meth c z.1 z.2.1 _ _ _ (F0 m 41 z.2.2.2 [])) 90 (fun j3 z => va_P D vwCl (va_pl L z.2.2.1) z.1 ∧ va_D A (va_pl L z.2.2.1) ∧ va_S A s.heap z.1 z.2.1 ∧ Rep tA (sM S (tdL S o j3).1) ad L z.2.2.1 ∧ lv_has z.2.2.2 8 [(0, .ref (ad 0 0)), (1, .ref (ad 11 o)), (2, .int ((tdL S o j3).2)), (4, .ref (ad 18 0)), (5, .int 90), (6, .int (nI j3))]) (fun j3 hj4 ih5 z hz => ?_) (fun z hz => ?_) (_, _, f, ls) ⟨hP, hD, hS, hR, lv_sub hl [5, 6, 4, 2, 1, 0] rfl⟩
    · skip
      obtain ⟨H, locs, f, ls⟩ := z
      obtain ⟨hP, hD, hS, hR, hl⟩ := hz
      dsimp only at hP hD hS hR hl ⊢
      refine lv_iload hx hb dX10_takeForDelivery_41 (lv_at hl 5 rfl) ?_
      refine lv_iload hx hb dX10_takeForDelivery_43 (lv_at hl 4 rfl) ?_
      refine lv_icmp_ge (tgt := 89) hx hb dX10_takeForDelivery_45 (by decide) (fun c6 => ?_) (fun c6 => ?_)
      · exact absurd c6 (nI_ge (a := j3) (b := 90) hj4 (by decide))
      · skip
        refine lv_aload hx hb dX10_takeForDelivery_48 (lv_at hl 3 rfl) ?_
        refine lv_iload hx hb dX10_takeForDelivery_50 (lv_at hl 5 rfl) ?_
        refine ldn_lots hx hb hK hP hR (rfl : (0 : Nat) = 0) hj4 dX10_takeForDelivery_52 (fun h7 => ?_) (fun h7 => ?_)
        · skip
          refine lv_astore (lv' := [(7, .ref (ad 7 j3)), (0, .ref (ad 0 0)), (1, .ref (ad 11 o)), (2, .int ((tdL S o j3).2)), (4, .ref (ad 18 0)), (5, .int 90), (6, .int (nI j3))]) hx hb dX10_takeForDelivery_53 hl (by decide) rfl (fun ls hl => ?_)
          refine lv_aload hx hb dX10_takeForDelivery_55 (lv_at hl 0 rfl) ?_
          refine lv_ifnull hx hb dX10_takeForDelivery_57 ?_
          refine lv_aload hx hb dX10_takeForDelivery_60 (lv_at hl 0 rfl) ?_
          refine get_part_7 hx hb hta iwX3 hown hK hP hR h7 (hta _ mw409) dX10_takeForDelivery_62 ?_
          refine lv_aload_n hx hb dX10_takeForDelivery_65 rfl (lv_at hl 2 rfl) ?_
          refine get_part_11 hx hb hta iwX7 hown hK hP hR ho (hta _ mw533) dX10_takeForDelivery_66 ?_
          refine lv_acmp_ne (rx := some (ad 2 (sN S 6 j3))) (ry := some (ad 2 (sN S 7 o))) (tgt := 83) hx hb dX10_takeForDelivery_69 (by decide) (fun c8 => ?_) (fun c8 => ?_)
          · skip
            have c8 := Rep.neq c8
            refine lv_iinc (v := nI (j3 + 1)) (lv' := [(6, .int (nI (j3 + 1))), (7, .ref (ad 7 j3)), (0, .ref (ad 0 0)), (1, .ref (ad 11 o)), (2, .int ((tdL S o j3).2)), (4, .ref (ad 18 0)), (5, .int 90)]) hx hb dX10_takeForDelivery_83 hl (k := 6) rfl (nI_1 _) (by decide) rfl (fun ls hl => ?_)
            refine lv_goto (tgt := 41) hx hb dX10_takeForDelivery_86 (by decide) ?_
            refine ih5 (_, _, f, ls) ⟨hP, hD, hS, ?_, ?_⟩
            · have a9 : sM S (tdL S o (j3 + 1)).1 = (sM S (tdL S o j3).1) := (by rw [tdL_s]; simp only [td1, if_pos h7, if_neg c8]; (try rfl))
              rw [a9]; exact hR
            have a8 : (tdL S o (j3 + 1)).2 = (tdL S o j3).2 := (by rw [tdL_s]; simp only [td1, if_pos h7, if_neg c8]; (try rfl))
            rw [a8]
            exact lv_sub hl [2, 3, 4, 5, 6, 0] rfl
          · skip
            have c8 := hR.eq (k := 2) (i := sN S 6 j3) (j := sN S 7 o) ((hW.lotPart h7)) ((hW.ordPart ho)) c8
            refine lv_iload_n hx hb dX10_takeForDelivery_72 rfl (lv_at hl 3 rfl) ?_
            refine lv_aload_n hx hb dX10_takeForDelivery_73 rfl (lv_at hl 1 rfl) ?_
            refine lv_aload hx hb dX10_takeForDelivery_74 (lv_at hl 0 rfl) ?_
            refine lv_iload_n hx hb dX10_takeForDelivery_76 rfl (lv_at hl 3 rfl) ?_
            refine lv_aload_n hx hb dX10_takeForDelivery_77 rfl (lv_at hl 2 rfl) ?_
            obtain ⟨q9, e10⟩ := cell_0 hR (rfl : (0 : Nat) = 0)
            refine gwr_i (mc := 0) (ms := 0) (ci := 12) (As := [.ref (ad 7 j3), .int ((tdL S o j3).2), .ref (ad 11 o)]) (rest := [.int ((tdL S o j3).2)]) ⟨hx, hb, hml, hown, hta⟩ (c_X10_deliverOf l hR hW h7 ho ((tdL S o j3).2)) (cwV 3 hta (gWV mw734 mw735 mw37 mw40 mw736) rfl rfl rfl (by decide +kernel) ⟨Nat.le_of_ble_eq_true rfl, Nat.le_of_ble_eq_true rfl⟩) hK hP hD hS hA rfl e10 rfl hl.1 rfl (Nat.le_of_ble_eq_true rfl) dX10_takeForDelivery_78 ⟨Nat.zero_le _, Nat.zero_le _⟩ (fun r11 u H locs hw hR hP hD hS => ?_)
            obtain ⟨S9, ad9, L9, f⟩ := u
            obtain ⟨rfl, rfl, rfl, rfl⟩ := hw
            dsimp only at hR hP hD
            refine lv_isub hx hb dX10_takeForDelivery_81 ?_
            refine lv_istore_n (lv' := [(2, .int (((tdL S o j3).2) - (doR ((sM S (tdL S o j3).1)) j3 ((tdL S o j3).2)))), (7, .ref (ad 7 j3)), (0, .ref (ad 0 0)), (1, .ref (ad 11 o)), (4, .ref (ad 18 0)), (5, .int 90), (6, .int (nI j3))]) hx hb dX10_takeForDelivery_82 rfl hl (by decide) rfl (fun ls hl => ?_)
            refine lv_iinc (v := nI (j3 + 1)) (lv' := [(6, .int (nI (j3 + 1))), (2, .int (((tdL S o j3).2) - (doR ((sM S (tdL S o j3).1)) j3 ((tdL S o j3).2)))), (7, .ref (ad 7 j3)), (0, .ref (ad 0 0)), (1, .ref (ad 11 o)), (4, .ref (ad 18 0)), (5, .int 90)]) hx hb dX10_takeForDelivery_83 hl (k := 6) rfl (nI_1 _) (by decide) rfl (fun ls hl => ?_)
            refine lv_goto (tgt := 41) hx hb dX10_takeForDelivery_86 (by decide) ?_
            refine ih5 (_, _, f, ls) ⟨hP, hD, hS, ?_, ?_⟩
            · have a9 : sM S (tdL S o (j3 + 1)).1 = (doS ((sM S (tdL S o j3).1)) j3 o ((tdL S o j3).2)) := (by rw [tdL_s]; simp only [td1, if_pos h7, if_pos c8]; (try rfl))
              rw [a9]; exact hR
            have a8 : (tdL S o (j3 + 1)).2 = ((tdL S o j3).2) - (doR ((sM S (tdL S o j3).1)) j3 ((tdL S o j3).2)) := (by rw [tdL_s]; simp only [td1, if_pos h7, if_pos c8]; (try rfl))
            rw [a8]
            exact lv_sub hl [3, 4, 1, 5, 6, 0] rfl
        · skip
          refine lv_astoreN (lv' := [(7, .null), (0, .ref (ad 0 0)), (1, .ref (ad 11 o)), (2, .int ((tdL S o j3).2)), (4, .ref (ad 18 0)), (5, .int 90), (6, .int (nI j3))]) hx hb dX10_takeForDelivery_53 hl (by decide) rfl (fun ls hl => ?_)
          refine lv_aloadN hx hb dX10_takeForDelivery_55 (lv_at hl 0 rfl) ?_
          refine lv_ifnullN (tgt := 83) hx hb dX10_takeForDelivery_57 (by decide) ?_
          refine lv_iinc (v := nI (j3 + 1)) (lv' := [(6, .int (nI (j3 + 1))), (7, .null), (0, .ref (ad 0 0)), (1, .ref (ad 11 o)), (2, .int ((tdL S o j3).2)), (4, .ref (ad 18 0)), (5, .int 90)]) hx hb dX10_takeForDelivery_83 hl (k := 6) rfl (nI_1 _) (by decide) rfl (fun ls hl => ?_)
          refine lv_goto (tgt := 41) hx hb dX10_takeForDelivery_86 (by decide) ?_
          refine ih5 (_, _, f, ls) ⟨hP, hD, hS, ?_, ?_⟩
          · have a9 : sM S (tdL S o (j3 + 1)).1 = (sM S (tdL S o j3).1) := (by rw [tdL_s]; simp only [td1, if_neg h7]; (try rfl))
            rw [a9]; exact hR
          have a8 : (tdL S o (j3 + 1)).2 = (tdL S o j3).2 := (by rw [tdL_s]; simp only [td1, if_neg h7]; (try rfl))
          rw [a8]
          exact lv_sub hl [2, 3, 4, 5, 6, 0] rfl
    · skip
      obtain ⟨H, locs, f, ls⟩ := z
      obtain ⟨hP, hD, hS, hR, hl⟩ := hz
      dsimp only at hP hD hS hR hl ⊢
      refine lv_iload hx hb dX10_takeForDelivery_41 (lv_at hl 5 rfl) ?_
      refine lv_iload hx hb dX10_takeForDelivery_43 (lv_at hl 4 rfl) ?_
      refine lv_icmp_ge (tgt := 89) hx hb dX10_takeForDelivery_45 (by decide) (fun c12 => ?_) (fun c12 => ?_)
      · skip
        exact W.vret hx hb hr (fun t ht hWm => gend_v (u := ((sM S (tdL S o 90).1), ad, L, f)) ⟨rfl, rfl, rfl⟩ hR hP hK hD hS ht hWm) hS.2.2 dX10_takeForDelivery_89
      · exact absurd (nI_le (a := 90) (b := 90) (Nat.le_refl _) (by decide)) c12
  · rw [rf_some]
    have v13 := hW.jlot ho h1
    refine lv_astore_n (lv' := [(3, .ref (ad 7 o2)), (2, .int (sI S 50 o)), (0, .ref (ad 0 0)), (1, .ref (ad 11 o))]) hx hb dX10_takeForDelivery_12 rfl hl (by decide) rfl (fun ls hl => ?_)
    refine lv_aload_n hx hb dX10_takeForDelivery_13 rfl (lv_at hl 0 rfl) ?_
    refine lv_ifnull hx hb dX10_takeForDelivery_14 ?_
    refine lv_iload_n hx hb dX10_takeForDelivery_17 rfl (lv_at hl 1 rfl) ?_
    refine lv_aload_n hx hb dX10_takeForDelivery_18 rfl (lv_at hl 2 rfl) ?_
    refine lv_aload_n hx hb dX10_takeForDelivery_19 rfl (lv_at hl 0 rfl) ?_
    refine lv_iload_n hx hb dX10_takeForDelivery_20 rfl (lv_at hl 1 rfl) ?_
    refine lv_aload_n hx hb dX10_takeForDelivery_21 rfl (lv_at hl 3 rfl) ?_
    obtain ⟨q14, e15⟩ := cell_0 hR (rfl : (0 : Nat) = 0)
    refine gwr_i (mc := 0) (ms := 0) (ci := 12) (As := [.ref (ad 7 o2), .int (sI S 50 o), .ref (ad 11 o)]) (rest := [.int (sI S 50 o)]) ⟨hx, hb, hml, hown, hta⟩ (c_X10_deliverOf l hR hW v13 ho (sI S 50 o)) (cwV 3 hta (gWV mw734 mw735 mw37 mw40 mw736) rfl rfl rfl (by decide +kernel) ⟨Nat.le_of_ble_eq_true rfl, Nat.le_of_ble_eq_true rfl⟩) hK hP hD hS hA rfl e15 rfl hl.1 rfl (Nat.le_of_ble_eq_true rfl) dX10_takeForDelivery_22 ⟨Nat.zero_le _, Nat.zero_le _⟩ (fun r16 u H locs hw hR hP hD hS => ?_)
    obtain ⟨S9, ad9, L9, f⟩ := u
    obtain ⟨rfl, rfl, rfl, rfl⟩ := hw
    dsimp only at hR hP hD
    refine lv_isub hx hb dX10_takeForDelivery_25 ?_
    refine lv_istore_n (lv' := [(2, .int ((sI S 50 o) - (doR S o2 (sI S 50 o)))), (3, .ref (ad 7 o2)), (0, .ref (ad 0 0)), (1, .ref (ad 11 o))]) hx hb dX10_takeForDelivery_26 rfl hl (by decide) rfl (fun ls hl => ?_)
    refine lv_aload_n hx hb dX10_takeForDelivery_27 rfl (lv_at hl 2 rfl) ?_
    refine get_lots_0 hx hb hta iwX10 hown hK hP hR (rfl : (0 : Nat) = 0) (hta _ mw99) dX10_takeForDelivery_28 ?_
    refine lv_astore (lv' := [(4, .ref (ad 18 0)), (2, .int ((sI S 50 o) - (doR S o2 (sI S 50 o)))), (3, .ref (ad 7 o2)), (0, .ref (ad 0 0)), (1, .ref (ad 11 o))]) hx hb dX10_takeForDelivery_31 hl (by decide) rfl (fun ls hl => ?_)
    refine lv_aload hx hb dX10_takeForDelivery_33 (lv_at hl 0 rfl) ?_
    refine len_lots hx hb hK hP hR (rfl : (0 : Nat) = 0) dX10_takeForDelivery_35 ?_
    refine lv_istore (lv' := [(5, .int 90), (4, .ref (ad 18 0)), (2, .int ((sI S 50 o) - (doR S o2 (sI S 50 o)))), (3, .ref (ad 7 o2)), (0, .ref (ad 0 0)), (1, .ref (ad 11 o))]) hx hb dX10_takeForDelivery_36 hl (by decide) rfl (fun ls hl => ?_)
    refine lv_iconst (v := 0) hx hb dX10_takeForDelivery_38 (by decide) ?_
    refine lv_istore (lv' := [(6, .int 0), (5, .int 90), (4, .ref (ad 18 0)), (2, .int ((sI S 50 o) - (doR S o2 (sI S 50 o)))), (3, .ref (ad 7 o2)), (0, .ref (ad 0 0)), (1, .ref (ad 11 o))]) hx hb dX10_takeForDelivery_39 hl (by decide) rfl (fun ls hl => ?_)
    have z0 : td0 S o = (sA ((doS S o2 o (sI S 50 o))), (sI S 50 o) - (doR S o2 (sI S 50 o))) := by simp only [td0, h1]; (try rfl)
    have z1 : (tdL S o 0).2 = (sI S 50 o) - (doR S o2 (sI S 50 o)) := by rw [tdL_0, z0]
    have z2 : sM S (tdL S o 0).1 = (doS S o2 o (sI S 50 o)) := by rw [tdL_0, z0]; (try rfl)
    rw [← z1] at hl
    rw [← z2] at hR
    refine loop_g (σ := Heap × List Loc × (Nat → va_E) × Array Slot) (Wg := fun z => W p l e _ s m _ below meth c z.1 z.2.1 _ _ _ (F0 m 41 z.2.2.2 [])) 90 (fun j17 z => va_P D vwCl (va_pl L z.2.2.1) z.1 ∧ va_D A (va_pl L z.2.2.1) ∧ va_S A s.heap z.1 z.2.1 ∧ Rep tA (sM S (tdL S o j17).1) ad L z.2.2.1 ∧ lv_has z.2.2.2 8 [(0, .ref (ad 0 0)), (1, .ref (ad 11 o)), (2, .int ((tdL S o j17).2)), (4, .ref (ad 18 0)), (5, .int 90), (6, .int (nI j17))]) (fun j17 hj18 ih19 z hz => ?_) (fun z hz => ?_) (_, _, f, ls) ⟨hP, hD, hS, hR, lv_sub hl [5, 6, 3, 2, 1, 0] rfl⟩
    · skip
      obtain ⟨H, locs, f, ls⟩ := z
      obtain ⟨hP, hD, hS, hR, hl⟩ := hz
      dsimp only at hP hD hS hR hl ⊢
      refine lv_iload hx hb dX10_takeForDelivery_41 (lv_at hl 5 rfl) ?_
      refine lv_iload hx hb dX10_takeForDelivery_43 (lv_at hl 4 rfl) ?_
      refine lv_icmp_ge (tgt := 89) hx hb dX10_takeForDelivery_45 (by decide) (fun c20 => ?_) (fun c20 => ?_)
      · exact absurd c20 (nI_ge (a := j17) (b := 90) hj18 (by decide))
      · skip
        refine lv_aload hx hb dX10_takeForDelivery_48 (lv_at hl 3 rfl) ?_
        refine lv_iload hx hb dX10_takeForDelivery_50 (lv_at hl 5 rfl) ?_
        refine ldn_lots hx hb hK hP hR (rfl : (0 : Nat) = 0) hj18 dX10_takeForDelivery_52 (fun h21 => ?_) (fun h21 => ?_)
        · skip
          refine lv_astore (lv' := [(7, .ref (ad 7 j17)), (0, .ref (ad 0 0)), (1, .ref (ad 11 o)), (2, .int ((tdL S o j17).2)), (4, .ref (ad 18 0)), (5, .int 90), (6, .int (nI j17))]) hx hb dX10_takeForDelivery_53 hl (by decide) rfl (fun ls hl => ?_)
          refine lv_aload hx hb dX10_takeForDelivery_55 (lv_at hl 0 rfl) ?_
          refine lv_ifnull hx hb dX10_takeForDelivery_57 ?_
          refine lv_aload hx hb dX10_takeForDelivery_60 (lv_at hl 0 rfl) ?_
          refine get_part_7 hx hb hta iwX3 hown hK hP hR h21 (hta _ mw409) dX10_takeForDelivery_62 ?_
          refine lv_aload_n hx hb dX10_takeForDelivery_65 rfl (lv_at hl 2 rfl) ?_
          refine get_part_11 hx hb hta iwX7 hown hK hP hR ho (hta _ mw533) dX10_takeForDelivery_66 ?_
          refine lv_acmp_ne (rx := some (ad 2 (sN S 6 j17))) (ry := some (ad 2 (sN S 7 o))) (tgt := 83) hx hb dX10_takeForDelivery_69 (by decide) (fun c22 => ?_) (fun c22 => ?_)
          · skip
            have c22 := Rep.neq c22
            refine lv_iinc (v := nI (j17 + 1)) (lv' := [(6, .int (nI (j17 + 1))), (7, .ref (ad 7 j17)), (0, .ref (ad 0 0)), (1, .ref (ad 11 o)), (2, .int ((tdL S o j17).2)), (4, .ref (ad 18 0)), (5, .int 90)]) hx hb dX10_takeForDelivery_83 hl (k := 6) rfl (nI_1 _) (by decide) rfl (fun ls hl => ?_)
            refine lv_goto (tgt := 41) hx hb dX10_takeForDelivery_86 (by decide) ?_
            refine ih19 (_, _, f, ls) ⟨hP, hD, hS, ?_, ?_⟩
            · have a9 : sM S (tdL S o (j17 + 1)).1 = (sM S (tdL S o j17).1) := (by rw [tdL_s]; simp only [td1, if_pos h21, if_neg c22]; (try rfl))
              rw [a9]; exact hR
            have a8 : (tdL S o (j17 + 1)).2 = (tdL S o j17).2 := (by rw [tdL_s]; simp only [td1, if_pos h21, if_neg c22]; (try rfl))
            rw [a8]
            exact lv_sub hl [2, 3, 4, 5, 6, 0] rfl
          · skip
            have c22 := hR.eq (k := 2) (i := sN S 6 j17) (j := sN S 7 o) ((hW.lotPart h21)) ((hW.ordPart ho)) c22
            refine lv_iload_n hx hb dX10_takeForDelivery_72 rfl (lv_at hl 3 rfl) ?_
            refine lv_aload_n hx hb dX10_takeForDelivery_73 rfl (lv_at hl 1 rfl) ?_
            refine lv_aload hx hb dX10_takeForDelivery_74 (lv_at hl 0 rfl) ?_
            refine lv_iload_n hx hb dX10_takeForDelivery_76 rfl (lv_at hl 3 rfl) ?_
            refine lv_aload_n hx hb dX10_takeForDelivery_77 rfl (lv_at hl 2 rfl) ?_
            obtain ⟨q23, e24⟩ := cell_0 hR (rfl : (0 : Nat) = 0)
            refine gwr_i (mc := 0) (ms := 0) (ci := 12) (As := [.ref (ad 7 j17), .int ((tdL S o j17).2), .ref (ad 11 o)]) (rest := [.int ((tdL S o j17).2)]) ⟨hx, hb, hml, hown, hta⟩ (c_X10_deliverOf l hR hW h21 ho ((tdL S o j17).2)) (cwV 3 hta (gWV mw734 mw735 mw37 mw40 mw736) rfl rfl rfl (by decide +kernel) ⟨Nat.le_of_ble_eq_true rfl, Nat.le_of_ble_eq_true rfl⟩) hK hP hD hS hA rfl e24 rfl hl.1 rfl (Nat.le_of_ble_eq_true rfl) dX10_takeForDelivery_78 ⟨Nat.zero_le _, Nat.zero_le _⟩ (fun r25 u H locs hw hR hP hD hS => ?_)
            obtain ⟨S9, ad9, L9, f⟩ := u
            obtain ⟨rfl, rfl, rfl, rfl⟩ := hw
            dsimp only at hR hP hD
            refine lv_isub hx hb dX10_takeForDelivery_81 ?_
            refine lv_istore_n (lv' := [(2, .int (((tdL S o j17).2) - (doR ((sM S (tdL S o j17).1)) j17 ((tdL S o j17).2)))), (7, .ref (ad 7 j17)), (0, .ref (ad 0 0)), (1, .ref (ad 11 o)), (4, .ref (ad 18 0)), (5, .int 90), (6, .int (nI j17))]) hx hb dX10_takeForDelivery_82 rfl hl (by decide) rfl (fun ls hl => ?_)
            refine lv_iinc (v := nI (j17 + 1)) (lv' := [(6, .int (nI (j17 + 1))), (2, .int (((tdL S o j17).2) - (doR ((sM S (tdL S o j17).1)) j17 ((tdL S o j17).2)))), (7, .ref (ad 7 j17)), (0, .ref (ad 0 0)), (1, .ref (ad 11 o)), (4, .ref (ad 18 0)), (5, .int 90)]) hx hb dX10_takeForDelivery_83 hl (k := 6) rfl (nI_1 _) (by decide) rfl (fun ls hl => ?_)
            refine lv_goto (tgt := 41) hx hb dX10_takeForDelivery_86 (by decide) ?_
            refine ih19 (_, _, f, ls) ⟨hP, hD, hS, ?_, ?_⟩
            · have a9 : sM S (tdL S o (j17 + 1)).1 = (doS ((sM S (tdL S o j17).1)) j17 o ((tdL S o j17).2)) := (by rw [tdL_s]; simp only [td1, if_pos h21, if_pos c22]; (try rfl))
              rw [a9]; exact hR
            have a8 : (tdL S o (j17 + 1)).2 = ((tdL S o j17).2) - (doR ((sM S (tdL S o j17).1)) j17 ((tdL S o j17).2)) := (by rw [tdL_s]; simp only [td1, if_pos h21, if_pos c22]; (try rfl))
            rw [a8]
            exact lv_sub hl [3, 4, 1, 5, 6, 0] rfl
        · skip
          refine lv_astoreN (lv' := [(7, .null), (0, .ref (ad 0 0)), (1, .ref (ad 11 o)), (2, .int ((tdL S o j17).2)), (4, .ref (ad 18 0)), (5, .int 90), (6, .int (nI j17))]) hx hb dX10_takeForDelivery_53 hl (by decide) rfl (fun ls hl => ?_)
          refine lv_aloadN hx hb dX10_takeForDelivery_55 (lv_at hl 0 rfl) ?_
          refine lv_ifnullN (tgt := 83) hx hb dX10_takeForDelivery_57 (by decide) ?_
          refine lv_iinc (v := nI (j17 + 1)) (lv' := [(6, .int (nI (j17 + 1))), (7, .null), (0, .ref (ad 0 0)), (1, .ref (ad 11 o)), (2, .int ((tdL S o j17).2)), (4, .ref (ad 18 0)), (5, .int 90)]) hx hb dX10_takeForDelivery_83 hl (k := 6) rfl (nI_1 _) (by decide) rfl (fun ls hl => ?_)
          refine lv_goto (tgt := 41) hx hb dX10_takeForDelivery_86 (by decide) ?_
          refine ih19 (_, _, f, ls) ⟨hP, hD, hS, ?_, ?_⟩
          · have a9 : sM S (tdL S o (j17 + 1)).1 = (sM S (tdL S o j17).1) := (by rw [tdL_s]; simp only [td1, if_neg h21]; (try rfl))
            rw [a9]; exact hR
          have a8 : (tdL S o (j17 + 1)).2 = (tdL S o j17).2 := (by rw [tdL_s]; simp only [td1, if_neg h21]; (try rfl))
          rw [a8]
          exact lv_sub hl [2, 3, 4, 5, 6, 0] rfl
    · skip
      obtain ⟨H, locs, f, ls⟩ := z
      obtain ⟨hP, hD, hS, hR, hl⟩ := hz
      dsimp only at hP hD hS hR hl ⊢
      refine lv_iload hx hb dX10_takeForDelivery_41 (lv_at hl 5 rfl) ?_
      refine lv_iload hx hb dX10_takeForDelivery_43 (lv_at hl 4 rfl) ?_
      refine lv_icmp_ge (tgt := 89) hx hb dX10_takeForDelivery_45 (by decide) (fun c26 => ?_) (fun c26 => ?_)
      · skip
        exact W.vret hx hb hr (fun t ht hWm => gend_v (u := ((sM S (tdL S o 90).1), ad, L, f)) ⟨rfl, rfl, rfl⟩ hR hP hK hD hS ht hWm) hS.2.2 dX10_takeForDelivery_89
      · exact absurd (nI_le (a := 90) (b := 90) (Nat.le_refl _) (by decide)) c26

def no1 (S : St) (o j : Nat) (x : IJP) : IJP := if j < sN S 2 0 then (if nsM (sM S x) 13 o j = true then sA (sAdd (sM S x) 10 j o) else x) else x
def noL (S : St) (o j : Nat) : IJP := it (no1 S o) j (sA S)
theorem noL_s (S : St) (o j : Nat) : noL S o (j + 1) = no1 S o j (noL S o j) := rfl
abbrev noS (S : St) (o : Nat) : St := sM S (noL S o 90)
set_option maxHeartbeats 4000000 in
set_option maxRecDepth 100000 in
theorem c_X10_noteOrderOnLots (l : Launch) {D : va_G} {tA : Nat → ClassId} {S : St} {ad : Nat → Nat → Nat} {L : List Nat} {f : Nat → va_E} {sz : Nat} (hR : Rep tA S ad L f) (hW : WT S) {o : Nat} (ho : o < sN S 3 0) : Met l yX10_noteOrderOnLots (wsC yX10_noteOrderOnLots cX10_noteOrderOnLots 6 none) ({ frames := 1, cells := 0, slots := 0, locals := 21 }) (va_Pc [.ref (ad 0 0), .ref (ad 11 o)] (gZ D tA L f sz)) (va_Qv (fun (u : gU) => noS S o = u.1 ∧ ad = u.2.1 ∧ L = u.2.2.1) (gE D tA (va_A (va_pl L f) sz)) (va_A (va_pl L f) sz)) 0 0 (va_A (va_pl L f) sz) := by
  refine Met.ofW (cc := cX10_noteOrderOnLots) (maxL := 6) (ret := none) (by decide) rfl ?_
  intro p e s m args below meth c s₁ B hml hv
  obtain ⟨rfl, hsz, hP, hK, hD0⟩ := hv
  have hx := B.exec
  have hb := B.bytes
  have hr := B.returns
  have hts := atoms_spec (ws := wsC yX10_noteOrderOnLots cX10_noteOrderOnLots 6 none) B.pre
  have hta : ∀ w ∈ WA, w.before _ s = true := fun w h => hts w (List.mem_cons_of_mem _ h)
  have hown : s.vm.findClass RX10 = some m.cls := findClass_of_methodNamed B.named
  have hlocks := B.notSynchronized
  subst hsz
  have hD : va_D (va_A (va_pl L f) s.heap.size) (va_pl L f) := hD0.self (sz := s.heap.size)
  generalize hAe : va_A (va_pl L f) s.heap.size = A at hD ⊢
  have hA : ∀ q : Nat, s.heap.size ≤ q → A q := fun q h => by rw [← hAe]; exact Or.inr h
  have hS : va_S A s.heap s.heap [] := va_S.rf
  have hP : va_P D vwCl (va_pl L f) s.heap := hP
  have hl := lv_entry ([.ref (ad 0 0), .ref (ad 11 o)]) (n := 6) (Nat.le_of_ble_eq_true rfl)
  rw [lg_entry_eq]
  generalize (lg_sl ([.ref (ad 0 0), .ref (ad 11 o)]) ++ List.replicate (6 - (lg_sl ([.ref (ad 0 0), .ref (ad 11 o)])).length) Slot.unset).toArray = ls at hl ⊢
  have hl : lv_has ls 6 [(0, .ref (ad 0 0)), (1, .ref (ad 11 o))] := hl
  refine lv_aload_n hx hb dX10_noteOrderOnLots_0 rfl (lv_at hl 0 rfl) ?_
  refine get_lots_0 hx hb hta iwX10 hown hK hP hR (rfl : (0 : Nat) = 0) (hta _ mw99) dX10_noteOrderOnLots_1 ?_
  refine lv_astore_n (lv' := [(2, .ref (ad 18 0)), (0, .ref (ad 0 0)), (1, .ref (ad 11 o))]) hx hb dX10_noteOrderOnLots_4 rfl hl (by decide) rfl (fun ls hl => ?_)
  refine lv_aload_n hx hb dX10_noteOrderOnLots_5 rfl (lv_at hl 0 rfl) ?_
  refine len_lots hx hb hK hP hR (rfl : (0 : Nat) = 0) dX10_noteOrderOnLots_6 ?_
  refine lv_istore_n (lv' := [(3, .int 90), (2, .ref (ad 18 0)), (0, .ref (ad 0 0)), (1, .ref (ad 11 o))]) hx hb dX10_noteOrderOnLots_7 rfl hl (by decide) rfl (fun ls hl => ?_)
  refine lv_iconst (v := 0) hx hb dX10_noteOrderOnLots_8 (by decide) ?_
  refine lv_istore (lv' := [(4, .int 0), (3, .int 90), (2, .ref (ad 18 0)), (0, .ref (ad 0 0)), (1, .ref (ad 11 o))]) hx hb dX10_noteOrderOnLots_9 hl (by decide) rfl (fun ls hl => ?_)
  refine loop_g (σ := Heap × List Loc × (Nat → va_E) × Array Slot) (Wg := fun z => W p l e _ s m _ below meth c z.1 z.2.1 _ _ _ (F0 m 11 z.2.2.2 [])) 90 (fun j1 z => va_P D vwCl (va_pl L z.2.2.1) z.1 ∧ va_D A (va_pl L z.2.2.1) ∧ va_S A s.heap z.1 z.2.1 ∧ Rep tA (sM S (noL S o j1)) ad L z.2.2.1 ∧ lv_has z.2.2.2 6 [(0, .ref (ad 0 0)), (1, .ref (ad 11 o)), (2, .ref (ad 18 0)), (3, .int 90), (4, .int (nI j1))]) (fun j1 hj2 ih3 z hz => ?_) (fun z hz => ?_) (_, _, f, ls) ⟨hP, hD, hS, hR, lv_sub hl [3, 4, 2, 1, 0] rfl⟩
  · skip
    obtain ⟨H, locs, f, ls⟩ := z
    obtain ⟨hP, hD, hS, hR, hl⟩ := hz
    dsimp only at hP hD hS hR hl ⊢
    refine lv_iload hx hb dX10_noteOrderOnLots_11 (lv_at hl 4 rfl) ?_
    refine lv_iload_n hx hb dX10_noteOrderOnLots_13 rfl (lv_at hl 3 rfl) ?_
    refine lv_icmp_ge (tgt := 61) hx hb dX10_noteOrderOnLots_14 (by decide) (fun c4 => ?_) (fun c4 => ?_)
    · exact absurd c4 (nI_ge (a := j1) (b := 90) hj2 (by decide))
    · skip
      refine lv_aload_n hx hb dX10_noteOrderOnLots_17 rfl (lv_at hl 2 rfl) ?_
      refine lv_iload hx hb dX10_noteOrderOnLots_18 (lv_at hl 4 rfl) ?_
      refine ldn_lots hx hb hK hP hR (rfl : (0 : Nat) = 0) hj2 dX10_noteOrderOnLots_20 (fun h5 => ?_) (fun h5 => ?_)
      · skip
        refine lv_astore (lv' := [(5, .ref (ad 7 j1)), (0, .ref (ad 0 0)), (1, .ref (ad 11 o)), (2, .ref (ad 18 0)), (3, .int 90), (4, .int (nI j1))]) hx hb dX10_noteOrderOnLots_21 hl (by decide) rfl (fun ls hl => ?_)
        refine lv_aload hx hb dX10_noteOrderOnLots_23 (lv_at hl 0 rfl) ?_
        refine lv_ifnull hx hb dX10_noteOrderOnLots_25 ?_
        refine lv_aload_n hx hb dX10_noteOrderOnLots_28 rfl (lv_at hl 2 rfl) ?_
        refine get_inside_11 hx hb hta iwX7 hown hK hP hR ho (hta _ mw543) dX10_noteOrderOnLots_29 ?_
        refine lv_aload hx hb dX10_noteOrderOnLots_32 (lv_at hl 0 rfl) ?_
        refine get_number_7 hx hb hta iwX3 hown hK hP hR h5 (hta _ mw407) dX10_noteOrderOnLots_34 ?_
        obtain ⟨q6, e7⟩ := cell_13 hR ho
        refine gro_i (ci := 7) (As := [.int (nI j1)]) (rest := []) ⟨hx, hb, hml, hown, hta⟩ (c_X5_has l hR (k := 13) (i := o) ⟨rfl, ho⟩ (j := j1) (Nat.lt_trans hj2 (by decide))) (cwV 1 hta (gWV mw194 mw195 mw196 mw41 mw197) rfl rfl rfl (by decide +kernel) ⟨Nat.le_of_ble_eq_true rfl, Nat.le_of_ble_eq_true rfl⟩) hK hP hD rfl e7 rfl hl.1 rfl (Nat.le_of_ble_eq_true rfl) dX10_noteOrderOnLots_37 ⟨Nat.zero_le _, Nat.zero_le _⟩ (fun r8 c9 => ?_)
        obtain rfl := c9
        refine lv_if_eq (tgt := 55) hx hb dX10_noteOrderOnLots_40 (by decide) (fun c10 => ?_) (fun c10 => ?_)
        · skip
          have c10 := bI_f c10
          refine lv_iinc (v := nI (j1 + 1)) (lv' := [(4, .int (nI (j1 + 1))), (5, .ref (ad 7 j1)), (0, .ref (ad 0 0)), (1, .ref (ad 11 o)), (2, .ref (ad 18 0)), (3, .int 90)]) hx hb dX10_noteOrderOnLots_55 hl (k := 5) rfl (nI_1 _) (by decide) rfl (fun ls hl => ?_)
          refine lv_goto (tgt := 11) hx hb dX10_noteOrderOnLots_58 (by decide) ?_
          refine ih3 (_, _, f, ls) ⟨hP, hD, hS, ?_, ?_⟩
          · have a9 : sM S (noL S o (j1 + 1)) = (sM S (noL S o j1)) := (by rw [noL_s]; simp only [no1, if_pos h5, c10]; (try rfl))
            rw [a9]; exact hR
          exact lv_sub hl [2, 3, 4, 5, 0] rfl
        · skip
          have c10 := bI_t c10
          refine lv_aload hx hb dX10_noteOrderOnLots_43 (lv_at hl 0 rfl) ?_
          refine get_intoOrders_7 hx hb hta iwX3 hown hK hP hR h5 (hta _ mw419) dX10_noteOrderOnLots_45 ?_
          refine lv_aload_n hx hb dX10_noteOrderOnLots_48 rfl (lv_at hl 2 rfl) ?_
          refine get_number_11 hx hb hta iwX7 hown hK hP hR ho (hta _ mw530) dX10_noteOrderOnLots_49 ?_
          obtain ⟨q11, e12⟩ := cell_10 hR h5
          refine gwr_v (mc := 0) (ms := 0) (ci := 7) (As := [.int (nI o)]) (rest := []) ⟨hx, hb, hml, hown, hta⟩ (c_X5_add l hR (k := 10) (i := j1) ⟨rfl, h5⟩ (j := o) (Nat.lt_of_lt_of_le ho (Nat.le_trans hW.nO (by decide)))) (cwV 1 hta (gWV mw445 mw446 mw447 mw41 mw448) rfl rfl rfl (by decide +kernel) ⟨Nat.le_of_ble_eq_true rfl, Nat.le_of_ble_eq_true rfl⟩) hK hP hD hS hA rfl e12 rfl hl.1 rfl (Nat.le_of_ble_eq_true rfl) dX10_noteOrderOnLots_52 ⟨Nat.zero_le _, Nat.zero_le _⟩ (fun u H locs hw hR hP hD hS => ?_)
          obtain ⟨S9, ad9, L9, f⟩ := u
          obtain ⟨rfl, rfl, rfl⟩ := hw
          dsimp only at hR hP hD
          refine lv_iinc (v := nI (j1 + 1)) (lv' := [(4, .int (nI (j1 + 1))), (5, .ref (ad 7 j1)), (0, .ref (ad 0 0)), (1, .ref (ad 11 o)), (2, .ref (ad 18 0)), (3, .int 90)]) hx hb dX10_noteOrderOnLots_55 hl (k := 5) rfl (nI_1 _) (by decide) rfl (fun ls hl => ?_)
          refine lv_goto (tgt := 11) hx hb dX10_noteOrderOnLots_58 (by decide) ?_
          refine ih3 (_, _, f, ls) ⟨hP, hD, hS, ?_, ?_⟩
          · have a9 : sM S (noL S o (j1 + 1)) = (sAdd ((sM S (noL S o j1))) 10 j1 o) := (by rw [noL_s]; simp only [no1, if_pos h5, c10]; (try rfl))
            rw [a9]; exact hR
          exact lv_sub hl [2, 3, 4, 5, 0] rfl
      · skip
        refine lv_astoreN (lv' := [(5, .null), (0, .ref (ad 0 0)), (1, .ref (ad 11 o)), (2, .ref (ad 18 0)), (3, .int 90), (4, .int (nI j1))]) hx hb dX10_noteOrderOnLots_21 hl (by decide) rfl (fun ls hl => ?_)
        refine lv_aloadN hx hb dX10_noteOrderOnLots_23 (lv_at hl 0 rfl) ?_
        refine lv_ifnullN (tgt := 55) hx hb dX10_noteOrderOnLots_25 (by decide) ?_
        refine lv_iinc (v := nI (j1 + 1)) (lv' := [(4, .int (nI (j1 + 1))), (5, .null), (0, .ref (ad 0 0)), (1, .ref (ad 11 o)), (2, .ref (ad 18 0)), (3, .int 90)]) hx hb dX10_noteOrderOnLots_55 hl (k := 5) rfl (nI_1 _) (by decide) rfl (fun ls hl => ?_)
        refine lv_goto (tgt := 11) hx hb dX10_noteOrderOnLots_58 (by decide) ?_
        refine ih3 (_, _, f, ls) ⟨hP, hD, hS, ?_, ?_⟩
        · have a9 : sM S (noL S o (j1 + 1)) = (sM S (noL S o j1)) := (by rw [noL_s]; simp only [no1, if_neg h5]; (try rfl))
          rw [a9]; exact hR
        exact lv_sub hl [2, 3, 4, 5, 0] rfl
  · skip
    obtain ⟨H, locs, f, ls⟩ := z
    obtain ⟨hP, hD, hS, hR, hl⟩ := hz
    dsimp only at hP hD hS hR hl ⊢
    refine lv_iload hx hb dX10_noteOrderOnLots_11 (lv_at hl 4 rfl) ?_
    refine lv_iload_n hx hb dX10_noteOrderOnLots_13 rfl (lv_at hl 3 rfl) ?_
    refine lv_icmp_ge (tgt := 61) hx hb dX10_noteOrderOnLots_14 (by decide) (fun c14 => ?_) (fun c14 => ?_)
    · skip
      exact W.vret hx hb hr (fun t ht hWm => gend_v (u := ((sM S (noL S o 90)), ad, L, f)) ⟨rfl, rfl, rfl⟩ hR hP hK hD hS ht hWm) hS.2.2 dX10_noteOrderOnLots_61
    · exact absurd (nI_le (a := 90) (b := 90) (Nat.le_refl _) (by decide)) c14

