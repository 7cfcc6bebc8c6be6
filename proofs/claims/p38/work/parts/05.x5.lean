/-! NumberSet: has, add, remove, meets, size, addWith (made by wip/gen/spec_x5.py) -/
def isNS (k : Nat) : Bool := k == 8 || k == 9 || k == 10 || k == 13 || k == 14
theorem isNS_cases {k : Nat} (h : isNS k = true) : k = 8 ∨ k = 9 ∨ k = 10 ∨ k = 13 ∨ k = 14 := by
  simp only [isNS, Bool.or_eq_true, beq_iff_eq] at h
  omega
/-- a set's two longs -/
abbrev nsLo (S : St) (k i : Nat) : Int64 := sJ S (2 * k) i
abbrev nsHi (S : St) (k i : Nat) : Int64 := sJ S (2 * k + 1) i
abbrev nsM (S : St) (k i j : Nat) : Bool := nsb (nsLo S k i) (nsHi S k i) j
section NSR
variable {p : Program} {l : Launch} {e : Env} {R : Room} {s : State} {m : MethodId} {args : Array Value} {below : List Frame} {meth : Method} {c : Code} {H : Heap} {locs : List Loc} {cells slots : Nat} {Q : State → Prop}
variable {cc : ByteArray} {pc : Nat} {ls : Array Slot} {rest : List Value} {D : va_G} {A : Nat → Prop} {H0 : Heap} {tA : Nat → ClassId} {S : St} {ad : Nat → Nat → Nat} {L : List Nat} {f : Nat → va_E} {own : String} {index k i : Nat} {Ts : List Cond}
theorem cell_ns (h : Rep tA S ad L f) (hi : isNS k = true ∧ V S k i) : ∃ q : Nat, (va_pl L f)[q]? = some (ad k i, .inr (7, [.long (sJ S (2 * k) i), .long (sJ S (2 * k + 1) i)])) := by
  rcases isNS_cases hi.1 with rfl | rfl | rfl | rfl | rfl <;> exact h.get hi.2

theorem get_low_ns (hx : p.tables.exec = Jvm.exec) (hb : c.code = cc) (hts : ∀ w ∈ Ts, w.before args s = true) (hin : ∀ w ∈ u_ws RX5 TX5 2, w ∈ Ts) (hown : s.vm.findClass own = some m.cls) (hK : va_K D vwCl (gT tA) s) (hP : va_P D vwCl (va_pl L f) H) (hR : Rep tA S ad L f) (hi : isNS k = true ∧ V S k i) (hlink : (Cond.fieldLink own index (TX5 0).1 (TX5 0).2.1 (TX5 0).2.2.1).before args s = true) (hdg : decode cc pc = .ok (.getfield index, 3))
    (kk : W p l e R s m args below meth c H locs cells slots Q (F0 m (pc + 3) ls (.long (sJ S (2 * k) i) :: rest))) : W p l e R s m args below meth c H locs cells slots Q (F0 m pc ls (.ref (ad k i) :: rest)) := by
  obtain ⟨q, hq⟩ := cell_ns hR hi
  exact va_get (D := D) (ci := 7) (C := RX5) (T := TX5) (N := 2) hx hb hts hin hown hK hP q hq rfl 0 (by decide) hlink (fun _ h9 => h9) rfl hdg kk
theorem put_low_ns (hx : p.tables.exec = Jvm.exec) (hb : c.code = cc) (hts : ∀ w ∈ Ts, w.before args s = true) (hin : ∀ w ∈ u_ws RX5 TX5 2, w ∈ Ts) (hown : s.vm.findClass own = some m.cls) (hK : va_K D vwCl (gT tA) s) (hP : va_P D vwCl (va_pl L f) H) (hD : va_D A (va_pl L f)) (hS : va_S A H0 H locs) (hR : Rep tA S ad L f) (hi : isNS k = true ∧ V S k i) (hlink : (Cond.fieldLink own index (TX5 0).1 (TX5 0).2.1 (TX5 0).2.2.1).before args s = true) {v : Int64} (hdg : decode cc pc = .ok (.putfield index, 3))
    (kk : ∀ (H1 : Heap) (locs1 : List Loc) (f2 : Nat → va_E), va_P D vwCl (va_pl L f2) H1 → va_D A (va_pl L f2) → va_S A H0 H1 locs1 → Rep tA (uJ S (2 * k) i v) ad L f2 → W p l e R s m args below meth c H1 locs1 cells slots Q (F0 m (pc + 3) ls rest)) : W p l e R s m args below meth c H locs cells slots Q (F0 m pc ls (.long v :: .ref (ad k i) :: rest)) := by
  obtain ⟨hk, hi⟩ := hi
  rcases isNS_cases hk with rfl | rfl | rfl | rfl | rfl
  · exact put_low_8 hx hb hts hin hown hK hP hD hS hR hi hlink hdg kk
  · exact put_low_9 hx hb hts hin hown hK hP hD hS hR hi hlink hdg kk
  · exact put_low_10 hx hb hts hin hown hK hP hD hS hR hi hlink hdg kk
  · exact put_low_13 hx hb hts hin hown hK hP hD hS hR hi hlink hdg kk
  · exact put_low_14 hx hb hts hin hown hK hP hD hS hR hi hlink hdg kk
theorem get_high_ns (hx : p.tables.exec = Jvm.exec) (hb : c.code = cc) (hts : ∀ w ∈ Ts, w.before args s = true) (hin : ∀ w ∈ u_ws RX5 TX5 2, w ∈ Ts) (hown : s.vm.findClass own = some m.cls) (hK : va_K D vwCl (gT tA) s) (hP : va_P D vwCl (va_pl L f) H) (hR : Rep tA S ad L f) (hi : isNS k = true ∧ V S k i) (hlink : (Cond.fieldLink own index (TX5 1).1 (TX5 1).2.1 (TX5 1).2.2.1).before args s = true) (hdg : decode cc pc = .ok (.getfield index, 3))
    (kk : W p l e R s m args below meth c H locs cells slots Q (F0 m (pc + 3) ls (.long (sJ S (2 * k + 1) i) :: rest))) : W p l e R s m args below meth c H locs cells slots Q (F0 m pc ls (.ref (ad k i) :: rest)) := by
  obtain ⟨q, hq⟩ := cell_ns hR hi
  exact va_get (D := D) (ci := 7) (C := RX5) (T := TX5) (N := 2) hx hb hts hin hown hK hP q hq rfl 1 (by decide) hlink (fun _ h9 => h9) rfl hdg kk
theorem put_high_ns (hx : p.tables.exec = Jvm.exec) (hb : c.code = cc) (hts : ∀ w ∈ Ts, w.before args s = true) (hin : ∀ w ∈ u_ws RX5 TX5 2, w ∈ Ts) (hown : s.vm.findClass own = some m.cls) (hK : va_K D vwCl (gT tA) s) (hP : va_P D vwCl (va_pl L f) H) (hD : va_D A (va_pl L f)) (hS : va_S A H0 H locs) (hR : Rep tA S ad L f) (hi : isNS k = true ∧ V S k i) (hlink : (Cond.fieldLink own index (TX5 1).1 (TX5 1).2.1 (TX5 1).2.2.1).before args s = true) {v : Int64} (hdg : decode cc pc = .ok (.putfield index, 3))
    (kk : ∀ (H1 : Heap) (locs1 : List Loc) (f2 : Nat → va_E), va_P D vwCl (va_pl L f2) H1 → va_D A (va_pl L f2) → va_S A H0 H1 locs1 → Rep tA (uJ S (2 * k + 1) i v) ad L f2 → W p l e R s m args below meth c H1 locs1 cells slots Q (F0 m (pc + 3) ls rest)) : W p l e R s m args below meth c H locs cells slots Q (F0 m pc ls (.long v :: .ref (ad k i) :: rest)) := by
  obtain ⟨hk, hi⟩ := hi
  rcases isNS_cases hk with rfl | rfl | rfl | rfl | rfl
  · exact put_high_8 hx hb hts hin hown hK hP hD hS hR hi hlink hdg kk
  · exact put_high_9 hx hb hts hin hown hK hP hD hS hR hi hlink hdg kk
  · exact put_high_10 hx hb hts hin hown hK hP hD hS hR hi hlink hdg kk
  · exact put_high_13 hx hb hts hin hown hK hP hD hS hR hi hlink hdg kk
  · exact put_high_14 hx hb hts hin hown hK hP hD hS hR hi hlink hdg kk
end NSR
set_option maxHeartbeats 4000000 in
set_option maxRecDepth 100000 in
theorem c_X5_has_lo (l : Launch) {D : va_G} {tA : Nat → ClassId} {S : St} {ad : Nat → Nat → Nat} {L : List Nat} {f : Nat → va_E} (hR : Rep tA S ad L f) {k i j : Nat} (hk : isNS k = true ∧ V S k i) (hj : j < 64) : Met l yX5_has (wsC yX5_has cX5_has 2 (some .boolean)) ({ frames := 0, cells := 0, slots := 0, locals := 0 }) (va_Pc [.ref (ad k i), .int (nI j)] (gB D tA L f)) (vp_Si (fun r => r = bI (lb (sJ S (2 * k) i) j))) 0 0 (fun _ => False) := by
  refine Met.ofW (cc := cX5_has) (maxL := 2) (ret := (some .boolean)) (by decide) rfl ?_
  intro p e s m args below meth c s₁ B hml hv
  obtain ⟨rfl, hP, hK, hD⟩ := hv
  have hx := B.exec
  have hb := B.bytes
  have hr := B.returns
  have hts := atoms_spec (ws := wsC yX5_has cX5_has 2 (some .boolean)) B.pre
  have hta : ∀ w ∈ WA, w.before _ s = true := fun w h => hts w (List.mem_cons_of_mem _ h)
  have hown : s.vm.findClass RX5 = some m.cls := findClass_of_methodNamed B.named
  have hlocks := B.notSynchronized
  have hP : va_P D vwCl (va_pl L f) s.heap := hP
  have hl := lv_entry ([.ref (ad k i), .int (nI j)]) (n := 2) (Nat.le_of_ble_eq_true rfl)
  rw [lg_entry_eq]
  generalize (lg_sl ([.ref (ad k i), .int (nI j)]) ++ List.replicate (2 - (lg_sl ([.ref (ad k i), .int (nI j)])).length) Slot.unset).toArray = ls at hl ⊢
  have hl : lv_has ls 2 [(0, .ref (ad k i)), (1, .int (nI j))] := hl
  refine lv_iload_n hx hb dX5_has_0 rfl (lv_at hl 1 rfl) ?_
  refine lv_if_lt (tgt := 29) hx hb dX5_has_1 (by decide) (fun c1 => ?_) (fun c1 => ?_)
  · exact absurd c1 (nI_pos (by omega))
  · skip
    refine lv_iload_n hx hb dX5_has_4 rfl (lv_at hl 1 rfl) ?_
    refine lv_bipush (v := 64) hx hb dX5_has_5 (by decide) ?_
    refine lv_icmp_ge (tgt := 29) hx hb dX5_has_7 (by decide) (fun c2 => ?_) (fun c2 => ?_)
    · exact absurd c2 (nI_ge (a := j) (b := 64) (by omega) (by decide))
    · skip
      refine lv_aload_n hx hb dX5_has_10 rfl (lv_at hl 0 rfl) ?_
      refine get_low_ns hx hb hta iwX5 hown hK hP hR hk (hta _ mw87) dX5_has_11 ?_
      refine lv_iload_n hx hb dX5_has_14 rfl (lv_at hl 1 rfl) ?_
      refine lv_lushr (v := ((sJ S ((2 * k)) i).toUInt64 >>> ((nI j).toInt64.toUInt64 &&& Int64.toUInt64 63)).toInt64) hx hb dX5_has_15 rfl ?_
      refine lv_lconst (v := 1) hx hb dX5_has_16 (by decide) ?_
      refine lv_land hx hb dX5_has_17 ?_
      refine lv_lconst (v := 0) hx hb dX5_has_18 (by decide) ?_
      refine W.lcmp hx hb dX5_has_19 ?_
      refine lv_if_eq (tgt := 27) hx hb dX5_has_20 (by decide) (fun c3 => ?_) (fun c3 => ?_)
      · skip
        refine lv_iconst (v := 0) hx hb dX5_has_27 (by decide) ?_
        exact W.zret (v := 0) (ty := .boolean) hx hb hr (by decide) (fun t ht hWm => ⟨_, rfl, (has_f hj c3), ht⟩) (fun q h => absurd h List.not_mem_nil) dX5_has_28
      · skip
        refine lv_iconst (v := 1) hx hb dX5_has_23 (by decide) ?_
        refine lv_goto (tgt := 28) hx hb dX5_has_24 (by decide) ?_
        exact W.zret (v := 1) (ty := .boolean) hx hb hr (by decide) (fun t ht hWm => ⟨_, rfl, (has_t hj c3), ht⟩) (fun q h => absurd h List.not_mem_nil) dX5_has_28

set_option maxHeartbeats 4000000 in
set_option maxRecDepth 100000 in
theorem c_X5_has_hi (l : Launch) {D : va_G} {tA : Nat → ClassId} {S : St} {ad : Nat → Nat → Nat} {L : List Nat} {f : Nat → va_E} (hR : Rep tA S ad L f) {k i j : Nat} (hk : isNS k = true ∧ V S k i) (hj : 64 ≤ j) (hj2 : j < 128) : Met l yX5_has (wsC yX5_has cX5_has 2 (some .boolean)) ({ frames := 0, cells := 0, slots := 0, locals := 0 }) (va_Pc [.ref (ad k i), .int (nI j)] (gB D tA L f)) (vp_Si (fun r => r = bI (lb (sJ S (2 * k + 1) i) (j - 64)))) 0 0 (fun _ => False) := by
  refine Met.ofW (cc := cX5_has) (maxL := 2) (ret := (some .boolean)) (by decide) rfl ?_
  intro p e s m args below meth c s₁ B hml hv
  obtain ⟨rfl, hP, hK, hD⟩ := hv
  have hx := B.exec
  have hb := B.bytes
  have hr := B.returns
  have hts := atoms_spec (ws := wsC yX5_has cX5_has 2 (some .boolean)) B.pre
  have hta : ∀ w ∈ WA, w.before _ s = true := fun w h => hts w (List.mem_cons_of_mem _ h)
  have hown : s.vm.findClass RX5 = some m.cls := findClass_of_methodNamed B.named
  have hlocks := B.notSynchronized
  have hP : va_P D vwCl (va_pl L f) s.heap := hP
  have hl := lv_entry ([.ref (ad k i), .int (nI j)]) (n := 2) (Nat.le_of_ble_eq_true rfl)
  rw [lg_entry_eq]
  generalize (lg_sl ([.ref (ad k i), .int (nI j)]) ++ List.replicate (2 - (lg_sl ([.ref (ad k i), .int (nI j)])).length) Slot.unset).toArray = ls at hl ⊢
  have hl : lv_has ls 2 [(0, .ref (ad k i)), (1, .int (nI j))] := hl
  refine lv_iload_n hx hb dX5_has_0 rfl (lv_at hl 1 rfl) ?_
  refine lv_if_lt (tgt := 29) hx hb dX5_has_1 (by decide) (fun c1 => ?_) (fun c1 => ?_)
  · exact absurd c1 (nI_pos (by omega))
  · skip
    refine lv_iload_n hx hb dX5_has_4 rfl (lv_at hl 1 rfl) ?_
    refine lv_bipush (v := 64) hx hb dX5_has_5 (by decide) ?_
    refine lv_icmp_ge (tgt := 29) hx hb dX5_has_7 (by decide) (fun c2 => ?_) (fun c2 => ?_)
    · skip
      refine lv_iload_n hx hb dX5_has_29 rfl (lv_at hl 1 rfl) ?_
      refine lv_bipush (v := 64) hx hb dX5_has_30 (by decide) ?_
      refine lv_icmp_lt (tgt := 62) hx hb dX5_has_32 (by decide) (fun c3 => ?_) (fun c3 => ?_)
      · exact absurd c3 (nI_nlt (a := j) (b := 64) (by omega) (by omega))
      · skip
        refine lv_iload_n hx hb dX5_has_35 rfl (lv_at hl 1 rfl) ?_
        refine lv_sipush (v := 128) hx hb dX5_has_36 (by decide) ?_
        refine lv_icmp_ge (tgt := 62) hx hb dX5_has_39 (by decide) (fun c4 => ?_) (fun c4 => ?_)
        · exact absurd c4 (nI_ge (a := j) (b := 128) (by omega) (by decide))
        · skip
          refine lv_aload_n hx hb dX5_has_42 rfl (lv_at hl 0 rfl) ?_
          refine get_high_ns hx hb hta iwX5 hown hK hP hR hk (hta _ mw88) dX5_has_43 ?_
          refine lv_iload_n hx hb dX5_has_46 rfl (lv_at hl 1 rfl) ?_
          refine lv_bipush (v := 64) hx hb dX5_has_47 (by decide) ?_
          refine lv_isub hx hb dX5_has_49 ?_
          refine lv_lushr (v := ((sJ S ((2 * k + 1)) i).toUInt64 >>> (((nI j) - 64).toInt64.toUInt64 &&& Int64.toUInt64 63)).toInt64) hx hb dX5_has_50 rfl ?_
          refine lv_lconst (v := 1) hx hb dX5_has_51 (by decide) ?_
          refine lv_land hx hb dX5_has_52 ?_
          refine lv_lconst (v := 0) hx hb dX5_has_53 (by decide) ?_
          refine W.lcmp hx hb dX5_has_54 ?_
          refine lv_if_eq (tgt := 62) hx hb dX5_has_55 (by decide) (fun c5 => ?_) (fun c5 => ?_)
          · skip
            refine lv_iconst (v := 0) hx hb dX5_has_62 (by decide) ?_
            exact W.zret (v := 0) (ty := .boolean) hx hb hr (by decide) (fun t ht hWm => ⟨_, rfl, (has_f64 hj hj2 c5), ht⟩) (fun q h => absurd h List.not_mem_nil) dX5_has_63
          · skip
            refine lv_iconst (v := 1) hx hb dX5_has_58 (by decide) ?_
            refine lv_goto (tgt := 63) hx hb dX5_has_59 (by decide) ?_
            exact W.zret (v := 1) (ty := .boolean) hx hb hr (by decide) (fun t ht hWm => ⟨_, rfl, (has_t64 hj hj2 c5), ht⟩) (fun q h => absurd h List.not_mem_nil) dX5_has_63
    · exact absurd (nI_le (a := 64) (b := j) (by omega) (by omega)) c2

/-- has(j): whether j is in the set -/
theorem c_X5_has (l : Launch) {D : va_G} {tA : Nat → ClassId} {S : St} {ad : Nat → Nat → Nat} {L : List Nat} {f : Nat → va_E} (hR : Rep tA S ad L f) {k i j : Nat} (hk : isNS k = true ∧ V S k i) (hj : j < 128) : Met l yX5_has (wsC yX5_has cX5_has 2 (some .boolean)) ({ frames := 0, cells := 0, slots := 0, locals := 0 }) (va_Pc [.ref (ad k i), .int (nI j)] (gB D tA L f)) (vp_Si (fun r => r = bI (nsM S k i j))) 0 0 (fun _ => False) := by
  by_cases h : j < 64
  · simpa only [nsM, nsb, if_pos h] using c_X5_has_lo l hR hk h
  · simpa only [nsM, nsb, if_neg h] using c_X5_has_hi l hR hk (by omega) hj
def sAddA (S : St) (k i j : Nat) : IJP := if j < 64 then sA (uJ S (2 * k) i (sJ S (2 * k) i ||| ((1 : Int64) <<< ((nI j).toInt64 &&& 63)))) else sA (uJ S (2 * k + 1) i (sJ S (2 * k + 1) i ||| ((1 : Int64) <<< ((nI (j - 64)).toInt64 &&& 63))))
abbrev sAdd (S : St) (k i j : Nat) : St := sM S (sAddA S k i j)
def sDelA (S : St) (k i j : Nat) : IJP := if j < 64 then sA (uJ S (2 * k) i (sJ S (2 * k) i &&& (((1 : Int64) <<< ((nI j).toInt64 &&& 63)) ^^^ (-1)))) else sA (uJ S (2 * k + 1) i (sJ S (2 * k + 1) i &&& (((1 : Int64) <<< ((nI (j - 64)).toInt64 &&& 63)) ^^^ (-1))))
abbrev sDel (S : St) (k i j : Nat) : St := sM S (sDelA S k i j)
set_option maxHeartbeats 4000000 in
set_option maxRecDepth 100000 in
theorem c_X5_add_lo (l : Launch) {D : va_G} {tA : Nat → ClassId} {S : St} {ad : Nat → Nat → Nat} {L : List Nat} {f : Nat → va_E} {sz : Nat} (hR : Rep tA S ad L f) {k i j : Nat} (hk : isNS k = true ∧ V S k i) (hj : j < 64) : Met l yX5_add (wsC yX5_add cX5_add 2 none) ({ frames := 0, cells := 0, slots := 0, locals := 0 }) (va_Pc [.ref (ad k i), .int (nI j)] (gZ D tA L f sz)) (va_Qv (fun u : gU => sAdd S k i j = u.1 ∧ ad = u.2.1 ∧ L = u.2.2.1) (gE D tA (va_A (va_pl L f) sz)) (va_A (va_pl L f) sz)) 0 0 (va_A (va_pl L f) sz) := by
  refine Met.ofW (cc := cX5_add) (maxL := 2) (ret := none) (by decide) rfl ?_
  intro p e s m args below meth c s₁ B hml hv
  obtain ⟨rfl, hsz, hP, hK, hD0⟩ := hv
  have hx := B.exec
  have hb := B.bytes
  have hr := B.returns
  have hts := atoms_spec (ws := wsC yX5_add cX5_add 2 none) B.pre
  have hta : ∀ w ∈ WA, w.before _ s = true := fun w h => hts w (List.mem_cons_of_mem _ h)
  have hown : s.vm.findClass RX5 = some m.cls := findClass_of_methodNamed B.named
  have hlocks := B.notSynchronized
  subst hsz
  have hD : va_D (va_A (va_pl L f) s.heap.size) (va_pl L f) := hD0.self (sz := s.heap.size)
  generalize hAe : va_A (va_pl L f) s.heap.size = A at hD ⊢
  have hA : ∀ q : Nat, s.heap.size ≤ q → A q := fun q h => by rw [← hAe]; exact Or.inr h
  have hS : va_S A s.heap s.heap [] := va_S.rf
  have hP : va_P D vwCl (va_pl L f) s.heap := hP
  have hl := lv_entry ([.ref (ad k i), .int (nI j)]) (n := 2) (Nat.le_of_ble_eq_true rfl)
  rw [lg_entry_eq]
  generalize (lg_sl ([.ref (ad k i), .int (nI j)]) ++ List.replicate (2 - (lg_sl ([.ref (ad k i), .int (nI j)])).length) Slot.unset).toArray = ls at hl ⊢
  have hl : lv_has ls 2 [(0, .ref (ad k i)), (1, .int (nI j))] := hl
  refine lv_iload_n hx hb dX5_add_0 rfl (lv_at hl 1 rfl) ?_
  refine lv_if_lt (tgt := 25) hx hb dX5_add_1 (by decide) (fun c1 => ?_) (fun c1 => ?_)
  · exact absurd c1 (nI_pos (by omega))
  · skip
    refine lv_iload_n hx hb dX5_add_4 rfl (lv_at hl 1 rfl) ?_
    refine lv_bipush (v := 64) hx hb dX5_add_5 (by decide) ?_
    refine lv_icmp_ge (tgt := 25) hx hb dX5_add_7 (by decide) (fun c2 => ?_) (fun c2 => ?_)
    · exact absurd c2 (nI_ge (a := j) (b := 64) (by omega) (by decide))
    · skip
      refine lv_aload_n hx hb dX5_add_10 rfl (lv_at hl 0 rfl) ?_
      refine lv_dup hx hb dX5_add_11 rfl ?_
      refine get_low_ns hx hb hta iwX5 hown hK hP hR hk (hta _ mw87) dX5_add_12 ?_
      refine lv_lconst (v := 1) hx hb dX5_add_15 (by decide) ?_
      refine lv_iload_n hx hb dX5_add_16 rfl (lv_at hl 1 rfl) ?_
      refine lv_lshl (v := 1 <<< ((nI j).toInt64 &&& 63)) hx hb dX5_add_17 rfl ?_
      refine lv_lor hx hb dX5_add_18 ?_
      refine put_low_ns (v := ((sJ S ((2 * k)) i) ||| (1 <<< ((nI j).toInt64 &&& 63)) : Int64)) hx hb hta iwX5 hown hK hP hD hS hR hk (hta _ mw87) dX5_add_19 (fun H locs f hP hD hS hR => ?_)
      refine lv_goto (tgt := 53) hx hb dX5_add_22 (by decide) ?_
      exact W.vret hx hb hr (fun t ht hWm => gend_v (u := (uJ S (2 * k) i ((sJ S ((2 * k)) i) ||| (1 <<< ((nI j).toInt64 &&& 63))), ad, L, f)) ⟨by simp only [sAdd, sAddA, if_pos (show j < 64 by omega)]; (try rfl), rfl, rfl⟩ hR hP hK hD hS ht hWm) hS.2.2 dX5_add_53

set_option maxHeartbeats 4000000 in
set_option maxRecDepth 100000 in
theorem c_X5_add_hi (l : Launch) {D : va_G} {tA : Nat → ClassId} {S : St} {ad : Nat → Nat → Nat} {L : List Nat} {f : Nat → va_E} {sz : Nat} (hR : Rep tA S ad L f) {k i j : Nat} (hk : isNS k = true ∧ V S k i) (hj : 64 ≤ j) (hj2 : j < 128) : Met l yX5_add (wsC yX5_add cX5_add 2 none) ({ frames := 0, cells := 0, slots := 0, locals := 0 }) (va_Pc [.ref (ad k i), .int (nI j)] (gZ D tA L f sz)) (va_Qv (fun u : gU => sAdd S k i j = u.1 ∧ ad = u.2.1 ∧ L = u.2.2.1) (gE D tA (va_A (va_pl L f) sz)) (va_A (va_pl L f) sz)) 0 0 (va_A (va_pl L f) sz) := by
  refine Met.ofW (cc := cX5_add) (maxL := 2) (ret := none) (by decide) rfl ?_
  intro p e s m args below meth c s₁ B hml hv
  obtain ⟨rfl, hsz, hP, hK, hD0⟩ := hv
  have hx := B.exec
  have hb := B.bytes
  have hr := B.returns
  have hts := atoms_spec (ws := wsC yX5_add cX5_add 2 none) B.pre
  have hta : ∀ w ∈ WA, w.before _ s = true := fun w h => hts w (List.mem_cons_of_mem _ h)
  have hown : s.vm.findClass RX5 = some m.cls := findClass_of_methodNamed B.named
  have hlocks := B.notSynchronized
  subst hsz
  have hD : va_D (va_A (va_pl L f) s.heap.size) (va_pl L f) := hD0.self (sz := s.heap.size)
  generalize hAe : va_A (va_pl L f) s.heap.size = A at hD ⊢
  have hA : ∀ q : Nat, s.heap.size ≤ q → A q := fun q h => by rw [← hAe]; exact Or.inr h
  have hS : va_S A s.heap s.heap [] := va_S.rf
  have hP : va_P D vwCl (va_pl L f) s.heap := hP
  have hl := lv_entry ([.ref (ad k i), .int (nI j)]) (n := 2) (Nat.le_of_ble_eq_true rfl)
  rw [lg_entry_eq]
  generalize (lg_sl ([.ref (ad k i), .int (nI j)]) ++ List.replicate (2 - (lg_sl ([.ref (ad k i), .int (nI j)])).length) Slot.unset).toArray = ls at hl ⊢
  have hl : lv_has ls 2 [(0, .ref (ad k i)), (1, .int (nI j))] := hl
  refine lv_iload_n hx hb dX5_add_0 rfl (lv_at hl 1 rfl) ?_
  refine lv_if_lt (tgt := 25) hx hb dX5_add_1 (by decide) (fun c1 => ?_) (fun c1 => ?_)
  · exact absurd c1 (nI_pos (by omega))
  · skip
    refine lv_iload_n hx hb dX5_add_4 rfl (lv_at hl 1 rfl) ?_
    refine lv_bipush (v := 64) hx hb dX5_add_5 (by decide) ?_
    refine lv_icmp_ge (tgt := 25) hx hb dX5_add_7 (by decide) (fun c2 => ?_) (fun c2 => ?_)
    · skip
      refine lv_iload_n hx hb dX5_add_25 rfl (lv_at hl 1 rfl) ?_
      refine lv_bipush (v := 64) hx hb dX5_add_26 (by decide) ?_
      refine lv_icmp_lt (tgt := 53) hx hb dX5_add_28 (by decide) (fun c3 => ?_) (fun c3 => ?_)
      · exact absurd c3 (nI_nlt (a := j) (b := 64) (by omega) (by omega))
      · skip
        refine lv_iload_n hx hb dX5_add_31 rfl (lv_at hl 1 rfl) ?_
        refine lv_sipush (v := 128) hx hb dX5_add_32 (by decide) ?_
        refine lv_icmp_ge (tgt := 53) hx hb dX5_add_35 (by decide) (fun c4 => ?_) (fun c4 => ?_)
        · exact absurd c4 (nI_ge (a := j) (b := 128) (by omega) (by decide))
        · skip
          refine lv_aload_n hx hb dX5_add_38 rfl (lv_at hl 0 rfl) ?_
          refine lv_dup hx hb dX5_add_39 rfl ?_
          refine get_high_ns hx hb hta iwX5 hown hK hP hR hk (hta _ mw88) dX5_add_40 ?_
          refine lv_lconst (v := 1) hx hb dX5_add_43 (by decide) ?_
          refine lv_iload_n hx hb dX5_add_44 rfl (lv_at hl 1 rfl) ?_
          refine lv_bipush (v := 64) hx hb dX5_add_45 (by decide) ?_
          refine lv_isub hx hb dX5_add_47 ?_
          refine lv_lshl (v := 1 <<< (((nI j) - 64).toInt64 &&& 63)) hx hb dX5_add_48 rfl ?_
          refine lv_lor hx hb dX5_add_49 ?_
          refine put_high_ns (v := ((sJ S ((2 * k + 1)) i) ||| (1 <<< (((nI j) - 64).toInt64 &&& 63)) : Int64)) hx hb hta iwX5 hown hK hP hD hS hR hk (hta _ mw88) dX5_add_50 (fun H locs f hP hD hS hR => ?_)
          exact W.vret hx hb hr (fun t ht hWm => gend_v (u := (uJ S (2 * k + 1) i ((sJ S ((2 * k + 1)) i) ||| (1 <<< (((nI j) - 64).toInt64 &&& 63))), ad, L, f)) ⟨by simp only [sAdd, sAddA, if_neg (show ¬ j < 64 by omega), nI_m64 (show 64 ≤ j by omega)]; (try rfl), rfl, rfl⟩ hR hP hK hD hS ht hWm) hS.2.2 dX5_add_53
    · exact absurd (nI_le (a := 64) (b := j) (by omega) (by omega)) c2

/-- add(j) -/
theorem c_X5_add (l : Launch) {D : va_G} {tA : Nat → ClassId} {S : St} {ad : Nat → Nat → Nat} {L : List Nat} {f : Nat → va_E} {sz : Nat} (hR : Rep tA S ad L f) {k i j : Nat} (hk : isNS k = true ∧ V S k i) (hj : j < 128) : Met l yX5_add (wsC yX5_add cX5_add 2 none) ({ frames := 0, cells := 0, slots := 0, locals := 0 }) (va_Pc [.ref (ad k i), .int (nI j)] (gZ D tA L f sz)) (va_Qv (fun u : gU => sAdd S k i j = u.1 ∧ ad = u.2.1 ∧ L = u.2.2.1) (gE D tA (va_A (va_pl L f) sz)) (va_A (va_pl L f) sz)) 0 0 (va_A (va_pl L f) sz) := by
  by_cases h : j < 64
  · exact c_X5_add_lo l hR hk h
  · exact c_X5_add_hi l hR hk (by omega) hj
set_option maxHeartbeats 4000000 in
set_option maxRecDepth 100000 in
theorem c_X5_remove_lo (l : Launch) {D : va_G} {tA : Nat → ClassId} {S : St} {ad : Nat → Nat → Nat} {L : List Nat} {f : Nat → va_E} {sz : Nat} (hR : Rep tA S ad L f) {k i j : Nat} (hk : isNS k = true ∧ V S k i) (hj : j < 64) : Met l yX5_remove (wsC yX5_remove cX5_remove 2 none) ({ frames := 0, cells := 0, slots := 0, locals := 0 }) (va_Pc [.ref (ad k i), .int (nI j)] (gZ D tA L f sz)) (va_Qv (fun u : gU => sDel S k i j = u.1 ∧ ad = u.2.1 ∧ L = u.2.2.1) (gE D tA (va_A (va_pl L f) sz)) (va_A (va_pl L f) sz)) 0 0 (va_A (va_pl L f) sz) := by
  refine Met.ofW (cc := cX5_remove) (maxL := 2) (ret := none) (by decide) rfl ?_
  intro p e s m args below meth c s₁ B hml hv
  obtain ⟨rfl, hsz, hP, hK, hD0⟩ := hv
  have hx := B.exec
  have hb := B.bytes
  have hr := B.returns
  have hts := atoms_spec (ws := wsC yX5_remove cX5_remove 2 none) B.pre
  have hta : ∀ w ∈ WA, w.before _ s = true := fun w h => hts w (List.mem_cons_of_mem _ h)
  have hown : s.vm.findClass RX5 = some m.cls := findClass_of_methodNamed B.named
  have hlocks := B.notSynchronized
  subst hsz
  have hD : va_D (va_A (va_pl L f) s.heap.size) (va_pl L f) := hD0.self (sz := s.heap.size)
  generalize hAe : va_A (va_pl L f) s.heap.size = A at hD ⊢
  have hA : ∀ q : Nat, s.heap.size ≤ q → A q := fun q h => by rw [← hAe]; exact Or.inr h
  have hS : va_S A s.heap s.heap [] := va_S.rf
  have hP : va_P D vwCl (va_pl L f) s.heap := hP
  have hl := lv_entry ([.ref (ad k i), .int (nI j)]) (n := 2) (Nat.le_of_ble_eq_true rfl)
  rw [lg_entry_eq]
  generalize (lg_sl ([.ref (ad k i), .int (nI j)]) ++ List.replicate (2 - (lg_sl ([.ref (ad k i), .int (nI j)])).length) Slot.unset).toArray = ls at hl ⊢
  have hl : lv_has ls 2 [(0, .ref (ad k i)), (1, .int (nI j))] := hl
  refine lv_iload_n hx hb dX5_remove_0 rfl (lv_at hl 1 rfl) ?_
  refine lv_if_lt (tgt := 29) hx hb dX5_remove_1 (by decide) (fun c1 => ?_) (fun c1 => ?_)
  · exact absurd c1 (nI_pos (by omega))
  · skip
    refine lv_iload_n hx hb dX5_remove_4 rfl (lv_at hl 1 rfl) ?_
    refine lv_bipush (v := 64) hx hb dX5_remove_5 (by decide) ?_
    refine lv_icmp_ge (tgt := 29) hx hb dX5_remove_7 (by decide) (fun c2 => ?_) (fun c2 => ?_)
    · exact absurd c2 (nI_ge (a := j) (b := 64) (by omega) (by decide))
    · skip
      refine lv_aload_n hx hb dX5_remove_10 rfl (lv_at hl 0 rfl) ?_
      refine lv_dup hx hb dX5_remove_11 rfl ?_
      refine get_low_ns hx hb hta iwX5 hown hK hP hR hk (hta _ mw87) dX5_remove_12 ?_
      refine lv_lconst (v := 1) hx hb dX5_remove_15 (by decide) ?_
      refine lv_iload_n hx hb dX5_remove_16 rfl (lv_at hl 1 rfl) ?_
      refine lv_lshl (v := 1 <<< ((nI j).toInt64 &&& 63)) hx hb dX5_remove_17 rfl ?_
      refine lv_ldc2 (own := RX5) (index := 16) (v := (-1)) hx hb hown (hta _ mw476) dX5_remove_18 ?_
      refine lv_lxor hx hb dX5_remove_21 ?_
      refine lv_land hx hb dX5_remove_22 ?_
      refine put_low_ns (v := ((sJ S ((2 * k)) i) &&& ((1 <<< ((nI j).toInt64 &&& 63)) ^^^ ((-1))) : Int64)) hx hb hta iwX5 hown hK hP hD hS hR hk (hta _ mw87) dX5_remove_23 (fun H locs f hP hD hS hR => ?_)
      refine lv_goto (tgt := 61) hx hb dX5_remove_26 (by decide) ?_
      exact W.vret hx hb hr (fun t ht hWm => gend_v (u := (uJ S (2 * k) i ((sJ S ((2 * k)) i) &&& ((1 <<< ((nI j).toInt64 &&& 63)) ^^^ ((-1)))), ad, L, f)) ⟨by simp only [sDel, sDelA, if_pos (show j < 64 by omega)]; (try rfl), rfl, rfl⟩ hR hP hK hD hS ht hWm) hS.2.2 dX5_remove_61

set_option maxHeartbeats 4000000 in
set_option maxRecDepth 100000 in
theorem c_X5_remove_hi (l : Launch) {D : va_G} {tA : Nat → ClassId} {S : St} {ad : Nat → Nat → Nat} {L : List Nat} {f : Nat → va_E} {sz : Nat} (hR : Rep tA S ad L f) {k i j : Nat} (hk : isNS k = true ∧ V S k i) (hj : 64 ≤ j) (hj2 : j < 128) : Met l yX5_remove (wsC yX5_remove cX5_remove 2 none) ({ frames := 0, cells := 0, slots := 0, locals := 0 }) (va_Pc [.ref (ad k i), .int (nI j)] (gZ D tA L f sz)) (va_Qv (fun u : gU => sDel S k i j = u.1 ∧ ad = u.2.1 ∧ L = u.2.2.1) (gE D tA (va_A (va_pl L f) sz)) (va_A (va_pl L f) sz)) 0 0 (va_A (va_pl L f) sz) := by
  refine Met.ofW (cc := cX5_remove) (maxL := 2) (ret := none) (by decide) rfl ?_
  intro p e s m args below meth c s₁ B hml hv
  obtain ⟨rfl, hsz, hP, hK, hD0⟩ := hv
  have hx := B.exec
  have hb := B.bytes
  have hr := B.returns
  have hts := atoms_spec (ws := wsC yX5_remove cX5_remove 2 none) B.pre
  have hta : ∀ w ∈ WA, w.before _ s = true := fun w h => hts w (List.mem_cons_of_mem _ h)
  have hown : s.vm.findClass RX5 = some m.cls := findClass_of_methodNamed B.named
  have hlocks := B.notSynchronized
  subst hsz
  have hD : va_D (va_A (va_pl L f) s.heap.size) (va_pl L f) := hD0.self (sz := s.heap.size)
  generalize hAe : va_A (va_pl L f) s.heap.size = A at hD ⊢
  have hA : ∀ q : Nat, s.heap.size ≤ q → A q := fun q h => by rw [← hAe]; exact Or.inr h
  have hS : va_S A s.heap s.heap [] := va_S.rf
  have hP : va_P D vwCl (va_pl L f) s.heap := hP
  have hl := lv_entry ([.ref (ad k i), .int (nI j)]) (n := 2) (Nat.le_of_ble_eq_true rfl)
  rw [lg_entry_eq]
  generalize (lg_sl ([.ref (ad k i), .int (nI j)]) ++ List.replicate (2 - (lg_sl ([.ref (ad k i), .int (nI j)])).length) Slot.unset).toArray = ls at hl ⊢
  have hl : lv_has ls 2 [(0, .ref (ad k i)), (1, .int (nI j))] := hl
  refine lv_iload_n hx hb dX5_remove_0 rfl (lv_at hl 1 rfl) ?_
  refine lv_if_lt (tgt := 29) hx hb dX5_remove_1 (by decide) (fun c1 => ?_) (fun c1 => ?_)
  · exact absurd c1 (nI_pos (by omega))
  · skip
    refine lv_iload_n hx hb dX5_remove_4 rfl (lv_at hl 1 rfl) ?_
    refine lv_bipush (v := 64) hx hb dX5_remove_5 (by decide) ?_
    refine lv_icmp_ge (tgt := 29) hx hb dX5_remove_7 (by decide) (fun c2 => ?_) (fun c2 => ?_)
    · skip
      refine lv_iload_n hx hb dX5_remove_29 rfl (lv_at hl 1 rfl) ?_
      refine lv_bipush (v := 64) hx hb dX5_remove_30 (by decide) ?_
      refine lv_icmp_lt (tgt := 61) hx hb dX5_remove_32 (by decide) (fun c3 => ?_) (fun c3 => ?_)
      · exact absurd c3 (nI_nlt (a := j) (b := 64) (by omega) (by omega))
      · skip
        refine lv_iload_n hx hb dX5_remove_35 rfl (lv_at hl 1 rfl) ?_
        refine lv_sipush (v := 128) hx hb dX5_remove_36 (by decide) ?_
        refine lv_icmp_ge (tgt := 61) hx hb dX5_remove_39 (by decide) (fun c4 => ?_) (fun c4 => ?_)
        · exact absurd c4 (nI_ge (a := j) (b := 128) (by omega) (by decide))
        · skip
          refine lv_aload_n hx hb dX5_remove_42 rfl (lv_at hl 0 rfl) ?_
          refine lv_dup hx hb dX5_remove_43 rfl ?_
          refine get_high_ns hx hb hta iwX5 hown hK hP hR hk (hta _ mw88) dX5_remove_44 ?_
          refine lv_lconst (v := 1) hx hb dX5_remove_47 (by decide) ?_
          refine lv_iload_n hx hb dX5_remove_48 rfl (lv_at hl 1 rfl) ?_
          refine lv_bipush (v := 64) hx hb dX5_remove_49 (by decide) ?_
          refine lv_isub hx hb dX5_remove_51 ?_
          refine lv_lshl (v := 1 <<< (((nI j) - 64).toInt64 &&& 63)) hx hb dX5_remove_52 rfl ?_
          refine lv_ldc2 (own := RX5) (index := 16) (v := (-1)) hx hb hown (hta _ mw476) dX5_remove_53 ?_
          refine lv_lxor hx hb dX5_remove_56 ?_
          refine lv_land hx hb dX5_remove_57 ?_
          refine put_high_ns (v := ((sJ S ((2 * k + 1)) i) &&& ((1 <<< (((nI j) - 64).toInt64 &&& 63)) ^^^ ((-1))) : Int64)) hx hb hta iwX5 hown hK hP hD hS hR hk (hta _ mw88) dX5_remove_58 (fun H locs f hP hD hS hR => ?_)
          exact W.vret hx hb hr (fun t ht hWm => gend_v (u := (uJ S (2 * k + 1) i ((sJ S ((2 * k + 1)) i) &&& ((1 <<< (((nI j) - 64).toInt64 &&& 63)) ^^^ ((-1)))), ad, L, f)) ⟨by simp only [sDel, sDelA, if_neg (show ¬ j < 64 by omega), nI_m64 (show 64 ≤ j by omega)]; (try rfl), rfl, rfl⟩ hR hP hK hD hS ht hWm) hS.2.2 dX5_remove_61
    · exact absurd (nI_le (a := 64) (b := j) (by omega) (by omega)) c2

/-- remove(j) -/
theorem c_X5_remove (l : Launch) {D : va_G} {tA : Nat → ClassId} {S : St} {ad : Nat → Nat → Nat} {L : List Nat} {f : Nat → va_E} {sz : Nat} (hR : Rep tA S ad L f) {k i j : Nat} (hk : isNS k = true ∧ V S k i) (hj : j < 128) : Met l yX5_remove (wsC yX5_remove cX5_remove 2 none) ({ frames := 0, cells := 0, slots := 0, locals := 0 }) (va_Pc [.ref (ad k i), .int (nI j)] (gZ D tA L f sz)) (va_Qv (fun u : gU => sDel S k i j = u.1 ∧ ad = u.2.1 ∧ L = u.2.2.1) (gE D tA (va_A (va_pl L f) sz)) (va_A (va_pl L f) sz)) 0 0 (va_A (va_pl L f) sz) := by
  by_cases h : j < 64
  · exact c_X5_remove_lo l hR hk h
  · exact c_X5_remove_hi l hR hk (by omega) hj
set_option maxHeartbeats 4000000 in
set_option maxRecDepth 100000 in
/-- whether two sets have a number in common -/
theorem c_X5_meets (l : Launch) {D : va_G} {tA : Nat → ClassId} {S : St} {ad : Nat → Nat → Nat} {L : List Nat} {f : Nat → va_E} (hR : Rep tA S ad L f) {k i k2 i2 : Nat} (hk : isNS k = true ∧ V S k i) (hk2 : isNS k2 = true ∧ V S k2 i2) : Met l yX5_meets (wsC yX5_meets cX5_meets 2 (some .boolean)) ({ frames := 0, cells := 0, slots := 0, locals := 0 }) (va_Pc [.ref (ad k i), .ref (ad k2 i2)] (gB D tA L f)) (vp_Si (fun r => r = bI (nsMeets (nsLo S k i) (nsHi S k i) (nsLo S k2 i2) (nsHi S k2 i2)))) 0 0 (fun _ => False) := by
  refine Met.ofW (cc := cX5_meets) (maxL := 2) (ret := (some .boolean)) (by decide) rfl ?_
  intro p e s m args below meth c s₁ B hml hv
  obtain ⟨rfl, hP, hK, hD⟩ := hv
  have hx := B.exec
  have hb := B.bytes
  have hr := B.returns
  have hts := atoms_spec (ws := wsC yX5_meets cX5_meets 2 (some .boolean)) B.pre
  have hta : ∀ w ∈ WA, w.before _ s = true := fun w h => hts w (List.mem_cons_of_mem _ h)
  have hown : s.vm.findClass RX5 = some m.cls := findClass_of_methodNamed B.named
  have hlocks := B.notSynchronized
  have hP : va_P D vwCl (va_pl L f) s.heap := hP
  have hl := lv_entry ([.ref (ad k i), .ref (ad k2 i2)]) (n := 2) (Nat.le_of_ble_eq_true rfl)
  rw [lg_entry_eq]
  generalize (lg_sl ([.ref (ad k i), .ref (ad k2 i2)]) ++ List.replicate (2 - (lg_sl ([.ref (ad k i), .ref (ad k2 i2)])).length) Slot.unset).toArray = ls at hl ⊢
  have hl : lv_has ls 2 [(0, .ref (ad k i)), (1, .ref (ad k2 i2))] := hl
  refine lv_aload_n hx hb dX5_meets_0 rfl (lv_at hl 0 rfl) ?_
  refine get_low_ns hx hb hta iwX5 hown hK hP hR hk (hta _ mw87) dX5_meets_1 ?_
  refine lv_aload_n hx hb dX5_meets_4 rfl (lv_at hl 1 rfl) ?_
  refine get_low_ns hx hb hta iwX5 hown hK hP hR hk2 (hta _ mw87) dX5_meets_5 ?_
  refine lv_land hx hb dX5_meets_8 ?_
  refine lv_lconst (v := 0) hx hb dX5_meets_9 (by decide) ?_
  refine W.lcmp hx hb dX5_meets_10 ?_
  refine lv_if_ne (tgt := 28) hx hb dX5_meets_11 (by decide) (fun c1 => ?_) (fun c1 => ?_)
  · skip
    refine lv_iconst (v := 1) hx hb dX5_meets_28 (by decide) ?_
    refine lv_goto (tgt := 33) hx hb dX5_meets_29 (by decide) ?_
    exact W.zret (v := 1) (ty := .boolean) hx hb hr (by decide) (fun t ht hWm => ⟨_, rfl, (nsMeets_a c1), ht⟩) (fun q h => absurd h List.not_mem_nil) dX5_meets_33
  · skip
    refine lv_aload_n hx hb dX5_meets_14 rfl (lv_at hl 0 rfl) ?_
    refine get_high_ns hx hb hta iwX5 hown hK hP hR hk (hta _ mw88) dX5_meets_15 ?_
    refine lv_aload_n hx hb dX5_meets_18 rfl (lv_at hl 1 rfl) ?_
    refine get_high_ns hx hb hta iwX5 hown hK hP hR hk2 (hta _ mw88) dX5_meets_19 ?_
    refine lv_land hx hb dX5_meets_22 ?_
    refine lv_lconst (v := 0) hx hb dX5_meets_23 (by decide) ?_
    refine W.lcmp hx hb dX5_meets_24 ?_
    refine lv_if_eq (tgt := 32) hx hb dX5_meets_25 (by decide) (fun c2 => ?_) (fun c2 => ?_)
    · skip
      refine lv_iconst (v := 0) hx hb dX5_meets_32 (by decide) ?_
      exact W.zret (v := 0) (ty := .boolean) hx hb hr (by decide) (fun t ht hWm => ⟨_, rfl, (nsMeets_c c1 c2), ht⟩) (fun q h => absurd h List.not_mem_nil) dX5_meets_33
    · skip
      refine lv_iconst (v := 1) hx hb dX5_meets_28 (by decide) ?_
      refine lv_goto (tgt := 33) hx hb dX5_meets_29 (by decide) ?_
      exact W.zret (v := 1) (ty := .boolean) hx hb hr (by decide) (fun t ht hWm => ⟨_, rfl, (nsMeets_b c1 c2), ht⟩) (fun q h => absurd h List.not_mem_nil) dX5_meets_33

