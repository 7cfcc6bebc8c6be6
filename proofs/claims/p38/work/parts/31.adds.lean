/-! addMachine, addPart, addComponent, addOperation, where they do not throw (made by wip/gen/spec_q.py) -/
theorem nI_ne {n : Nat} (h : n < 2 ^ 31) : ¬ nI n = -1 := fun e => by
  have h1 := congrArg Int32.toInt e
  rw [nI_toInt h] at h1
  have h2 : (-1 : Int32).toInt = -1 := by decide
  omega
set_option maxHeartbeats 4000000 in
set_option maxRecDepth 100000 in
theorem c_X10_addMachine (l : Launch) {D : va_G} {tA : Nat → ClassId} {S : St} {ad : Nat → Nat → Nat} {L : List Nat} {f : Nat → va_E} {sz : Nat} (hR : Rep tA S ad L f) (hW : WT S) (ra se li re : Int32) (hra : inR ra 0 20 = true) (hse : inR se 0 50 = true) (hli : inR li 5 500 = true) (hre : inR re 1 99 = true) (hn : sN S 0 0 < 5) : Met l yX10_addMachine (wsC yX10_addMachine cX10_addMachine 5 (some .int)) ({ frames := 2, cells := 1, slots := 11, locals := 44 }) (va_Pc [.ref (ad 0 0), .int ra, .int se, .int li, .int re] (gY D tA L f sz)) (va_Qi (fun (r : Int32) (u : gU) => r = nI (sN S 0 0) ∧ nwMS S ra se li re = u.1 ∧ ∀ k i, V S k i → u.2.1 k i = ad k i) (gE D tA (va_A (va_pl L f) sz)) (va_A (va_pl L f) sz)) 1 11 (va_A (va_pl L f) sz) := by
  refine Met.ofW (cc := cX10_addMachine) (maxL := 5) (ret := (some .int)) (by decide) rfl ?_
  intro p e s m args below meth c s₁ B hml hv
  obtain ⟨rfl, ⟨hsz, hP, hK, hD0⟩, hX⟩ := hv
  have hx := B.exec
  have hb := B.bytes
  have hr := B.returns
  have hts := atoms_spec (ws := wsC yX10_addMachine cX10_addMachine 5 (some .int)) B.pre
  have hta : ∀ w ∈ WA, w.before _ s = true := fun w h => hts w (List.mem_cons_of_mem _ h)
  have hown : s.vm.findClass RX10 = some m.cls := findClass_of_methodNamed B.named
  have hlocks := B.notSynchronized
  subst hsz
  have hD : va_D (va_A (va_pl L f) s.heap.size) (va_pl L f) := hD0.self (sz := s.heap.size)
  generalize hAe : va_A (va_pl L f) s.heap.size = A at hD ⊢
  have hA : ∀ q : Nat, s.heap.size ≤ q → A q := fun q h => by rw [← hAe]; exact Or.inr h
  have hS : va_S A s.heap s.heap [] := va_S.rf
  have hP : va_P D vwCl (va_pl L f) s.heap := hP
  have hl := lv_entry ([.ref (ad 0 0), .int ra, .int se, .int li, .int re]) (n := 5) (Nat.le_of_ble_eq_true rfl)
  rw [lg_entry_eq]
  generalize (lg_sl ([.ref (ad 0 0), .int ra, .int se, .int li, .int re]) ++ List.replicate (5 - (lg_sl ([.ref (ad 0 0), .int ra, .int se, .int li, .int re])).length) Slot.unset).toArray = ls at hl ⊢
  have hl : lv_has ls 5 [(0, .ref (ad 0 0)), (1, .int ra), (2, .int se), (3, .int li), (4, .int re)] := hl
  refine lv_iload_n hx hb dX10_addMachine_0 rfl (lv_at hl 1 rfl) ?_
  refine lv_iconst (v := 0) hx hb dX10_addMachine_1 (by decide) ?_
  refine lv_bipush (v := 20) hx hb dX10_addMachine_2 (by decide) ?_
  refine vp_callSi (W.runS (As := [.int ra, .int 0, .int 20]) (rest := []) ⟨hx, hb, hml, hown, hta⟩ (c_X10_isFrom l ra 0 20) (va_cwS 3 hta (gWS mw223 mw224 mw40 mw225) rfl rfl rfl (by decide +kernel) ⟨Nat.le_of_ble_eq_true rfl, Nat.le_of_ble_eq_true rfl⟩) ⟨fun a U g mk q => ⟨q.1, trivial⟩, fun U hU hW9 => ⟨rfl, trivial⟩⟩ rfl rfl hl.1 rfl (lv_room (Nat.le_of_ble_eq_true rfl)) dX10_addMachine_4 ⟨Nat.le_of_ble_eq_true rfl, Nat.le_of_ble_eq_true rfl⟩) (fun r1 c2 => ?_)
  obtain rfl : r1 = 1 := c2.trans (by rw [hra]; rfl)
  refine lv_if_eq (tgt := 42) hx hb dX10_addMachine_7 (by decide) (fun c3 => ?_) (fun c3 => ?_)
  · exact absurd c3 (by decide)
  · skip
    refine lv_iload_n hx hb dX10_addMachine_10 rfl (lv_at hl 2 rfl) ?_
    refine lv_iconst (v := 0) hx hb dX10_addMachine_11 (by decide) ?_
    refine lv_bipush (v := 50) hx hb dX10_addMachine_12 (by decide) ?_
    refine vp_callSi (W.runS (As := [.int se, .int 0, .int 50]) (rest := []) ⟨hx, hb, hml, hown, hta⟩ (c_X10_isFrom l se 0 50) (va_cwS 3 hta (gWS mw223 mw224 mw40 mw225) rfl rfl rfl (by decide +kernel) ⟨Nat.le_of_ble_eq_true rfl, Nat.le_of_ble_eq_true rfl⟩) ⟨fun a U g mk q => ⟨q.1, trivial⟩, fun U hU hW9 => ⟨rfl, trivial⟩⟩ rfl rfl hl.1 rfl (lv_room (Nat.le_of_ble_eq_true rfl)) dX10_addMachine_14 ⟨Nat.le_of_ble_eq_true rfl, Nat.le_of_ble_eq_true rfl⟩) (fun r4 c5 => ?_)
    obtain rfl : r4 = 1 := c5.trans (by rw [hse]; rfl)
    refine lv_if_eq (tgt := 42) hx hb dX10_addMachine_17 (by decide) (fun c6 => ?_) (fun c6 => ?_)
    · exact absurd c6 (by decide)
    · skip
      refine lv_iload_n hx hb dX10_addMachine_20 rfl (lv_at hl 3 rfl) ?_
      refine lv_iconst (v := 5) hx hb dX10_addMachine_21 (by decide) ?_
      refine lv_sipush (v := 500) hx hb dX10_addMachine_22 (by decide) ?_
      refine vp_callSi (W.runS (As := [.int li, .int 5, .int 500]) (rest := []) ⟨hx, hb, hml, hown, hta⟩ (c_X10_isFrom l li 5 500) (va_cwS 3 hta (gWS mw223 mw224 mw40 mw225) rfl rfl rfl (by decide +kernel) ⟨Nat.le_of_ble_eq_true rfl, Nat.le_of_ble_eq_true rfl⟩) ⟨fun a U g mk q => ⟨q.1, trivial⟩, fun U hU hW9 => ⟨rfl, trivial⟩⟩ rfl rfl hl.1 rfl (lv_room (Nat.le_of_ble_eq_true rfl)) dX10_addMachine_25 ⟨Nat.le_of_ble_eq_true rfl, Nat.le_of_ble_eq_true rfl⟩) (fun r7 c8 => ?_)
      obtain rfl : r7 = 1 := c8.trans (by rw [hli]; rfl)
      refine lv_if_eq (tgt := 42) hx hb dX10_addMachine_28 (by decide) (fun c9 => ?_) (fun c9 => ?_)
      · exact absurd c9 (by decide)
      · skip
        refine lv_iload hx hb dX10_addMachine_31 (lv_at hl 4 rfl) ?_
        refine lv_iconst (v := 1) hx hb dX10_addMachine_33 (by decide) ?_
        refine lv_bipush (v := 99) hx hb dX10_addMachine_34 (by decide) ?_
        refine vp_callSi (W.runS (As := [.int re, .int 1, .int 99]) (rest := []) ⟨hx, hb, hml, hown, hta⟩ (c_X10_isFrom l re 1 99) (va_cwS 3 hta (gWS mw223 mw224 mw40 mw225) rfl rfl rfl (by decide +kernel) ⟨Nat.le_of_ble_eq_true rfl, Nat.le_of_ble_eq_true rfl⟩) ⟨fun a U g mk q => ⟨q.1, trivial⟩, fun U hU hW9 => ⟨rfl, trivial⟩⟩ rfl rfl hl.1 rfl (lv_room (Nat.le_of_ble_eq_true rfl)) dX10_addMachine_36 ⟨Nat.le_of_ble_eq_true rfl, Nat.le_of_ble_eq_true rfl⟩) (fun r10 c11 => ?_)
        obtain rfl : r10 = 1 := c11.trans (by rw [hre]; rfl)
        refine lv_if_ne (tgt := 52) hx hb dX10_addMachine_39 (by decide) (fun c12 => ?_) (fun c12 => ?_)
        · skip
          refine lv_aload_n hx hb dX10_addMachine_52 rfl (lv_at hl 0 rfl) ?_
          refine get_machineCount_0 hx hb hta iwX10 hown hK hP hR (rfl : (0 : Nat) = 0) (hta _ mw102) dX10_addMachine_53 ?_
          refine lv_aload_n hx hb dX10_addMachine_56 rfl (lv_at hl 0 rfl) ?_
          refine get_machines_0 hx hb hta iwX10 hown hK hP hR (rfl : (0 : Nat) = 0) (hta _ mw96) dX10_addMachine_57 ?_
          refine len_machines hx hb hK hP hR (rfl : (0 : Nat) = 0) dX10_addMachine_60 ?_
          refine lv_icmp_lt (tgt := 74) hx hb dX10_addMachine_61 (by decide) (fun c13 => ?_) (fun c13 => ?_)
          · skip
            refine lv_aload_n hx hb dX10_addMachine_74 rfl (lv_at hl 0 rfl) ?_
            refine get_machines_0 hx hb hta iwX10 hown hK hP hR (rfl : (0 : Nat) = 0) (hta _ mw96) dX10_addMachine_75 ?_
            refine lv_aload_n hx hb dX10_addMachine_78 rfl (lv_at hl 0 rfl) ?_
            refine get_machineCount_0 hx hb hta iwX10 hown hK hP hR (rfl : (0 : Nat) = 0) (hta _ mw102) dX10_addMachine_79 ?_
            refine raw_new (ci := 6) (K := RX4) (T := TX4) (N := 11) (fs := [.int 0, .int 0, .int 0, .int 0, .int 0, .int 0, .int 0, .int 0, .int 0, .int 0, .null]) hx hb hta iwX4 tyX4 tyX4_ok hown (hta _ mw77) (hta _ mw240) (hta _ mw48) hK hP hD hS hA rfl (fun j hj => by rcases (show j = 0 ∨ j = 1 ∨ j = 2 ∨ j = 3 ∨ j = 4 ∨ j = 5 ∨ j = 6 ∨ j = 7 ∨ j = 8 ∨ j = 9 ∨ j = 10 by omega) with rfl | rfl | rfl | rfl | rfl | rfl | rfl | rfl | rfl | rfl | rfl <;> rfl) (Nat.le_of_ble_eq_true rfl) (Nat.le_of_ble_eq_true rfl) dX10_addMachine_82 (fun q H L2 f2 hn1 hm1 hs1 hd1 hf1 ho1 hP hD hS => ?_)
            have hne1 : ∀ k i, V S k i → ad k i ≠ q := fun k i hv z => hn1 (z ▸ (hR.1 k i hv).1)
            have hR1 : Rep tA S ad L2 f2 := hR.raw hs1 (fun k i hv => ho1 _ (hne1 k i hv))
            refine lv_dup hx hb dX10_addMachine_85 rfl ?_
            refine lv_iload_n hx hb dX10_addMachine_86 rfl (lv_at hl 1 rfl) ?_
            refine lv_iload_n hx hb dX10_addMachine_87 rfl (lv_at hl 2 rfl) ?_
            refine lv_iload_n hx hb dX10_addMachine_88 rfl (lv_at hl 3 rfl) ?_
            refine lv_iload hx hb dX10_addMachine_89 (lv_at hl 4 rfl) ?_
            refine graw_I (As := [.int ra, .int se, .int li, .int re]) (rest := [.ref q, .int (nI (sN S 0 0)), .ref (ad 15 0)]) ⟨hx, hb, hml, hown, hta⟩ (c_X4_init l hm1 hf1 ra se li re) (cwI 4 hta (gWI mw243) rfl rfl rfl (hta _ mw48) (hta _ mw241) (hta _ mw242) rfl (by decide +kernel) ⟨Nat.le_of_ble_eq_true rfl, Nat.le_of_ble_eq_true rfl⟩) hK hP hD hS hA rfl hl.1 rfl (Nat.le_of_ble_eq_true rfl) dX10_addMachine_91 ⟨Nat.le_of_ble_eq_true rfl, Nat.le_of_ble_eq_true rfl⟩ (fun u H locs hw hP hD hS => ?_)
            obtain ⟨L3, f3⟩ := u
            obtain ⟨h9, hfq, ho3⟩ := hw
            dsimp only at hP hD hfq ho3 h9
            subst h9
            have hsL : ∀ a, a ∈ L → a ∈ L2 := hs1
            have hR3 : Rep tA S ad L2 f3 := hR1.raw (fun _ h => h) (fun k i hv => ho3 _ (hne1 k i hv))
            have hmq : q ∈ L2 := hm1
            have v0 : V S 0 0 := rfl
            have v19 : V S 15 0 := rfl
            have hx3 := (hR3.1 0 0 v0).2
            have ha3 := (hR3.1 15 0 v19).2
            refine raw_ast (K := RX4) (T := TX4) (N := 11) (ci := 6) (j := sN S 0 0) 1 rfl hx hb hK hP hD hS (hR3.1 15 0 v19).1 ha3 hmq hfq rfl hn (by decide) dX10_addMachine_94 (fun H locs f4 ha4 ho4 hP hD hS => ?_)
            have hx4 := (ho4 _ (hR3.ne v0 v19 (by decide))).trans hx3
            refine lv_aload_n hx hb dX10_addMachine_95 rfl (lv_at hl 0 rfl) ?_
            refine lv_dup hx hb dX10_addMachine_96 rfl ?_
            obtain ⟨z, hz⟩ := pl_at (hR3.1 0 0 v0).1 hx4
            refine va_get (D := D) (ci := 12) (v := .int (nI (sN S 0 0))) (C := RX10) (T := TX10) (N := 14) hx hb hta iwX10 hown hK hP z hz rfl 6 (by decide) (hta _ mw102) (fun _ h9 => h9) rfl dX10_addMachine_97 ?_
            refine lv_iconst (v := 1) hx hb dX10_addMachine_100 (by decide) ?_
            refine lv_iadd hx hb dX10_addMachine_101 ?_
            rw [nI_1]
            refine raw_put (ci := 12) (K := RX10) (T := TX10) (N := 14) (v := .int (nI (sN S 0 0 + 1))) (ty := .int) hx hb hta iwX10 tyX10 tyX10_ok nmX10 hown hK hP hD hS (hR3.1 0 0 v0).1 hx4 rfl 6 (by decide) (hta _ mw102) rfl (by decide +kernel) rfl rfl (Nat.le_of_ble_eq_true rfl) dX10_addMachine_102 (fun H locs f5 hx5 ho5 hP hD hS => ?_)
            have d0 : ∀ a, a ∉ L → a ≠ ad 0 0 := fun a ha z => ha (z ▸ (hR.1 0 0 v0).1)
            have d19 : ∀ a, a ∉ L → a ≠ ad 15 0 := fun a ha z => ha (z ▸ (hR.1 15 0 v19).1)
            have hto : ∀ a, a ≠ ad 0 0 → a ≠ ad 15 0 → f5 a = f3 a := fun a h1 h2 => (ho5 a h1).trans (ho4 a h2)
            have nL1 : ∀ a, a ∉ L2 → a ∉ L := fun a ha z => ha (hs1 a z)
            have hRf : Rep tA (nwMS S ra se li re) (nwMA ad (sN S 0 0) q) L2 f5 := Rep.newnwMS hR hW hsL ⟨(hto q (d0 q hn1) (d19 q hn1)).trans hfq, hn1, hmq⟩ (fun a ha h1 h2 => (hto a h1 h2).trans ((ho3 a (fun z => hn1 (z ▸ ha))).trans (ho1 a (fun z => hn1 (z ▸ ha))))) hx5 ((ho5 _ (hR3.ne v19 v0 (by decide))).trans ha4)
            have nv : ∀ k i, V S k i → nwMA ad (sN S 0 0) q k i = ad k i := fun k i hv => nwMA_old (fun z => by
              subst z
              intro z; subst z; exact Nat.lt_irrefl _ hv)
            refine lv_aload_n hx hb dX10_addMachine_105 rfl (lv_at hl 0 rfl) ?_
            obtain ⟨z5, hz5⟩ := pl_at (hR3.1 0 0 v0).1 hx5
            refine va_get (D := D) (ci := 12) (v := .int (nI (sN S 0 0 + 1))) (C := RX10) (T := TX10) (N := 14) hx hb hta iwX10 hown hK hP z5 hz5 rfl 6 (by decide) (hta _ mw102) (fun _ h9 => h9) rfl dX10_addMachine_106 ?_
            refine lv_iconst (v := 1) hx hb dX10_addMachine_109 (by decide) ?_
            refine lv_isub hx hb dX10_addMachine_110 ?_
            rw [nI_m1]
            exact W.iret (v := nI (sN S 0 0)) hx hb hr (fun t ht hWm => gend_i (u := (nwMS S ra se li re, nwMA ad (sN S 0 0) q, L2, f5)) ⟨rfl, rfl, nv⟩ hRf hP hK hD hS ht hWm) hS.2.2 dX10_addMachine_111
          · exact absurd (Int32.not_le.mp (nI_ge (a := sN S 0 0) (b := 5) hn (by decide))) c13
        · exact absurd c12 (by decide)

set_option maxHeartbeats 4000000 in
set_option maxRecDepth 100000 in
theorem c_X10_addPart (l : Launch) {D : va_G} {tA : Nat → ClassId} {S : St} {ad : Nat → Nat → Nat} {L : List Nat} {f : Nat → va_E} {sz : Nat} (hR : Rep tA S ad L f) (hW : WT S) (mb : Bool) (fa : Int32) (hfa : inR fa 0 3 = true) (hn : sN S 1 0 < 12) : Met l yX10_addPart (wsC yX10_addPart cX10_addPart 3 (some .int)) ({ frames := 3, cells := 4, slots := 20, locals := 63 }) (va_Pc [.ref (ad 0 0), .int (bI mb), .int fa] (gY D tA L f sz)) (va_Qi (fun (r : Int32) (u : gU) => r = nI (sN S 1 0) ∧ nwPS S (bI mb) fa = u.1 ∧ ∀ k i, V S k i → u.2.1 k i = ad k i) (gE D tA (va_A (va_pl L f) sz)) (va_A (va_pl L f) sz)) 4 20 (va_A (va_pl L f) sz) := by
  refine Met.ofW (cc := cX10_addPart) (maxL := 3) (ret := (some .int)) (by decide) rfl ?_
  intro p e s m args below meth c s₁ B hml hv
  obtain ⟨rfl, ⟨hsz, hP, hK, hD0⟩, hX⟩ := hv
  have hx := B.exec
  have hb := B.bytes
  have hr := B.returns
  have hts := atoms_spec (ws := wsC yX10_addPart cX10_addPart 3 (some .int)) B.pre
  have hta : ∀ w ∈ WA, w.before _ s = true := fun w h => hts w (List.mem_cons_of_mem _ h)
  have hown : s.vm.findClass RX10 = some m.cls := findClass_of_methodNamed B.named
  have hlocks := B.notSynchronized
  subst hsz
  have hD : va_D (va_A (va_pl L f) s.heap.size) (va_pl L f) := hD0.self (sz := s.heap.size)
  generalize hAe : va_A (va_pl L f) s.heap.size = A at hD ⊢
  have hA : ∀ q : Nat, s.heap.size ≤ q → A q := fun q h => by rw [← hAe]; exact Or.inr h
  have hS : va_S A s.heap s.heap [] := va_S.rf
  have hP : va_P D vwCl (va_pl L f) s.heap := hP
  have hl := lv_entry ([.ref (ad 0 0), .int (bI mb), .int fa]) (n := 3) (Nat.le_of_ble_eq_true rfl)
  rw [lg_entry_eq]
  generalize (lg_sl ([.ref (ad 0 0), .int (bI mb), .int fa]) ++ List.replicate (3 - (lg_sl ([.ref (ad 0 0), .int (bI mb), .int fa])).length) Slot.unset).toArray = ls at hl ⊢
  have hl : lv_has ls 3 [(0, .ref (ad 0 0)), (1, .int (bI mb)), (2, .int fa)] := hl
  refine lv_iload_n hx hb dX10_addPart_0 rfl (lv_at hl 2 rfl) ?_
  refine lv_iconst (v := 0) hx hb dX10_addPart_1 (by decide) ?_
  refine lv_iconst (v := 3) hx hb dX10_addPart_2 (by decide) ?_
  refine vp_callSi (W.runS (As := [.int fa, .int 0, .int 3]) (rest := []) ⟨hx, hb, hml, hown, hta⟩ (c_X10_isFrom l fa 0 3) (va_cwS 3 hta (gWS mw223 mw224 mw40 mw225) rfl rfl rfl (by decide +kernel) ⟨Nat.le_of_ble_eq_true rfl, Nat.le_of_ble_eq_true rfl⟩) ⟨fun a U g mk q => ⟨q.1, trivial⟩, fun U hU hW9 => ⟨rfl, trivial⟩⟩ rfl rfl hl.1 rfl (lv_room (Nat.le_of_ble_eq_true rfl)) dX10_addPart_3 ⟨Nat.le_of_ble_eq_true rfl, Nat.le_of_ble_eq_true rfl⟩) (fun r1 c2 => ?_)
  obtain rfl : r1 = 1 := c2.trans (by rw [hfa]; rfl)
  refine lv_if_ne (tgt := 19) hx hb dX10_addPart_6 (by decide) (fun c3 => ?_) (fun c3 => ?_)
  · skip
    refine lv_aload_n hx hb dX10_addPart_19 rfl (lv_at hl 0 rfl) ?_
    refine get_partCount_0 hx hb hta iwX10 hown hK hP hR (rfl : (0 : Nat) = 0) (hta _ mw103) dX10_addPart_20 ?_
    refine lv_aload_n hx hb dX10_addPart_23 rfl (lv_at hl 0 rfl) ?_
    refine get_parts_0 hx hb hta iwX10 hown hK hP hR (rfl : (0 : Nat) = 0) (hta _ mw97) dX10_addPart_24 ?_
    refine len_parts hx hb hK hP hR (rfl : (0 : Nat) = 0) dX10_addPart_27 ?_
    refine lv_icmp_lt (tgt := 41) hx hb dX10_addPart_28 (by decide) (fun c4 => ?_) (fun c4 => ?_)
    · skip
      refine lv_aload_n hx hb dX10_addPart_41 rfl (lv_at hl 0 rfl) ?_
      refine get_parts_0 hx hb hta iwX10 hown hK hP hR (rfl : (0 : Nat) = 0) (hta _ mw97) dX10_addPart_42 ?_
      refine lv_aload_n hx hb dX10_addPart_45 rfl (lv_at hl 0 rfl) ?_
      refine get_partCount_0 hx hb hta iwX10 hown hK hP hR (rfl : (0 : Nat) = 0) (hta _ mw103) dX10_addPart_46 ?_
      refine raw_new (ci := 10) (K := RX8) (T := TX8) (N := 8) (fs := [.int 0, .int 0, .int 0, .null, .null, .null, .int 0, .int 0]) hx hb hta iwX8 tyX8 tyX8_ok hown (hta _ mw78) (hta _ mw270) (hta _ mw49) hK hP hD hS hA rfl (fun j hj => by rcases (show j = 0 ∨ j = 1 ∨ j = 2 ∨ j = 3 ∨ j = 4 ∨ j = 5 ∨ j = 6 ∨ j = 7 by omega) with rfl | rfl | rfl | rfl | rfl | rfl | rfl | rfl <;> rfl) (Nat.le_of_ble_eq_true rfl) (Nat.le_of_ble_eq_true rfl) dX10_addPart_49 (fun q H L2 f2 hn1 hm1 hs1 hd1 hf1 ho1 hP hD hS => ?_)
      have hne1 : ∀ k i, V S k i → ad k i ≠ q := fun k i hv z => hn1 (z ▸ (hR.1 k i hv).1)
      have hR1 : Rep tA S ad L2 f2 := hR.raw hs1 (fun k i hv => ho1 _ (hne1 k i hv))
      refine lv_dup hx hb dX10_addPart_52 rfl ?_
      refine lv_aload_n hx hb dX10_addPart_53 rfl (lv_at hl 0 rfl) ?_
      refine get_partCount_0 hx hb hta iwX10 hown hK hP hR1 (rfl : (0 : Nat) = 0) (hta _ mw103) dX10_addPart_54 ?_
      refine lv_iload_n hx hb dX10_addPart_57 rfl (lv_at hl 1 rfl) ?_
      refine lv_iload_n hx hb dX10_addPart_58 rfl (lv_at hl 2 rfl) ?_
      refine graw_Y (As := [.int (nI (sN S 1 0)), .int (bI mb), .int fa]) (rest := [.ref q, .int (nI (sN S 1 0)), .ref (ad 16 0)]) ⟨hx, hb, hml, hown, hta⟩ (c_X8_init l hm1 hf1 (nI (sN S 1 0)) mb fa) (cwI 3 hta (gWI mw273) rfl rfl rfl (hta _ mw49) (hta _ mw271) (hta _ mw272) rfl (by decide +kernel) ⟨Nat.le_of_ble_eq_true rfl, Nat.le_of_ble_eq_true rfl⟩) hX hK hP hD hS hA rfl hl.1 rfl (Nat.le_of_ble_eq_true rfl) dX10_addPart_59 ⟨Nat.le_of_ble_eq_true rfl, Nat.le_of_ble_eq_true rfl⟩ (fun u H locs hw hP hD hS => ?_)
      obtain ⟨L3, f3⟩ := u
      obtain ⟨q1, q2, q3, hfq, ⟨g1, g2, g3, g4⟩, ⟨g5, g6, g7, g8⟩, ⟨g9, g10, g11, g12⟩, e12, e13, e23, hs3, hd3, ho3⟩ := hw
      dsimp only at hP hD hfq g1 g3 g5 g7 g9 g11 hs3 hd3 ho3
      have hsL : ∀ a, a ∈ L → a ∈ L3 := fun a ha => hs3 a (hs1 a ha)
      have hR3 : Rep tA S ad L3 f3 := hR1.raw hs3 (fun k i hv => ho3 _ (hR1.1 k i hv).1 (hne1 k i hv))
      have hmq : q ∈ L3 := hs3 q hm1
      have v0 : V S 0 0 := rfl
      have v19 : V S 16 0 := rfl
      have hx3 := (hR3.1 0 0 v0).2
      have ha3 := (hR3.1 16 0 v19).2
      refine raw_ast (K := RX8) (T := TX8) (N := 8) (ci := 10) (j := sN S 1 0) 2 rfl hx hb hK hP hD hS (hR3.1 16 0 v19).1 ha3 hmq hfq rfl hn (by decide) dX10_addPart_62 (fun H locs f4 ha4 ho4 hP hD hS => ?_)
      have hx4 := (ho4 _ (hR3.ne v0 v19 (by decide))).trans hx3
      refine lv_aload_n hx hb dX10_addPart_63 rfl (lv_at hl 0 rfl) ?_
      refine lv_dup hx hb dX10_addPart_64 rfl ?_
      obtain ⟨z, hz⟩ := pl_at (hR3.1 0 0 v0).1 hx4
      refine va_get (D := D) (ci := 12) (v := .int (nI (sN S 1 0))) (C := RX10) (T := TX10) (N := 14) hx hb hta iwX10 hown hK hP z hz rfl 7 (by decide) (hta _ mw103) (fun _ h9 => h9) rfl dX10_addPart_65 ?_
      refine lv_iconst (v := 1) hx hb dX10_addPart_68 (by decide) ?_
      refine lv_iadd hx hb dX10_addPart_69 ?_
      rw [nI_1]
      refine raw_put (ci := 12) (K := RX10) (T := TX10) (N := 14) (v := .int (nI (sN S 1 0 + 1))) (ty := .int) hx hb hta iwX10 tyX10 tyX10_ok nmX10 hown hK hP hD hS (hR3.1 0 0 v0).1 hx4 rfl 7 (by decide) (hta _ mw103) rfl (by decide +kernel) rfl rfl (Nat.le_of_ble_eq_true rfl) dX10_addPart_70 (fun H locs f5 hx5 ho5 hP hD hS => ?_)
      have d0 : ∀ a, a ∉ L → a ≠ ad 0 0 := fun a ha z => ha (z ▸ (hR.1 0 0 v0).1)
      have d19 : ∀ a, a ∉ L → a ≠ ad 16 0 := fun a ha z => ha (z ▸ (hR.1 16 0 v19).1)
      have hto : ∀ a, a ≠ ad 0 0 → a ≠ ad 16 0 → f5 a = f3 a := fun a h1 h2 => (ho5 a h1).trans (ho4 a h2)
      have nL1 : ∀ a, a ∉ L2 → a ∉ L := fun a ha z => ha (hs1 a z)
      have hRf : Rep tA (nwPS S (bI mb) fa) (nwPA ad (sN S 1 0) q q3 q1 q2) L3 f5 := Rep.newnwPS hR hW hsL ⟨(hto q (d0 q hn1) (d19 q hn1)).trans hfq, hn1, hmq⟩ ⟨(hto q3 (d0 _ (nL1 _ g10)) (d19 _ (nL1 _ g10))).trans g9, nL1 _ g10, g11⟩ ⟨(hto q1 (d0 _ (nL1 _ g2)) (d19 _ (nL1 _ g2))).trans g1, nL1 _ g2, g3⟩ ⟨(hto q2 (d0 _ (nL1 _ g6)) (d19 _ (nL1 _ g6))).trans g5, nL1 _ g6, g7⟩ (Ne.symm g12) (Ne.symm g4) (Ne.symm g8) (Ne.symm e13) (Ne.symm e23) e12 (fun a ha h1 h2 => (hto a h1 h2).trans ((ho3 a (hs1 a ha) (fun z => hn1 (z ▸ ha))).trans (ho1 a (fun z => hn1 (z ▸ ha))))) hx5 ((ho5 _ (hR3.ne v19 v0 (by decide))).trans ha4)
      have nv : ∀ k i, V S k i → nwPA ad (sN S 1 0) q q3 q1 q2 k i = ad k i := fun k i hv => nwPA_old (fun z => by
        subst z
        exact ⟨fun z => by subst z; exact Nat.lt_irrefl _ hv, fun z => by subst z; exact Nat.lt_irrefl _ hv, fun z => by subst z; exact Nat.lt_irrefl _ hv, fun z => by subst z; exact Nat.lt_irrefl _ hv⟩)
      refine lv_aload_n hx hb dX10_addPart_73 rfl (lv_at hl 0 rfl) ?_
      obtain ⟨z5, hz5⟩ := pl_at (hR3.1 0 0 v0).1 hx5
      refine va_get (D := D) (ci := 12) (v := .int (nI (sN S 1 0 + 1))) (C := RX10) (T := TX10) (N := 14) hx hb hta iwX10 hown hK hP z5 hz5 rfl 7 (by decide) (hta _ mw103) (fun _ h9 => h9) rfl dX10_addPart_74 ?_
      refine lv_iconst (v := 1) hx hb dX10_addPart_77 (by decide) ?_
      refine lv_isub hx hb dX10_addPart_78 ?_
      rw [nI_m1]
      exact W.iret (v := nI (sN S 1 0)) hx hb hr (fun t ht hWm => gend_i (u := (nwPS S (bI mb) fa, nwPA ad (sN S 1 0) q q3 q1 q2, L3, f5)) ⟨rfl, rfl, nv⟩ hRf hP hK hD hS ht hWm) hS.2.2 dX10_addPart_79
    · exact absurd (Int32.not_le.mp (nI_ge (a := sN S 1 0) (b := 12) hn (by decide))) c4
  · exact absurd c3 (by decide)

set_option maxHeartbeats 4000000 in
set_option maxRecDepth 100000 in
theorem c_X8_hasRoomForComponent (l : Launch) {D : va_G} {tA : Nat → ClassId} {S : St} {ad : Nat → Nat → Nat} {L : List Nat} {f : Nat → va_E} (hR : Rep tA S ad L f) {p9 : Nat} (hp : p9 < sN S 1 0) (hcn : sN S 4 p9 < 4) : Met l yX8_hasRoomForComponent (wsC yX8_hasRoomForComponent cX8_hasRoomForComponent 1 (some .boolean)) ({ frames := 0, cells := 0, slots := 0, locals := 0 }) (va_Pc [.ref (ad 2 p9)] (gB D tA L f)) (vp_Si (fun r => r = 1)) 0 0 (fun _ => False) := by
  refine Met.ofW (cc := cX8_hasRoomForComponent) (maxL := 1) (ret := (some .boolean)) (by decide) rfl ?_
  intro p e s m args below meth c s₁ B hml hv
  obtain ⟨rfl, hP, hK, hD⟩ := hv
  have hx := B.exec
  have hb := B.bytes
  have hr := B.returns
  have hts := atoms_spec (ws := wsC yX8_hasRoomForComponent cX8_hasRoomForComponent 1 (some .boolean)) B.pre
  have hta : ∀ w ∈ WA, w.before _ s = true := fun w h => hts w (List.mem_cons_of_mem _ h)
  have hown : s.vm.findClass RX8 = some m.cls := findClass_of_methodNamed B.named
  have hlocks := B.notSynchronized
  have hP : va_P D vwCl (va_pl L f) s.heap := hP
  have hl := lv_entry ([.ref (ad 2 p9)]) (n := 1) (Nat.le_of_ble_eq_true rfl)
  rw [lg_entry_eq]
  generalize (lg_sl ([.ref (ad 2 p9)]) ++ List.replicate (1 - (lg_sl ([.ref (ad 2 p9)])).length) Slot.unset).toArray = ls at hl ⊢
  have hl : lv_has ls 1 [(0, .ref (ad 2 p9))] := hl
  refine lv_aload_n hx hb dX8_hasRoomForComponent_0 rfl (lv_at hl 0 rfl) ?_
  refine get_componentCount_2 hx hb hta iwX8 hown hK hP hR hp (hta _ mw298) dX8_hasRoomForComponent_1 ?_
  refine lv_aload_n hx hb dX8_hasRoomForComponent_4 rfl (lv_at hl 0 rfl) ?_
  refine get_components_2 hx hb hta iwX8 hown hK hP hR hp (hta _ mw293) dX8_hasRoomForComponent_5 ?_
  refine len_components hx hb hK hP hR hp dX8_hasRoomForComponent_8 ?_
  refine lv_icmp_ge (tgt := 16) hx hb dX8_hasRoomForComponent_9 (by decide) (fun c1 => ?_) (fun c1 => ?_)
  · exact absurd c1 (nI_ge (a := sN S 4 p9) (b := 4) hcn (by decide))
  · skip
    refine lv_iconst (v := 1) hx hb dX8_hasRoomForComponent_12 (by decide) ?_
    refine lv_goto (tgt := 17) hx hb dX8_hasRoomForComponent_13 (by decide) ?_
    exact W.zret (v := 1) (ty := .boolean) hx hb hr (by decide) (fun t ht hWm => ⟨_, rfl, rfl, ht⟩) (fun q h => absurd h List.not_mem_nil) dX8_hasRoomForComponent_17

set_option maxHeartbeats 4000000 in
set_option maxRecDepth 100000 in
theorem c_X8_hasRoomForOperation (l : Launch) {D : va_G} {tA : Nat → ClassId} {S : St} {ad : Nat → Nat → Nat} {L : List Nat} {f : Nat → va_E} (hR : Rep tA S ad L f) {p9 : Nat} (hp : p9 < sN S 1 0) (hcn : sN S 5 p9 < 3) : Met l yX8_hasRoomForOperation (wsC yX8_hasRoomForOperation cX8_hasRoomForOperation 1 (some .boolean)) ({ frames := 0, cells := 0, slots := 0, locals := 0 }) (va_Pc [.ref (ad 2 p9)] (gB D tA L f)) (vp_Si (fun r => r = 1)) 0 0 (fun _ => False) := by
  refine Met.ofW (cc := cX8_hasRoomForOperation) (maxL := 1) (ret := (some .boolean)) (by decide) rfl ?_
  intro p e s m args below meth c s₁ B hml hv
  obtain ⟨rfl, hP, hK, hD⟩ := hv
  have hx := B.exec
  have hb := B.bytes
  have hr := B.returns
  have hts := atoms_spec (ws := wsC yX8_hasRoomForOperation cX8_hasRoomForOperation 1 (some .boolean)) B.pre
  have hta : ∀ w ∈ WA, w.before _ s = true := fun w h => hts w (List.mem_cons_of_mem _ h)
  have hown : s.vm.findClass RX8 = some m.cls := findClass_of_methodNamed B.named
  have hlocks := B.notSynchronized
  have hP : va_P D vwCl (va_pl L f) s.heap := hP
  have hl := lv_entry ([.ref (ad 2 p9)]) (n := 1) (Nat.le_of_ble_eq_true rfl)
  rw [lg_entry_eq]
  generalize (lg_sl ([.ref (ad 2 p9)]) ++ List.replicate (1 - (lg_sl ([.ref (ad 2 p9)])).length) Slot.unset).toArray = ls at hl ⊢
  have hl : lv_has ls 1 [(0, .ref (ad 2 p9))] := hl
  refine lv_aload_n hx hb dX8_hasRoomForOperation_0 rfl (lv_at hl 0 rfl) ?_
  refine get_operationCount_2 hx hb hta iwX8 hown hK hP hR hp (hta _ mw299) dX8_hasRoomForOperation_1 ?_
  refine lv_aload_n hx hb dX8_hasRoomForOperation_4 rfl (lv_at hl 0 rfl) ?_
  refine get_operations_2 hx hb hta iwX8 hown hK hP hR hp (hta _ mw295) dX8_hasRoomForOperation_5 ?_
  refine len_operations hx hb hK hP hR hp dX8_hasRoomForOperation_8 ?_
  refine lv_icmp_ge (tgt := 16) hx hb dX8_hasRoomForOperation_9 (by decide) (fun c1 => ?_) (fun c1 => ?_)
  · exact absurd c1 (nI_ge (a := sN S 5 p9) (b := 3) hcn (by decide))
  · skip
    refine lv_iconst (v := 1) hx hb dX8_hasRoomForOperation_12 (by decide) ?_
    refine lv_goto (tgt := 17) hx hb dX8_hasRoomForOperation_13 (by decide) ?_
    exact W.zret (v := 1) (ty := .boolean) hx hb hr (by decide) (fun t ht hWm => ⟨_, rfl, rfl, ht⟩) (fun q h => absurd h List.not_mem_nil) dX8_hasRoomForOperation_17

set_option maxHeartbeats 4000000 in
set_option maxRecDepth 100000 in
theorem c_X8_putComponent (l : Launch) {D : va_G} {tA : Nat → ClassId} {S : St} {ad : Nat → Nat → Nat} {L : List Nat} {f : Nat → va_E} {sz : Nat} (hR : Rep tA S ad L f) (hW : WT S) {L0 : List Nat} {f0 : Nat → va_E} (hR0 : Rep tA S ad L0 f0) (hL0 : ∀ a, a ∈ L0 → a ∈ L) (hf0 : ∀ a, a ∈ L0 → f a = f0 a) {p9 q : Nat} (hp : p9 < sN S 1 0) (hcn : sN S 4 p9 < 4) {cz : Nat} {pc9 op : Int32} (hq0 : q ∉ L0) (hmq : q ∈ L) (hfq : f q = .inr (3, [.ref (ad 2 cz), .int pc9, .int op])) : Met l yX8_putComponent (wsC yX8_putComponent cX8_putComponent 2 (some .int)) ({ frames := 1, cells := 0, slots := 0, locals := 20 }) (va_Pc [.ref (ad 2 p9), .ref q] (gZ D tA L f sz)) (va_Qi (fun (r : Int32) (u : gU) => r = nI (sN S 4 p9 + 1) ∧ nwCS S p9 cz pc9 op = u.1 ∧ nwCA ad (4 * p9 + sN S 4 p9) q = u.2.1 ∧ L = u.2.2.1) (gE D tA (va_A (va_pl L f) sz)) (va_A (va_pl L f) sz)) 0 0 (va_A (va_pl L f) sz) := by
  refine Met.ofW (cc := cX8_putComponent) (maxL := 2) (ret := (some .int)) (by decide) rfl ?_
  intro p e s m args below meth c s₁ B hml hv
  obtain ⟨rfl, hsz, hP, hK, hD0⟩ := hv
  have hx := B.exec
  have hb := B.bytes
  have hr := B.returns
  have hts := atoms_spec (ws := wsC yX8_putComponent cX8_putComponent 2 (some .int)) B.pre
  have hta : ∀ w ∈ WA, w.before _ s = true := fun w h => hts w (List.mem_cons_of_mem _ h)
  have hown : s.vm.findClass RX8 = some m.cls := findClass_of_methodNamed B.named
  have hlocks := B.notSynchronized
  subst hsz
  have hD : va_D (va_A (va_pl L f) s.heap.size) (va_pl L f) := hD0.self (sz := s.heap.size)
  generalize hAe : va_A (va_pl L f) s.heap.size = A at hD ⊢
  have hA : ∀ q : Nat, s.heap.size ≤ q → A q := fun q h => by rw [← hAe]; exact Or.inr h
  have hS : va_S A s.heap s.heap [] := va_S.rf
  have hP : va_P D vwCl (va_pl L f) s.heap := hP
  have hl := lv_entry ([.ref (ad 2 p9), .ref q]) (n := 2) (Nat.le_of_ble_eq_true rfl)
  rw [lg_entry_eq]
  generalize (lg_sl ([.ref (ad 2 p9), .ref q]) ++ List.replicate (2 - (lg_sl ([.ref (ad 2 p9), .ref q])).length) Slot.unset).toArray = ls at hl ⊢
  have hl : lv_has ls 2 [(0, .ref (ad 2 p9)), (1, .ref q)] := hl
  refine lv_aload_n hx hb dX8_putComponent_0 rfl (lv_at hl 0 rfl) ?_
  obtain ⟨q1, e2⟩ := cell_2 hR hp
  refine gro_i (ci := 10) (As := []) (rest := []) ⟨hx, hb, hml, hown, hta⟩ (c_X8_hasRoomForComponent l hR hp hcn) (cwV 0 hta (gWV mw351 mw333 mw334 mw49 mw335) rfl rfl rfl (by decide +kernel) ⟨Nat.le_of_ble_eq_true rfl, Nat.le_of_ble_eq_true rfl⟩) hK hP hD rfl e2 rfl hl.1 rfl (Nat.le_of_ble_eq_true rfl) dX8_putComponent_1 ⟨Nat.zero_le _, Nat.zero_le _⟩ (fun r3 c4 => ?_)
  obtain rfl := c4
  refine lv_if_eq (tgt := 27) hx hb dX8_putComponent_4 (by decide) (fun c5 => ?_) (fun c5 => ?_)
  · exact absurd c5 (by decide)
  · skip
    refine lv_aload_n hx hb dX8_putComponent_7 rfl (lv_at hl 0 rfl) ?_
    refine get_components_2 hx hb hta iwX8 hown hK hP hR hp (hta _ mw293) dX8_putComponent_8 ?_
    refine lv_aload_n hx hb dX8_putComponent_11 rfl (lv_at hl 0 rfl) ?_
    refine get_componentCount_2 hx hb hta iwX8 hown hK hP hR hp (hta _ mw298) dX8_putComponent_12 ?_
    refine lv_aload_n hx hb dX8_putComponent_15 rfl (lv_at hl 1 rfl) ?_
    have v0 : V S 2 p9 := hp
    have v19 : V S 20 p9 := hp
    have hx3 := (hR.1 2 p9 v0).2
    have ha3 := (hR.1 20 p9 v19).2
    refine raw_ast (K := RX1) (T := TX1) (N := 3) (ci := 3) (j := sN S 4 p9) 6 rfl hx hb hK hP hD hS (hR.1 20 p9 v19).1 ha3 hmq hfq rfl hcn (by decide) dX8_putComponent_16 (fun H locs f4 ha4 ho4 hP hD hS => ?_)
    have hx4 := (ho4 _ (hR.ne v0 v19 (fun z => absurd z.1 (by decide)))).trans hx3
    refine lv_aload_n hx hb dX8_putComponent_17 rfl (lv_at hl 0 rfl) ?_
    refine lv_dup hx hb dX8_putComponent_18 rfl ?_
    obtain ⟨z, hz⟩ := pl_at (hR.1 2 p9 v0).1 hx4
    refine va_get (D := D) (ci := 10) (v := .int (nI (sN S 4 p9))) (C := RX8) (T := TX8) (N := 8) hx hb hta iwX8 hown hK hP z hz rfl 6 (by decide) (hta _ mw298) (fun _ h9 => h9) rfl dX8_putComponent_19 ?_
    refine lv_iconst (v := 1) hx hb dX8_putComponent_22 (by decide) ?_
    refine lv_iadd hx hb dX8_putComponent_23 ?_
    rw [nI_1]
    refine raw_put (ci := 10) (K := RX8) (T := TX8) (N := 8) (v := .int (nI (sN S 4 p9 + 1))) (ty := .int) hx hb hta iwX8 tyX8 tyX8_ok nmX8 hown hK hP hD hS (hR.1 2 p9 v0).1 hx4 rfl 6 (by decide) (hta _ mw298) rfl (by decide +kernel) rfl rfl (Nat.le_of_ble_eq_true rfl) dX8_putComponent_24 (fun H locs f5 hx5 ho5 hP hD hS => ?_)
    have hto : ∀ a, a ≠ ad 2 p9 → a ≠ ad 20 p9 → f5 a = f a := fun a h1 h2 => (ho5 a h1).trans (ho4 a h2)
    have hRf : Rep tA (nwCS S p9 cz pc9 op) (nwCA ad (4 * p9 + sN S 4 p9) q) L f5 := Rep.newnwCS hR0 hW hp hcn hL0 ⟨(hto q (fun z => hq0 (z ▸ (hR0.1 2 p9 v0).1)) (fun z => hq0 (z ▸ (hR0.1 20 p9 v19).1))).trans hfq, hq0, hmq⟩ (fun a ha h1 h2 => (hto a h1 h2).trans (hf0 a ha)) hx5 ((ho5 _ (hR.ne v19 v0 (fun z => absurd z.1 (by decide)))).trans ha4)
    refine lv_aload_n hx hb dX8_putComponent_27 rfl (lv_at hl 0 rfl) ?_
    obtain ⟨z5, hz5⟩ := pl_at (hR.1 2 p9 v0).1 hx5
    refine va_get (D := D) (ci := 10) (v := .int (nI (sN S 4 p9 + 1))) (C := RX8) (T := TX8) (N := 8) hx hb hta iwX8 hown hK hP z5 hz5 rfl 6 (by decide) (hta _ mw298) (fun _ h9 => h9) rfl dX8_putComponent_28 ?_
    exact W.iret (v := nI (sN S 4 p9 + 1)) hx hb hr (fun t ht hWm => gend_i (u := (nwCS S p9 cz pc9 op, nwCA ad (4 * p9 + sN S 4 p9) q, L, f5)) ⟨rfl, rfl, rfl, rfl⟩ hRf hP hK hD hS ht hWm) hS.2.2 dX8_putComponent_31

set_option maxHeartbeats 4000000 in
set_option maxRecDepth 100000 in
theorem c_X8_putOperation (l : Launch) {D : va_G} {tA : Nat → ClassId} {S : St} {ad : Nat → Nat → Nat} {L : List Nat} {f : Nat → va_E} {sz : Nat} (hR : Rep tA S ad L f) (hW : WT S) {L0 : List Nat} {f0 : Nat → va_E} (hR0 : Rep tA S ad L0 f0) (hL0 : ∀ a, a ∈ L0 → a ∈ L) (hf0 : ∀ a, a ∈ L0 → f a = f0 a) {p9 q : Nat} (hp : p9 < sN S 1 0) (hcn : sN S 5 p9 < 3) {m9 : Nat} {al : Option Nat} {ti : Int32} (hq0 : q ∉ L0) (hmq : q ∈ L) (hfq : f q = .inr (8, [.ref (ad 1 m9), rf ad 1 al, .int ti])) : Met l yX8_putOperation (wsC yX8_putOperation cX8_putOperation 2 (some .int)) ({ frames := 1, cells := 0, slots := 0, locals := 20 }) (va_Pc [.ref (ad 2 p9), .ref q] (gZ D tA L f sz)) (va_Qi (fun (r : Int32) (u : gU) => r = nI (sN S 5 p9 + 1) ∧ nwWS S p9 m9 al ti = u.1 ∧ nwWA ad (4 * p9 + sN S 5 p9) q = u.2.1 ∧ L = u.2.2.1) (gE D tA (va_A (va_pl L f) sz)) (va_A (va_pl L f) sz)) 0 0 (va_A (va_pl L f) sz) := by
  refine Met.ofW (cc := cX8_putOperation) (maxL := 2) (ret := (some .int)) (by decide) rfl ?_
  intro p e s m args below meth c s₁ B hml hv
  obtain ⟨rfl, hsz, hP, hK, hD0⟩ := hv
  have hx := B.exec
  have hb := B.bytes
  have hr := B.returns
  have hts := atoms_spec (ws := wsC yX8_putOperation cX8_putOperation 2 (some .int)) B.pre
  have hta : ∀ w ∈ WA, w.before _ s = true := fun w h => hts w (List.mem_cons_of_mem _ h)
  have hown : s.vm.findClass RX8 = some m.cls := findClass_of_methodNamed B.named
  have hlocks := B.notSynchronized
  subst hsz
  have hD : va_D (va_A (va_pl L f) s.heap.size) (va_pl L f) := hD0.self (sz := s.heap.size)
  generalize hAe : va_A (va_pl L f) s.heap.size = A at hD ⊢
  have hA : ∀ q : Nat, s.heap.size ≤ q → A q := fun q h => by rw [← hAe]; exact Or.inr h
  have hS : va_S A s.heap s.heap [] := va_S.rf
  have hP : va_P D vwCl (va_pl L f) s.heap := hP
  have hl := lv_entry ([.ref (ad 2 p9), .ref q]) (n := 2) (Nat.le_of_ble_eq_true rfl)
  rw [lg_entry_eq]
  generalize (lg_sl ([.ref (ad 2 p9), .ref q]) ++ List.replicate (2 - (lg_sl ([.ref (ad 2 p9), .ref q])).length) Slot.unset).toArray = ls at hl ⊢
  have hl : lv_has ls 2 [(0, .ref (ad 2 p9)), (1, .ref q)] := hl
  refine lv_aload_n hx hb dX8_putOperation_0 rfl (lv_at hl 0 rfl) ?_
  obtain ⟨q1, e2⟩ := cell_2 hR hp
  refine gro_i (ci := 10) (As := []) (rest := []) ⟨hx, hb, hml, hown, hta⟩ (c_X8_hasRoomForOperation l hR hp hcn) (cwV 0 hta (gWV mw384 mw365 mw366 mw49 mw367) rfl rfl rfl (by decide +kernel) ⟨Nat.le_of_ble_eq_true rfl, Nat.le_of_ble_eq_true rfl⟩) hK hP hD rfl e2 rfl hl.1 rfl (Nat.le_of_ble_eq_true rfl) dX8_putOperation_1 ⟨Nat.zero_le _, Nat.zero_le _⟩ (fun r3 c4 => ?_)
  obtain rfl := c4
  refine lv_if_eq (tgt := 27) hx hb dX8_putOperation_4 (by decide) (fun c5 => ?_) (fun c5 => ?_)
  · exact absurd c5 (by decide)
  · skip
    refine lv_aload_n hx hb dX8_putOperation_7 rfl (lv_at hl 0 rfl) ?_
    refine get_operations_2 hx hb hta iwX8 hown hK hP hR hp (hta _ mw295) dX8_putOperation_8 ?_
    refine lv_aload_n hx hb dX8_putOperation_11 rfl (lv_at hl 0 rfl) ?_
    refine get_operationCount_2 hx hb hta iwX8 hown hK hP hR hp (hta _ mw299) dX8_putOperation_12 ?_
    refine lv_aload_n hx hb dX8_putOperation_15 rfl (lv_at hl 1 rfl) ?_
    have v0 : V S 2 p9 := hp
    have v19 : V S 21 p9 := hp
    have hx3 := (hR.1 2 p9 v0).2
    have ha3 := (hR.1 21 p9 v19).2
    refine raw_ast (K := RX6) (T := TX6) (N := 3) (ci := 8) (j := sN S 5 p9) 7 rfl hx hb hK hP hD hS (hR.1 21 p9 v19).1 ha3 hmq hfq rfl hcn (by decide) dX8_putOperation_16 (fun H locs f4 ha4 ho4 hP hD hS => ?_)
    have hx4 := (ho4 _ (hR.ne v0 v19 (fun z => absurd z.1 (by decide)))).trans hx3
    refine lv_aload_n hx hb dX8_putOperation_17 rfl (lv_at hl 0 rfl) ?_
    refine lv_dup hx hb dX8_putOperation_18 rfl ?_
    obtain ⟨z, hz⟩ := pl_at (hR.1 2 p9 v0).1 hx4
    refine va_get (D := D) (ci := 10) (v := .int (nI (sN S 5 p9))) (C := RX8) (T := TX8) (N := 8) hx hb hta iwX8 hown hK hP z hz rfl 7 (by decide) (hta _ mw299) (fun _ h9 => h9) rfl dX8_putOperation_19 ?_
    refine lv_iconst (v := 1) hx hb dX8_putOperation_22 (by decide) ?_
    refine lv_iadd hx hb dX8_putOperation_23 ?_
    rw [nI_1]
    refine raw_put (ci := 10) (K := RX8) (T := TX8) (N := 8) (v := .int (nI (sN S 5 p9 + 1))) (ty := .int) hx hb hta iwX8 tyX8 tyX8_ok nmX8 hown hK hP hD hS (hR.1 2 p9 v0).1 hx4 rfl 7 (by decide) (hta _ mw299) rfl (by decide +kernel) rfl rfl (Nat.le_of_ble_eq_true rfl) dX8_putOperation_24 (fun H locs f5 hx5 ho5 hP hD hS => ?_)
    have hto : ∀ a, a ≠ ad 2 p9 → a ≠ ad 21 p9 → f5 a = f a := fun a h1 h2 => (ho5 a h1).trans (ho4 a h2)
    have hRf : Rep tA (nwWS S p9 m9 al ti) (nwWA ad (4 * p9 + sN S 5 p9) q) L f5 := Rep.newnwWS hR0 hW hp hcn hL0 ⟨(hto q (fun z => hq0 (z ▸ (hR0.1 2 p9 v0).1)) (fun z => hq0 (z ▸ (hR0.1 21 p9 v19).1))).trans hfq, hq0, hmq⟩ (fun a ha h1 h2 => (hto a h1 h2).trans (hf0 a ha)) hx5 ((ho5 _ (hR.ne v19 v0 (fun z => absurd z.1 (by decide)))).trans ha4)
    refine lv_aload_n hx hb dX8_putOperation_27 rfl (lv_at hl 0 rfl) ?_
    obtain ⟨z5, hz5⟩ := pl_at (hR.1 2 p9 v0).1 hx5
    refine va_get (D := D) (ci := 10) (v := .int (nI (sN S 5 p9 + 1))) (C := RX8) (T := TX8) (N := 8) hx hb hta iwX8 hown hK hP z5 hz5 rfl 7 (by decide) (hta _ mw299) (fun _ h9 => h9) rfl dX8_putOperation_28 ?_
    exact W.iret (v := nI (sN S 5 p9 + 1)) hx hb hr (fun t ht hWm => gend_i (u := (nwWS S p9 m9 al ti, nwWA ad (4 * p9 + sN S 5 p9) q, L, f5)) ⟨rfl, rfl, rfl, rfl⟩ hRf hP hK hD hS ht hWm) hS.2.2 dX8_putOperation_31

set_option maxHeartbeats 4000000 in
set_option maxRecDepth 100000 in
theorem c_X10_addComponent (l : Launch) {D : va_G} {tA : Nat → ClassId} {S : St} {ad : Nat → Nat → Nat} {L : List Nat} {f : Nat → va_E} {sz : Nat} (hR : Rep tA S ad L f) (hW : WT S) {p9 cz : Nat} (hp : p9 < sN S 1 0) (hc : cz < sN S 1 0) (hcp : cz < p9) (pc9 op : Int32) (hpc : inR pc9 1 9 = true) (hop : inR op (-1) 2 = true) (hm : ¬ sI S 20 p9 = 0) (hcn : sN S 4 p9 < 4) : Met l yX10_addComponent (wsC yX10_addComponent cX10_addComponent 7 (some .int)) ({ frames := 2, cells := 1, slots := 3, locals := 43 }) (va_Pc [.ref (ad 0 0), .int (nI p9), .int (nI cz), .int pc9, .int op] (gY D tA L f sz)) (va_Qi (fun (r : Int32) (u : gU) => r = nI (sN S 4 p9 + 1) ∧ nwCS S p9 cz pc9 op = u.1 ∧ ∀ k i, V S k i → u.2.1 k i = ad k i) (gE D tA (va_A (va_pl L f) sz)) (va_A (va_pl L f) sz)) 1 3 (va_A (va_pl L f) sz) := by
  refine Met.ofW (cc := cX10_addComponent) (maxL := 7) (ret := (some .int)) (by decide) rfl ?_
  intro p e s m args below meth c s₁ B hml hv
  obtain ⟨rfl, ⟨hsz, hP, hK, hD0⟩, hX⟩ := hv
  have hx := B.exec
  have hb := B.bytes
  have hr := B.returns
  have hts := atoms_spec (ws := wsC yX10_addComponent cX10_addComponent 7 (some .int)) B.pre
  have hta : ∀ w ∈ WA, w.before _ s = true := fun w h => hts w (List.mem_cons_of_mem _ h)
  have hown : s.vm.findClass RX10 = some m.cls := findClass_of_methodNamed B.named
  have hlocks := B.notSynchronized
  subst hsz
  have hD : va_D (va_A (va_pl L f) s.heap.size) (va_pl L f) := hD0.self (sz := s.heap.size)
  generalize hAe : va_A (va_pl L f) s.heap.size = A at hD ⊢
  have hA : ∀ q : Nat, s.heap.size ≤ q → A q := fun q h => by rw [← hAe]; exact Or.inr h
  have hS : va_S A s.heap s.heap [] := va_S.rf
  have hP : va_P D vwCl (va_pl L f) s.heap := hP
  have hl := lv_entry ([.ref (ad 0 0), .int (nI p9), .int (nI cz), .int pc9, .int op]) (n := 7) (Nat.le_of_ble_eq_true rfl)
  rw [lg_entry_eq]
  generalize (lg_sl ([.ref (ad 0 0), .int (nI p9), .int (nI cz), .int pc9, .int op]) ++ List.replicate (7 - (lg_sl ([.ref (ad 0 0), .int (nI p9), .int (nI cz), .int pc9, .int op])).length) Slot.unset).toArray = ls at hl ⊢
  have hl : lv_has ls 7 [(0, .ref (ad 0 0)), (1, .int (nI p9)), (2, .int (nI cz)), (3, .int pc9), (4, .int op)] := hl
  refine lv_aload_n hx hb dX10_addComponent_0 rfl (lv_at hl 0 rfl) ?_
  refine lv_iload_n hx hb dX10_addComponent_1 rfl (lv_at hl 1 rfl) ?_
  obtain ⟨q1, e2⟩ := cell_0 hR (rfl : (0 : Nat) = 0)
  refine gro_q (ci := 12) (As := [.int (nI p9)]) (rest := []) ⟨hx, hb, hml, hown, hta⟩ (c_X10_knownPart l hR hW hp) (cwV 1 hta (gWV mw318 mw319 mw9 mw40 mw320) rfl rfl rfl (by decide +kernel) ⟨Nat.le_of_ble_eq_true rfl, Nat.le_of_ble_eq_true rfl⟩) hK hP hD rfl e2 rfl hl.1 rfl (Nat.le_of_ble_eq_true rfl) dX10_addComponent_2 ⟨Nat.le_of_ble_eq_true rfl, Nat.le_of_ble_eq_true rfl⟩ (fun r3 c4 => ?_)
  obtain rfl := c4
  change W _ _ _ _ _ _ _ _ _ _ _ _ _ _ _ (F0 _ _ _ (rf ad 2 (some p9) :: []))
  rw [rf_some]
  refine lv_astore (lv' := [(5, .ref (ad 2 p9)), (0, .ref (ad 0 0)), (1, .int (nI p9)), (2, .int (nI cz)), (3, .int pc9), (4, .int op)]) hx hb dX10_addComponent_5 hl (by decide) rfl (fun ls hl => ?_)
  refine lv_aload_n hx hb dX10_addComponent_7 rfl (lv_at hl 1 rfl) ?_
  refine lv_iload_n hx hb dX10_addComponent_8 rfl (lv_at hl 3 rfl) ?_
  obtain ⟨q5, e6⟩ := cell_0 hR (rfl : (0 : Nat) = 0)
  refine gro_q (ci := 12) (As := [.int (nI cz)]) (rest := []) ⟨hx, hb, hml, hown, hta⟩ (c_X10_knownPart l hR hW hc) (cwV 1 hta (gWV mw318 mw319 mw9 mw40 mw320) rfl rfl rfl (by decide +kernel) ⟨Nat.le_of_ble_eq_true rfl, Nat.le_of_ble_eq_true rfl⟩) hK hP hD rfl e6 rfl hl.1 rfl (Nat.le_of_ble_eq_true rfl) dX10_addComponent_9 ⟨Nat.le_of_ble_eq_true rfl, Nat.le_of_ble_eq_true rfl⟩ (fun r7 c8 => ?_)
  obtain rfl := c8
  change W _ _ _ _ _ _ _ _ _ _ _ _ _ _ _ (F0 _ _ _ (rf ad 2 (some cz) :: []))
  rw [rf_some]
  refine lv_astore (lv' := [(6, .ref (ad 2 cz)), (5, .ref (ad 2 p9)), (0, .ref (ad 0 0)), (1, .int (nI p9)), (2, .int (nI cz)), (3, .int pc9), (4, .int op)]) hx hb dX10_addComponent_12 hl (by decide) rfl (fun ls hl => ?_)
  refine lv_aload hx hb dX10_addComponent_14 (lv_at hl 1 rfl) ?_
  refine get_isMade_2 hx hb hta iwX8 hown hK hP hR hp (hta _ mw290) dX10_addComponent_16 ?_
  refine lv_if_eq (tgt := 27) hx hb dX10_addComponent_19 (by decide) (fun c9 => ?_) (fun c9 => ?_)
  · exact absurd c9 hm
  · skip
    refine lv_iload_n hx hb dX10_addComponent_22 rfl (lv_at hl 4 rfl) ?_
    refine lv_iload_n hx hb dX10_addComponent_23 rfl (lv_at hl 3 rfl) ?_
    refine lv_icmp_lt (tgt := 37) hx hb dX10_addComponent_24 (by decide) (fun c10 => ?_) (fun c10 => ?_)
    · skip
      refine lv_iload_n hx hb dX10_addComponent_37 rfl (lv_at hl 5 rfl) ?_
      refine lv_iconst (v := 1) hx hb dX10_addComponent_38 (by decide) ?_
      refine lv_bipush (v := 9) hx hb dX10_addComponent_39 (by decide) ?_
      refine vp_callSi (W.runS (As := [.int pc9, .int 1, .int 9]) (rest := []) ⟨hx, hb, hml, hown, hta⟩ (c_X10_isFrom l pc9 1 9) (va_cwS 3 hta (gWS mw223 mw224 mw40 mw225) rfl rfl rfl (by decide +kernel) ⟨Nat.le_of_ble_eq_true rfl, Nat.le_of_ble_eq_true rfl⟩) ⟨fun a U g mk q => ⟨q.1, trivial⟩, fun U hU hW9 => ⟨rfl, trivial⟩⟩ rfl rfl hl.1 rfl (lv_room (Nat.le_of_ble_eq_true rfl)) dX10_addComponent_41 ⟨Nat.le_of_ble_eq_true rfl, Nat.le_of_ble_eq_true rfl⟩) (fun r11 c12 => ?_)
      obtain rfl : r11 = 1 := c12.trans (by rw [hpc]; rfl)
      refine lv_if_eq (tgt := 57) hx hb dX10_addComponent_44 (by decide) (fun c13 => ?_) (fun c13 => ?_)
      · exact absurd c13 (by decide)
      · skip
        refine lv_iload hx hb dX10_addComponent_47 (lv_at hl 6 rfl) ?_
        refine lv_iconst (v := -1) hx hb dX10_addComponent_49 (by decide) ?_
        refine lv_iconst (v := 2) hx hb dX10_addComponent_50 (by decide) ?_
        refine vp_callSi (W.runS (As := [.int op, .int (-1), .int 2]) (rest := []) ⟨hx, hb, hml, hown, hta⟩ (c_X10_isFrom l op (-1) 2) (va_cwS 3 hta (gWS mw223 mw224 mw40 mw225) rfl rfl rfl (by decide +kernel) ⟨Nat.le_of_ble_eq_true rfl, Nat.le_of_ble_eq_true rfl⟩) ⟨fun a U g mk q => ⟨q.1, trivial⟩, fun U hU hW9 => ⟨rfl, trivial⟩⟩ rfl rfl hl.1 rfl (lv_room (Nat.le_of_ble_eq_true rfl)) dX10_addComponent_51 ⟨Nat.le_of_ble_eq_true rfl, Nat.le_of_ble_eq_true rfl⟩) (fun r14 c15 => ?_)
        obtain rfl : r14 = 1 := c15.trans (by rw [hop]; rfl)
        refine lv_if_ne (tgt := 67) hx hb dX10_addComponent_54 (by decide) (fun c16 => ?_) (fun c16 => ?_)
        · skip
          refine lv_aload hx hb dX10_addComponent_67 (lv_at hl 1 rfl) ?_
          obtain ⟨q17, e18⟩ := cell_2 hR hp
          refine gro_i (ci := 10) (As := []) (rest := []) ⟨hx, hb, hml, hown, hta⟩ (c_X8_hasRoomForComponent l hR hp hcn) (cwV 0 hta (gWV mw332 mw333 mw334 mw49 mw335) rfl rfl rfl (by decide +kernel) ⟨Nat.le_of_ble_eq_true rfl, Nat.le_of_ble_eq_true rfl⟩) hK hP hD rfl e18 rfl hl.1 rfl (Nat.le_of_ble_eq_true rfl) dX10_addComponent_69 ⟨Nat.le_of_ble_eq_true rfl, Nat.le_of_ble_eq_true rfl⟩ (fun r19 c20 => ?_)
          obtain rfl := c20
          refine lv_if_ne (tgt := 85) hx hb dX10_addComponent_72 (by decide) (fun c21 => ?_) (fun c21 => ?_)
          · skip
            refine lv_aload hx hb dX10_addComponent_85 (lv_at hl 1 rfl) ?_
            refine raw_new (ci := 3) (K := RX1) (T := TX1) (N := 3) (fs := [.null, .int 0, .int 0]) hx hb hta iwX1 tyX1 tyX1_ok hown (hta _ mw336) (hta _ mw337) (hta _ mw55) hK hP hD hS hA rfl (fun j hj => by rcases (show j = 0 ∨ j = 1 ∨ j = 2 by omega) with rfl | rfl | rfl <;> rfl) (Nat.le_of_ble_eq_true rfl) (Nat.le_of_ble_eq_true rfl) dX10_addComponent_87 (fun q H L2 f2 hn1 hm1 hs1 hd1 hf1 ho1 hP hD hS => ?_)
            have hne1 : ∀ k i, V S k i → ad k i ≠ q := fun k i hv z => hn1 (z ▸ (hR.1 k i hv).1)
            have hR1 : Rep tA S ad L2 f2 := hR.raw hs1 (fun k i hv => ho1 _ (hne1 k i hv))
            refine lv_dup hx hb dX10_addComponent_90 rfl ?_
            refine lv_aload hx hb dX10_addComponent_91 (lv_at hl 0 rfl) ?_
            refine lv_iload_n hx hb dX10_addComponent_93 rfl (lv_at hl 5 rfl) ?_
            refine lv_iload hx hb dX10_addComponent_94 (lv_at hl 6 rfl) ?_
            refine graw_I (As := [.ref (ad 2 cz), .int pc9, .int op]) (rest := [.ref q, .ref (ad 2 p9)]) ⟨hx, hb, hml, hown, hta⟩ (c_X1_init l hm1 hf1 (ad 2 cz) pc9 op) (cwI 3 hta (gWI mw340) rfl rfl rfl (hta _ mw55) (hta _ mw338) (hta _ mw339) rfl (by decide +kernel) ⟨Nat.le_of_ble_eq_true rfl, Nat.le_of_ble_eq_true rfl⟩) hK hP hD hS hA rfl hl.1 rfl (Nat.le_of_ble_eq_true rfl) dX10_addComponent_96 ⟨Nat.le_of_ble_eq_true rfl, Nat.le_of_ble_eq_true rfl⟩ (fun u H locs hw hP hD hS => ?_)
            obtain ⟨L3, f3⟩ := u
            obtain ⟨h9, hfq, ho3⟩ := hw
            dsimp only at hP hD hfq ho3 h9
            subst h9
            have hR3 : Rep tA S ad L2 f3 := hR1.raw (fun _ h => h) (fun k i hv => ho3 _ (hne1 k i hv))
            obtain ⟨z8, e8⟩ := cell_2 hR3 hp
            refine gwr_i (mc := 0) (ms := 0) (ci := 10) (As := [.ref q]) (rest := []) ⟨hx, hb, hml, hown, hta⟩ (c_X8_putComponent l hR3 hW hR hs1 (fun a ha => (ho3 a (fun z => hn1 (z ▸ ha))).trans (ho1 a (fun z => hn1 (z ▸ ha)))) hp hcn hn1 hm1 hfq) (cwV 1 hta (gWV mw347 mw348 mw349 mw49 mw350) rfl rfl rfl (by decide +kernel) ⟨Nat.le_of_ble_eq_true rfl, Nat.le_of_ble_eq_true rfl⟩) hK hP hD hS hA rfl e8 rfl hl.1 rfl (Nat.le_of_ble_eq_true rfl) dX10_addComponent_99 ⟨Nat.le_of_ble_eq_true rfl, Nat.le_of_ble_eq_true rfl⟩ (fun r9 u H locs hw hR hP hD hS => ?_)
            obtain ⟨S9, ad9, L9, f9⟩ := u
            obtain ⟨rfl, rfl, rfl, rfl⟩ := hw
            dsimp only at hR hP hD
            have nv : ∀ k i, V S k i → nwCA ad (4 * p9 + sN S 4 p9) q k i = ad k i := fun k i hv => nwCA_old (fun z => by
              subst z; intro z; subst z
              have h9 := hv.2
              rw [show (4 * p9 + sN S 4 p9) / 4 = p9 by omega, show (4 * p9 + sN S 4 p9) % 4 = sN S 4 p9 by omega] at h9; omega)
            exact W.iret (v := nI (sN S 4 p9 + 1)) hx hb hr (fun t ht hWm => gend_i (u := (nwCS S p9 cz pc9 op, nwCA ad (4 * p9 + sN S 4 p9) q, L2, f9)) ⟨rfl, rfl, nv⟩ hR hP hK hD hS ht hWm) hS.2.2 dX10_addComponent_102
          · exact absurd c21 (by decide)
        · exact absurd c16 (by decide)
    · exact absurd (Int32.not_le.mp (nI_ge (a := cz) (b := p9) hcp (by have := hW.nP; omega))) c10

set_option maxHeartbeats 4000000 in
set_option maxRecDepth 100000 in
theorem c_X10_addOperationn (l : Launch) {D : va_G} {tA : Nat → ClassId} {S : St} {ad : Nat → Nat → Nat} {L : List Nat} {f : Nat → va_E} {sz : Nat} (hR : Rep tA S ad L f) (hW : WT S) {p9 m9 : Nat} (hp : p9 < sN S 1 0) (hm9 : m9 < sN S 0 0) (ti : Int32) (hti : inR ti 1 20 = true) (hm : ¬ sI S 20 p9 = 0) (hcn : sN S 5 p9 < 3) : Met l yX10_addOperation (wsC yX10_addOperation cX10_addOperation 8 (some .int)) ({ frames := 2, cells := 1, slots := 3, locals := 43 }) (va_Pc [.ref (ad 0 0), .int (nI p9), .int (nI m9), .int (-1), .int ti] (gY D tA L f sz)) (va_Qi (fun (r : Int32) (u : gU) => r = nI (sN S 5 p9 + 1) ∧ nwWS S p9 m9 none ti = u.1 ∧ ∀ k i, V S k i → u.2.1 k i = ad k i) (gE D tA (va_A (va_pl L f) sz)) (va_A (va_pl L f) sz)) 1 3 (va_A (va_pl L f) sz) := by
  refine Met.ofW (cc := cX10_addOperation) (maxL := 8) (ret := (some .int)) (by decide) rfl ?_
  intro p e s m args below meth c s₁ B hml hv
  obtain ⟨rfl, ⟨hsz, hP, hK, hD0⟩, hX⟩ := hv
  have hx := B.exec
  have hb := B.bytes
  have hr := B.returns
  have hts := atoms_spec (ws := wsC yX10_addOperation cX10_addOperation 8 (some .int)) B.pre
  have hta : ∀ w ∈ WA, w.before _ s = true := fun w h => hts w (List.mem_cons_of_mem _ h)
  have hown : s.vm.findClass RX10 = some m.cls := findClass_of_methodNamed B.named
  have hlocks := B.notSynchronized
  subst hsz
  have hD : va_D (va_A (va_pl L f) s.heap.size) (va_pl L f) := hD0.self (sz := s.heap.size)
  generalize hAe : va_A (va_pl L f) s.heap.size = A at hD ⊢
  have hA : ∀ q : Nat, s.heap.size ≤ q → A q := fun q h => by rw [← hAe]; exact Or.inr h
  have hS : va_S A s.heap s.heap [] := va_S.rf
  have hP : va_P D vwCl (va_pl L f) s.heap := hP
  have hl := lv_entry ([.ref (ad 0 0), .int (nI p9), .int (nI m9), .int (-1), .int ti]) (n := 8) (Nat.le_of_ble_eq_true rfl)
  rw [lg_entry_eq]
  generalize (lg_sl ([.ref (ad 0 0), .int (nI p9), .int (nI m9), .int (-1), .int ti]) ++ List.replicate (8 - (lg_sl ([.ref (ad 0 0), .int (nI p9), .int (nI m9), .int (-1), .int ti])).length) Slot.unset).toArray = ls at hl ⊢
  have hl : lv_has ls 8 [(0, .ref (ad 0 0)), (1, .int (nI p9)), (2, .int (nI m9)), (3, .int (-1)), (4, .int ti)] := hl
  refine lv_aload_n hx hb dX10_addOperation_0 rfl (lv_at hl 0 rfl) ?_
  refine lv_iload_n hx hb dX10_addOperation_1 rfl (lv_at hl 1 rfl) ?_
  obtain ⟨q1, e2⟩ := cell_0 hR (rfl : (0 : Nat) = 0)
  refine gro_q (ci := 12) (As := [.int (nI p9)]) (rest := []) ⟨hx, hb, hml, hown, hta⟩ (c_X10_knownPart l hR hW hp) (cwV 1 hta (gWV mw318 mw319 mw9 mw40 mw320) rfl rfl rfl (by decide +kernel) ⟨Nat.le_of_ble_eq_true rfl, Nat.le_of_ble_eq_true rfl⟩) hK hP hD rfl e2 rfl hl.1 rfl (Nat.le_of_ble_eq_true rfl) dX10_addOperation_2 ⟨Nat.le_of_ble_eq_true rfl, Nat.le_of_ble_eq_true rfl⟩ (fun r3 c4 => ?_)
  obtain rfl := c4
  change W _ _ _ _ _ _ _ _ _ _ _ _ _ _ _ (F0 _ _ _ (rf ad 2 (some p9) :: []))
  rw [rf_some]
  refine lv_astore (lv' := [(5, .ref (ad 2 p9)), (0, .ref (ad 0 0)), (1, .int (nI p9)), (2, .int (nI m9)), (3, .int (-1)), (4, .int ti)]) hx hb dX10_addOperation_5 hl (by decide) rfl (fun ls hl => ?_)
  refine lv_aload_n hx hb dX10_addOperation_7 rfl (lv_at hl 1 rfl) ?_
  refine lv_iload_n hx hb dX10_addOperation_8 rfl (lv_at hl 3 rfl) ?_
  obtain ⟨q5, e6⟩ := cell_0 hR (rfl : (0 : Nat) = 0)
  refine gro_q (ci := 12) (As := [.int (nI m9)]) (rest := []) ⟨hx, hb, hml, hown, hta⟩ (c_X10_knownMachine l hR hW hm9) (cwV 1 hta (gWV mw361 mw362 mw10 mw40 mw363) rfl rfl rfl (by decide +kernel) ⟨Nat.le_of_ble_eq_true rfl, Nat.le_of_ble_eq_true rfl⟩) hK hP hD rfl e6 rfl hl.1 rfl (Nat.le_of_ble_eq_true rfl) dX10_addOperation_9 ⟨Nat.le_of_ble_eq_true rfl, Nat.le_of_ble_eq_true rfl⟩ (fun r7 c8 => ?_)
  obtain rfl := c8
  change W _ _ _ _ _ _ _ _ _ _ _ _ _ _ _ (F0 _ _ _ (rf ad 1 (some m9) :: []))
  rw [rf_some]
  refine lv_astore (lv' := [(6, .ref (ad 1 m9)), (5, .ref (ad 2 p9)), (0, .ref (ad 0 0)), (1, .int (nI p9)), (2, .int (nI m9)), (3, .int (-1)), (4, .int ti)]) hx hb dX10_addOperation_12 hl (by decide) rfl (fun ls hl => ?_)
  refine lv_iload_n hx hb dX10_addOperation_14 rfl (lv_at hl 5 rfl) ?_
  refine lv_iconst (v := -1) hx hb dX10_addOperation_15 (by decide) ?_
  refine lv_icmp_ne (tgt := 23) hx hb dX10_addOperation_16 (by decide) (fun c9 => ?_) (fun c9 => ?_)
  · exact absurd c9 (fun q => q rfl)
  · skip
    refine lv_null hx hb dX10_addOperation_19 ?_
    refine lv_goto (tgt := 28) hx hb dX10_addOperation_20 (by decide) ?_
    refine lv_astoreN (lv' := [(7, .null), (6, .ref (ad 1 m9)), (5, .ref (ad 2 p9)), (0, .ref (ad 0 0)), (1, .int (nI p9)), (2, .int (nI m9)), (3, .int (-1)), (4, .int ti)]) hx hb dX10_addOperation_28 hl (by decide) rfl (fun ls hl => ?_)
    refine lv_aload hx hb dX10_addOperation_30 (lv_at hl 2 rfl) ?_
    refine get_isMade_2 hx hb hta iwX8 hown hK hP hR hp (hta _ mw290) dX10_addOperation_32 ?_
    refine lv_if_ne (tgt := 48) hx hb dX10_addOperation_35 (by decide) (fun c10 => ?_) (fun c10 => ?_)
    · skip
      refine lv_iload hx hb dX10_addOperation_48 (lv_at hl 7 rfl) ?_
      refine lv_iconst (v := 1) hx hb dX10_addOperation_50 (by decide) ?_
      refine lv_bipush (v := 20) hx hb dX10_addOperation_51 (by decide) ?_
      refine vp_callSi (W.runS (As := [.int ti, .int 1, .int 20]) (rest := []) ⟨hx, hb, hml, hown, hta⟩ (c_X10_isFrom l ti 1 20) (va_cwS 3 hta (gWS mw223 mw224 mw40 mw225) rfl rfl rfl (by decide +kernel) ⟨Nat.le_of_ble_eq_true rfl, Nat.le_of_ble_eq_true rfl⟩) ⟨fun a U g mk q => ⟨q.1, trivial⟩, fun U hU hW9 => ⟨rfl, trivial⟩⟩ rfl rfl hl.1 rfl (lv_room (Nat.le_of_ble_eq_true rfl)) dX10_addOperation_53 ⟨Nat.le_of_ble_eq_true rfl, Nat.le_of_ble_eq_true rfl⟩) (fun r11 c12 => ?_)
      obtain rfl : r11 = 1 := c12.trans (by rw [hti]; rfl)
      refine lv_if_ne (tgt := 69) hx hb dX10_addOperation_56 (by decide) (fun c13 => ?_) (fun c13 => ?_)
      · skip
        refine lv_aload hx hb dX10_addOperation_69 (lv_at hl 2 rfl) ?_
        obtain ⟨q14, e15⟩ := cell_2 hR hp
        refine gro_i (ci := 10) (As := []) (rest := []) ⟨hx, hb, hml, hown, hta⟩ (c_X8_hasRoomForOperation l hR hp hcn) (cwV 0 hta (gWV mw364 mw365 mw366 mw49 mw367) rfl rfl rfl (by decide +kernel) ⟨Nat.le_of_ble_eq_true rfl, Nat.le_of_ble_eq_true rfl⟩) hK hP hD rfl e15 rfl hl.1 rfl (Nat.le_of_ble_eq_true rfl) dX10_addOperation_71 ⟨Nat.le_of_ble_eq_true rfl, Nat.le_of_ble_eq_true rfl⟩ (fun r16 c17 => ?_)
        obtain rfl := c17
        refine lv_if_ne (tgt := 87) hx hb dX10_addOperation_74 (by decide) (fun c18 => ?_) (fun c18 => ?_)
        · skip
          refine lv_aload hx hb dX10_addOperation_87 (lv_at hl 2 rfl) ?_
          refine raw_new (ci := 8) (K := RX6) (T := TX6) (N := 3) (fs := [.null, .null, .int 0]) hx hb hta iwX6 tyX6 tyX6_ok hown (hta _ mw368) (hta _ mw369) (hta _ mw56) hK hP hD hS hA rfl (fun j hj => by rcases (show j = 0 ∨ j = 1 ∨ j = 2 by omega) with rfl | rfl | rfl <;> rfl) (Nat.le_of_ble_eq_true rfl) (Nat.le_of_ble_eq_true rfl) dX10_addOperation_89 (fun q H L2 f2 hn1 hm1 hs1 hd1 hf1 ho1 hP hD hS => ?_)
          have hne1 : ∀ k i, V S k i → ad k i ≠ q := fun k i hv z => hn1 (z ▸ (hR.1 k i hv).1)
          have hR1 : Rep tA S ad L2 f2 := hR.raw hs1 (fun k i hv => ho1 _ (hne1 k i hv))
          refine lv_dup hx hb dX10_addOperation_92 rfl ?_
          refine lv_aload hx hb dX10_addOperation_93 (lv_at hl 1 rfl) ?_
          refine lv_aloadN hx hb dX10_addOperation_95 (lv_at hl 0 rfl) ?_
          refine lv_iload hx hb dX10_addOperation_97 (lv_at hl 7 rfl) ?_
          refine graw_I (As := [.ref (ad 1 m9), .null, .int ti]) (rest := [.ref q, .ref (ad 2 p9)]) ⟨hx, hb, hml, hown, hta⟩ (c_X6_init l hm1 hf1 (ad 1 m9) (none) ti) (cwI 3 hta (gWI mw372) rfl rfl rfl (hta _ mw56) (hta _ mw370) (hta _ mw371) rfl (by decide +kernel) ⟨Nat.le_of_ble_eq_true rfl, Nat.le_of_ble_eq_true rfl⟩) hK hP hD hS hA rfl hl.1 rfl (Nat.le_of_ble_eq_true rfl) dX10_addOperation_99 ⟨Nat.le_of_ble_eq_true rfl, Nat.le_of_ble_eq_true rfl⟩ (fun u H locs hw hP hD hS => ?_)
          obtain ⟨L3, f3⟩ := u
          obtain ⟨h9, hfq, ho3⟩ := hw
          dsimp only at hP hD hfq ho3 h9
          subst h9
          have hR3 : Rep tA S ad L2 f3 := hR1.raw (fun _ h => h) (fun k i hv => ho3 _ (hne1 k i hv))
          obtain ⟨z8, e8⟩ := cell_2 hR3 hp
          refine gwr_i (mc := 0) (ms := 0) (ci := 10) (As := [.ref q]) (rest := []) ⟨hx, hb, hml, hown, hta⟩ (c_X8_putOperation l hR3 hW hR hs1 (fun a ha => (ho3 a (fun z => hn1 (z ▸ ha))).trans (ho1 a (fun z => hn1 (z ▸ ha)))) hp hcn hn1 hm1 (al := none) hfq) (cwV 1 hta (gWV mw380 mw381 mw382 mw49 mw383) rfl rfl rfl (by decide +kernel) ⟨Nat.le_of_ble_eq_true rfl, Nat.le_of_ble_eq_true rfl⟩) hK hP hD hS hA rfl e8 rfl hl.1 rfl (Nat.le_of_ble_eq_true rfl) dX10_addOperation_102 ⟨Nat.le_of_ble_eq_true rfl, Nat.le_of_ble_eq_true rfl⟩ (fun r9 u H locs hw hR hP hD hS => ?_)
          obtain ⟨S9, ad9, L9, f9⟩ := u
          obtain ⟨rfl, rfl, rfl, rfl⟩ := hw
          dsimp only at hR hP hD
          have nv : ∀ k i, V S k i → nwWA ad (4 * p9 + sN S 5 p9) q k i = ad k i := fun k i hv => nwWA_old (fun z => by
            subst z; intro z; subst z
            have h9 := hv.2
            rw [show (4 * p9 + sN S 5 p9) / 4 = p9 by omega, show (4 * p9 + sN S 5 p9) % 4 = sN S 5 p9 by omega] at h9; omega)
          exact W.iret (v := nI (sN S 5 p9 + 1)) hx hb hr (fun t ht hWm => gend_i (u := (nwWS S p9 m9 none ti, nwWA ad (4 * p9 + sN S 5 p9) q, L2, f9)) ⟨rfl, rfl, nv⟩ hR hP hK hD hS ht hWm) hS.2.2 dX10_addOperation_105
        · exact absurd c18 (by decide)
      · exact absurd c13 (by decide)
    · exact absurd c10 hm

set_option maxHeartbeats 4000000 in
set_option maxRecDepth 100000 in
theorem c_X10_addOperations (l : Launch) {D : va_G} {tA : Nat → ClassId} {S : St} {ad : Nat → Nat → Nat} {L : List Nat} {f : Nat → va_E} {sz : Nat} (hR : Rep tA S ad L f) (hW : WT S) {p9 m9 a9 : Nat} (hp : p9 < sN S 1 0) (hm9 : m9 < sN S 0 0) (ha9 : a9 < sN S 0 0) (ti : Int32) (hti : inR ti 1 20 = true) (hm : ¬ sI S 20 p9 = 0) (hcn : sN S 5 p9 < 3) : Met l yX10_addOperation (wsC yX10_addOperation cX10_addOperation 8 (some .int)) ({ frames := 2, cells := 1, slots := 3, locals := 43 }) (va_Pc [.ref (ad 0 0), .int (nI p9), .int (nI m9), .int (nI a9), .int ti] (gY D tA L f sz)) (va_Qi (fun (r : Int32) (u : gU) => r = nI (sN S 5 p9 + 1) ∧ nwWS S p9 m9 (some a9) ti = u.1 ∧ ∀ k i, V S k i → u.2.1 k i = ad k i) (gE D tA (va_A (va_pl L f) sz)) (va_A (va_pl L f) sz)) 1 3 (va_A (va_pl L f) sz) := by
  refine Met.ofW (cc := cX10_addOperation) (maxL := 8) (ret := (some .int)) (by decide) rfl ?_
  intro p e s m args below meth c s₁ B hml hv
  obtain ⟨rfl, ⟨hsz, hP, hK, hD0⟩, hX⟩ := hv
  have hx := B.exec
  have hb := B.bytes
  have hr := B.returns
  have hts := atoms_spec (ws := wsC yX10_addOperation cX10_addOperation 8 (some .int)) B.pre
  have hta : ∀ w ∈ WA, w.before _ s = true := fun w h => hts w (List.mem_cons_of_mem _ h)
  have hown : s.vm.findClass RX10 = some m.cls := findClass_of_methodNamed B.named
  have hlocks := B.notSynchronized
  subst hsz
  have hD : va_D (va_A (va_pl L f) s.heap.size) (va_pl L f) := hD0.self (sz := s.heap.size)
  generalize hAe : va_A (va_pl L f) s.heap.size = A at hD ⊢
  have hA : ∀ q : Nat, s.heap.size ≤ q → A q := fun q h => by rw [← hAe]; exact Or.inr h
  have hS : va_S A s.heap s.heap [] := va_S.rf
  have hP : va_P D vwCl (va_pl L f) s.heap := hP
  have hl := lv_entry ([.ref (ad 0 0), .int (nI p9), .int (nI m9), .int (nI a9), .int ti]) (n := 8) (Nat.le_of_ble_eq_true rfl)
  rw [lg_entry_eq]
  generalize (lg_sl ([.ref (ad 0 0), .int (nI p9), .int (nI m9), .int (nI a9), .int ti]) ++ List.replicate (8 - (lg_sl ([.ref (ad 0 0), .int (nI p9), .int (nI m9), .int (nI a9), .int ti])).length) Slot.unset).toArray = ls at hl ⊢
  have hl : lv_has ls 8 [(0, .ref (ad 0 0)), (1, .int (nI p9)), (2, .int (nI m9)), (3, .int (nI a9)), (4, .int ti)] := hl
  refine lv_aload_n hx hb dX10_addOperation_0 rfl (lv_at hl 0 rfl) ?_
  refine lv_iload_n hx hb dX10_addOperation_1 rfl (lv_at hl 1 rfl) ?_
  obtain ⟨q1, e2⟩ := cell_0 hR (rfl : (0 : Nat) = 0)
  refine gro_q (ci := 12) (As := [.int (nI p9)]) (rest := []) ⟨hx, hb, hml, hown, hta⟩ (c_X10_knownPart l hR hW hp) (cwV 1 hta (gWV mw318 mw319 mw9 mw40 mw320) rfl rfl rfl (by decide +kernel) ⟨Nat.le_of_ble_eq_true rfl, Nat.le_of_ble_eq_true rfl⟩) hK hP hD rfl e2 rfl hl.1 rfl (Nat.le_of_ble_eq_true rfl) dX10_addOperation_2 ⟨Nat.le_of_ble_eq_true rfl, Nat.le_of_ble_eq_true rfl⟩ (fun r3 c4 => ?_)
  obtain rfl := c4
  change W _ _ _ _ _ _ _ _ _ _ _ _ _ _ _ (F0 _ _ _ (rf ad 2 (some p9) :: []))
  rw [rf_some]
  refine lv_astore (lv' := [(5, .ref (ad 2 p9)), (0, .ref (ad 0 0)), (1, .int (nI p9)), (2, .int (nI m9)), (3, .int (nI a9)), (4, .int ti)]) hx hb dX10_addOperation_5 hl (by decide) rfl (fun ls hl => ?_)
  refine lv_aload_n hx hb dX10_addOperation_7 rfl (lv_at hl 1 rfl) ?_
  refine lv_iload_n hx hb dX10_addOperation_8 rfl (lv_at hl 3 rfl) ?_
  obtain ⟨q5, e6⟩ := cell_0 hR (rfl : (0 : Nat) = 0)
  refine gro_q (ci := 12) (As := [.int (nI m9)]) (rest := []) ⟨hx, hb, hml, hown, hta⟩ (c_X10_knownMachine l hR hW hm9) (cwV 1 hta (gWV mw361 mw362 mw10 mw40 mw363) rfl rfl rfl (by decide +kernel) ⟨Nat.le_of_ble_eq_true rfl, Nat.le_of_ble_eq_true rfl⟩) hK hP hD rfl e6 rfl hl.1 rfl (Nat.le_of_ble_eq_true rfl) dX10_addOperation_9 ⟨Nat.le_of_ble_eq_true rfl, Nat.le_of_ble_eq_true rfl⟩ (fun r7 c8 => ?_)
  obtain rfl := c8
  change W _ _ _ _ _ _ _ _ _ _ _ _ _ _ _ (F0 _ _ _ (rf ad 1 (some m9) :: []))
  rw [rf_some]
  refine lv_astore (lv' := [(6, .ref (ad 1 m9)), (5, .ref (ad 2 p9)), (0, .ref (ad 0 0)), (1, .int (nI p9)), (2, .int (nI m9)), (3, .int (nI a9)), (4, .int ti)]) hx hb dX10_addOperation_12 hl (by decide) rfl (fun ls hl => ?_)
  refine lv_iload_n hx hb dX10_addOperation_14 rfl (lv_at hl 5 rfl) ?_
  refine lv_iconst (v := -1) hx hb dX10_addOperation_15 (by decide) ?_
  refine lv_icmp_ne (tgt := 23) hx hb dX10_addOperation_16 (by decide) (fun c9 => ?_) (fun c9 => ?_)
  · skip
    refine lv_aload_n hx hb dX10_addOperation_23 rfl (lv_at hl 2 rfl) ?_
    refine lv_iload_n hx hb dX10_addOperation_24 rfl (lv_at hl 5 rfl) ?_
    obtain ⟨q10, e11⟩ := cell_0 hR (rfl : (0 : Nat) = 0)
    refine gro_q (ci := 12) (As := [.int (nI a9)]) (rest := []) ⟨hx, hb, hml, hown, hta⟩ (c_X10_knownMachine l hR hW ha9) (cwV 1 hta (gWV mw361 mw362 mw10 mw40 mw363) rfl rfl rfl (by decide +kernel) ⟨Nat.le_of_ble_eq_true rfl, Nat.le_of_ble_eq_true rfl⟩) hK hP hD rfl e11 rfl hl.1 rfl (Nat.le_of_ble_eq_true rfl) dX10_addOperation_25 ⟨Nat.le_of_ble_eq_true rfl, Nat.le_of_ble_eq_true rfl⟩ (fun r12 c13 => ?_)
    obtain rfl := c13
    change W _ _ _ _ _ _ _ _ _ _ _ _ _ _ _ (F0 _ _ _ (rf ad 1 (some a9) :: []))
    rw [rf_some]
    refine lv_astore (lv' := [(7, .ref (ad 1 a9)), (6, .ref (ad 1 m9)), (5, .ref (ad 2 p9)), (0, .ref (ad 0 0)), (1, .int (nI p9)), (2, .int (nI m9)), (3, .int (nI a9)), (4, .int ti)]) hx hb dX10_addOperation_28 hl (by decide) rfl (fun ls hl => ?_)
    refine lv_aload hx hb dX10_addOperation_30 (lv_at hl 2 rfl) ?_
    refine get_isMade_2 hx hb hta iwX8 hown hK hP hR hp (hta _ mw290) dX10_addOperation_32 ?_
    refine lv_if_ne (tgt := 48) hx hb dX10_addOperation_35 (by decide) (fun c14 => ?_) (fun c14 => ?_)
    · skip
      refine lv_iload hx hb dX10_addOperation_48 (lv_at hl 7 rfl) ?_
      refine lv_iconst (v := 1) hx hb dX10_addOperation_50 (by decide) ?_
      refine lv_bipush (v := 20) hx hb dX10_addOperation_51 (by decide) ?_
      refine vp_callSi (W.runS (As := [.int ti, .int 1, .int 20]) (rest := []) ⟨hx, hb, hml, hown, hta⟩ (c_X10_isFrom l ti 1 20) (va_cwS 3 hta (gWS mw223 mw224 mw40 mw225) rfl rfl rfl (by decide +kernel) ⟨Nat.le_of_ble_eq_true rfl, Nat.le_of_ble_eq_true rfl⟩) ⟨fun a U g mk q => ⟨q.1, trivial⟩, fun U hU hW9 => ⟨rfl, trivial⟩⟩ rfl rfl hl.1 rfl (lv_room (Nat.le_of_ble_eq_true rfl)) dX10_addOperation_53 ⟨Nat.le_of_ble_eq_true rfl, Nat.le_of_ble_eq_true rfl⟩) (fun r15 c16 => ?_)
      obtain rfl : r15 = 1 := c16.trans (by rw [hti]; rfl)
      refine lv_if_ne (tgt := 69) hx hb dX10_addOperation_56 (by decide) (fun c17 => ?_) (fun c17 => ?_)
      · skip
        refine lv_aload hx hb dX10_addOperation_69 (lv_at hl 2 rfl) ?_
        obtain ⟨q18, e19⟩ := cell_2 hR hp
        refine gro_i (ci := 10) (As := []) (rest := []) ⟨hx, hb, hml, hown, hta⟩ (c_X8_hasRoomForOperation l hR hp hcn) (cwV 0 hta (gWV mw364 mw365 mw366 mw49 mw367) rfl rfl rfl (by decide +kernel) ⟨Nat.le_of_ble_eq_true rfl, Nat.le_of_ble_eq_true rfl⟩) hK hP hD rfl e19 rfl hl.1 rfl (Nat.le_of_ble_eq_true rfl) dX10_addOperation_71 ⟨Nat.le_of_ble_eq_true rfl, Nat.le_of_ble_eq_true rfl⟩ (fun r20 c21 => ?_)
        obtain rfl := c21
        refine lv_if_ne (tgt := 87) hx hb dX10_addOperation_74 (by decide) (fun c22 => ?_) (fun c22 => ?_)
        · skip
          refine lv_aload hx hb dX10_addOperation_87 (lv_at hl 2 rfl) ?_
          refine raw_new (ci := 8) (K := RX6) (T := TX6) (N := 3) (fs := [.null, .null, .int 0]) hx hb hta iwX6 tyX6 tyX6_ok hown (hta _ mw368) (hta _ mw369) (hta _ mw56) hK hP hD hS hA rfl (fun j hj => by rcases (show j = 0 ∨ j = 1 ∨ j = 2 by omega) with rfl | rfl | rfl <;> rfl) (Nat.le_of_ble_eq_true rfl) (Nat.le_of_ble_eq_true rfl) dX10_addOperation_89 (fun q H L2 f2 hn1 hm1 hs1 hd1 hf1 ho1 hP hD hS => ?_)
          have hne1 : ∀ k i, V S k i → ad k i ≠ q := fun k i hv z => hn1 (z ▸ (hR.1 k i hv).1)
          have hR1 : Rep tA S ad L2 f2 := hR.raw hs1 (fun k i hv => ho1 _ (hne1 k i hv))
          refine lv_dup hx hb dX10_addOperation_92 rfl ?_
          refine lv_aload hx hb dX10_addOperation_93 (lv_at hl 1 rfl) ?_
          refine lv_aload hx hb dX10_addOperation_95 (lv_at hl 0 rfl) ?_
          refine lv_iload hx hb dX10_addOperation_97 (lv_at hl 7 rfl) ?_
          refine graw_I (As := [.ref (ad 1 m9), .ref (ad 1 a9), .int ti]) (rest := [.ref q, .ref (ad 2 p9)]) ⟨hx, hb, hml, hown, hta⟩ (c_X6_init l hm1 hf1 (ad 1 m9) (some (ad 1 a9)) ti) (cwI 3 hta (gWI mw372) rfl rfl rfl (hta _ mw56) (hta _ mw370) (hta _ mw371) rfl (by decide +kernel) ⟨Nat.le_of_ble_eq_true rfl, Nat.le_of_ble_eq_true rfl⟩) hK hP hD hS hA rfl hl.1 rfl (Nat.le_of_ble_eq_true rfl) dX10_addOperation_99 ⟨Nat.le_of_ble_eq_true rfl, Nat.le_of_ble_eq_true rfl⟩ (fun u H locs hw hP hD hS => ?_)
          obtain ⟨L3, f3⟩ := u
          obtain ⟨h9, hfq, ho3⟩ := hw
          dsimp only at hP hD hfq ho3 h9
          subst h9
          have hR3 : Rep tA S ad L2 f3 := hR1.raw (fun _ h => h) (fun k i hv => ho3 _ (hne1 k i hv))
          obtain ⟨z8, e8⟩ := cell_2 hR3 hp
          refine gwr_i (mc := 0) (ms := 0) (ci := 10) (As := [.ref q]) (rest := []) ⟨hx, hb, hml, hown, hta⟩ (c_X8_putOperation l hR3 hW hR hs1 (fun a ha => (ho3 a (fun z => hn1 (z ▸ ha))).trans (ho1 a (fun z => hn1 (z ▸ ha)))) hp hcn hn1 hm1 (al := (some a9)) hfq) (cwV 1 hta (gWV mw380 mw381 mw382 mw49 mw383) rfl rfl rfl (by decide +kernel) ⟨Nat.le_of_ble_eq_true rfl, Nat.le_of_ble_eq_true rfl⟩) hK hP hD hS hA rfl e8 rfl hl.1 rfl (Nat.le_of_ble_eq_true rfl) dX10_addOperation_102 ⟨Nat.le_of_ble_eq_true rfl, Nat.le_of_ble_eq_true rfl⟩ (fun r9 u H locs hw hR hP hD hS => ?_)
          obtain ⟨S9, ad9, L9, f9⟩ := u
          obtain ⟨rfl, rfl, rfl, rfl⟩ := hw
          dsimp only at hR hP hD
          have nv : ∀ k i, V S k i → nwWA ad (4 * p9 + sN S 5 p9) q k i = ad k i := fun k i hv => nwWA_old (fun z => by
            subst z; intro z; subst z
            have h9 := hv.2
            rw [show (4 * p9 + sN S 5 p9) / 4 = p9 by omega, show (4 * p9 + sN S 5 p9) % 4 = sN S 5 p9 by omega] at h9; omega)
          exact W.iret (v := nI (sN S 5 p9 + 1)) hx hb hr (fun t ht hWm => gend_i (u := (nwWS S p9 m9 (some a9) ti, nwWA ad (4 * p9 + sN S 5 p9) q, L2, f9)) ⟨rfl, rfl, nv⟩ hR hP hK hD hS ht hWm) hS.2.2 dX10_addOperation_105
        · exact absurd c22 (by decide)
      · exact absurd c17 (by decide)
    · exact absurd c14 hm
  · exact absurd c9 (nI_ne (by have := hW.nM; omega))

