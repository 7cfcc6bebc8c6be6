/-! order, where it does not throw (made by wip/gen/spec_p.py) -/
theorem nI_m1 (n : Nat) : nI (n + 1) - 1 = nI n := by rw [← nI_1, Int32.add_sub_cancel]
set_option maxHeartbeats 4000000 in
set_option maxRecDepth 100000 in
theorem c_X10_order (l : Launch) {D : va_G} {tA : Nat → ClassId} {S : St} {ad : Nat → Nat → Nat} {L : List Nat} {f : Nat → va_E} {sz : Nat} (hR : Rep tA S ad L f) (hW : WT S) {p9 : Nat} (hp : p9 < sN S 1 0) (qy op du : Int32) (hq : inR qy 1 100 = true) (hop : inR op 0 2 = true) (hdu : inR du 0 9999 = true) (hn : sN S 3 0 < 30) : Met l yX10_order (wsC yX10_order cX10_order 6 (some .int)) ({ frames := 3, cells := 4, slots := 111, locals := 65 }) (va_Pc [.ref (ad 0 0), .int (nI p9), .int qy, .int op, .int du] (gY D tA L f sz)) (va_Qi (fun (r : Int32) (u : gU) => r = nI (sN S 3 0) ∧ nwOS S p9 qy op du = u.1 ∧ ∀ k i, V S k i → u.2.1 k i = ad k i) (gE D tA (va_A (va_pl L f) sz)) (va_A (va_pl L f) sz)) 4 111 (va_A (va_pl L f) sz) := by
  refine Met.ofW (cc := cX10_order) (maxL := 6) (ret := (some .int)) (by decide) rfl ?_
  intro p e s m args below meth c s₁ B hml hv
  obtain ⟨rfl, ⟨hsz, hP, hK, hD0⟩, hX⟩ := hv
  have hx := B.exec
  have hb := B.bytes
  have hr := B.returns
  have hts := atoms_spec (ws := wsC yX10_order cX10_order 6 (some .int)) B.pre
  have hta : ∀ w ∈ WA, w.before _ s = true := fun w h => hts w (List.mem_cons_of_mem _ h)
  have hown : s.vm.findClass RX10 = some m.cls := findClass_of_methodNamed B.named
  have hlocks := B.notSynchronized
  subst hsz
  have hD : va_D (va_A (va_pl L f) s.heap.size) (va_pl L f) := hD0.self (sz := s.heap.size)
  generalize hAe : va_A (va_pl L f) s.heap.size = A at hD ⊢
  have hA : ∀ q : Nat, s.heap.size ≤ q → A q := fun q h => by rw [← hAe]; exact Or.inr h
  have hS : va_S A s.heap s.heap [] := va_S.rf
  have hP : va_P D vwCl (va_pl L f) s.heap := hP
  have hl := lv_entry ([.ref (ad 0 0), .int (nI p9), .int qy, .int op, .int du]) (n := 6) (Nat.le_of_ble_eq_true rfl)
  rw [lg_entry_eq]
  generalize (lg_sl ([.ref (ad 0 0), .int (nI p9), .int qy, .int op, .int du]) ++ List.replicate (6 - (lg_sl ([.ref (ad 0 0), .int (nI p9), .int qy, .int op, .int du])).length) Slot.unset).toArray = ls at hl ⊢
  have hl : lv_has ls 6 [(0, .ref (ad 0 0)), (1, .int (nI p9)), (2, .int qy), (3, .int op), (4, .int du)] := hl
  refine lv_aload_n hx hb dX10_order_0 rfl (lv_at hl 0 rfl) ?_
  refine lv_iload_n hx hb dX10_order_1 rfl (lv_at hl 1 rfl) ?_
  obtain ⟨q1, e2⟩ := cell_0 hR (rfl : (0 : Nat) = 0)
  refine gro_q (ci := 12) (As := [.int (nI p9)]) (rest := []) ⟨hx, hb, hml, hown, hta⟩ (c_X10_knownPart l hR hW hp) (cwV 1 hta (gWV mw318 mw319 mw9 mw40 mw320) rfl rfl rfl (by decide +kernel) ⟨Nat.le_of_ble_eq_true rfl, Nat.le_of_ble_eq_true rfl⟩) hK hP hD rfl e2 rfl hl.1 rfl (Nat.le_of_ble_eq_true rfl) dX10_order_2 ⟨Nat.le_of_ble_eq_true rfl, Nat.le_of_ble_eq_true rfl⟩ (fun r3 c4 => ?_)
  obtain rfl := c4
  change W _ _ _ _ _ _ _ _ _ _ _ _ _ _ _ (F0 _ _ _ (rf ad 2 (some p9) :: []))
  rw [rf_some]
  refine lv_astore (lv' := [(5, .ref (ad 2 p9)), (0, .ref (ad 0 0)), (1, .int (nI p9)), (2, .int qy), (3, .int op), (4, .int du)]) hx hb dX10_order_5 hl (by decide) rfl (fun ls hl => ?_)
  refine lv_iload_n hx hb dX10_order_7 rfl (lv_at hl 3 rfl) ?_
  refine lv_iconst (v := 1) hx hb dX10_order_8 (by decide) ?_
  refine lv_bipush (v := 100) hx hb dX10_order_9 (by decide) ?_
  refine vp_callSi (W.runS (As := [.int qy, .int 1, .int 100]) (rest := []) ⟨hx, hb, hml, hown, hta⟩ (c_X10_isFrom l qy 1 100) (va_cwS 3 hta (gWS mw223 mw224 mw40 mw225) rfl rfl rfl (by decide +kernel) ⟨Nat.le_of_ble_eq_true rfl, Nat.le_of_ble_eq_true rfl⟩) ⟨fun a U g mk q => ⟨q.1, trivial⟩, fun U hU hW9 => ⟨rfl, trivial⟩⟩ rfl rfl hl.1 rfl (lv_room (Nat.le_of_ble_eq_true rfl)) dX10_order_11 ⟨Nat.le_of_ble_eq_true rfl, Nat.le_of_ble_eq_true rfl⟩) (fun r5 c6 => ?_)
  obtain rfl : r5 = 1 := c6.trans (by rw [hq]; rfl)
  refine lv_if_eq (tgt := 38) hx hb dX10_order_14 (by decide) (fun c7 => ?_) (fun c7 => ?_)
  · exact absurd c7 (by decide)
  · skip
    refine lv_iload_n hx hb dX10_order_17 rfl (lv_at hl 4 rfl) ?_
    refine lv_iconst (v := 0) hx hb dX10_order_18 (by decide) ?_
    refine lv_iconst (v := 2) hx hb dX10_order_19 (by decide) ?_
    refine vp_callSi (W.runS (As := [.int op, .int 0, .int 2]) (rest := []) ⟨hx, hb, hml, hown, hta⟩ (c_X10_isFrom l op 0 2) (va_cwS 3 hta (gWS mw223 mw224 mw40 mw225) rfl rfl rfl (by decide +kernel) ⟨Nat.le_of_ble_eq_true rfl, Nat.le_of_ble_eq_true rfl⟩) ⟨fun a U g mk q => ⟨q.1, trivial⟩, fun U hU hW9 => ⟨rfl, trivial⟩⟩ rfl rfl hl.1 rfl (lv_room (Nat.le_of_ble_eq_true rfl)) dX10_order_20 ⟨Nat.le_of_ble_eq_true rfl, Nat.le_of_ble_eq_true rfl⟩) (fun r8 c9 => ?_)
    obtain rfl : r8 = 1 := c9.trans (by rw [hop]; rfl)
    refine lv_if_eq (tgt := 38) hx hb dX10_order_23 (by decide) (fun c10 => ?_) (fun c10 => ?_)
    · exact absurd c10 (by decide)
    · skip
      refine lv_iload hx hb dX10_order_26 (lv_at hl 5 rfl) ?_
      refine lv_iconst (v := 0) hx hb dX10_order_28 (by decide) ?_
      refine lv_sipush (v := 9999) hx hb dX10_order_29 (by decide) ?_
      refine vp_callSi (W.runS (As := [.int du, .int 0, .int 9999]) (rest := []) ⟨hx, hb, hml, hown, hta⟩ (c_X10_isFrom l du 0 9999) (va_cwS 3 hta (gWS mw223 mw224 mw40 mw225) rfl rfl rfl (by decide +kernel) ⟨Nat.le_of_ble_eq_true rfl, Nat.le_of_ble_eq_true rfl⟩) ⟨fun a U g mk q => ⟨q.1, trivial⟩, fun U hU hW9 => ⟨rfl, trivial⟩⟩ rfl rfl hl.1 rfl (lv_room (Nat.le_of_ble_eq_true rfl)) dX10_order_32 ⟨Nat.le_of_ble_eq_true rfl, Nat.le_of_ble_eq_true rfl⟩) (fun r11 c12 => ?_)
      obtain rfl : r11 = 1 := c12.trans (by rw [hdu]; rfl)
      refine lv_if_ne (tgt := 48) hx hb dX10_order_35 (by decide) (fun c13 => ?_) (fun c13 => ?_)
      · skip
        refine lv_aload_n hx hb dX10_order_48 rfl (lv_at hl 1 rfl) ?_
        refine get_orderCount_0 hx hb hta iwX10 hown hK hP hR (rfl : (0 : Nat) = 0) (hta _ mw106) dX10_order_49 ?_
        refine lv_aload_n hx hb dX10_order_52 rfl (lv_at hl 1 rfl) ?_
        refine get_orders_0 hx hb hta iwX10 hown hK hP hR (rfl : (0 : Nat) = 0) (hta _ mw100) dX10_order_53 ?_
        refine len_orders hx hb hK hP hR (rfl : (0 : Nat) = 0) dX10_order_56 ?_
        refine lv_icmp_lt (tgt := 70) hx hb dX10_order_57 (by decide) (fun c14 => ?_) (fun c14 => ?_)
        · skip
          refine lv_aload_n hx hb dX10_order_70 rfl (lv_at hl 1 rfl) ?_
          refine get_orders_0 hx hb hta iwX10 hown hK hP hR (rfl : (0 : Nat) = 0) (hta _ mw100) dX10_order_71 ?_
          refine lv_aload_n hx hb dX10_order_74 rfl (lv_at hl 1 rfl) ?_
          refine get_orderCount_0 hx hb hta iwX10 hown hK hP hR (rfl : (0 : Nat) = 0) (hta _ mw106) dX10_order_75 ?_
          refine raw_new (ci := 9) (K := RX7) (T := TX7) (N := 12) (fs := [.int 0, .null, .int 0, .int 0, .int 0, .null, .null, .null, .int 0, .int 0, .int 0, .long 0]) hx hb hta iwX7 tyX7 tyX7_ok hown (hta _ mw81) (hta _ mw506) (hta _ mw59) hK hP hD hS hA rfl (fun j hj => by rcases (show j = 0 ∨ j = 1 ∨ j = 2 ∨ j = 3 ∨ j = 4 ∨ j = 5 ∨ j = 6 ∨ j = 7 ∨ j = 8 ∨ j = 9 ∨ j = 10 ∨ j = 11 by omega) with rfl | rfl | rfl | rfl | rfl | rfl | rfl | rfl | rfl | rfl | rfl | rfl <;> rfl) (Nat.le_of_ble_eq_true rfl) (Nat.le_of_ble_eq_true rfl) dX10_order_78 (fun q H L2 f2 hn1 hm1 hs1 hd1 hf1 ho1 hP hD hS => ?_)
          have hne1 : ∀ k i, V S k i → ad k i ≠ q := fun k i hv z => hn1 (z ▸ (hR.1 k i hv).1)
          have hR1 : Rep tA S ad L2 f2 := hR.raw hs1 (fun k i hv => ho1 _ (hne1 k i hv))
          refine lv_dup hx hb dX10_order_81 rfl ?_
          refine lv_aload_n hx hb dX10_order_82 rfl (lv_at hl 1 rfl) ?_
          refine get_orderCount_0 hx hb hta iwX10 hown hK hP hR1 (rfl : (0 : Nat) = 0) (hta _ mw106) dX10_order_83 ?_
          refine lv_aload hx hb dX10_order_86 (lv_at hl 0 rfl) ?_
          refine lv_iload_n hx hb dX10_order_88 rfl (lv_at hl 3 rfl) ?_
          refine lv_iload_n hx hb dX10_order_89 rfl (lv_at hl 4 rfl) ?_
          refine lv_iload hx hb dX10_order_90 (lv_at hl 5 rfl) ?_
          refine graw_Y (As := [.int (nI (sN S 3 0)), .ref (ad 2 p9), .int qy, .int op, .int du]) (rest := [.ref q, .int (nI (sN S 3 0)), .ref (ad 19 0)]) ⟨hx, hb, hml, hown, hta⟩ (c_X7_init l hm1 hf1 (nI (sN S 3 0)) (ad 2 p9) qy op du) (cwI 5 hta (gWI mw509) rfl rfl rfl (hta _ mw59) (hta _ mw507) (hta _ mw508) rfl (by decide +kernel) ⟨Nat.le_of_ble_eq_true rfl, Nat.le_of_ble_eq_true rfl⟩) hX hK hP hD hS hA rfl hl.1 rfl (Nat.le_of_ble_eq_true rfl) dX10_order_92 ⟨Nat.le_of_ble_eq_true rfl, Nat.le_of_ble_eq_true rfl⟩ (fun u H locs hw hP hD hS => ?_)
          obtain ⟨L3, f3⟩ := u
          obtain ⟨q1, q2, q3, hfq, ⟨g1, g2, g3, g4⟩, ⟨g5, g6, g7, g8⟩, ⟨g9, g10, g11, g12⟩, e12, e13, e23, hs3, hd3, ho3⟩ := hw
          dsimp only at hP hD hfq g1 g3 g5 g7 g9 g11 hs3 hd3 ho3
          have hsL : ∀ a, a ∈ L → a ∈ L3 := fun a ha => hs3 a (hs1 a ha)
          have hR3 : Rep tA S ad L3 f3 := hR1.raw hs3 (fun k i hv => ho3 _ (hR1.1 k i hv).1 (hne1 k i hv))
          have hmq : q ∈ L3 := hs3 q hm1
          have v0 : V S 0 0 := rfl
          have v19 : V S 19 0 := rfl
          have hx3 := (hR3.1 0 0 v0).2
          have ha3 := (hR3.1 19 0 v19).2
          refine raw_ast (K := RX7) (T := TX7) (N := 12) (ci := 9) (j := sN S 3 0) 5 rfl hx hb hK hP hD hS (hR3.1 19 0 v19).1 ha3 hmq hfq rfl hn (by decide) dX10_order_95 (fun H locs f4 ha4 ho4 hP hD hS => ?_)
          have hx4 := (ho4 _ (hR3.ne v0 v19 (by decide))).trans hx3
          refine lv_aload_n hx hb dX10_order_96 rfl (lv_at hl 1 rfl) ?_
          refine lv_dup hx hb dX10_order_97 rfl ?_
          obtain ⟨z, hz⟩ := pl_at (hR3.1 0 0 v0).1 hx4
          refine va_get (D := D) (ci := 12) (v := .int (nI (sN S 3 0))) (C := RX10) (T := TX10) (N := 14) hx hb hta iwX10 hown hK hP z hz rfl 10 (by decide) (hta _ mw106) (fun _ h9 => h9) rfl dX10_order_98 ?_
          refine lv_iconst (v := 1) hx hb dX10_order_101 (by decide) ?_
          refine lv_iadd hx hb dX10_order_102 ?_
          rw [nI_1]
          refine raw_put (ci := 12) (K := RX10) (T := TX10) (N := 14) (v := .int (nI (sN S 3 0 + 1))) (ty := .int) hx hb hta iwX10 tyX10 tyX10_ok nmX10 hown hK hP hD hS (hR3.1 0 0 v0).1 hx4 rfl 10 (by decide) (hta _ mw106) rfl (by decide +kernel) rfl rfl (Nat.le_of_ble_eq_true rfl) dX10_order_103 (fun H locs f5 hx5 ho5 hP hD hS => ?_)
          have d0 : ∀ a, a ∉ L → a ≠ ad 0 0 := fun a ha z => ha (z ▸ (hR.1 0 0 v0).1)
          have d19 : ∀ a, a ∉ L → a ≠ ad 19 0 := fun a ha z => ha (z ▸ (hR.1 19 0 v19).1)
          have hto : ∀ a, a ≠ ad 0 0 → a ≠ ad 19 0 → f5 a = f3 a := fun a h1 h2 => (ho5 a h1).trans (ho4 a h2)
          have nL1 : ∀ a, a ∉ L2 → a ∉ L := fun a ha z => ha (hs1 a z)
          have hRf : Rep tA (nwOS S p9 qy op du) (nwOA ad (sN S 3 0) q q1 q2 q3) L3 f5 := Rep.newnwOS hR hW hsL ⟨(hto q (d0 q hn1) (d19 q hn1)).trans hfq, hn1, hmq⟩ ⟨(hto q1 (d0 _ (nL1 _ g2)) (d19 _ (nL1 _ g2))).trans g1, nL1 _ g2, g3⟩ ⟨(hto q2 (d0 _ (nL1 _ g6)) (d19 _ (nL1 _ g6))).trans g5, nL1 _ g6, g7⟩ ⟨(hto q3 (d0 _ (nL1 _ g10)) (d19 _ (nL1 _ g10))).trans g9, nL1 _ g10, g11⟩ (Ne.symm g4) (Ne.symm g8) (Ne.symm g12) e12 e13 e23 (fun a ha h1 h2 => (hto a h1 h2).trans ((ho3 a (hs1 a ha) (fun z => hn1 (z ▸ ha))).trans (ho1 a (fun z => hn1 (z ▸ ha))))) hx5 ((ho5 _ (hR3.ne v19 v0 (by decide))).trans ha4)
          have nv : ∀ k i, V S k i → nwOA ad (sN S 3 0) q q1 q2 q3 k i = ad k i := fun k i hv => nwOA_old (fun z => by
            subst z
            exact ⟨fun z => by subst z; exact Nat.lt_irrefl _ hv, fun z => by subst z; exact Nat.lt_irrefl _ hv, fun z => by subst z; exact Nat.lt_irrefl _ hv, fun z => by subst z; exact Nat.lt_irrefl _ hv⟩)
          refine lv_aload_n hx hb dX10_order_106 rfl (lv_at hl 1 rfl) ?_
          obtain ⟨z5, hz5⟩ := pl_at (hR3.1 0 0 v0).1 hx5
          refine va_get (D := D) (ci := 12) (v := .int (nI (sN S 3 0 + 1))) (C := RX10) (T := TX10) (N := 14) hx hb hta iwX10 hown hK hP z5 hz5 rfl 10 (by decide) (hta _ mw106) (fun _ h9 => h9) rfl dX10_order_107 ?_
          refine lv_iconst (v := 1) hx hb dX10_order_110 (by decide) ?_
          refine lv_isub hx hb dX10_order_111 ?_
          rw [nI_m1]
          exact W.iret (v := nI (sN S 3 0)) hx hb hr (fun t ht hWm => gend_i (u := (nwOS S p9 qy op du, nwOA ad (sN S 3 0) q q1 q2 q3, L3, f5)) ⟨rfl, rfl, nv⟩ hRf hP hK hD hS ht hWm) hS.2.2 dX10_order_112
        · exact absurd (Int32.not_le.mp (nI_ge (a := sN S 3 0) (b := 30) hn (by decide))) c14
      · exact absurd c13 (by decide)

