/-! traced (made by wip/gen/spec_x.py) -/
set_option maxHeartbeats 4000000 in
set_option maxRecDepth 100000 in
theorem c_L_traced (l : Launch) (hl0 : l.stackTraces = false) {D : va_G} {tA : Nat → ClassId} {S : St} {ad : Nat → Nat → Nat} {L : List Nat} {f : Nat → va_E} {sz : Nat} (hR : Rep tA S ad L f) (hI : Inv S) (hW : WT S) : Met l yL_traced (wsC yL_traced cL_traced 6 (some .boolean)) ({ frames := 8, cells := 90, slots := 540, locals := 143 }) (va_Pc [.ref (ad 0 0), .int (nI (sN S 3 0))] (gW D tA L f sz)) (va_Qi (fun (r : Int32) (u : gU) => r = 1 ∧ S = u.1 ∧ ad = u.2.1 ∧ L = u.2.2.1) (gE D tA (va_A (va_pl L f) sz)) (va_A (va_pl L f) sz)) 90 540 (va_A (va_pl L f) sz) := by
  refine Met.ofW (cc := cL_traced) (maxL := 6) (ret := (some .boolean)) (by decide) rfl ?_
  intro p e s m args below meth c s₁ B hml hv
  obtain ⟨rfl, ⟨⟨hsz, hP, hK, hD0⟩, hX⟩, hQ⟩ := hv
  have hx := B.exec
  have hb := B.bytes
  have hr := B.returns
  have hlocks := B.notSynchronized
  have hts9 := atoms_spec (ws := (wsC yL_traced cL_traced 6 (some .boolean))) B.pre
  have hta : ∀ w ∈ WA, w.before _ s = true := fun w h => hts9 w (List.mem_cons_of_mem _ h)
  have hown : s.vm.findClass RL = some m.cls := findClass_of_methodNamed B.named
  subst hsz
  have hD : va_D (va_A (va_pl L f) s.heap.size) (va_pl L f) := hD0.self (sz := s.heap.size)
  generalize hAe : va_A (va_pl L f) s.heap.size = A at hD hQ ⊢
  have hA : ∀ q : Nat, s.heap.size ≤ q → A q := fun q h => by rw [← hAe]; exact Or.inr h
  have hS : va_S A s.heap s.heap [] := va_S.rf
  have hP : va_P D vwCl (va_pl L f) s.heap := hP
  have hl := lv_entry ([.ref (ad 0 0), .int (nI (sN S 3 0))]) (n := 6) (Nat.le_of_ble_eq_true rfl)
  rw [lg_entry_eq]
  generalize (lg_sl ([.ref (ad 0 0), .int (nI (sN S 3 0))]) ++ List.replicate (6 - (lg_sl ([.ref (ad 0 0), .int (nI (sN S 3 0))])).length) Slot.unset).toArray = ls at hl ⊢
  have hl : lv_has ls 6 [(0, .ref (ad 0 0)), (1, .int (nI (sN S 3 0)))] := hl
  refine lv_iconst (v := 0) hx hb dL_traced_0 (by decide) ?_
  refine lv_istore_n (lv' := [(2, .int 0), (0, .ref (ad 0 0)), (1, .int (nI (sN S 3 0)))]) hx hb dL_traced_1 rfl hl (by decide) rfl (fun ls hl => ?_)
  refine lv_iconst (v := 0) hx hb dL_traced_2 (by decide) ?_
  refine lv_istore_n (lv' := [(3, .int 0), (2, .int 0), (0, .ref (ad 0 0)), (1, .int (nI (sN S 3 0)))]) hx hb dL_traced_3 rfl hl (by decide) rfl (fun ls hl => ?_)
  refine lv_iconst (v := 0) hx hb dL_traced_4 (by decide) ?_
  refine lv_istore (lv' := [(4, .int 0), (3, .int 0), (2, .int 0), (0, .ref (ad 0 0)), (1, .int (nI (sN S 3 0)))]) hx hb dL_traced_5 hl (by decide) rfl (fun ls hl => ?_)
  refine loop_g (σ := Array Slot) (Wg := fun ls => W p l e _ s m _ below meth c _ _ _ _ _ (F0 m 7 ls [])) (sN S 2 0) (fun j1 ls => lv_has ls 6 [(0, .ref (ad 0 0)), (1, .int (nI (sN S 3 0))), (2, .int (fwd S j1)), (3, .int 0), (4, .int (nI j1))]) (fun j1 hj2 ih3 ls hl => ?_) (fun ls hl => ?_) ls (lv_sub hl [3, 4, 2, 1, 0] rfl)
  · skip
    refine lv_iload hx hb dL_traced_7 (lv_at hl 4 rfl) ?_
    refine lv_aload_n hx hb dL_traced_9 rfl (lv_at hl 0 rfl) ?_
    obtain ⟨q4, e5⟩ := cell_0 hR (rfl : (0 : Nat) = 0)
    refine gro_i (ci := 12) (As := []) (rest := [.int (nI j1)]) ⟨hx, hb, hml, hown, hta⟩ (c_X10_lots l hR ) (cwV 0 hta (gWV mw110 mw111 mw112 mw40 mw113) rfl rfl rfl (by decide +kernel) ⟨Nat.le_of_ble_eq_true rfl, Nat.le_of_ble_eq_true rfl⟩) hK hP hD rfl e5 rfl hl.1 rfl (Nat.le_of_ble_eq_true rfl) dL_traced_10 ⟨Nat.le_of_ble_eq_true rfl, Nat.le_of_ble_eq_true rfl⟩ (fun r6 c7 => ?_)
    obtain rfl := c7
    refine lv_icmp_ge (tgt := 223) hx hb dL_traced_13 (by decide) (fun c8 => ?_) (fun c8 => ?_)
    · exact absurd c8 (nI_ge (a := j1) (b := sN S 2 0) hj2 (by have := hW.nL; omega))
    · skip
      refine lv_iload_n hx hb dL_traced_16 rfl (lv_at hl 2 rfl) ?_
      refine lv_aload_n hx hb dL_traced_17 rfl (lv_at hl 0 rfl) ?_
      refine lv_iload hx hb dL_traced_18 (lv_at hl 4 rfl) ?_
      refine vp_callSi (run_of (vx_runSW (g := F0 m 20 ls [.int (nI j1), .ref (ad 0 0), .int (fwd S j1)]) (As := [.ref (ad 0 0), .int (nI j1)]) (rest := [.int (fwd S j1)]) ⟨hx, hb, hml, hown, hta⟩ (c_L_touched l hR hW hj2) (vx_cwSW 2 hta (gWSW mw747 mw748 mw39 mw749) rfl rfl rfl (by decide +kernel) ⟨Nat.le_of_ble_eq_true rfl, Nat.le_of_ble_eq_true rfl⟩) (gPreB hK hP hD) rfl rfl hl.1 rfl (lv_room (Nat.le_of_ble_eq_true rfl)) dL_traced_20 ⟨Nat.le_of_ble_eq_true rfl, Nat.le_of_ble_eq_true rfl⟩)) (fun r9 c10 => ?_)
      obtain rfl := c10
      refine lv_iadd hx hb dL_traced_23 ?_
      refine lv_istore_n (lv' := [(2, .int ((fwd S j1) + (tch S j1))), (0, .ref (ad 0 0)), (1, .int (nI (sN S 3 0))), (3, .int 0), (4, .int (nI j1))]) hx hb dL_traced_24 rfl hl (by decide) rfl (fun ls hl => ?_)
      refine lv_aload_n hx hb dL_traced_25 rfl (lv_at hl 1 rfl) ?_
      refine lv_iload hx hb dL_traced_26 (lv_at hl 4 rfl) ?_
      refine vp_callSi (run_of (vx_runSW (g := F0 m 28 ls [.int (nI j1), .ref (ad 0 0)]) (As := [.ref (ad 0 0), .int (nI j1)]) (rest := []) ⟨hx, hb, hml, hown, hta⟩ (c_L_reserved l hR hW hj2) (vx_cwSW 2 hta (gWSW mw484 mw485 mw39 mw486) rfl rfl rfl (by decide +kernel) ⟨Nat.le_of_ble_eq_true rfl, Nat.le_of_ble_eq_true rfl⟩) (gPreB hK hP hD) rfl rfl hl.1 rfl (lv_room (Nat.le_of_ble_eq_true rfl)) dL_traced_28 ⟨Nat.le_of_ble_eq_true rfl, Nat.le_of_ble_eq_true rfl⟩)) (fun r11 c12 => ?_)
      obtain rfl := c12
      refine lv_if_lt (tgt := 102) hx hb dL_traced_31 (by decide) (fun c13 => ?_) (fun c13 => ?_)
      · exact absurd c13 (tl_v0 hI hj2)
      · skip
        refine lv_aload_n hx hb dL_traced_34 rfl (lv_at hl 1 rfl) ?_
        refine lv_iload hx hb dL_traced_35 (lv_at hl 4 rfl) ?_
        refine vp_callSi (run_of (vx_runSW (g := F0 m 37 ls [.int (nI j1), .ref (ad 0 0)]) (As := [.ref (ad 0 0), .int (nI j1)]) (rest := []) ⟨hx, hb, hml, hown, hta⟩ (c_L_reserved l hR hW hj2) (vx_cwSW 2 hta (gWSW mw484 mw485 mw39 mw486) rfl rfl rfl (by decide +kernel) ⟨Nat.le_of_ble_eq_true rfl, Nat.le_of_ble_eq_true rfl⟩) (gPreB hK hP hD) rfl rfl hl.1 rfl (lv_room (Nat.le_of_ble_eq_true rfl)) dL_traced_37 ⟨Nat.le_of_ble_eq_true rfl, Nat.le_of_ble_eq_true rfl⟩)) (fun r14 c15 => ?_)
        obtain rfl := c15
        refine lv_aload_n hx hb dL_traced_40 rfl (lv_at hl 1 rfl) ?_
        refine lv_iload hx hb dL_traced_41 (lv_at hl 4 rfl) ?_
        refine vp_callSi (run_of (vx_runSW (g := F0 m 43 ls [.int (nI j1), .ref (ad 0 0), .int (sI S 42 j1)]) (As := [.ref (ad 0 0), .int (nI j1)]) (rest := [.int (sI S 42 j1)]) ⟨hx, hb, hml, hown, hta⟩ (c_L_rest l hR hW hj2) (vx_cwSW 2 hta (gWSW mw477 mw478 mw39 mw479) rfl rfl rfl (by decide +kernel) ⟨Nat.le_of_ble_eq_true rfl, Nat.le_of_ble_eq_true rfl⟩) (gPreB hK hP hD) rfl rfl hl.1 rfl (lv_room (Nat.le_of_ble_eq_true rfl)) dL_traced_43 ⟨Nat.le_of_ble_eq_true rfl, Nat.le_of_ble_eq_true rfl⟩)) (fun r16 c17 => ?_)
        obtain rfl := c17
        refine lv_icmp_gt (tgt := 102) hx hb dL_traced_46 (by decide) (fun c18 => ?_) (fun c18 => ?_)
        · exact absurd c18 (tl_vr hI hj2)
        · skip
          refine lv_aload_n hx hb dL_traced_49 rfl (lv_at hl 1 rfl) ?_
          refine lv_bipush (v := 104) hx hb dL_traced_50 (by decide) ?_
          refine lv_iload hx hb dL_traced_52 (lv_at hl 4 rfl) ?_
          refine lv_iconst (v := 0) hx hb dL_traced_54 (by decide) ?_
          refine vp_callSi (run_of (vx_runSW (g := F0 m 55 ls [.int 0, .int (nI j1), .int 104, .ref (ad 0 0)]) (As := [.ref (ad 0 0), .int 104, .int (nI j1), .int 0]) (rest := []) ⟨hx, hb, hml, hown, hta⟩ (c_L_isH l hR hW hj2 0) (vx_cwSW 4 hta (gWSW mw672 mw673 mw39 mw674) rfl rfl rfl (by decide +kernel) ⟨Nat.le_of_ble_eq_true rfl, Nat.le_of_ble_eq_true rfl⟩) (gPreB hK hP hD) rfl rfl hl.1 rfl (lv_room (Nat.le_of_ble_eq_true rfl)) dL_traced_55 ⟨Nat.le_of_ble_eq_true rfl, Nat.le_of_ble_eq_true rfl⟩)) (fun r19 c20 => ?_)
          obtain rfl := c20
          refine lv_iconst (v := 1) hx hb dL_traced_58 (by decide) ?_
          refine lv_icmp_ne (tgt := 71) hx hb dL_traced_59 (by decide) (fun c21 => ?_) (fun c21 => ?_)
          · skip
            refine lv_aload_n hx hb dL_traced_71 rfl (lv_at hl 1 rfl) ?_
            refine lv_iload hx hb dL_traced_72 (lv_at hl 4 rfl) ?_
            refine vp_callSi (run_of (vx_runSW (g := F0 m 74 ls [.int (nI j1), .ref (ad 0 0)]) (As := [.ref (ad 0 0), .int (nI j1)]) (rest := []) ⟨hx, hb, hml, hown, hta⟩ (c_L_rest l hR hW hj2) (vx_cwSW 2 hta (gWSW mw477 mw478 mw39 mw479) rfl rfl rfl (by decide +kernel) ⟨Nat.le_of_ble_eq_true rfl, Nat.le_of_ble_eq_true rfl⟩) (gPreB hK hP hD) rfl rfl hl.1 rfl (lv_room (Nat.le_of_ble_eq_true rfl)) dL_traced_74 ⟨Nat.le_of_ble_eq_true rfl, Nat.le_of_ble_eq_true rfl⟩)) (fun r22 c23 => ?_)
            obtain rfl := c23
            refine lv_if_ne (tgt := 91) hx hb dL_traced_77 (by decide) (fun c24 => ?_) (fun c24 => ?_)
            · skip
              refine lv_aload_n hx hb dL_traced_91 rfl (lv_at hl 1 rfl) ?_
              refine lv_iload hx hb dL_traced_92 (lv_at hl 4 rfl) ?_
              refine vp_callSl (run_of (vx_runSW (g := F0 m 94 ls [.int (nI j1), .ref (ad 0 0)]) (As := [.ref (ad 0 0), .int (nI j1)]) (rest := []) ⟨hx, hb, hml, hown, hta⟩ (c_L_costOf l hR hW hj2) (vx_cwSW 2 hta (gWSW mw491 mw492 mw39 mw493) rfl rfl rfl (by decide +kernel) ⟨Nat.le_of_ble_eq_true rfl, Nat.le_of_ble_eq_true rfl⟩) (gPreB hK hP hD) rfl rfl hl.1 rfl (lv_room (Nat.le_of_ble_eq_true rfl)) dL_traced_94 ⟨Nat.le_of_ble_eq_true rfl, Nat.le_of_ble_eq_true rfl⟩)) (fun r25 c26 => ?_)
              obtain rfl := c26
              refine lv_lconst (v := 0) hx hb dL_traced_97 (by decide) ?_
              refine W.lcmp hx hb dL_traced_98 ?_
              refine lv_if_ge (tgt := 104) hx hb dL_traced_99 (by decide) (fun c27 => ?_) (fun c27 => ?_)
              · skip
                refine lv_iconst (v := 0) hx hb dL_traced_104 (by decide) ?_
                refine lv_istore (lv' := [(5, .int 0), (2, .int ((fwd S j1) + (tch S j1))), (0, .ref (ad 0 0)), (1, .int (nI (sN S 3 0))), (3, .int 0), (4, .int (nI j1))]) hx hb dL_traced_105 hl (by decide) rfl (fun ls hl => ?_)
                refine loop_g (σ := Array Slot) (Wg := fun ls => W p l e _ s m _ below meth c _ _ _ _ _ (F0 m 107 ls [])) (sN S 2 0) (fun j28 ls => lv_has ls 6 [(0, .ref (ad 0 0)), (1, .int (nI (sN S 3 0))), (2, .int ((fwd S j1) + (tch S j1))), (3, .int 0), (4, .int (nI j1)), (5, .int (nI j28))]) (fun j28 hj29 ih30 ls hl => ?_) (fun ls hl => ?_) ls (lv_sub hl [2, 3, 1, 4, 5, 0] rfl)
                · skip
                  refine lv_iload hx hb dL_traced_107 (lv_at hl 5 rfl) ?_
                  refine lv_aload_n hx hb dL_traced_109 rfl (lv_at hl 0 rfl) ?_
                  obtain ⟨q31, e32⟩ := cell_0 hR (rfl : (0 : Nat) = 0)
                  refine gro_i (ci := 12) (As := []) (rest := [.int (nI j28)]) ⟨hx, hb, hml, hown, hta⟩ (c_X10_lots l hR ) (cwV 0 hta (gWV mw110 mw111 mw112 mw40 mw113) rfl rfl rfl (by decide +kernel) ⟨Nat.le_of_ble_eq_true rfl, Nat.le_of_ble_eq_true rfl⟩) hK hP hD rfl e32 rfl hl.1 rfl (Nat.le_of_ble_eq_true rfl) dL_traced_110 ⟨Nat.le_of_ble_eq_true rfl, Nat.le_of_ble_eq_true rfl⟩ (fun r33 c34 => ?_)
                  obtain rfl := c34
                  refine lv_icmp_ge (tgt := 217) hx hb dL_traced_113 (by decide) (fun c35 => ?_) (fun c35 => ?_)
                  · exact absurd c35 (nI_ge (a := j28) (b := sN S 2 0) hj29 (by have := hW.nL; omega))
                  · skip
                    refine lv_aload_n hx hb dL_traced_116 rfl (lv_at hl 0 rfl) ?_
                    refine lv_bipush (v := 105) hx hb dL_traced_117 (by decide) ?_
                    refine lv_iload hx hb dL_traced_119 (lv_at hl 4 rfl) ?_
                    refine lv_iload hx hb dL_traced_121 (lv_at hl 5 rfl) ?_
                    refine vp_callSi (run_of (vx_runSW (g := F0 m 123 ls [.int (nI j28), .int (nI j1), .int 105, .ref (ad 0 0)]) (As := [.ref (ad 0 0), .int 105, .int (nI j1), .int (nI j28)]) (rest := []) ⟨hx, hb, hml, hown, hta⟩ (c_L_isI l hR hW hj2 hj29) (vx_cwSW 4 hta (gWSW mw672 mw673 mw39 mw674) rfl rfl rfl (by decide +kernel) ⟨Nat.le_of_ble_eq_true rfl, Nat.le_of_ble_eq_true rfl⟩) (gPreB hK hP hD) rfl rfl hl.1 rfl (lv_room (Nat.le_of_ble_eq_true rfl)) dL_traced_123 ⟨Nat.le_of_ble_eq_true rfl, Nat.le_of_ble_eq_true rfl⟩)) (fun r36 c37 => ?_)
                    obtain rfl := c37
                    refine lv_iconst (v := 1) hx hb dL_traced_126 (by decide) ?_
                    refine lv_icmp_eq (tgt := 133) hx hb dL_traced_127 (by decide) (fun c38 => ?_) (fun c38 => ?_)
                    · skip
                      have b39 := bI_one c38
                      refine lv_iload hx hb dL_traced_133 (lv_at hl 4 rfl) ?_
                      refine lv_iload hx hb dL_traced_135 (lv_at hl 5 rfl) ?_
                      refine lv_icmp_ge (tgt := 209) hx hb dL_traced_137 (by decide) (fun c40 => ?_) (fun c40 => ?_)
                      · exact absurd c40 (tl_lt hI hj2 hj29 b39)
                      · skip
                        refine lv_aload_n hx hb dL_traced_140 rfl (lv_at hl 0 rfl) ?_
                        refine lv_bipush (v := 105) hx hb dL_traced_141 (by decide) ?_
                        refine lv_iload hx hb dL_traced_143 (lv_at hl 5 rfl) ?_
                        refine lv_iload hx hb dL_traced_145 (lv_at hl 4 rfl) ?_
                        refine vp_callSi (run_of (vx_runSW (g := F0 m 147 ls [.int (nI j1), .int (nI j28), .int 105, .ref (ad 0 0)]) (As := [.ref (ad 0 0), .int 105, .int (nI j28), .int (nI j1)]) (rest := []) ⟨hx, hb, hml, hown, hta⟩ (c_L_isI l hR hW hj29 hj2) (vx_cwSW 4 hta (gWSW mw672 mw673 mw39 mw674) rfl rfl rfl (by decide +kernel) ⟨Nat.le_of_ble_eq_true rfl, Nat.le_of_ble_eq_true rfl⟩) (gPreB hK hP hD) rfl rfl hl.1 rfl (lv_room (Nat.le_of_ble_eq_true rfl)) dL_traced_147 ⟨Nat.le_of_ble_eq_true rfl, Nat.le_of_ble_eq_true rfl⟩)) (fun r41 c42 => ?_)
                        obtain rfl := c42
                        refine lv_if_ne (tgt := 209) hx hb dL_traced_150 (by decide) (fun c43 => ?_) (fun c43 => ?_)
                        · exact absurd c43 (fun q => q (tl_no hI hj2 hj29 b39))
                        · skip
                          refine lv_aload_n hx hb dL_traced_153 rfl (lv_at hl 0 rfl) ?_
                          refine lv_bipush (v := 104) hx hb dL_traced_154 (by decide) ?_
                          refine lv_iload hx hb dL_traced_156 (lv_at hl 4 rfl) ?_
                          refine lv_iconst (v := 0) hx hb dL_traced_158 (by decide) ?_
                          refine vp_callSi (run_of (vx_runSW (g := F0 m 159 ls [.int 0, .int (nI j1), .int 104, .ref (ad 0 0)]) (As := [.ref (ad 0 0), .int 104, .int (nI j1), .int 0]) (rest := []) ⟨hx, hb, hml, hown, hta⟩ (c_L_isH l hR hW hj2 0) (vx_cwSW 4 hta (gWSW mw672 mw673 mw39 mw674) rfl rfl rfl (by decide +kernel) ⟨Nat.le_of_ble_eq_true rfl, Nat.le_of_ble_eq_true rfl⟩) (gPreB hK hP hD) rfl rfl hl.1 rfl (lv_room (Nat.le_of_ble_eq_true rfl)) dL_traced_159 ⟨Nat.le_of_ble_eq_true rfl, Nat.le_of_ble_eq_true rfl⟩)) (fun r44 c45 => ?_)
                          obtain rfl := c45
                          refine lv_iconst (v := 1) hx hb dL_traced_162 (by decide) ?_
                          refine lv_icmp_ne (tgt := 179) hx hb dL_traced_163 (by decide) (fun c46 => ?_) (fun c46 => ?_)
                          · skip
                            refine lv_aload_n hx hb dL_traced_179 rfl (lv_at hl 0 rfl) ?_
                            refine lv_iload hx hb dL_traced_180 (lv_at hl 4 rfl) ?_
                            refine vp_callSi (run_of (vx_runSW (g := F0 m 182 ls [.int (nI j1), .ref (ad 0 0)]) (As := [.ref (ad 0 0), .int (nI j1)]) (rest := []) ⟨hx, hb, hml, hown, hta⟩ (c_L_touched l hR hW hj2) (vx_cwSW 2 hta (gWSW mw747 mw748 mw39 mw749) rfl rfl rfl (by decide +kernel) ⟨Nat.le_of_ble_eq_true rfl, Nat.le_of_ble_eq_true rfl⟩) (gPreB hK hP hD) rfl rfl hl.1 rfl (lv_room (Nat.le_of_ble_eq_true rfl)) dL_traced_182 ⟨Nat.le_of_ble_eq_true rfl, Nat.le_of_ble_eq_true rfl⟩)) (fun r47 c48 => ?_)
                            obtain rfl := c48
                            refine lv_aload_n hx hb dL_traced_185 rfl (lv_at hl 0 rfl) ?_
                            refine lv_iload hx hb dL_traced_186 (lv_at hl 5 rfl) ?_
                            refine vp_callSi (run_of (vx_runSW (g := F0 m 188 ls [.int (nI j28), .ref (ad 0 0), .int (tch S j1)]) (As := [.ref (ad 0 0), .int (nI j28)]) (rest := [.int (tch S j1)]) ⟨hx, hb, hml, hown, hta⟩ (c_L_touched l hR hW hj29) (vx_cwSW 2 hta (gWSW mw747 mw748 mw39 mw749) rfl rfl rfl (by decide +kernel) ⟨Nat.le_of_ble_eq_true rfl, Nat.le_of_ble_eq_true rfl⟩) (gPreB hK hP hD) rfl rfl hl.1 rfl (lv_room (Nat.le_of_ble_eq_true rfl)) dL_traced_188 ⟨Nat.le_of_ble_eq_true rfl, Nat.le_of_ble_eq_true rfl⟩)) (fun r49 c50 => ?_)
                            obtain rfl := c50
                            refine lv_icmp_lt (tgt := 209) hx hb dL_traced_191 (by decide) (fun c51 => ?_) (fun c51 => ?_)
                            · exact absurd c51 (tl_tt hI hj2 hj29 b39)
                            · skip
                              refine lv_aload_n hx hb dL_traced_194 rfl (lv_at hl 0 rfl) ?_
                              refine lv_iload hx hb dL_traced_195 (lv_at hl 4 rfl) ?_
                              refine vp_callSi (run_of (vx_runSW (g := F0 m 197 ls [.int (nI j1), .ref (ad 0 0)]) (As := [.ref (ad 0 0), .int (nI j1)]) (rest := []) ⟨hx, hb, hml, hown, hta⟩ (c_L_partOf l hR hW hj2) (vx_cwSW 2 hta (gWSW mw764 mw765 mw39 mw766) rfl rfl rfl (by decide +kernel) ⟨Nat.le_of_ble_eq_true rfl, Nat.le_of_ble_eq_true rfl⟩) (gPreB hK hP hD) rfl rfl hl.1 rfl (lv_room (Nat.le_of_ble_eq_true rfl)) dL_traced_197 ⟨Nat.le_of_ble_eq_true rfl, Nat.le_of_ble_eq_true rfl⟩)) (fun r52 c53 => ?_)
                              obtain rfl := c53
                              refine lv_aload_n hx hb dL_traced_200 rfl (lv_at hl 0 rfl) ?_
                              refine lv_iload hx hb dL_traced_201 (lv_at hl 5 rfl) ?_
                              refine vp_callSi (run_of (vx_runSW (g := F0 m 203 ls [.int (nI j28), .ref (ad 0 0), .int (nI (sN S 6 j1))]) (As := [.ref (ad 0 0), .int (nI j28)]) (rest := [.int (nI (sN S 6 j1))]) ⟨hx, hb, hml, hown, hta⟩ (c_L_partOf l hR hW hj29) (vx_cwSW 2 hta (gWSW mw764 mw765 mw39 mw766) rfl rfl rfl (by decide +kernel) ⟨Nat.le_of_ble_eq_true rfl, Nat.le_of_ble_eq_true rfl⟩) (gPreB hK hP hD) rfl rfl hl.1 rfl (lv_room (Nat.le_of_ble_eq_true rfl)) dL_traced_203 ⟨Nat.le_of_ble_eq_true rfl, Nat.le_of_ble_eq_true rfl⟩)) (fun r54 c55 => ?_)
                              obtain rfl := c55
                              refine lv_icmp_lt (tgt := 211) hx hb dL_traced_206 (by decide) (fun c56 => ?_) (fun c56 => ?_)
                              · skip
                                refine lv_iinc (v := nI (j28 + 1)) (lv' := [(5, .int (nI (j28 + 1))), (0, .ref (ad 0 0)), (1, .int (nI (sN S 3 0))), (2, .int ((fwd S j1) + (tch S j1))), (3, .int 0), (4, .int (nI j1))]) hx hb dL_traced_211 hl (k := 5) rfl (nI_1 _) (by decide) rfl (fun ls hl => ?_)
                                refine lv_goto (tgt := 107) hx hb dL_traced_214 (by decide) ?_
                                refine ih30 _ ?_
                                exact lv_sub hl [1, 2, 3, 4, 5, 0] rfl
                              · exact absurd (tl_pp hI hj2 hj29 b39) c56
                          · exact absurd c46 c21
                    · skip
                      refine lv_goto (tgt := 211) hx hb dL_traced_130 (by decide) ?_
                      refine lv_iinc (v := nI (j28 + 1)) (lv' := [(5, .int (nI (j28 + 1))), (0, .ref (ad 0 0)), (1, .int (nI (sN S 3 0))), (2, .int ((fwd S j1) + (tch S j1))), (3, .int 0), (4, .int (nI j1))]) hx hb dL_traced_211 hl (k := 5) rfl (nI_1 _) (by decide) rfl (fun ls hl => ?_)
                      refine lv_goto (tgt := 107) hx hb dL_traced_214 (by decide) ?_
                      refine ih30 _ ?_
                      exact lv_sub hl [1, 2, 3, 4, 5, 0] rfl
                · skip
                  refine lv_iload hx hb dL_traced_107 (lv_at hl 5 rfl) ?_
                  refine lv_aload_n hx hb dL_traced_109 rfl (lv_at hl 0 rfl) ?_
                  obtain ⟨q57, e58⟩ := cell_0 hR (rfl : (0 : Nat) = 0)
                  refine gro_i (ci := 12) (As := []) (rest := [.int (nI (sN S 2 0))]) ⟨hx, hb, hml, hown, hta⟩ (c_X10_lots l hR ) (cwV 0 hta (gWV mw110 mw111 mw112 mw40 mw113) rfl rfl rfl (by decide +kernel) ⟨Nat.le_of_ble_eq_true rfl, Nat.le_of_ble_eq_true rfl⟩) hK hP hD rfl e58 rfl hl.1 rfl (Nat.le_of_ble_eq_true rfl) dL_traced_110 ⟨Nat.le_of_ble_eq_true rfl, Nat.le_of_ble_eq_true rfl⟩ (fun r59 c60 => ?_)
                  obtain rfl := c60
                  refine lv_icmp_ge (tgt := 217) hx hb dL_traced_113 (by decide) (fun c61 => ?_) (fun c61 => ?_)
                  · skip
                    refine lv_iinc (v := nI (j1 + 1)) (lv' := [(4, .int (nI (j1 + 1))), (0, .ref (ad 0 0)), (1, .int (nI (sN S 3 0))), (2, .int ((fwd S j1) + (tch S j1))), (3, .int 0), (5, .int (nI (sN S 2 0)))]) hx hb dL_traced_217 hl (k := 4) rfl (nI_1 _) (by decide) rfl (fun ls hl => ?_)
                    refine lv_goto (tgt := 7) hx hb dL_traced_220 (by decide) ?_
                    refine ih3 _ ?_
                    have a8 : fwd S ((j1 + 1)) = (fwd S j1) + (tch S j1) := rfl
                    rw [a8]
                    exact lv_sub hl [1, 2, 3, 4, 0] rfl
                  · exact absurd (nI_le (a := sN S 2 0) (b := sN S 2 0) (Nat.le_refl _) (by have := hW.nL; omega)) c61
              · exact absurd (tl_c0 hI hj2) c27
            · skip
              refine lv_aload_n hx hb dL_traced_80 rfl (lv_at hl 1 rfl) ?_
              refine lv_iload hx hb dL_traced_81 (lv_at hl 4 rfl) ?_
              refine vp_callSl (run_of (vx_runSW (g := F0 m 83 ls [.int (nI j1), .ref (ad 0 0)]) (As := [.ref (ad 0 0), .int (nI j1)]) (rest := []) ⟨hx, hb, hml, hown, hta⟩ (c_L_costOf l hR hW hj2) (vx_cwSW 2 hta (gWSW mw491 mw492 mw39 mw493) rfl rfl rfl (by decide +kernel) ⟨Nat.le_of_ble_eq_true rfl, Nat.le_of_ble_eq_true rfl⟩) (gPreB hK hP hD) rfl rfl hl.1 rfl (lv_room (Nat.le_of_ble_eq_true rfl)) dL_traced_83 ⟨Nat.le_of_ble_eq_true rfl, Nat.le_of_ble_eq_true rfl⟩)) (fun r62 c63 => ?_)
              obtain rfl := c63
              refine lv_lconst (v := 0) hx hb dL_traced_86 (by decide) ?_
              refine W.lcmp hx hb dL_traced_87 ?_
              refine lv_if_ne (tgt := 102) hx hb dL_traced_88 (by decide) (fun c64 => ?_) (fun c64 => ?_)
              · exact absurd c64 (fun q => q (tl_rc hI hj2 c24))
              · skip
                refine lv_aload_n hx hb dL_traced_91 rfl (lv_at hl 1 rfl) ?_
                refine lv_iload hx hb dL_traced_92 (lv_at hl 4 rfl) ?_
                refine vp_callSl (run_of (vx_runSW (g := F0 m 94 ls [.int (nI j1), .ref (ad 0 0)]) (As := [.ref (ad 0 0), .int (nI j1)]) (rest := []) ⟨hx, hb, hml, hown, hta⟩ (c_L_costOf l hR hW hj2) (vx_cwSW 2 hta (gWSW mw491 mw492 mw39 mw493) rfl rfl rfl (by decide +kernel) ⟨Nat.le_of_ble_eq_true rfl, Nat.le_of_ble_eq_true rfl⟩) (gPreB hK hP hD) rfl rfl hl.1 rfl (lv_room (Nat.le_of_ble_eq_true rfl)) dL_traced_94 ⟨Nat.le_of_ble_eq_true rfl, Nat.le_of_ble_eq_true rfl⟩)) (fun r65 c66 => ?_)
                obtain rfl := c66
                refine lv_lconst (v := 0) hx hb dL_traced_97 (by decide) ?_
                refine W.lcmp hx hb dL_traced_98 ?_
                refine lv_if_ge (tgt := 104) hx hb dL_traced_99 (by decide) (fun c67 => ?_) (fun c67 => ?_)
                · skip
                  refine lv_iconst (v := 0) hx hb dL_traced_104 (by decide) ?_
                  refine lv_istore (lv' := [(5, .int 0), (2, .int ((fwd S j1) + (tch S j1))), (0, .ref (ad 0 0)), (1, .int (nI (sN S 3 0))), (3, .int 0), (4, .int (nI j1))]) hx hb dL_traced_105 hl (by decide) rfl (fun ls hl => ?_)
                  refine loop_g (σ := Array Slot) (Wg := fun ls => W p l e _ s m _ below meth c _ _ _ _ _ (F0 m 107 ls [])) (sN S 2 0) (fun j68 ls => lv_has ls 6 [(0, .ref (ad 0 0)), (1, .int (nI (sN S 3 0))), (2, .int ((fwd S j1) + (tch S j1))), (3, .int 0), (4, .int (nI j1)), (5, .int (nI j68))]) (fun j68 hj69 ih70 ls hl => ?_) (fun ls hl => ?_) ls (lv_sub hl [2, 3, 1, 4, 5, 0] rfl)
                  · skip
                    refine lv_iload hx hb dL_traced_107 (lv_at hl 5 rfl) ?_
                    refine lv_aload_n hx hb dL_traced_109 rfl (lv_at hl 0 rfl) ?_
                    obtain ⟨q71, e72⟩ := cell_0 hR (rfl : (0 : Nat) = 0)
                    refine gro_i (ci := 12) (As := []) (rest := [.int (nI j68)]) ⟨hx, hb, hml, hown, hta⟩ (c_X10_lots l hR ) (cwV 0 hta (gWV mw110 mw111 mw112 mw40 mw113) rfl rfl rfl (by decide +kernel) ⟨Nat.le_of_ble_eq_true rfl, Nat.le_of_ble_eq_true rfl⟩) hK hP hD rfl e72 rfl hl.1 rfl (Nat.le_of_ble_eq_true rfl) dL_traced_110 ⟨Nat.le_of_ble_eq_true rfl, Nat.le_of_ble_eq_true rfl⟩ (fun r73 c74 => ?_)
                    obtain rfl := c74
                    refine lv_icmp_ge (tgt := 217) hx hb dL_traced_113 (by decide) (fun c75 => ?_) (fun c75 => ?_)
                    · exact absurd c75 (nI_ge (a := j68) (b := sN S 2 0) hj69 (by have := hW.nL; omega))
                    · skip
                      refine lv_aload_n hx hb dL_traced_116 rfl (lv_at hl 0 rfl) ?_
                      refine lv_bipush (v := 105) hx hb dL_traced_117 (by decide) ?_
                      refine lv_iload hx hb dL_traced_119 (lv_at hl 4 rfl) ?_
                      refine lv_iload hx hb dL_traced_121 (lv_at hl 5 rfl) ?_
                      refine vp_callSi (run_of (vx_runSW (g := F0 m 123 ls [.int (nI j68), .int (nI j1), .int 105, .ref (ad 0 0)]) (As := [.ref (ad 0 0), .int 105, .int (nI j1), .int (nI j68)]) (rest := []) ⟨hx, hb, hml, hown, hta⟩ (c_L_isI l hR hW hj2 hj69) (vx_cwSW 4 hta (gWSW mw672 mw673 mw39 mw674) rfl rfl rfl (by decide +kernel) ⟨Nat.le_of_ble_eq_true rfl, Nat.le_of_ble_eq_true rfl⟩) (gPreB hK hP hD) rfl rfl hl.1 rfl (lv_room (Nat.le_of_ble_eq_true rfl)) dL_traced_123 ⟨Nat.le_of_ble_eq_true rfl, Nat.le_of_ble_eq_true rfl⟩)) (fun r76 c77 => ?_)
                      obtain rfl := c77
                      refine lv_iconst (v := 1) hx hb dL_traced_126 (by decide) ?_
                      refine lv_icmp_eq (tgt := 133) hx hb dL_traced_127 (by decide) (fun c78 => ?_) (fun c78 => ?_)
                      · skip
                        have b79 := bI_one c78
                        refine lv_iload hx hb dL_traced_133 (lv_at hl 4 rfl) ?_
                        refine lv_iload hx hb dL_traced_135 (lv_at hl 5 rfl) ?_
                        refine lv_icmp_ge (tgt := 209) hx hb dL_traced_137 (by decide) (fun c80 => ?_) (fun c80 => ?_)
                        · exact absurd c80 (tl_lt hI hj2 hj69 b79)
                        · skip
                          refine lv_aload_n hx hb dL_traced_140 rfl (lv_at hl 0 rfl) ?_
                          refine lv_bipush (v := 105) hx hb dL_traced_141 (by decide) ?_
                          refine lv_iload hx hb dL_traced_143 (lv_at hl 5 rfl) ?_
                          refine lv_iload hx hb dL_traced_145 (lv_at hl 4 rfl) ?_
                          refine vp_callSi (run_of (vx_runSW (g := F0 m 147 ls [.int (nI j1), .int (nI j68), .int 105, .ref (ad 0 0)]) (As := [.ref (ad 0 0), .int 105, .int (nI j68), .int (nI j1)]) (rest := []) ⟨hx, hb, hml, hown, hta⟩ (c_L_isI l hR hW hj69 hj2) (vx_cwSW 4 hta (gWSW mw672 mw673 mw39 mw674) rfl rfl rfl (by decide +kernel) ⟨Nat.le_of_ble_eq_true rfl, Nat.le_of_ble_eq_true rfl⟩) (gPreB hK hP hD) rfl rfl hl.1 rfl (lv_room (Nat.le_of_ble_eq_true rfl)) dL_traced_147 ⟨Nat.le_of_ble_eq_true rfl, Nat.le_of_ble_eq_true rfl⟩)) (fun r81 c82 => ?_)
                          obtain rfl := c82
                          refine lv_if_ne (tgt := 209) hx hb dL_traced_150 (by decide) (fun c83 => ?_) (fun c83 => ?_)
                          · exact absurd c83 (fun q => q (tl_no hI hj2 hj69 b79))
                          · skip
                            refine lv_aload_n hx hb dL_traced_153 rfl (lv_at hl 0 rfl) ?_
                            refine lv_bipush (v := 104) hx hb dL_traced_154 (by decide) ?_
                            refine lv_iload hx hb dL_traced_156 (lv_at hl 4 rfl) ?_
                            refine lv_iconst (v := 0) hx hb dL_traced_158 (by decide) ?_
                            refine vp_callSi (run_of (vx_runSW (g := F0 m 159 ls [.int 0, .int (nI j1), .int 104, .ref (ad 0 0)]) (As := [.ref (ad 0 0), .int 104, .int (nI j1), .int 0]) (rest := []) ⟨hx, hb, hml, hown, hta⟩ (c_L_isH l hR hW hj2 0) (vx_cwSW 4 hta (gWSW mw672 mw673 mw39 mw674) rfl rfl rfl (by decide +kernel) ⟨Nat.le_of_ble_eq_true rfl, Nat.le_of_ble_eq_true rfl⟩) (gPreB hK hP hD) rfl rfl hl.1 rfl (lv_room (Nat.le_of_ble_eq_true rfl)) dL_traced_159 ⟨Nat.le_of_ble_eq_true rfl, Nat.le_of_ble_eq_true rfl⟩)) (fun r84 c85 => ?_)
                            obtain rfl := c85
                            refine lv_iconst (v := 1) hx hb dL_traced_162 (by decide) ?_
                            refine lv_icmp_ne (tgt := 179) hx hb dL_traced_163 (by decide) (fun c86 => ?_) (fun c86 => ?_)
                            · skip
                              refine lv_aload_n hx hb dL_traced_179 rfl (lv_at hl 0 rfl) ?_
                              refine lv_iload hx hb dL_traced_180 (lv_at hl 4 rfl) ?_
                              refine vp_callSi (run_of (vx_runSW (g := F0 m 182 ls [.int (nI j1), .ref (ad 0 0)]) (As := [.ref (ad 0 0), .int (nI j1)]) (rest := []) ⟨hx, hb, hml, hown, hta⟩ (c_L_touched l hR hW hj2) (vx_cwSW 2 hta (gWSW mw747 mw748 mw39 mw749) rfl rfl rfl (by decide +kernel) ⟨Nat.le_of_ble_eq_true rfl, Nat.le_of_ble_eq_true rfl⟩) (gPreB hK hP hD) rfl rfl hl.1 rfl (lv_room (Nat.le_of_ble_eq_true rfl)) dL_traced_182 ⟨Nat.le_of_ble_eq_true rfl, Nat.le_of_ble_eq_true rfl⟩)) (fun r87 c88 => ?_)
                              obtain rfl := c88
                              refine lv_aload_n hx hb dL_traced_185 rfl (lv_at hl 0 rfl) ?_
                              refine lv_iload hx hb dL_traced_186 (lv_at hl 5 rfl) ?_
                              refine vp_callSi (run_of (vx_runSW (g := F0 m 188 ls [.int (nI j68), .ref (ad 0 0), .int (tch S j1)]) (As := [.ref (ad 0 0), .int (nI j68)]) (rest := [.int (tch S j1)]) ⟨hx, hb, hml, hown, hta⟩ (c_L_touched l hR hW hj69) (vx_cwSW 2 hta (gWSW mw747 mw748 mw39 mw749) rfl rfl rfl (by decide +kernel) ⟨Nat.le_of_ble_eq_true rfl, Nat.le_of_ble_eq_true rfl⟩) (gPreB hK hP hD) rfl rfl hl.1 rfl (lv_room (Nat.le_of_ble_eq_true rfl)) dL_traced_188 ⟨Nat.le_of_ble_eq_true rfl, Nat.le_of_ble_eq_true rfl⟩)) (fun r89 c90 => ?_)
                              obtain rfl := c90
                              refine lv_icmp_lt (tgt := 209) hx hb dL_traced_191 (by decide) (fun c91 => ?_) (fun c91 => ?_)
                              · exact absurd c91 (tl_tt hI hj2 hj69 b79)
                              · skip
                                refine lv_aload_n hx hb dL_traced_194 rfl (lv_at hl 0 rfl) ?_
                                refine lv_iload hx hb dL_traced_195 (lv_at hl 4 rfl) ?_
                                refine vp_callSi (run_of (vx_runSW (g := F0 m 197 ls [.int (nI j1), .ref (ad 0 0)]) (As := [.ref (ad 0 0), .int (nI j1)]) (rest := []) ⟨hx, hb, hml, hown, hta⟩ (c_L_partOf l hR hW hj2) (vx_cwSW 2 hta (gWSW mw764 mw765 mw39 mw766) rfl rfl rfl (by decide +kernel) ⟨Nat.le_of_ble_eq_true rfl, Nat.le_of_ble_eq_true rfl⟩) (gPreB hK hP hD) rfl rfl hl.1 rfl (lv_room (Nat.le_of_ble_eq_true rfl)) dL_traced_197 ⟨Nat.le_of_ble_eq_true rfl, Nat.le_of_ble_eq_true rfl⟩)) (fun r92 c93 => ?_)
                                obtain rfl := c93
                                refine lv_aload_n hx hb dL_traced_200 rfl (lv_at hl 0 rfl) ?_
                                refine lv_iload hx hb dL_traced_201 (lv_at hl 5 rfl) ?_
                                refine vp_callSi (run_of (vx_runSW (g := F0 m 203 ls [.int (nI j68), .ref (ad 0 0), .int (nI (sN S 6 j1))]) (As := [.ref (ad 0 0), .int (nI j68)]) (rest := [.int (nI (sN S 6 j1))]) ⟨hx, hb, hml, hown, hta⟩ (c_L_partOf l hR hW hj69) (vx_cwSW 2 hta (gWSW mw764 mw765 mw39 mw766) rfl rfl rfl (by decide +kernel) ⟨Nat.le_of_ble_eq_true rfl, Nat.le_of_ble_eq_true rfl⟩) (gPreB hK hP hD) rfl rfl hl.1 rfl (lv_room (Nat.le_of_ble_eq_true rfl)) dL_traced_203 ⟨Nat.le_of_ble_eq_true rfl, Nat.le_of_ble_eq_true rfl⟩)) (fun r94 c95 => ?_)
                                obtain rfl := c95
                                refine lv_icmp_lt (tgt := 211) hx hb dL_traced_206 (by decide) (fun c96 => ?_) (fun c96 => ?_)
                                · skip
                                  refine lv_iinc (v := nI (j68 + 1)) (lv' := [(5, .int (nI (j68 + 1))), (0, .ref (ad 0 0)), (1, .int (nI (sN S 3 0))), (2, .int ((fwd S j1) + (tch S j1))), (3, .int 0), (4, .int (nI j1))]) hx hb dL_traced_211 hl (k := 5) rfl (nI_1 _) (by decide) rfl (fun ls hl => ?_)
                                  refine lv_goto (tgt := 107) hx hb dL_traced_214 (by decide) ?_
                                  refine ih70 _ ?_
                                  exact lv_sub hl [1, 2, 3, 4, 5, 0] rfl
                                · exact absurd (tl_pp hI hj2 hj69 b79) c96
                            · exact absurd c86 c21
                      · skip
                        refine lv_goto (tgt := 211) hx hb dL_traced_130 (by decide) ?_
                        refine lv_iinc (v := nI (j68 + 1)) (lv' := [(5, .int (nI (j68 + 1))), (0, .ref (ad 0 0)), (1, .int (nI (sN S 3 0))), (2, .int ((fwd S j1) + (tch S j1))), (3, .int 0), (4, .int (nI j1))]) hx hb dL_traced_211 hl (k := 5) rfl (nI_1 _) (by decide) rfl (fun ls hl => ?_)
                        refine lv_goto (tgt := 107) hx hb dL_traced_214 (by decide) ?_
                        refine ih70 _ ?_
                        exact lv_sub hl [1, 2, 3, 4, 5, 0] rfl
                  · skip
                    refine lv_iload hx hb dL_traced_107 (lv_at hl 5 rfl) ?_
                    refine lv_aload_n hx hb dL_traced_109 rfl (lv_at hl 0 rfl) ?_
                    obtain ⟨q97, e98⟩ := cell_0 hR (rfl : (0 : Nat) = 0)
                    refine gro_i (ci := 12) (As := []) (rest := [.int (nI (sN S 2 0))]) ⟨hx, hb, hml, hown, hta⟩ (c_X10_lots l hR ) (cwV 0 hta (gWV mw110 mw111 mw112 mw40 mw113) rfl rfl rfl (by decide +kernel) ⟨Nat.le_of_ble_eq_true rfl, Nat.le_of_ble_eq_true rfl⟩) hK hP hD rfl e98 rfl hl.1 rfl (Nat.le_of_ble_eq_true rfl) dL_traced_110 ⟨Nat.le_of_ble_eq_true rfl, Nat.le_of_ble_eq_true rfl⟩ (fun r99 c100 => ?_)
                    obtain rfl := c100
                    refine lv_icmp_ge (tgt := 217) hx hb dL_traced_113 (by decide) (fun c101 => ?_) (fun c101 => ?_)
                    · skip
                      refine lv_iinc (v := nI (j1 + 1)) (lv' := [(4, .int (nI (j1 + 1))), (0, .ref (ad 0 0)), (1, .int (nI (sN S 3 0))), (2, .int ((fwd S j1) + (tch S j1))), (3, .int 0), (5, .int (nI (sN S 2 0)))]) hx hb dL_traced_217 hl (k := 4) rfl (nI_1 _) (by decide) rfl (fun ls hl => ?_)
                      refine lv_goto (tgt := 7) hx hb dL_traced_220 (by decide) ?_
                      refine ih3 _ ?_
                      have a8 : fwd S ((j1 + 1)) = (fwd S j1) + (tch S j1) := rfl
                      rw [a8]
                      exact lv_sub hl [1, 2, 3, 4, 0] rfl
                    · exact absurd (nI_le (a := sN S 2 0) (b := sN S 2 0) (Nat.le_refl _) (by have := hW.nL; omega)) c101
                · exact absurd (tl_c0 hI hj2) c67
          · skip
            have b102 := bI_one c21
            refine lv_aload_n hx hb dL_traced_62 rfl (lv_at hl 1 rfl) ?_
            refine lv_iload hx hb dL_traced_63 (lv_at hl 4 rfl) ?_
            refine vp_callSi (run_of (vx_runSW (g := F0 m 65 ls [.int (nI j1), .ref (ad 0 0)]) (As := [.ref (ad 0 0), .int (nI j1)]) (rest := []) ⟨hx, hb, hml, hown, hta⟩ (c_L_reserved l hR hW hj2) (vx_cwSW 2 hta (gWSW mw484 mw485 mw39 mw486) rfl rfl rfl (by decide +kernel) ⟨Nat.le_of_ble_eq_true rfl, Nat.le_of_ble_eq_true rfl⟩) (gPreB hK hP hD) rfl rfl hl.1 rfl (lv_room (Nat.le_of_ble_eq_true rfl)) dL_traced_65 ⟨Nat.le_of_ble_eq_true rfl, Nat.le_of_ble_eq_true rfl⟩)) (fun r103 c104 => ?_)
            obtain rfl := c104
            refine lv_if_gt (tgt := 102) hx hb dL_traced_68 (by decide) (fun c105 => ?_) (fun c105 => ?_)
            · exact absurd c105 (tl_hv hI hj2 b102)
            · skip
              refine lv_aload_n hx hb dL_traced_71 rfl (lv_at hl 1 rfl) ?_
              refine lv_iload hx hb dL_traced_72 (lv_at hl 4 rfl) ?_
              refine vp_callSi (run_of (vx_runSW (g := F0 m 74 ls [.int (nI j1), .ref (ad 0 0)]) (As := [.ref (ad 0 0), .int (nI j1)]) (rest := []) ⟨hx, hb, hml, hown, hta⟩ (c_L_rest l hR hW hj2) (vx_cwSW 2 hta (gWSW mw477 mw478 mw39 mw479) rfl rfl rfl (by decide +kernel) ⟨Nat.le_of_ble_eq_true rfl, Nat.le_of_ble_eq_true rfl⟩) (gPreB hK hP hD) rfl rfl hl.1 rfl (lv_room (Nat.le_of_ble_eq_true rfl)) dL_traced_74 ⟨Nat.le_of_ble_eq_true rfl, Nat.le_of_ble_eq_true rfl⟩)) (fun r106 c107 => ?_)
              obtain rfl := c107
              refine lv_if_ne (tgt := 91) hx hb dL_traced_77 (by decide) (fun c108 => ?_) (fun c108 => ?_)
              · skip
                refine lv_aload_n hx hb dL_traced_91 rfl (lv_at hl 1 rfl) ?_
                refine lv_iload hx hb dL_traced_92 (lv_at hl 4 rfl) ?_
                refine vp_callSl (run_of (vx_runSW (g := F0 m 94 ls [.int (nI j1), .ref (ad 0 0)]) (As := [.ref (ad 0 0), .int (nI j1)]) (rest := []) ⟨hx, hb, hml, hown, hta⟩ (c_L_costOf l hR hW hj2) (vx_cwSW 2 hta (gWSW mw491 mw492 mw39 mw493) rfl rfl rfl (by decide +kernel) ⟨Nat.le_of_ble_eq_true rfl, Nat.le_of_ble_eq_true rfl⟩) (gPreB hK hP hD) rfl rfl hl.1 rfl (lv_room (Nat.le_of_ble_eq_true rfl)) dL_traced_94 ⟨Nat.le_of_ble_eq_true rfl, Nat.le_of_ble_eq_true rfl⟩)) (fun r109 c110 => ?_)
                obtain rfl := c110
                refine lv_lconst (v := 0) hx hb dL_traced_97 (by decide) ?_
                refine W.lcmp hx hb dL_traced_98 ?_
                refine lv_if_ge (tgt := 104) hx hb dL_traced_99 (by decide) (fun c111 => ?_) (fun c111 => ?_)
                · skip
                  refine lv_iconst (v := 0) hx hb dL_traced_104 (by decide) ?_
                  refine lv_istore (lv' := [(5, .int 0), (2, .int ((fwd S j1) + (tch S j1))), (0, .ref (ad 0 0)), (1, .int (nI (sN S 3 0))), (3, .int 0), (4, .int (nI j1))]) hx hb dL_traced_105 hl (by decide) rfl (fun ls hl => ?_)
                  refine loop_g (σ := Array Slot) (Wg := fun ls => W p l e _ s m _ below meth c _ _ _ _ _ (F0 m 107 ls [])) (sN S 2 0) (fun j112 ls => lv_has ls 6 [(0, .ref (ad 0 0)), (1, .int (nI (sN S 3 0))), (2, .int ((fwd S j1) + (tch S j1))), (3, .int 0), (4, .int (nI j1)), (5, .int (nI j112))]) (fun j112 hj113 ih114 ls hl => ?_) (fun ls hl => ?_) ls (lv_sub hl [2, 3, 1, 4, 5, 0] rfl)
                  · skip
                    refine lv_iload hx hb dL_traced_107 (lv_at hl 5 rfl) ?_
                    refine lv_aload_n hx hb dL_traced_109 rfl (lv_at hl 0 rfl) ?_
                    obtain ⟨q115, e116⟩ := cell_0 hR (rfl : (0 : Nat) = 0)
                    refine gro_i (ci := 12) (As := []) (rest := [.int (nI j112)]) ⟨hx, hb, hml, hown, hta⟩ (c_X10_lots l hR ) (cwV 0 hta (gWV mw110 mw111 mw112 mw40 mw113) rfl rfl rfl (by decide +kernel) ⟨Nat.le_of_ble_eq_true rfl, Nat.le_of_ble_eq_true rfl⟩) hK hP hD rfl e116 rfl hl.1 rfl (Nat.le_of_ble_eq_true rfl) dL_traced_110 ⟨Nat.le_of_ble_eq_true rfl, Nat.le_of_ble_eq_true rfl⟩ (fun r117 c118 => ?_)
                    obtain rfl := c118
                    refine lv_icmp_ge (tgt := 217) hx hb dL_traced_113 (by decide) (fun c119 => ?_) (fun c119 => ?_)
                    · exact absurd c119 (nI_ge (a := j112) (b := sN S 2 0) hj113 (by have := hW.nL; omega))
                    · skip
                      refine lv_aload_n hx hb dL_traced_116 rfl (lv_at hl 0 rfl) ?_
                      refine lv_bipush (v := 105) hx hb dL_traced_117 (by decide) ?_
                      refine lv_iload hx hb dL_traced_119 (lv_at hl 4 rfl) ?_
                      refine lv_iload hx hb dL_traced_121 (lv_at hl 5 rfl) ?_
                      refine vp_callSi (run_of (vx_runSW (g := F0 m 123 ls [.int (nI j112), .int (nI j1), .int 105, .ref (ad 0 0)]) (As := [.ref (ad 0 0), .int 105, .int (nI j1), .int (nI j112)]) (rest := []) ⟨hx, hb, hml, hown, hta⟩ (c_L_isI l hR hW hj2 hj113) (vx_cwSW 4 hta (gWSW mw672 mw673 mw39 mw674) rfl rfl rfl (by decide +kernel) ⟨Nat.le_of_ble_eq_true rfl, Nat.le_of_ble_eq_true rfl⟩) (gPreB hK hP hD) rfl rfl hl.1 rfl (lv_room (Nat.le_of_ble_eq_true rfl)) dL_traced_123 ⟨Nat.le_of_ble_eq_true rfl, Nat.le_of_ble_eq_true rfl⟩)) (fun r120 c121 => ?_)
                      obtain rfl := c121
                      refine lv_iconst (v := 1) hx hb dL_traced_126 (by decide) ?_
                      refine lv_icmp_eq (tgt := 133) hx hb dL_traced_127 (by decide) (fun c122 => ?_) (fun c122 => ?_)
                      · skip
                        have b123 := bI_one c122
                        refine lv_iload hx hb dL_traced_133 (lv_at hl 4 rfl) ?_
                        refine lv_iload hx hb dL_traced_135 (lv_at hl 5 rfl) ?_
                        refine lv_icmp_ge (tgt := 209) hx hb dL_traced_137 (by decide) (fun c124 => ?_) (fun c124 => ?_)
                        · exact absurd c124 (tl_lt hI hj2 hj113 b123)
                        · skip
                          refine lv_aload_n hx hb dL_traced_140 rfl (lv_at hl 0 rfl) ?_
                          refine lv_bipush (v := 105) hx hb dL_traced_141 (by decide) ?_
                          refine lv_iload hx hb dL_traced_143 (lv_at hl 5 rfl) ?_
                          refine lv_iload hx hb dL_traced_145 (lv_at hl 4 rfl) ?_
                          refine vp_callSi (run_of (vx_runSW (g := F0 m 147 ls [.int (nI j1), .int (nI j112), .int 105, .ref (ad 0 0)]) (As := [.ref (ad 0 0), .int 105, .int (nI j112), .int (nI j1)]) (rest := []) ⟨hx, hb, hml, hown, hta⟩ (c_L_isI l hR hW hj113 hj2) (vx_cwSW 4 hta (gWSW mw672 mw673 mw39 mw674) rfl rfl rfl (by decide +kernel) ⟨Nat.le_of_ble_eq_true rfl, Nat.le_of_ble_eq_true rfl⟩) (gPreB hK hP hD) rfl rfl hl.1 rfl (lv_room (Nat.le_of_ble_eq_true rfl)) dL_traced_147 ⟨Nat.le_of_ble_eq_true rfl, Nat.le_of_ble_eq_true rfl⟩)) (fun r125 c126 => ?_)
                          obtain rfl := c126
                          refine lv_if_ne (tgt := 209) hx hb dL_traced_150 (by decide) (fun c127 => ?_) (fun c127 => ?_)
                          · exact absurd c127 (fun q => q (tl_no hI hj2 hj113 b123))
                          · skip
                            refine lv_aload_n hx hb dL_traced_153 rfl (lv_at hl 0 rfl) ?_
                            refine lv_bipush (v := 104) hx hb dL_traced_154 (by decide) ?_
                            refine lv_iload hx hb dL_traced_156 (lv_at hl 4 rfl) ?_
                            refine lv_iconst (v := 0) hx hb dL_traced_158 (by decide) ?_
                            refine vp_callSi (run_of (vx_runSW (g := F0 m 159 ls [.int 0, .int (nI j1), .int 104, .ref (ad 0 0)]) (As := [.ref (ad 0 0), .int 104, .int (nI j1), .int 0]) (rest := []) ⟨hx, hb, hml, hown, hta⟩ (c_L_isH l hR hW hj2 0) (vx_cwSW 4 hta (gWSW mw672 mw673 mw39 mw674) rfl rfl rfl (by decide +kernel) ⟨Nat.le_of_ble_eq_true rfl, Nat.le_of_ble_eq_true rfl⟩) (gPreB hK hP hD) rfl rfl hl.1 rfl (lv_room (Nat.le_of_ble_eq_true rfl)) dL_traced_159 ⟨Nat.le_of_ble_eq_true rfl, Nat.le_of_ble_eq_true rfl⟩)) (fun r128 c129 => ?_)
                            obtain rfl := c129
                            refine lv_iconst (v := 1) hx hb dL_traced_162 (by decide) ?_
                            refine lv_icmp_ne (tgt := 179) hx hb dL_traced_163 (by decide) (fun c130 => ?_) (fun c130 => ?_)
                            · exact absurd c130 (fun q => q c21)
                            · skip
                              have b131 := bI_one c21
                              refine lv_aload_n hx hb dL_traced_166 rfl (lv_at hl 0 rfl) ?_
                              refine lv_bipush (v := 104) hx hb dL_traced_167 (by decide) ?_
                              refine lv_iload hx hb dL_traced_169 (lv_at hl 5 rfl) ?_
                              refine lv_iconst (v := 0) hx hb dL_traced_171 (by decide) ?_
                              refine vp_callSi (run_of (vx_runSW (g := F0 m 172 ls [.int 0, .int (nI j112), .int 104, .ref (ad 0 0)]) (As := [.ref (ad 0 0), .int 104, .int (nI j112), .int 0]) (rest := []) ⟨hx, hb, hml, hown, hta⟩ (c_L_isH l hR hW hj113 0) (vx_cwSW 4 hta (gWSW mw672 mw673 mw39 mw674) rfl rfl rfl (by decide +kernel) ⟨Nat.le_of_ble_eq_true rfl, Nat.le_of_ble_eq_true rfl⟩) (gPreB hK hP hD) rfl rfl hl.1 rfl (lv_room (Nat.le_of_ble_eq_true rfl)) dL_traced_172 ⟨Nat.le_of_ble_eq_true rfl, Nat.le_of_ble_eq_true rfl⟩)) (fun r132 c133 => ?_)
                              obtain rfl := c133
                              refine lv_iconst (v := 1) hx hb dL_traced_175 (by decide) ?_
                              refine lv_icmp_ne (tgt := 209) hx hb dL_traced_176 (by decide) (fun c134 => ?_) (fun c134 => ?_)
                              · exact absurd c134 (fun q => q (tl_bb hI hj2 hj113 b123 b131))
                              · skip
                                refine lv_aload_n hx hb dL_traced_179 rfl (lv_at hl 0 rfl) ?_
                                refine lv_iload hx hb dL_traced_180 (lv_at hl 4 rfl) ?_
                                refine vp_callSi (run_of (vx_runSW (g := F0 m 182 ls [.int (nI j1), .ref (ad 0 0)]) (As := [.ref (ad 0 0), .int (nI j1)]) (rest := []) ⟨hx, hb, hml, hown, hta⟩ (c_L_touched l hR hW hj2) (vx_cwSW 2 hta (gWSW mw747 mw748 mw39 mw749) rfl rfl rfl (by decide +kernel) ⟨Nat.le_of_ble_eq_true rfl, Nat.le_of_ble_eq_true rfl⟩) (gPreB hK hP hD) rfl rfl hl.1 rfl (lv_room (Nat.le_of_ble_eq_true rfl)) dL_traced_182 ⟨Nat.le_of_ble_eq_true rfl, Nat.le_of_ble_eq_true rfl⟩)) (fun r135 c136 => ?_)
                                obtain rfl := c136
                                refine lv_aload_n hx hb dL_traced_185 rfl (lv_at hl 0 rfl) ?_
                                refine lv_iload hx hb dL_traced_186 (lv_at hl 5 rfl) ?_
                                refine vp_callSi (run_of (vx_runSW (g := F0 m 188 ls [.int (nI j112), .ref (ad 0 0), .int (tch S j1)]) (As := [.ref (ad 0 0), .int (nI j112)]) (rest := [.int (tch S j1)]) ⟨hx, hb, hml, hown, hta⟩ (c_L_touched l hR hW hj113) (vx_cwSW 2 hta (gWSW mw747 mw748 mw39 mw749) rfl rfl rfl (by decide +kernel) ⟨Nat.le_of_ble_eq_true rfl, Nat.le_of_ble_eq_true rfl⟩) (gPreB hK hP hD) rfl rfl hl.1 rfl (lv_room (Nat.le_of_ble_eq_true rfl)) dL_traced_188 ⟨Nat.le_of_ble_eq_true rfl, Nat.le_of_ble_eq_true rfl⟩)) (fun r137 c138 => ?_)
                                obtain rfl := c138
                                refine lv_icmp_lt (tgt := 209) hx hb dL_traced_191 (by decide) (fun c139 => ?_) (fun c139 => ?_)
                                · exact absurd c139 (tl_tt hI hj2 hj113 b123)
                                · skip
                                  refine lv_aload_n hx hb dL_traced_194 rfl (lv_at hl 0 rfl) ?_
                                  refine lv_iload hx hb dL_traced_195 (lv_at hl 4 rfl) ?_
                                  refine vp_callSi (run_of (vx_runSW (g := F0 m 197 ls [.int (nI j1), .ref (ad 0 0)]) (As := [.ref (ad 0 0), .int (nI j1)]) (rest := []) ⟨hx, hb, hml, hown, hta⟩ (c_L_partOf l hR hW hj2) (vx_cwSW 2 hta (gWSW mw764 mw765 mw39 mw766) rfl rfl rfl (by decide +kernel) ⟨Nat.le_of_ble_eq_true rfl, Nat.le_of_ble_eq_true rfl⟩) (gPreB hK hP hD) rfl rfl hl.1 rfl (lv_room (Nat.le_of_ble_eq_true rfl)) dL_traced_197 ⟨Nat.le_of_ble_eq_true rfl, Nat.le_of_ble_eq_true rfl⟩)) (fun r140 c141 => ?_)
                                  obtain rfl := c141
                                  refine lv_aload_n hx hb dL_traced_200 rfl (lv_at hl 0 rfl) ?_
                                  refine lv_iload hx hb dL_traced_201 (lv_at hl 5 rfl) ?_
                                  refine vp_callSi (run_of (vx_runSW (g := F0 m 203 ls [.int (nI j112), .ref (ad 0 0), .int (nI (sN S 6 j1))]) (As := [.ref (ad 0 0), .int (nI j112)]) (rest := [.int (nI (sN S 6 j1))]) ⟨hx, hb, hml, hown, hta⟩ (c_L_partOf l hR hW hj113) (vx_cwSW 2 hta (gWSW mw764 mw765 mw39 mw766) rfl rfl rfl (by decide +kernel) ⟨Nat.le_of_ble_eq_true rfl, Nat.le_of_ble_eq_true rfl⟩) (gPreB hK hP hD) rfl rfl hl.1 rfl (lv_room (Nat.le_of_ble_eq_true rfl)) dL_traced_203 ⟨Nat.le_of_ble_eq_true rfl, Nat.le_of_ble_eq_true rfl⟩)) (fun r142 c143 => ?_)
                                  obtain rfl := c143
                                  refine lv_icmp_lt (tgt := 211) hx hb dL_traced_206 (by decide) (fun c144 => ?_) (fun c144 => ?_)
                                  · skip
                                    refine lv_iinc (v := nI (j112 + 1)) (lv' := [(5, .int (nI (j112 + 1))), (0, .ref (ad 0 0)), (1, .int (nI (sN S 3 0))), (2, .int ((fwd S j1) + (tch S j1))), (3, .int 0), (4, .int (nI j1))]) hx hb dL_traced_211 hl (k := 5) rfl (nI_1 _) (by decide) rfl (fun ls hl => ?_)
                                    refine lv_goto (tgt := 107) hx hb dL_traced_214 (by decide) ?_
                                    refine ih114 _ ?_
                                    exact lv_sub hl [1, 2, 3, 4, 5, 0] rfl
                                  · exact absurd (tl_pp hI hj2 hj113 b123) c144
                      · skip
                        refine lv_goto (tgt := 211) hx hb dL_traced_130 (by decide) ?_
                        refine lv_iinc (v := nI (j112 + 1)) (lv' := [(5, .int (nI (j112 + 1))), (0, .ref (ad 0 0)), (1, .int (nI (sN S 3 0))), (2, .int ((fwd S j1) + (tch S j1))), (3, .int 0), (4, .int (nI j1))]) hx hb dL_traced_211 hl (k := 5) rfl (nI_1 _) (by decide) rfl (fun ls hl => ?_)
                        refine lv_goto (tgt := 107) hx hb dL_traced_214 (by decide) ?_
                        refine ih114 _ ?_
                        exact lv_sub hl [1, 2, 3, 4, 5, 0] rfl
                  · skip
                    refine lv_iload hx hb dL_traced_107 (lv_at hl 5 rfl) ?_
                    refine lv_aload_n hx hb dL_traced_109 rfl (lv_at hl 0 rfl) ?_
                    obtain ⟨q145, e146⟩ := cell_0 hR (rfl : (0 : Nat) = 0)
                    refine gro_i (ci := 12) (As := []) (rest := [.int (nI (sN S 2 0))]) ⟨hx, hb, hml, hown, hta⟩ (c_X10_lots l hR ) (cwV 0 hta (gWV mw110 mw111 mw112 mw40 mw113) rfl rfl rfl (by decide +kernel) ⟨Nat.le_of_ble_eq_true rfl, Nat.le_of_ble_eq_true rfl⟩) hK hP hD rfl e146 rfl hl.1 rfl (Nat.le_of_ble_eq_true rfl) dL_traced_110 ⟨Nat.le_of_ble_eq_true rfl, Nat.le_of_ble_eq_true rfl⟩ (fun r147 c148 => ?_)
                    obtain rfl := c148
                    refine lv_icmp_ge (tgt := 217) hx hb dL_traced_113 (by decide) (fun c149 => ?_) (fun c149 => ?_)
                    · skip
                      refine lv_iinc (v := nI (j1 + 1)) (lv' := [(4, .int (nI (j1 + 1))), (0, .ref (ad 0 0)), (1, .int (nI (sN S 3 0))), (2, .int ((fwd S j1) + (tch S j1))), (3, .int 0), (5, .int (nI (sN S 2 0)))]) hx hb dL_traced_217 hl (k := 4) rfl (nI_1 _) (by decide) rfl (fun ls hl => ?_)
                      refine lv_goto (tgt := 7) hx hb dL_traced_220 (by decide) ?_
                      refine ih3 _ ?_
                      have a8 : fwd S ((j1 + 1)) = (fwd S j1) + (tch S j1) := rfl
                      rw [a8]
                      exact lv_sub hl [1, 2, 3, 4, 0] rfl
                    · exact absurd (nI_le (a := sN S 2 0) (b := sN S 2 0) (Nat.le_refl _) (by have := hW.nL; omega)) c149
                · exact absurd (tl_c0 hI hj2) c111
              · skip
                refine lv_aload_n hx hb dL_traced_80 rfl (lv_at hl 1 rfl) ?_
                refine lv_iload hx hb dL_traced_81 (lv_at hl 4 rfl) ?_
                refine vp_callSl (run_of (vx_runSW (g := F0 m 83 ls [.int (nI j1), .ref (ad 0 0)]) (As := [.ref (ad 0 0), .int (nI j1)]) (rest := []) ⟨hx, hb, hml, hown, hta⟩ (c_L_costOf l hR hW hj2) (vx_cwSW 2 hta (gWSW mw491 mw492 mw39 mw493) rfl rfl rfl (by decide +kernel) ⟨Nat.le_of_ble_eq_true rfl, Nat.le_of_ble_eq_true rfl⟩) (gPreB hK hP hD) rfl rfl hl.1 rfl (lv_room (Nat.le_of_ble_eq_true rfl)) dL_traced_83 ⟨Nat.le_of_ble_eq_true rfl, Nat.le_of_ble_eq_true rfl⟩)) (fun r150 c151 => ?_)
                obtain rfl := c151
                refine lv_lconst (v := 0) hx hb dL_traced_86 (by decide) ?_
                refine W.lcmp hx hb dL_traced_87 ?_
                refine lv_if_ne (tgt := 102) hx hb dL_traced_88 (by decide) (fun c152 => ?_) (fun c152 => ?_)
                · exact absurd c152 (fun q => q (tl_rc hI hj2 c108))
                · skip
                  refine lv_aload_n hx hb dL_traced_91 rfl (lv_at hl 1 rfl) ?_
                  refine lv_iload hx hb dL_traced_92 (lv_at hl 4 rfl) ?_
                  refine vp_callSl (run_of (vx_runSW (g := F0 m 94 ls [.int (nI j1), .ref (ad 0 0)]) (As := [.ref (ad 0 0), .int (nI j1)]) (rest := []) ⟨hx, hb, hml, hown, hta⟩ (c_L_costOf l hR hW hj2) (vx_cwSW 2 hta (gWSW mw491 mw492 mw39 mw493) rfl rfl rfl (by decide +kernel) ⟨Nat.le_of_ble_eq_true rfl, Nat.le_of_ble_eq_true rfl⟩) (gPreB hK hP hD) rfl rfl hl.1 rfl (lv_room (Nat.le_of_ble_eq_true rfl)) dL_traced_94 ⟨Nat.le_of_ble_eq_true rfl, Nat.le_of_ble_eq_true rfl⟩)) (fun r153 c154 => ?_)
                  obtain rfl := c154
                  refine lv_lconst (v := 0) hx hb dL_traced_97 (by decide) ?_
                  refine W.lcmp hx hb dL_traced_98 ?_
                  refine lv_if_ge (tgt := 104) hx hb dL_traced_99 (by decide) (fun c155 => ?_) (fun c155 => ?_)
                  · skip
                    refine lv_iconst (v := 0) hx hb dL_traced_104 (by decide) ?_
                    refine lv_istore (lv' := [(5, .int 0), (2, .int ((fwd S j1) + (tch S j1))), (0, .ref (ad 0 0)), (1, .int (nI (sN S 3 0))), (3, .int 0), (4, .int (nI j1))]) hx hb dL_traced_105 hl (by decide) rfl (fun ls hl => ?_)
                    refine loop_g (σ := Array Slot) (Wg := fun ls => W p l e _ s m _ below meth c _ _ _ _ _ (F0 m 107 ls [])) (sN S 2 0) (fun j156 ls => lv_has ls 6 [(0, .ref (ad 0 0)), (1, .int (nI (sN S 3 0))), (2, .int ((fwd S j1) + (tch S j1))), (3, .int 0), (4, .int (nI j1)), (5, .int (nI j156))]) (fun j156 hj157 ih158 ls hl => ?_) (fun ls hl => ?_) ls (lv_sub hl [2, 3, 1, 4, 5, 0] rfl)
                    · skip
                      refine lv_iload hx hb dL_traced_107 (lv_at hl 5 rfl) ?_
                      refine lv_aload_n hx hb dL_traced_109 rfl (lv_at hl 0 rfl) ?_
                      obtain ⟨q159, e160⟩ := cell_0 hR (rfl : (0 : Nat) = 0)
                      refine gro_i (ci := 12) (As := []) (rest := [.int (nI j156)]) ⟨hx, hb, hml, hown, hta⟩ (c_X10_lots l hR ) (cwV 0 hta (gWV mw110 mw111 mw112 mw40 mw113) rfl rfl rfl (by decide +kernel) ⟨Nat.le_of_ble_eq_true rfl, Nat.le_of_ble_eq_true rfl⟩) hK hP hD rfl e160 rfl hl.1 rfl (Nat.le_of_ble_eq_true rfl) dL_traced_110 ⟨Nat.le_of_ble_eq_true rfl, Nat.le_of_ble_eq_true rfl⟩ (fun r161 c162 => ?_)
                      obtain rfl := c162
                      refine lv_icmp_ge (tgt := 217) hx hb dL_traced_113 (by decide) (fun c163 => ?_) (fun c163 => ?_)
                      · exact absurd c163 (nI_ge (a := j156) (b := sN S 2 0) hj157 (by have := hW.nL; omega))
                      · skip
                        refine lv_aload_n hx hb dL_traced_116 rfl (lv_at hl 0 rfl) ?_
                        refine lv_bipush (v := 105) hx hb dL_traced_117 (by decide) ?_
                        refine lv_iload hx hb dL_traced_119 (lv_at hl 4 rfl) ?_
                        refine lv_iload hx hb dL_traced_121 (lv_at hl 5 rfl) ?_
                        refine vp_callSi (run_of (vx_runSW (g := F0 m 123 ls [.int (nI j156), .int (nI j1), .int 105, .ref (ad 0 0)]) (As := [.ref (ad 0 0), .int 105, .int (nI j1), .int (nI j156)]) (rest := []) ⟨hx, hb, hml, hown, hta⟩ (c_L_isI l hR hW hj2 hj157) (vx_cwSW 4 hta (gWSW mw672 mw673 mw39 mw674) rfl rfl rfl (by decide +kernel) ⟨Nat.le_of_ble_eq_true rfl, Nat.le_of_ble_eq_true rfl⟩) (gPreB hK hP hD) rfl rfl hl.1 rfl (lv_room (Nat.le_of_ble_eq_true rfl)) dL_traced_123 ⟨Nat.le_of_ble_eq_true rfl, Nat.le_of_ble_eq_true rfl⟩)) (fun r164 c165 => ?_)
                        obtain rfl := c165
                        refine lv_iconst (v := 1) hx hb dL_traced_126 (by decide) ?_
                        refine lv_icmp_eq (tgt := 133) hx hb dL_traced_127 (by decide) (fun c166 => ?_) (fun c166 => ?_)
                        · skip
                          have b167 := bI_one c166
                          refine lv_iload hx hb dL_traced_133 (lv_at hl 4 rfl) ?_
                          refine lv_iload hx hb dL_traced_135 (lv_at hl 5 rfl) ?_
                          refine lv_icmp_ge (tgt := 209) hx hb dL_traced_137 (by decide) (fun c168 => ?_) (fun c168 => ?_)
                          · exact absurd c168 (tl_lt hI hj2 hj157 b167)
                          · skip
                            refine lv_aload_n hx hb dL_traced_140 rfl (lv_at hl 0 rfl) ?_
                            refine lv_bipush (v := 105) hx hb dL_traced_141 (by decide) ?_
                            refine lv_iload hx hb dL_traced_143 (lv_at hl 5 rfl) ?_
                            refine lv_iload hx hb dL_traced_145 (lv_at hl 4 rfl) ?_
                            refine vp_callSi (run_of (vx_runSW (g := F0 m 147 ls [.int (nI j1), .int (nI j156), .int 105, .ref (ad 0 0)]) (As := [.ref (ad 0 0), .int 105, .int (nI j156), .int (nI j1)]) (rest := []) ⟨hx, hb, hml, hown, hta⟩ (c_L_isI l hR hW hj157 hj2) (vx_cwSW 4 hta (gWSW mw672 mw673 mw39 mw674) rfl rfl rfl (by decide +kernel) ⟨Nat.le_of_ble_eq_true rfl, Nat.le_of_ble_eq_true rfl⟩) (gPreB hK hP hD) rfl rfl hl.1 rfl (lv_room (Nat.le_of_ble_eq_true rfl)) dL_traced_147 ⟨Nat.le_of_ble_eq_true rfl, Nat.le_of_ble_eq_true rfl⟩)) (fun r169 c170 => ?_)
                            obtain rfl := c170
                            refine lv_if_ne (tgt := 209) hx hb dL_traced_150 (by decide) (fun c171 => ?_) (fun c171 => ?_)
                            · exact absurd c171 (fun q => q (tl_no hI hj2 hj157 b167))
                            · skip
                              refine lv_aload_n hx hb dL_traced_153 rfl (lv_at hl 0 rfl) ?_
                              refine lv_bipush (v := 104) hx hb dL_traced_154 (by decide) ?_
                              refine lv_iload hx hb dL_traced_156 (lv_at hl 4 rfl) ?_
                              refine lv_iconst (v := 0) hx hb dL_traced_158 (by decide) ?_
                              refine vp_callSi (run_of (vx_runSW (g := F0 m 159 ls [.int 0, .int (nI j1), .int 104, .ref (ad 0 0)]) (As := [.ref (ad 0 0), .int 104, .int (nI j1), .int 0]) (rest := []) ⟨hx, hb, hml, hown, hta⟩ (c_L_isH l hR hW hj2 0) (vx_cwSW 4 hta (gWSW mw672 mw673 mw39 mw674) rfl rfl rfl (by decide +kernel) ⟨Nat.le_of_ble_eq_true rfl, Nat.le_of_ble_eq_true rfl⟩) (gPreB hK hP hD) rfl rfl hl.1 rfl (lv_room (Nat.le_of_ble_eq_true rfl)) dL_traced_159 ⟨Nat.le_of_ble_eq_true rfl, Nat.le_of_ble_eq_true rfl⟩)) (fun r172 c173 => ?_)
                              obtain rfl := c173
                              refine lv_iconst (v := 1) hx hb dL_traced_162 (by decide) ?_
                              refine lv_icmp_ne (tgt := 179) hx hb dL_traced_163 (by decide) (fun c174 => ?_) (fun c174 => ?_)
                              · exact absurd c174 (fun q => q c21)
                              · skip
                                have b175 := bI_one c21
                                refine lv_aload_n hx hb dL_traced_166 rfl (lv_at hl 0 rfl) ?_
                                refine lv_bipush (v := 104) hx hb dL_traced_167 (by decide) ?_
                                refine lv_iload hx hb dL_traced_169 (lv_at hl 5 rfl) ?_
                                refine lv_iconst (v := 0) hx hb dL_traced_171 (by decide) ?_
                                refine vp_callSi (run_of (vx_runSW (g := F0 m 172 ls [.int 0, .int (nI j156), .int 104, .ref (ad 0 0)]) (As := [.ref (ad 0 0), .int 104, .int (nI j156), .int 0]) (rest := []) ⟨hx, hb, hml, hown, hta⟩ (c_L_isH l hR hW hj157 0) (vx_cwSW 4 hta (gWSW mw672 mw673 mw39 mw674) rfl rfl rfl (by decide +kernel) ⟨Nat.le_of_ble_eq_true rfl, Nat.le_of_ble_eq_true rfl⟩) (gPreB hK hP hD) rfl rfl hl.1 rfl (lv_room (Nat.le_of_ble_eq_true rfl)) dL_traced_172 ⟨Nat.le_of_ble_eq_true rfl, Nat.le_of_ble_eq_true rfl⟩)) (fun r176 c177 => ?_)
                                obtain rfl := c177
                                refine lv_iconst (v := 1) hx hb dL_traced_175 (by decide) ?_
                                refine lv_icmp_ne (tgt := 209) hx hb dL_traced_176 (by decide) (fun c178 => ?_) (fun c178 => ?_)
                                · exact absurd c178 (fun q => q (tl_bb hI hj2 hj157 b167 b175))
                                · skip
                                  refine lv_aload_n hx hb dL_traced_179 rfl (lv_at hl 0 rfl) ?_
                                  refine lv_iload hx hb dL_traced_180 (lv_at hl 4 rfl) ?_
                                  refine vp_callSi (run_of (vx_runSW (g := F0 m 182 ls [.int (nI j1), .ref (ad 0 0)]) (As := [.ref (ad 0 0), .int (nI j1)]) (rest := []) ⟨hx, hb, hml, hown, hta⟩ (c_L_touched l hR hW hj2) (vx_cwSW 2 hta (gWSW mw747 mw748 mw39 mw749) rfl rfl rfl (by decide +kernel) ⟨Nat.le_of_ble_eq_true rfl, Nat.le_of_ble_eq_true rfl⟩) (gPreB hK hP hD) rfl rfl hl.1 rfl (lv_room (Nat.le_of_ble_eq_true rfl)) dL_traced_182 ⟨Nat.le_of_ble_eq_true rfl, Nat.le_of_ble_eq_true rfl⟩)) (fun r179 c180 => ?_)
                                  obtain rfl := c180
                                  refine lv_aload_n hx hb dL_traced_185 rfl (lv_at hl 0 rfl) ?_
                                  refine lv_iload hx hb dL_traced_186 (lv_at hl 5 rfl) ?_
                                  refine vp_callSi (run_of (vx_runSW (g := F0 m 188 ls [.int (nI j156), .ref (ad 0 0), .int (tch S j1)]) (As := [.ref (ad 0 0), .int (nI j156)]) (rest := [.int (tch S j1)]) ⟨hx, hb, hml, hown, hta⟩ (c_L_touched l hR hW hj157) (vx_cwSW 2 hta (gWSW mw747 mw748 mw39 mw749) rfl rfl rfl (by decide +kernel) ⟨Nat.le_of_ble_eq_true rfl, Nat.le_of_ble_eq_true rfl⟩) (gPreB hK hP hD) rfl rfl hl.1 rfl (lv_room (Nat.le_of_ble_eq_true rfl)) dL_traced_188 ⟨Nat.le_of_ble_eq_true rfl, Nat.le_of_ble_eq_true rfl⟩)) (fun r181 c182 => ?_)
                                  obtain rfl := c182
                                  refine lv_icmp_lt (tgt := 209) hx hb dL_traced_191 (by decide) (fun c183 => ?_) (fun c183 => ?_)
                                  · exact absurd c183 (tl_tt hI hj2 hj157 b167)
                                  · skip
                                    refine lv_aload_n hx hb dL_traced_194 rfl (lv_at hl 0 rfl) ?_
                                    refine lv_iload hx hb dL_traced_195 (lv_at hl 4 rfl) ?_
                                    refine vp_callSi (run_of (vx_runSW (g := F0 m 197 ls [.int (nI j1), .ref (ad 0 0)]) (As := [.ref (ad 0 0), .int (nI j1)]) (rest := []) ⟨hx, hb, hml, hown, hta⟩ (c_L_partOf l hR hW hj2) (vx_cwSW 2 hta (gWSW mw764 mw765 mw39 mw766) rfl rfl rfl (by decide +kernel) ⟨Nat.le_of_ble_eq_true rfl, Nat.le_of_ble_eq_true rfl⟩) (gPreB hK hP hD) rfl rfl hl.1 rfl (lv_room (Nat.le_of_ble_eq_true rfl)) dL_traced_197 ⟨Nat.le_of_ble_eq_true rfl, Nat.le_of_ble_eq_true rfl⟩)) (fun r184 c185 => ?_)
                                    obtain rfl := c185
                                    refine lv_aload_n hx hb dL_traced_200 rfl (lv_at hl 0 rfl) ?_
                                    refine lv_iload hx hb dL_traced_201 (lv_at hl 5 rfl) ?_
                                    refine vp_callSi (run_of (vx_runSW (g := F0 m 203 ls [.int (nI j156), .ref (ad 0 0), .int (nI (sN S 6 j1))]) (As := [.ref (ad 0 0), .int (nI j156)]) (rest := [.int (nI (sN S 6 j1))]) ⟨hx, hb, hml, hown, hta⟩ (c_L_partOf l hR hW hj157) (vx_cwSW 2 hta (gWSW mw764 mw765 mw39 mw766) rfl rfl rfl (by decide +kernel) ⟨Nat.le_of_ble_eq_true rfl, Nat.le_of_ble_eq_true rfl⟩) (gPreB hK hP hD) rfl rfl hl.1 rfl (lv_room (Nat.le_of_ble_eq_true rfl)) dL_traced_203 ⟨Nat.le_of_ble_eq_true rfl, Nat.le_of_ble_eq_true rfl⟩)) (fun r186 c187 => ?_)
                                    obtain rfl := c187
                                    refine lv_icmp_lt (tgt := 211) hx hb dL_traced_206 (by decide) (fun c188 => ?_) (fun c188 => ?_)
                                    · skip
                                      refine lv_iinc (v := nI (j156 + 1)) (lv' := [(5, .int (nI (j156 + 1))), (0, .ref (ad 0 0)), (1, .int (nI (sN S 3 0))), (2, .int ((fwd S j1) + (tch S j1))), (3, .int 0), (4, .int (nI j1))]) hx hb dL_traced_211 hl (k := 5) rfl (nI_1 _) (by decide) rfl (fun ls hl => ?_)
                                      refine lv_goto (tgt := 107) hx hb dL_traced_214 (by decide) ?_
                                      refine ih158 _ ?_
                                      exact lv_sub hl [1, 2, 3, 4, 5, 0] rfl
                                    · exact absurd (tl_pp hI hj2 hj157 b167) c188
                        · skip
                          refine lv_goto (tgt := 211) hx hb dL_traced_130 (by decide) ?_
                          refine lv_iinc (v := nI (j156 + 1)) (lv' := [(5, .int (nI (j156 + 1))), (0, .ref (ad 0 0)), (1, .int (nI (sN S 3 0))), (2, .int ((fwd S j1) + (tch S j1))), (3, .int 0), (4, .int (nI j1))]) hx hb dL_traced_211 hl (k := 5) rfl (nI_1 _) (by decide) rfl (fun ls hl => ?_)
                          refine lv_goto (tgt := 107) hx hb dL_traced_214 (by decide) ?_
                          refine ih158 _ ?_
                          exact lv_sub hl [1, 2, 3, 4, 5, 0] rfl
                    · skip
                      refine lv_iload hx hb dL_traced_107 (lv_at hl 5 rfl) ?_
                      refine lv_aload_n hx hb dL_traced_109 rfl (lv_at hl 0 rfl) ?_
                      obtain ⟨q189, e190⟩ := cell_0 hR (rfl : (0 : Nat) = 0)
                      refine gro_i (ci := 12) (As := []) (rest := [.int (nI (sN S 2 0))]) ⟨hx, hb, hml, hown, hta⟩ (c_X10_lots l hR ) (cwV 0 hta (gWV mw110 mw111 mw112 mw40 mw113) rfl rfl rfl (by decide +kernel) ⟨Nat.le_of_ble_eq_true rfl, Nat.le_of_ble_eq_true rfl⟩) hK hP hD rfl e190 rfl hl.1 rfl (Nat.le_of_ble_eq_true rfl) dL_traced_110 ⟨Nat.le_of_ble_eq_true rfl, Nat.le_of_ble_eq_true rfl⟩ (fun r191 c192 => ?_)
                      obtain rfl := c192
                      refine lv_icmp_ge (tgt := 217) hx hb dL_traced_113 (by decide) (fun c193 => ?_) (fun c193 => ?_)
                      · skip
                        refine lv_iinc (v := nI (j1 + 1)) (lv' := [(4, .int (nI (j1 + 1))), (0, .ref (ad 0 0)), (1, .int (nI (sN S 3 0))), (2, .int ((fwd S j1) + (tch S j1))), (3, .int 0), (5, .int (nI (sN S 2 0)))]) hx hb dL_traced_217 hl (k := 4) rfl (nI_1 _) (by decide) rfl (fun ls hl => ?_)
                        refine lv_goto (tgt := 7) hx hb dL_traced_220 (by decide) ?_
                        refine ih3 _ ?_
                        have a8 : fwd S ((j1 + 1)) = (fwd S j1) + (tch S j1) := rfl
                        rw [a8]
                        exact lv_sub hl [1, 2, 3, 4, 0] rfl
                      · exact absurd (nI_le (a := sN S 2 0) (b := sN S 2 0) (Nat.le_refl _) (by have := hW.nL; omega)) c193
                  · exact absurd (tl_c0 hI hj2) c155
  · skip
    refine lv_iload hx hb dL_traced_7 (lv_at hl 4 rfl) ?_
    refine lv_aload_n hx hb dL_traced_9 rfl (lv_at hl 0 rfl) ?_
    obtain ⟨q194, e195⟩ := cell_0 hR (rfl : (0 : Nat) = 0)
    refine gro_i (ci := 12) (As := []) (rest := [.int (nI (sN S 2 0))]) ⟨hx, hb, hml, hown, hta⟩ (c_X10_lots l hR ) (cwV 0 hta (gWV mw110 mw111 mw112 mw40 mw113) rfl rfl rfl (by decide +kernel) ⟨Nat.le_of_ble_eq_true rfl, Nat.le_of_ble_eq_true rfl⟩) hK hP hD rfl e195 rfl hl.1 rfl (Nat.le_of_ble_eq_true rfl) dL_traced_10 ⟨Nat.le_of_ble_eq_true rfl, Nat.le_of_ble_eq_true rfl⟩ (fun r196 c197 => ?_)
    obtain rfl := c197
    refine lv_icmp_ge (tgt := 223) hx hb dL_traced_13 (by decide) (fun c198 => ?_) (fun c198 => ?_)
    · skip
      refine lv_iconst (v := 0) hx hb dL_traced_223 (by decide) ?_
      refine lv_istore (lv' := [(4, .int 0), (0, .ref (ad 0 0)), (1, .int (nI (sN S 3 0))), (2, .int (fwd S (sN S 2 0))), (3, .int 0)]) hx hb dL_traced_224 hl (by decide) rfl (fun ls hl => ?_)
      refine loop_g (σ := Heap × List Loc × (Nat → va_E) × Array Slot × Nat × Nat) (Wg := fun z => W p l e _ s m _ below meth c z.1 z.2.1 z.2.2.2.2.1 z.2.2.2.2.2 _ (F0 m 226 z.2.2.2.1 [])) (sN S 3 0) (fun j199 z => va_P D vwCl (va_pl L z.2.2.1) z.1 ∧ va_D A (va_pl L z.2.2.1) ∧ va_S A s.heap z.1 z.2.1 ∧ Rep tA S ad L z.2.2.1 ∧ z.2.2.2.2.1 ≤ 3 * j199 ∧ z.2.2.2.2.2 ≤ 18 * j199 ∧ lv_has z.2.2.2.1 6 [(0, .ref (ad 0 0)), (1, .int (nI (sN S 3 0))), (2, .int (fwd S (sN S 2 0))), (3, .int (bck S j199)), (4, .int (nI j199))]) (fun j199 hj200 ih201 z hz => ?_) (fun z hz => ?_) (_, _, f, ls, _, _) ⟨hP, hD, hS, hR, (by (try dsimp only); omega), (by (try dsimp only); omega), lv_sub hl [1, 2, 3, 4, 0] rfl⟩
      · skip
        obtain ⟨H, locs, f, ls, ce202, sl203⟩ := z
        obtain ⟨hP, hD, hS, hR, hce204, hsl205, hl⟩ := hz
        dsimp only at hP hD hS hR hl hce204 hsl205 ⊢
        have hn9 := hW.nO
        refine lv_iload hx hb dL_traced_226 (lv_at hl 4 rfl) ?_
        refine lv_iload_n hx hb dL_traced_228 rfl (lv_at hl 1 rfl) ?_
        refine lv_icmp_ge (tgt := 362) hx hb dL_traced_229 (by decide) (fun c206 => ?_) (fun c206 => ?_)
        · exact absurd c206 (nI_ge (a := j199) (b := sN S 3 0) hj200 (by have := hW.nO; omega))
        · skip
          refine lv_iload_n hx hb dL_traced_232 rfl (lv_at hl 3 rfl) ?_
          refine lv_aload_n hx hb dL_traced_233 rfl (lv_at hl 0 rfl) ?_
          refine lv_iload hx hb dL_traced_234 (lv_at hl 4 rfl) ?_
          refine vp_callSi (run_of (vx_runSW (g := F0 m 236 ls [.int (nI j199), .ref (ad 0 0), .int (bck S j199)]) (As := [.ref (ad 0 0), .int (nI j199)]) (rest := [.int (bck S j199)]) ⟨hx, hb, hml, hown, hta⟩ (c_L_lotsIn l hR hW hj200) (vx_cwSW 2 hta (gWSW mw771 mw772 mw39 mw773) rfl rfl rfl (by decide +kernel) ⟨Nat.le_of_ble_eq_true rfl, Nat.le_of_ble_eq_true rfl⟩) (gPreB hK hP hD) rfl rfl hl.1 rfl (lv_room (Nat.le_of_ble_eq_true rfl)) dL_traced_236 ⟨(by show ce202 + 0 ≤ 90; omega), (by show sl203 + 0 ≤ 540; omega)⟩)) (fun r207 c208 => ?_)
          obtain rfl := c208
          refine lv_iadd hx hb dL_traced_239 ?_
          refine lv_istore_n (lv' := [(3, .int ((bck S j199) + (lin S j199))), (0, .ref (ad 0 0)), (1, .int (nI (sN S 3 0))), (2, .int (fwd S (sN S 2 0))), (4, .int (nI j199))]) hx hb dL_traced_240 rfl hl (by decide) rfl (fun ls hl => ?_)
          refine lv_aload_n hx hb dL_traced_241 rfl (lv_at hl 1 rfl) ?_
          refine lv_iload hx hb dL_traced_242 (lv_at hl 4 rfl) ?_
          refine vp_callSi (run_of (vx_runSW (g := F0 m 244 ls [.int (nI j199), .ref (ad 0 0)]) (As := [.ref (ad 0 0), .int (nI j199)]) (rest := []) ⟨hx, hb, hml, hown, hta⟩ (c_L_stateOf l hR hW hj200 (to_nar hI hj200)) (vx_cwSW 2 hta (gWSW mw627 mw628 mw39 mw629) rfl rfl rfl (by decide +kernel) ⟨Nat.le_of_ble_eq_true rfl, Nat.le_of_ble_eq_true rfl⟩) (gPreB hK hP hD) rfl rfl hl.1 rfl (lv_room (Nat.le_of_ble_eq_true rfl)) dL_traced_244 ⟨(by show ce202 + 0 ≤ 90; omega), (by show sl203 + 0 ≤ 540; omega)⟩)) (fun r209 c210 => ?_)
          obtain rfl := c210
          refine lv_istore (lv' := [(5, .int (sI S 53 j199)), (3, .int ((bck S j199) + (lin S j199))), (0, .ref (ad 0 0)), (1, .int (nI (sN S 3 0))), (2, .int (fwd S (sN S 2 0))), (4, .int (nI j199))]) hx hb dL_traced_247 hl (by decide) rfl (fun ls hl => ?_)
          refine lv_aload_n hx hb dL_traced_249 rfl (lv_at hl 2 rfl) ?_
          refine lv_iload hx hb dL_traced_250 (lv_at hl 5 rfl) ?_
          refine vp_callSi (run_of (vx_runSW (g := F0 m 252 ls [.int (nI j199), .ref (ad 0 0)]) (As := [.ref (ad 0 0), .int (nI j199)]) (rest := []) ⟨hx, hb, hml, hown, hta⟩ (c_L_lotsIn l hR hW hj200) (vx_cwSW 2 hta (gWSW mw771 mw772 mw39 mw773) rfl rfl rfl (by decide +kernel) ⟨Nat.le_of_ble_eq_true rfl, Nat.le_of_ble_eq_true rfl⟩) (gPreB hK hP hD) rfl rfl hl.1 rfl (lv_room (Nat.le_of_ble_eq_true rfl)) dL_traced_252 ⟨(by show ce202 + 0 ≤ 90; omega), (by show sl203 + 0 ≤ 540; omega)⟩)) (fun r211 c212 => ?_)
          obtain rfl := c212
          refine lv_if_le (tgt := 262) hx hb dL_traced_255 (by decide) (fun c213 => ?_) (fun c213 => ?_)
          · skip
            refine lv_iconst (v := 0) hx hb dL_traced_262 (by decide) ?_
            refine lv_iload hx hb dL_traced_263 (lv_at hl 0 rfl) ?_
            refine lv_bipush (v := 100) hx hb dL_traced_265 (by decide) ?_
            refine lv_icmp_ne (tgt := 274) hx hb dL_traced_267 (by decide) (fun c214 => ?_) (fun c214 => ?_)
            · skip
              refine lv_iconst (v := 0) hx hb dL_traced_274 (by decide) ?_
              refine lv_icmp_ne (tgt := 334) hx hb dL_traced_275 (by decide) (fun c215 => ?_) (fun c215 => ?_)
              · exact absurd c215 (by decide)
              · skip
                refine lv_aload_n hx hb dL_traced_278 rfl (lv_at hl 2 rfl) ?_
                refine lv_iload hx hb dL_traced_279 (lv_at hl 5 rfl) ?_
                refine gsw_l (vx_runSW (g := F0 m 281 ls [.int (nI j199), .ref (ad 0 0)]) (As := [.ref (ad 0 0), .int (nI j199)]) (rest := []) ⟨hx, hb, hml, hown, hta⟩ (c_L_deliveredCostX l hl0 hR hW hj200 c214) (vx_cwSW 2 hta (gWSW mw664 mw665 mw39 mw666) rfl rfl rfl (by decide +kernel) ⟨Nat.le_of_ble_eq_true rfl, Nat.le_of_ble_eq_true rfl⟩) (gPreW hX hQ hK hP hD hS hA) rfl rfl hl.1 rfl (lv_room (Nat.le_of_ble_eq_true rfl)) dL_traced_281 ⟨(by show ce202 + 1 ≤ 90; omega), (by show sl203 + 6 ≤ 540; omega)⟩) hD hS hA (fun r216 u H locs c217 hR hP hD hS => ?_)
                obtain ⟨S9, ad9, L9, f⟩ := u
                obtain ⟨rfl, rfl, rfl, rfl⟩ := c217
                dsimp only at hR hP hD
                refine lv_lconst (v := 0) hx hb dL_traced_284 (by decide) ?_
                refine W.lcmp hx hb dL_traced_285 ?_
                refine lv_if_lt (tgt := 293) hx hb dL_traced_286 (by decide) (fun c218 => ?_) (fun c218 => ?_)
                · skip
                  refine lv_iconst (v := 0) hx hb dL_traced_293 (by decide) ?_
                  refine lv_iload hx hb dL_traced_294 (lv_at hl 0 rfl) ?_
                  refine lv_bipush (v := 100) hx hb dL_traced_296 (by decide) ?_
                  refine lv_icmp_ne (tgt := 305) hx hb dL_traced_298 (by decide) (fun c219 => ?_) (fun c219 => ?_)
                  · skip
                    refine lv_iconst (v := 0) hx hb dL_traced_305 (by decide) ?_
                    refine lv_icmp_ne (tgt := 334) hx hb dL_traced_306 (by decide) (fun c220 => ?_) (fun c220 => ?_)
                    · exact absurd c220 (fun q => q c215)
                    · skip
                      refine lv_iload hx hb dL_traced_309 (lv_at hl 0 rfl) ?_
                      refine lv_bipush (v := 102) hx hb dL_traced_311 (by decide) ?_
                      refine lv_icmp_eq (tgt := 336) hx hb dL_traced_313 (by decide) (fun c221 => ?_) (fun c221 => ?_)
                      · skip
                        refine lv_aload_n hx hb dL_traced_336 rfl (lv_at hl 2 rfl) ?_
                        refine lv_iload hx hb dL_traced_337 (lv_at hl 5 rfl) ?_
                        rcases h222 : sR S 4 j199 with _ | o223
                        · skip
                          refine gsw_i (vx_runSW (g := F0 m 339 ls [.int (nI j199), .ref (ad 0 0)]) (As := [.ref (ad 0 0), .int (nI j199)]) (rest := []) ⟨hx, hb, hml, hown, hta⟩ (c_L_lotOfX l hl0 hR hW hj200 h222) (vx_cwSW 2 hta (gWSW mw634 mw635 mw39 mw636) rfl rfl rfl (by decide +kernel) ⟨Nat.le_of_ble_eq_true rfl, Nat.le_of_ble_eq_true rfl⟩) (gPreW hX hQ hK hP hD hS hA) rfl rfl hl.1 rfl (lv_room (Nat.le_of_ble_eq_true rfl)) dL_traced_339 ⟨(by show ce202 + 1 + 1 ≤ 90; omega), (by show sl203 + 6 + 6 ≤ 540; omega)⟩) hD hS hA (fun r224 u H locs c225 hR hP hD hS => ?_)
                          obtain ⟨S9, ad9, L9, f⟩ := u
                          obtain ⟨rfl, rfl, rfl, rfl⟩ := c225
                          dsimp only at hR hP hD
                          refine lv_if_lt (tgt := 356) hx hb dL_traced_342 (by decide) (fun c226 => ?_) (fun c226 => ?_)
                          · skip
                            refine lv_iinc (v := nI (j199 + 1)) (lv' := [(4, .int (nI (j199 + 1))), (5, .int (sI S 53 j199)), (3, .int ((bck S j199) + (lin S j199))), (0, .ref (ad 0 0)), (1, .int (nI (sN S 3 0))), (2, .int (fwd S (sN S 2 0)))]) hx hb dL_traced_356 hl (k := 5) rfl (nI_1 _) (by decide) rfl (fun ls hl => ?_)
                            refine lv_goto (tgt := 226) hx hb dL_traced_359 (by decide) ?_
                            refine ih201 (_, _, f, ls, _, _) ⟨hP, hD, hS, hR, ?_, ?_, ?_⟩
                            · (try dsimp only); omega
                            · (try dsimp only); omega
                            · skip
                              have a8 : bck S ((j199 + 1)) = (bck S j199) + (lin S j199) := rfl
                              dsimp only; rw [a8]
                              exact lv_sub hl [3, 4, 5, 2, 0] rfl
                          · exact absurd (by decide) c226
                        · skip
                          refine vp_callSi (run_of (vx_runSW (g := F0 m 339 ls [.int (nI j199), .ref (ad 0 0)]) (As := [.ref (ad 0 0), .int (nI j199)]) (rest := []) ⟨hx, hb, hml, hown, hta⟩ (c_L_lotOf l hR hW hj200 h222) (vx_cwSW 2 hta (gWSW mw634 mw635 mw39 mw636) rfl rfl rfl (by decide +kernel) ⟨Nat.le_of_ble_eq_true rfl, Nat.le_of_ble_eq_true rfl⟩) (gPreB hK hP hD) rfl rfl hl.1 rfl (lv_room (Nat.le_of_ble_eq_true rfl)) dL_traced_339 ⟨(by show ce202 + 1 + 0 ≤ 90; omega), (by show sl203 + 6 + 0 ≤ 540; omega)⟩)) (fun r227 c228 => ?_)
                          obtain rfl := c228
                          refine lv_if_lt (tgt := 356) hx hb dL_traced_342 (by decide) (fun c229 => ?_) (fun c229 => ?_)
                          · exact absurd c229 (nI_pos (by have := hW.jlot hj200 h222; have := hW.nL; omega))
                          · skip
                            refine lv_aload_n hx hb dL_traced_345 rfl (lv_at hl 2 rfl) ?_
                            refine lv_iload hx hb dL_traced_346 (lv_at hl 5 rfl) ?_
                            refine vp_callSi (run_of (vx_runSW (g := F0 m 348 ls [.int (nI j199), .ref (ad 0 0)]) (As := [.ref (ad 0 0), .int (nI j199)]) (rest := []) ⟨hx, hb, hml, hown, hta⟩ (c_L_finishedAt l hR hW hj200 (to_f hI hj200 h222)) (vx_cwSW 2 hta (gWSW mw650 mw651 mw39 mw652) rfl rfl rfl (by decide +kernel) ⟨Nat.le_of_ble_eq_true rfl, Nat.le_of_ble_eq_true rfl⟩) (gPreB hK hP hD) rfl rfl hl.1 rfl (lv_room (Nat.le_of_ble_eq_true rfl)) dL_traced_348 ⟨(by show ce202 + 1 + 0 ≤ 90; omega), (by show sl203 + 6 + 0 ≤ 540; omega)⟩)) (fun r230 c231 => ?_)
                            obtain rfl := c231
                            refine lv_if_ge (tgt := 356) hx hb dL_traced_351 (by decide) (fun c232 => ?_) (fun c232 => ?_)
                            · skip
                              refine lv_iinc (v := nI (j199 + 1)) (lv' := [(4, .int (nI (j199 + 1))), (5, .int (sI S 53 j199)), (3, .int ((bck S j199) + (lin S j199))), (0, .ref (ad 0 0)), (1, .int (nI (sN S 3 0))), (2, .int (fwd S (sN S 2 0)))]) hx hb dL_traced_356 hl (k := 5) rfl (nI_1 _) (by decide) rfl (fun ls hl => ?_)
                              refine lv_goto (tgt := 226) hx hb dL_traced_359 (by decide) ?_
                              refine ih201 (_, _, f, ls, _, _) ⟨hP, hD, hS, hR, ?_, ?_, ?_⟩
                              · (try dsimp only); omega
                              · (try dsimp only); omega
                              · skip
                                have a8 : bck S ((j199 + 1)) = (bck S j199) + (lin S j199) := rfl
                                dsimp only; rw [a8]
                                exact lv_sub hl [3, 4, 5, 2, 0] rfl
                            · exact absurd (to_g hI hj200 h222) c232
                      · skip
                        refine lv_iload hx hb dL_traced_316 (lv_at hl 0 rfl) ?_
                        refine lv_bipush (v := 100) hx hb dL_traced_318 (by decide) ?_
                        refine lv_icmp_eq (tgt := 336) hx hb dL_traced_320 (by decide) (fun c233 => ?_) (fun c233 => ?_)
                        · exact absurd c233 c214
                        · skip
                          refine lv_aload_n hx hb dL_traced_323 rfl (lv_at hl 2 rfl) ?_
                          refine lv_iload hx hb dL_traced_324 (lv_at hl 5 rfl) ?_
                          have h234 := to_n hI hj200 c221 c214
                          refine gsw_i (vx_runSW (g := F0 m 326 ls [.int (nI j199), .ref (ad 0 0)]) (As := [.ref (ad 0 0), .int (nI j199)]) (rest := []) ⟨hx, hb, hml, hown, hta⟩ (c_L_lotOfX l hl0 hR hW hj200 h234) (vx_cwSW 2 hta (gWSW mw634 mw635 mw39 mw636) rfl rfl rfl (by decide +kernel) ⟨Nat.le_of_ble_eq_true rfl, Nat.le_of_ble_eq_true rfl⟩) (gPreW hX hQ hK hP hD hS hA) rfl rfl hl.1 rfl (lv_room (Nat.le_of_ble_eq_true rfl)) dL_traced_326 ⟨(by show ce202 + 1 + 1 ≤ 90; omega), (by show sl203 + 6 + 6 ≤ 540; omega)⟩) hD hS hA (fun r235 u H locs c236 hR hP hD hS => ?_)
                          obtain ⟨S9, ad9, L9, f⟩ := u
                          obtain ⟨rfl, rfl, rfl, rfl⟩ := c236
                          dsimp only at hR hP hD
                          refine lv_ldc (own := RL) (index := 94) (v := -3000000) hx hb hown (hta _ mw649) dL_traced_329 ?_
                          refine lv_icmp_eq (tgt := 336) hx hb dL_traced_331 (by decide) (fun c237 => ?_) (fun c237 => ?_)
                          · skip
                            refine lv_aload_n hx hb dL_traced_336 rfl (lv_at hl 2 rfl) ?_
                            refine lv_iload hx hb dL_traced_337 (lv_at hl 5 rfl) ?_
                            refine gsw_i (vx_runSW (g := F0 m 339 ls [.int (nI j199), .ref (ad 0 0)]) (As := [.ref (ad 0 0), .int (nI j199)]) (rest := []) ⟨hx, hb, hml, hown, hta⟩ (c_L_lotOfX l hl0 hR hW hj200 h234) (vx_cwSW 2 hta (gWSW mw634 mw635 mw39 mw636) rfl rfl rfl (by decide +kernel) ⟨Nat.le_of_ble_eq_true rfl, Nat.le_of_ble_eq_true rfl⟩) (gPreW hX hQ hK hP hD hS hA) rfl rfl hl.1 rfl (lv_room (Nat.le_of_ble_eq_true rfl)) dL_traced_339 ⟨(by show ce202 + 1 + 1 + 1 ≤ 90; omega), (by show sl203 + 6 + 6 + 6 ≤ 540; omega)⟩) hD hS hA (fun r238 u H locs c239 hR hP hD hS => ?_)
                            obtain ⟨S9, ad9, L9, f⟩ := u
                            obtain ⟨rfl, rfl, rfl, rfl⟩ := c239
                            dsimp only at hR hP hD
                            refine lv_if_lt (tgt := 356) hx hb dL_traced_342 (by decide) (fun c240 => ?_) (fun c240 => ?_)
                            · skip
                              refine lv_iinc (v := nI (j199 + 1)) (lv' := [(4, .int (nI (j199 + 1))), (5, .int (sI S 53 j199)), (3, .int ((bck S j199) + (lin S j199))), (0, .ref (ad 0 0)), (1, .int (nI (sN S 3 0))), (2, .int (fwd S (sN S 2 0)))]) hx hb dL_traced_356 hl (k := 5) rfl (nI_1 _) (by decide) rfl (fun ls hl => ?_)
                              refine lv_goto (tgt := 226) hx hb dL_traced_359 (by decide) ?_
                              refine ih201 (_, _, f, ls, _, _) ⟨hP, hD, hS, hR, ?_, ?_, ?_⟩
                              · (try dsimp only); omega
                              · (try dsimp only); omega
                              · skip
                                have a8 : bck S ((j199 + 1)) = (bck S j199) + (lin S j199) := rfl
                                dsimp only; rw [a8]
                                exact lv_sub hl [3, 4, 5, 2, 0] rfl
                            · exact absurd (by decide) c240
                          · exact absurd (by decide) c237
                  · exact absurd c219 c214
                · exact absurd (by decide) c218
            · skip
              refine lv_iconst (v := 1) hx hb dL_traced_270 (by decide) ?_
              refine lv_goto (tgt := 275) hx hb dL_traced_271 (by decide) ?_
              refine lv_icmp_ne (tgt := 334) hx hb dL_traced_275 (by decide) (fun c241 => ?_) (fun c241 => ?_)
              · skip
                exact absurd c214 (to_q hI hj200 c213)
              · exact absurd c241 (by decide)
          · skip
            refine lv_iconst (v := 1) hx hb dL_traced_258 (by decide) ?_
            refine lv_goto (tgt := 263) hx hb dL_traced_259 (by decide) ?_
            refine lv_iload hx hb dL_traced_263 (lv_at hl 0 rfl) ?_
            refine lv_bipush (v := 100) hx hb dL_traced_265 (by decide) ?_
            refine lv_icmp_ne (tgt := 274) hx hb dL_traced_267 (by decide) (fun c242 => ?_) (fun c242 => ?_)
            · skip
              refine lv_iconst (v := 0) hx hb dL_traced_274 (by decide) ?_
              refine lv_icmp_ne (tgt := 334) hx hb dL_traced_275 (by decide) (fun c243 => ?_) (fun c243 => ?_)
              · skip
                exact absurd (to_p hI hj200 c213) c242
              · exact absurd c243 (by decide)
            · skip
              refine lv_iconst (v := 1) hx hb dL_traced_270 (by decide) ?_
              refine lv_goto (tgt := 275) hx hb dL_traced_271 (by decide) ?_
              refine lv_icmp_ne (tgt := 334) hx hb dL_traced_275 (by decide) (fun c244 => ?_) (fun c244 => ?_)
              · exact absurd c244 (by decide)
              · skip
                refine lv_aload_n hx hb dL_traced_278 rfl (lv_at hl 2 rfl) ?_
                refine lv_iload hx hb dL_traced_279 (lv_at hl 5 rfl) ?_
                refine vp_callSl (run_of (vx_runSW (g := F0 m 281 ls [.int (nI j199), .ref (ad 0 0)]) (As := [.ref (ad 0 0), .int (nI j199)]) (rest := []) ⟨hx, hb, hml, hown, hta⟩ (c_L_deliveredCost l hR hW hj200 c242) (vx_cwSW 2 hta (gWSW mw664 mw665 mw39 mw666) rfl rfl rfl (by decide +kernel) ⟨Nat.le_of_ble_eq_true rfl, Nat.le_of_ble_eq_true rfl⟩) (gPreB hK hP hD) rfl rfl hl.1 rfl (lv_room (Nat.le_of_ble_eq_true rfl)) dL_traced_281 ⟨(by show ce202 + 0 ≤ 90; omega), (by show sl203 + 0 ≤ 540; omega)⟩)) (fun r245 c246 => ?_)
                obtain rfl := c246
                refine lv_lconst (v := 0) hx hb dL_traced_284 (by decide) ?_
                refine W.lcmp hx hb dL_traced_285 ?_
                refine lv_if_lt (tgt := 293) hx hb dL_traced_286 (by decide) (fun c247 => ?_) (fun c247 => ?_)
                · exact absurd c247 (to_c hI hj200)
                · skip
                  refine lv_iconst (v := 1) hx hb dL_traced_289 (by decide) ?_
                  refine lv_goto (tgt := 294) hx hb dL_traced_290 (by decide) ?_
                  refine lv_iload hx hb dL_traced_294 (lv_at hl 0 rfl) ?_
                  refine lv_bipush (v := 100) hx hb dL_traced_296 (by decide) ?_
                  refine lv_icmp_ne (tgt := 305) hx hb dL_traced_298 (by decide) (fun c248 => ?_) (fun c248 => ?_)
                  · exact absurd c248 (fun q => q c242)
                  · skip
                    refine lv_iconst (v := 1) hx hb dL_traced_301 (by decide) ?_
                    refine lv_goto (tgt := 306) hx hb dL_traced_302 (by decide) ?_
                    refine lv_icmp_ne (tgt := 334) hx hb dL_traced_306 (by decide) (fun c249 => ?_) (fun c249 => ?_)
                    · exact absurd c249 (fun q => q c244)
                    · skip
                      refine lv_iload hx hb dL_traced_309 (lv_at hl 0 rfl) ?_
                      refine lv_bipush (v := 102) hx hb dL_traced_311 (by decide) ?_
                      refine lv_icmp_eq (tgt := 336) hx hb dL_traced_313 (by decide) (fun c250 => ?_) (fun c250 => ?_)
                      · skip
                        refine lv_aload_n hx hb dL_traced_336 rfl (lv_at hl 2 rfl) ?_
                        refine lv_iload hx hb dL_traced_337 (lv_at hl 5 rfl) ?_
                        rcases h251 : sR S 4 j199 with _ | o252
                        · skip
                          refine gsw_i (vx_runSW (g := F0 m 339 ls [.int (nI j199), .ref (ad 0 0)]) (As := [.ref (ad 0 0), .int (nI j199)]) (rest := []) ⟨hx, hb, hml, hown, hta⟩ (c_L_lotOfX l hl0 hR hW hj200 h251) (vx_cwSW 2 hta (gWSW mw634 mw635 mw39 mw636) rfl rfl rfl (by decide +kernel) ⟨Nat.le_of_ble_eq_true rfl, Nat.le_of_ble_eq_true rfl⟩) (gPreW hX hQ hK hP hD hS hA) rfl rfl hl.1 rfl (lv_room (Nat.le_of_ble_eq_true rfl)) dL_traced_339 ⟨(by show ce202 + 1 ≤ 90; omega), (by show sl203 + 6 ≤ 540; omega)⟩) hD hS hA (fun r253 u H locs c254 hR hP hD hS => ?_)
                          obtain ⟨S9, ad9, L9, f⟩ := u
                          obtain ⟨rfl, rfl, rfl, rfl⟩ := c254
                          dsimp only at hR hP hD
                          refine lv_if_lt (tgt := 356) hx hb dL_traced_342 (by decide) (fun c255 => ?_) (fun c255 => ?_)
                          · skip
                            refine lv_iinc (v := nI (j199 + 1)) (lv' := [(4, .int (nI (j199 + 1))), (5, .int (sI S 53 j199)), (3, .int ((bck S j199) + (lin S j199))), (0, .ref (ad 0 0)), (1, .int (nI (sN S 3 0))), (2, .int (fwd S (sN S 2 0)))]) hx hb dL_traced_356 hl (k := 5) rfl (nI_1 _) (by decide) rfl (fun ls hl => ?_)
                            refine lv_goto (tgt := 226) hx hb dL_traced_359 (by decide) ?_
                            refine ih201 (_, _, f, ls, _, _) ⟨hP, hD, hS, hR, ?_, ?_, ?_⟩
                            · (try dsimp only); omega
                            · (try dsimp only); omega
                            · skip
                              have a8 : bck S ((j199 + 1)) = (bck S j199) + (lin S j199) := rfl
                              dsimp only; rw [a8]
                              exact lv_sub hl [3, 4, 5, 2, 0] rfl
                          · exact absurd (by decide) c255
                        · skip
                          refine vp_callSi (run_of (vx_runSW (g := F0 m 339 ls [.int (nI j199), .ref (ad 0 0)]) (As := [.ref (ad 0 0), .int (nI j199)]) (rest := []) ⟨hx, hb, hml, hown, hta⟩ (c_L_lotOf l hR hW hj200 h251) (vx_cwSW 2 hta (gWSW mw634 mw635 mw39 mw636) rfl rfl rfl (by decide +kernel) ⟨Nat.le_of_ble_eq_true rfl, Nat.le_of_ble_eq_true rfl⟩) (gPreB hK hP hD) rfl rfl hl.1 rfl (lv_room (Nat.le_of_ble_eq_true rfl)) dL_traced_339 ⟨(by show ce202 + 0 ≤ 90; omega), (by show sl203 + 0 ≤ 540; omega)⟩)) (fun r256 c257 => ?_)
                          obtain rfl := c257
                          refine lv_if_lt (tgt := 356) hx hb dL_traced_342 (by decide) (fun c258 => ?_) (fun c258 => ?_)
                          · exact absurd c258 (nI_pos (by have := hW.jlot hj200 h251; have := hW.nL; omega))
                          · skip
                            refine lv_aload_n hx hb dL_traced_345 rfl (lv_at hl 2 rfl) ?_
                            refine lv_iload hx hb dL_traced_346 (lv_at hl 5 rfl) ?_
                            refine vp_callSi (run_of (vx_runSW (g := F0 m 348 ls [.int (nI j199), .ref (ad 0 0)]) (As := [.ref (ad 0 0), .int (nI j199)]) (rest := []) ⟨hx, hb, hml, hown, hta⟩ (c_L_finishedAt l hR hW hj200 (to_f hI hj200 h251)) (vx_cwSW 2 hta (gWSW mw650 mw651 mw39 mw652) rfl rfl rfl (by decide +kernel) ⟨Nat.le_of_ble_eq_true rfl, Nat.le_of_ble_eq_true rfl⟩) (gPreB hK hP hD) rfl rfl hl.1 rfl (lv_room (Nat.le_of_ble_eq_true rfl)) dL_traced_348 ⟨(by show ce202 + 0 ≤ 90; omega), (by show sl203 + 0 ≤ 540; omega)⟩)) (fun r259 c260 => ?_)
                            obtain rfl := c260
                            refine lv_if_ge (tgt := 356) hx hb dL_traced_351 (by decide) (fun c261 => ?_) (fun c261 => ?_)
                            · skip
                              refine lv_iinc (v := nI (j199 + 1)) (lv' := [(4, .int (nI (j199 + 1))), (5, .int (sI S 53 j199)), (3, .int ((bck S j199) + (lin S j199))), (0, .ref (ad 0 0)), (1, .int (nI (sN S 3 0))), (2, .int (fwd S (sN S 2 0)))]) hx hb dL_traced_356 hl (k := 5) rfl (nI_1 _) (by decide) rfl (fun ls hl => ?_)
                              refine lv_goto (tgt := 226) hx hb dL_traced_359 (by decide) ?_
                              refine ih201 (_, _, f, ls, _, _) ⟨hP, hD, hS, hR, ?_, ?_, ?_⟩
                              · (try dsimp only); omega
                              · (try dsimp only); omega
                              · skip
                                have a8 : bck S ((j199 + 1)) = (bck S j199) + (lin S j199) := rfl
                                dsimp only; rw [a8]
                                exact lv_sub hl [3, 4, 5, 2, 0] rfl
                            · exact absurd (to_g hI hj200 h251) c261
                      · skip
                        refine lv_iload hx hb dL_traced_316 (lv_at hl 0 rfl) ?_
                        refine lv_bipush (v := 100) hx hb dL_traced_318 (by decide) ?_
                        refine lv_icmp_eq (tgt := 336) hx hb dL_traced_320 (by decide) (fun c262 => ?_) (fun c262 => ?_)
                        · skip
                          refine lv_aload_n hx hb dL_traced_336 rfl (lv_at hl 2 rfl) ?_
                          refine lv_iload hx hb dL_traced_337 (lv_at hl 5 rfl) ?_
                          rcases h263 : sR S 4 j199 with _ | o264
                          · skip
                            refine gsw_i (vx_runSW (g := F0 m 339 ls [.int (nI j199), .ref (ad 0 0)]) (As := [.ref (ad 0 0), .int (nI j199)]) (rest := []) ⟨hx, hb, hml, hown, hta⟩ (c_L_lotOfX l hl0 hR hW hj200 h263) (vx_cwSW 2 hta (gWSW mw634 mw635 mw39 mw636) rfl rfl rfl (by decide +kernel) ⟨Nat.le_of_ble_eq_true rfl, Nat.le_of_ble_eq_true rfl⟩) (gPreW hX hQ hK hP hD hS hA) rfl rfl hl.1 rfl (lv_room (Nat.le_of_ble_eq_true rfl)) dL_traced_339 ⟨(by show ce202 + 1 ≤ 90; omega), (by show sl203 + 6 ≤ 540; omega)⟩) hD hS hA (fun r265 u H locs c266 hR hP hD hS => ?_)
                            obtain ⟨S9, ad9, L9, f⟩ := u
                            obtain ⟨rfl, rfl, rfl, rfl⟩ := c266
                            dsimp only at hR hP hD
                            refine lv_if_lt (tgt := 356) hx hb dL_traced_342 (by decide) (fun c267 => ?_) (fun c267 => ?_)
                            · skip
                              refine lv_iinc (v := nI (j199 + 1)) (lv' := [(4, .int (nI (j199 + 1))), (5, .int (sI S 53 j199)), (3, .int ((bck S j199) + (lin S j199))), (0, .ref (ad 0 0)), (1, .int (nI (sN S 3 0))), (2, .int (fwd S (sN S 2 0)))]) hx hb dL_traced_356 hl (k := 5) rfl (nI_1 _) (by decide) rfl (fun ls hl => ?_)
                              refine lv_goto (tgt := 226) hx hb dL_traced_359 (by decide) ?_
                              refine ih201 (_, _, f, ls, _, _) ⟨hP, hD, hS, hR, ?_, ?_, ?_⟩
                              · (try dsimp only); omega
                              · (try dsimp only); omega
                              · skip
                                have a8 : bck S ((j199 + 1)) = (bck S j199) + (lin S j199) := rfl
                                dsimp only; rw [a8]
                                exact lv_sub hl [3, 4, 5, 2, 0] rfl
                            · exact absurd (by decide) c267
                          · skip
                            refine vp_callSi (run_of (vx_runSW (g := F0 m 339 ls [.int (nI j199), .ref (ad 0 0)]) (As := [.ref (ad 0 0), .int (nI j199)]) (rest := []) ⟨hx, hb, hml, hown, hta⟩ (c_L_lotOf l hR hW hj200 h263) (vx_cwSW 2 hta (gWSW mw634 mw635 mw39 mw636) rfl rfl rfl (by decide +kernel) ⟨Nat.le_of_ble_eq_true rfl, Nat.le_of_ble_eq_true rfl⟩) (gPreB hK hP hD) rfl rfl hl.1 rfl (lv_room (Nat.le_of_ble_eq_true rfl)) dL_traced_339 ⟨(by show ce202 + 0 ≤ 90; omega), (by show sl203 + 0 ≤ 540; omega)⟩)) (fun r268 c269 => ?_)
                            obtain rfl := c269
                            refine lv_if_lt (tgt := 356) hx hb dL_traced_342 (by decide) (fun c270 => ?_) (fun c270 => ?_)
                            · exact absurd c270 (nI_pos (by have := hW.jlot hj200 h263; have := hW.nL; omega))
                            · skip
                              refine lv_aload_n hx hb dL_traced_345 rfl (lv_at hl 2 rfl) ?_
                              refine lv_iload hx hb dL_traced_346 (lv_at hl 5 rfl) ?_
                              refine vp_callSi (run_of (vx_runSW (g := F0 m 348 ls [.int (nI j199), .ref (ad 0 0)]) (As := [.ref (ad 0 0), .int (nI j199)]) (rest := []) ⟨hx, hb, hml, hown, hta⟩ (c_L_finishedAt l hR hW hj200 (to_f hI hj200 h263)) (vx_cwSW 2 hta (gWSW mw650 mw651 mw39 mw652) rfl rfl rfl (by decide +kernel) ⟨Nat.le_of_ble_eq_true rfl, Nat.le_of_ble_eq_true rfl⟩) (gPreB hK hP hD) rfl rfl hl.1 rfl (lv_room (Nat.le_of_ble_eq_true rfl)) dL_traced_348 ⟨(by show ce202 + 0 ≤ 90; omega), (by show sl203 + 0 ≤ 540; omega)⟩)) (fun r271 c272 => ?_)
                              obtain rfl := c272
                              refine lv_if_ge (tgt := 356) hx hb dL_traced_351 (by decide) (fun c273 => ?_) (fun c273 => ?_)
                              · skip
                                refine lv_iinc (v := nI (j199 + 1)) (lv' := [(4, .int (nI (j199 + 1))), (5, .int (sI S 53 j199)), (3, .int ((bck S j199) + (lin S j199))), (0, .ref (ad 0 0)), (1, .int (nI (sN S 3 0))), (2, .int (fwd S (sN S 2 0)))]) hx hb dL_traced_356 hl (k := 5) rfl (nI_1 _) (by decide) rfl (fun ls hl => ?_)
                                refine lv_goto (tgt := 226) hx hb dL_traced_359 (by decide) ?_
                                refine ih201 (_, _, f, ls, _, _) ⟨hP, hD, hS, hR, ?_, ?_, ?_⟩
                                · (try dsimp only); omega
                                · (try dsimp only); omega
                                · skip
                                  have a8 : bck S ((j199 + 1)) = (bck S j199) + (lin S j199) := rfl
                                  dsimp only; rw [a8]
                                  exact lv_sub hl [3, 4, 5, 2, 0] rfl
                              · exact absurd (to_g hI hj200 h263) c273
                        · exact absurd c242 c262
      · skip
        obtain ⟨H, locs, f, ls, ce202, sl203⟩ := z
        obtain ⟨hP, hD, hS, hR, hce204, hsl205, hl⟩ := hz
        dsimp only at hP hD hS hR hl hce204 hsl205 ⊢
        have hn9 := hW.nO
        refine lv_iload hx hb dL_traced_226 (lv_at hl 4 rfl) ?_
        refine lv_iload_n hx hb dL_traced_228 rfl (lv_at hl 1 rfl) ?_
        refine lv_icmp_ge (tgt := 362) hx hb dL_traced_229 (by decide) (fun c274 => ?_) (fun c274 => ?_)
        · skip
          refine lv_iload_n hx hb dL_traced_362 rfl (lv_at hl 2 rfl) ?_
          refine lv_iload_n hx hb dL_traced_363 rfl (lv_at hl 3 rfl) ?_
          refine lv_icmp_ne (tgt := 371) hx hb dL_traced_364 (by decide) (fun c275 => ?_) (fun c275 => ?_)
          · exact absurd c275 (fun q => q (fwd_bck hI))
          · skip
            refine lv_iconst (v := 1) hx hb dL_traced_367 (by decide) ?_
            refine lv_goto (tgt := 372) hx hb dL_traced_368 (by decide) ?_
            refine W.widen (k := 90) (n := 540) (by have := hW.nO; omega) (by have := hW.nO; omega) ?_
            exact W.zret (v := 1) (ty := .boolean) hx hb hr (by decide) (fun t ht hWm => gend_i (u := (S, ad, L, f)) ⟨rfl, rfl, rfl, rfl⟩ hR hP hK hD hS ht hWm) hS.2.2 dL_traced_372
        · exact absurd (nI_le (a := sN S 3 0) (b := sN S 3 0) (Nat.le_refl _) (by have := hW.nO; omega)) c274
    · exact absurd (nI_le (a := sN S 2 0) (b := sN S 2 0) (Nat.le_refl _) (by have := hW.nL; omega)) c198

