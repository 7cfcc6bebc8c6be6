/-! a turn of the law: a promise (made by wip/gen/spec_z2.py) -/
set_option maxHeartbeats 8000000 in
set_option maxRecDepth 100000 in
/-- A PROMISE IS TRIED, AND TAKEN BACK OR LEFT -/
theorem lb_promise {p : Program} {e : Env} {s : State} {m : MethodId} {below : List Frame} {meth : Method} {c : Code} (l : Launch) {b Ln : Nat} {xs : Nat → Int32} {A : Nat → Prop} {D : va_G} {tA : Nat → ClassId} (C : LwC p l s m meth c b Ln xs A D tA) {S : St} {ad : Nat → Nat → Nat} {L : List Nat} {f : Nat → va_E} {H : Heap} {locs : List Loc} {ls : Array Slot} {cells slots : Nat} (hR : Rep tA S ad L f) (hP : va_P D vwCl (va_pl L f) H) (hD : va_D A (va_pl L f)) (hS : va_S A s.heap H locs) {tu qq lo : Nat} (hT : TI S tu) (htu : tu < 60) (hc : cells + 800 ≤ 621943) (hsl : slots + 4000 ≤ 7227368) (hl : lv_has ls 19 [(0, .ref b), (1, .ref (ad 0 0)), (2, .int (nI (sN S 3 0))), (3, .int (nI (sN S 0 0))), (4, .int (sI S 2 0)), (5, .long (sJ S 1 0)), (7, .int (nI tu)), (8, .int (nI (40 + 5 * tu))), (10, .int (nI qq)), (11, .int (nI lo))]) (kk : ∀ (T : St) (ad : Nat → Nat → Nat) (L : List Nat) (f : Nat → va_E) (H : Heap) (locs : List Loc) (ls : Array Slot) (ce sl : Nat), TI T (tu + 1) → Rep tA T ad L f → va_P D vwCl (va_pl L f) H → va_D A (va_pl L f) → va_S A s.heap H locs → lv_has ls 19 [(0, .ref b), (1, .ref (ad 0 0)), (2, .int (nI (sN T 3 0))), (3, .int (nI (sN T 0 0))), (4, .int (sI T 2 0)), (5, .long (sJ T 1 0)), (7, .int (nI tu))] → ce ≤ cells + 800 → sl ≤ slots + 4000 → W p l e room_1 s m #[Value.ref b] below meth c H locs ce sl (lw_Z below #[Value.ref b] s) (F0 m 1344 ls [])) (hqq : qq < sN S 3 0) (h45 : sI S 53 qq = 45) : W p l e room_1 s m #[Value.ref b] below meth c H locs cells slots (lw_Z below #[Value.ref b] s) (F0 m 688 ls []) := by
  obtain ⟨C0, hL, hA, hA2, hX, hQ, hK, hl0⟩ := id C
  obtain ⟨hx, hb, hr, hml, hown0, hts, hXs, hbl, hlocks, hgv⟩ := id C0
  have hta : ∀ w ∈ WA, w.before #[Value.ref b] s = true := fun w h => hts w (WA_in w h)
  have hown : s.vm.findClass RL = some m.cls := hown0
  have hbA : ¬ A b := fun h => absurd (hA2 b h) (Nat.not_le.mpr hbl)
  have hW := hT.1.1.1
  refine lv_bipush (v := 100) hx hb dL_law_688 (by decide) ?_
  refine a_new hx hb (hta _ mw551) hK hP hD hS hA (by show cells + 1 ≤ 621943; omega) (by show slots + 100 ≤ 7227368; omega) dL_law_690 (fun aq cA H hP hD hS hG hKa haq hAq => ?_)
  refine lv_astore (lv' := [(12, .ref aq), (0, .ref b), (1, .ref (ad 0 0)), (2, .int (nI (sN S 3 0))), (3, .int (nI (sN S 0 0))), (4, .int (sI S 2 0)), (5, .long (sJ S 1 0)), (7, .int (nI tu)), (8, .int (nI (40 + 5 * tu))), (10, .int (nI qq)), (11, .int (nI lo))]) hx hb dL_law_692 hl (by decide) rfl (fun ls hl => ?_)
  refine lv_iconst (v := 0) hx hb dL_law_694 (by decide) ?_
  refine lv_istore (lv' := [(13, .int 0), (12, .ref aq), (0, .ref b), (1, .ref (ad 0 0)), (2, .int (nI (sN S 3 0))), (3, .int (nI (sN S 0 0))), (4, .int (sI S 2 0)), (5, .long (sJ S 1 0)), (7, .int (nI tu)), (8, .int (nI (40 + 5 * tu))), (10, .int (nI qq)), (11, .int (nI lo))]) hx hb dL_law_695 hl (by decide) rfl (fun ls hl => ?_)
  rw [← arF_0 S] at hG
  refine loop_g (σ := Heap × List Loc × Array Slot) (Wg := fun z => W p l e _ s m _ below meth c z.1 z.2.1 _ _ _ (F0 m 697 z.2.2 [])) (sN S 2 0) (fun j1 z => va_P D vwCl (va_pl L f) z.1 ∧ va_S A s.heap z.1 z.2.1 ∧ aG D aq cA (arF S j1) z.1 ∧ lv_has z.2.2 19 [(0, .ref b), (1, .ref (ad 0 0)), (2, .int (nI (sN S 3 0))), (3, .int (nI (sN S 0 0))), (4, .int (sI S 2 0)), (5, .long (sJ S 1 0)), (7, .int (nI tu)), (8, .int (nI (40 + 5 * tu))), (10, .int (nI qq)), (11, .int (nI lo)), (12, .ref aq), (13, .int (nI j1))]) (fun j1 hj2 ih3 z hz => ?_) (fun z hz => ?_) (_, _, ls) ⟨hP, hS, hG, lv_sub hl [2, 3, 4, 5, 6, 7, 8, 9, 10, 11, 1, 0] rfl⟩
  · skip
    obtain ⟨H, locs, ls⟩ := z
    obtain ⟨hP, hS, hG, hl⟩ := hz
    dsimp only at hP hS hG hl ⊢
    refine lv_iload hx hb dL_law_697 (lv_at hl 11 rfl) ?_
    refine lv_aload_n hx hb dL_law_699 rfl (lv_at hl 1 rfl) ?_
    obtain ⟨q4, e5⟩ := cell_0 hR (rfl : (0 : Nat) = 0)
    refine gro_i (ci := 12) (As := []) (rest := [.int (nI j1)]) ⟨hx, hb, hml, hown, hta⟩ (c_X10_lots l hR ) (cwV 0 hta (gWV mw110 mw111 mw112 mw40 mw113) rfl rfl rfl (by decide +kernel) ⟨Nat.le_of_ble_eq_true rfl, Nat.le_of_ble_eq_true rfl⟩) hK hP hD rfl e5 rfl hl.1 rfl (Nat.le_of_ble_eq_true rfl) dL_law_700 ⟨(by show cells + 1 + 0 ≤ 621943; omega), (by show slots + 100 + 0 ≤ 7227368; omega)⟩ (fun r6 c7 => ?_)
    obtain rfl := c7
    refine lv_icmp_ge (tgt := 723) hx hb dL_law_703 (by decide) (fun c8 => ?_) (fun c8 => ?_)
    · exact absurd c8 (nI_ge (a := j1) (b := sN S 2 0) hj2 (by have := hW.nL; omega))
    · skip
      refine lv_aload hx hb dL_law_706 (lv_at hl 10 rfl) ?_
      refine lv_iload hx hb dL_law_708 (lv_at hl 11 rfl) ?_
      refine lv_aload_n hx hb dL_law_710 rfl (lv_at hl 1 rfl) ?_
      refine lv_iload hx hb dL_law_711 (lv_at hl 11 rfl) ?_
      refine vp_callSi (run_of (vx_runSW (g := F0 m 713 ls [.int (nI j1), .ref (ad 0 0), .int (nI j1), .ref aq]) (As := [.ref (ad 0 0), .int (nI j1)]) (rest := [.int (nI j1), .ref aq]) ⟨hx, hb, hml, hown, hta⟩ (c_L_reserved l hR hW hj2) (vx_cwSW 2 hta (gWSW mw484 mw485 mw39 mw486) rfl rfl rfl (by decide +kernel) ⟨Nat.le_of_ble_eq_true rfl, Nat.le_of_ble_eq_true rfl⟩) (gPreB hK hP hD) rfl rfl hl.1 rfl (lv_room (Nat.le_of_ble_eq_true rfl)) dL_law_713 ⟨(by show cells + 1 + 0 ≤ 621943; omega), (by show slots + 100 + 0 ≤ 7227368; omega)⟩)) (fun r9 c10 => ?_)
      obtain rfl := c10
      refine a_st hx hb hKa hP hD hS hG haq hAq (j := j1) (by have := hW.nL; omega) dL_law_716 (fun H locs hP hS hG => ?_)
      rw [arF_s] at hG
      refine lv_iinc (v := nI (j1 + 1)) (lv' := [(13, .int (nI (j1 + 1))), (0, .ref b), (1, .ref (ad 0 0)), (2, .int (nI (sN S 3 0))), (3, .int (nI (sN S 0 0))), (4, .int (sI S 2 0)), (5, .long (sJ S 1 0)), (7, .int (nI tu)), (8, .int (nI (40 + 5 * tu))), (10, .int (nI qq)), (11, .int (nI lo)), (12, .ref aq)]) hx hb dL_law_717 hl (k := 11) rfl (nI_1 _) (by decide) rfl (fun ls hl => ?_)
      refine lv_goto (tgt := 697) hx hb dL_law_720 (by decide) ?_
      exact ih3 (_, _, ls) ⟨hP, hS, hG, lv_sub hl [1, 2, 3, 4, 5, 6, 7, 8, 9, 10, 11, 0] rfl⟩
  · skip
    obtain ⟨H, locs, ls⟩ := z
    obtain ⟨hP, hS, hG, hl⟩ := hz
    dsimp only at hP hS hG hl ⊢
    refine lv_iload hx hb dL_law_697 (lv_at hl 11 rfl) ?_
    refine lv_aload_n hx hb dL_law_699 rfl (lv_at hl 1 rfl) ?_
    obtain ⟨q11, e12⟩ := cell_0 hR (rfl : (0 : Nat) = 0)
    refine gro_i (ci := 12) (As := []) (rest := [.int (nI (sN S 2 0))]) ⟨hx, hb, hml, hown, hta⟩ (c_X10_lots l hR ) (cwV 0 hta (gWV mw110 mw111 mw112 mw40 mw113) rfl rfl rfl (by decide +kernel) ⟨Nat.le_of_ble_eq_true rfl, Nat.le_of_ble_eq_true rfl⟩) hK hP hD rfl e12 rfl hl.1 rfl (Nat.le_of_ble_eq_true rfl) dL_law_700 ⟨(by show cells + 1 + 0 ≤ 621943; omega), (by show slots + 100 + 0 ≤ 7227368; omega)⟩ (fun r13 c14 => ?_)
    obtain rfl := c14
    refine lv_icmp_ge (tgt := 723) hx hb dL_law_703 (by decide) (fun c15 => ?_) (fun c15 => ?_)
    · skip
      refine lv_aload_n hx hb dL_law_723 rfl (lv_at hl 1 rfl) ?_
      refine lv_bipush (v := 112) hx hb dL_law_724 (by decide) ?_
      refine lv_iload hx hb dL_law_726 (lv_at hl 8 rfl) ?_
      refine lv_iconst (v := 0) hx hb dL_law_728 (by decide) ?_
      rcases Decidable.em (sI S 20 (sN S 7 qq) = 0) with hm | hm
      · skip
        refine gsw_i (vx_runSW (g := F0 m 729 ls [.int 0, .int (nI qq), .int 112, .ref (ad 0 0)]) (As := [.ref (ad 0 0), .int 112, .int (nI qq), .int 0]) (rest := []) ⟨hx, hb, hml, hown, hta⟩ (c_L_isPX l hl0 hR hW hqq 0 (fun z => z.1 hm)) (vx_cwSW 4 hta (gWSW mw672 mw673 mw39 mw674) rfl rfl rfl (by decide +kernel) ⟨Nat.le_of_ble_eq_true rfl, Nat.le_of_ble_eq_true rfl⟩) (gPreW hX hQ hK hP hD hS hA) rfl rfl hl.1 rfl (lv_room (Nat.le_of_ble_eq_true rfl)) dL_law_729 ⟨(by show cells + 1 + 1 ≤ 621943; omega), (by show slots + 100 + 6 ≤ 7227368; omega)⟩) hD hS hA (fun r16 u H locs c17 hR hP hD hS => ?_)
        obtain ⟨T, ad9, L9, f⟩ := u
        dsimp only at c17 hR hP hD
        obtain ⟨rfl, rfl, rfl, rfl⟩ := c17
        refine lv_iconst (v := 1) hx hb dL_law_732 (by decide) ?_
        refine lv_icmp_ne (tgt := 855) hx hb dL_law_733 (by decide) (fun c18 => ?_) (fun c18 => ?_)
        · skip
          refine lv_goto (tgt := 1085) hx hb dL_law_855 (by decide) ?_
          have hTn : TI S (tu + 1) := hT.same
          have hl : lv_has ls 19 [(0, .ref b), (1, .ref (ad 0 0)), (2, .int (nI (sN S 3 0))), (3, .int (nI (sN S 0 0))), (4, .int (sI S 2 0)), (5, .long (sJ S 1 0)), (7, .int (nI tu))] := by
            exact lv_sub hl [0, 1, 2, 3, 4, 5, 6] rfl
          refine lw_check l C (tu := tu) hTn.1 hR hP hD hS hTn.2.1 hTn.2.2.1 (by have := hTn.2.2.2.1; omega) hl (by (try dsimp only); omega) (by (try dsimp only); omega) (fun H locs f ls ce9 sl9 hP hD hS hR hl hc9 hs9 => ?_)
          exact kk _ _ _ _ _ _ _ _ _ hTn hR hP hD hS hl (by omega) (by omega)
        · exact absurd c18 (by decide)
      · skip
        refine gsw_iA (vx_runSW (g := F0 m 729 ls [.int 0, .int (nI qq), .int 112, .ref (ad 0 0)]) (As := [.ref (ad 0 0), .int 112, .int (nI qq), .int 0]) (rest := []) ⟨hx, hb, hml, hown, hta⟩ (c_L_isP l hl0 hR hW hqq 0 hm h45) (vx_cwSW 4 hta (gWSW mw672 mw673 mw39 mw674) rfl rfl rfl (by decide +kernel) ⟨Nat.le_of_ble_eq_true rfl, Nat.le_of_ble_eq_true rfl⟩) (gPreW hX hQ hK hP hD hS hA) rfl rfl hl.1 rfl (lv_room (Nat.le_of_ble_eq_true rfl)) dL_law_729 ⟨(by show cells + 1 + 0 ≤ 621943; omega), (by show slots + 100 + 0 ≤ 7227368; omega)⟩) hD hS hA hG haq (fun r19 u H locs c20 hR hP hD hS hG => ?_)
        obtain ⟨T, ad9, L9, f⟩ := u
        dsimp only at c20 hR hP hD
        obtain ⟨rfl, rfl, rfl, rfl⟩ := c20
        rcases hT.1.promise hqq h45 hm with ⟨e1, e2⟩ | ⟨e1, hI9, h112, hPF, hoth, hbk, hv9⟩
        · rw [e1]
          rw [e2] at hR
          refine W.eq (g2 := F0 m 732 ls [.int 0]) rfl ?_
          refine lv_iconst (v := 1) hx hb dL_law_732 (by decide) ?_
          refine lv_icmp_ne (tgt := 855) hx hb dL_law_733 (by decide) (fun c21 => ?_) (fun c21 => ?_)
          · skip
            refine lv_goto (tgt := 1085) hx hb dL_law_855 (by decide) ?_
            have hTn : TI S (tu + 1) := hT.same
            have hl : lv_has ls 19 [(0, .ref b), (1, .ref (ad 0 0)), (2, .int (nI (sN S 3 0))), (3, .int (nI (sN S 0 0))), (4, .int (sI S 2 0)), (5, .long (sJ S 1 0)), (7, .int (nI tu))] := by
              exact lv_sub hl [0, 1, 2, 3, 4, 5, 6] rfl
            refine lw_check l C (tu := tu) hTn.1 hR hP hD hS hTn.2.1 hTn.2.2.1 (by have := hTn.2.2.2.1; omega) hl (by (try dsimp only); omega) (by (try dsimp only); omega) (fun H locs f ls ce9 sl9 hP hD hS hR hl hc9 hs9 => ?_)
            exact kk _ _ _ _ _ _ _ _ _ hTn hR hP hD hS hl (by omega) (by omega)
          · exact absurd c21 (by decide)
        · rw [e1]
          refine W.eq (g2 := F0 m 732 ls [.int 1]) rfl ?_
          have hn9 : sN (raS S qq) 2 0 = sN S 2 0 := by rw [hPF.1]
          have ho9 : qq < sN (raS S qq) 3 0 := by rw [hPF.1]; exact hqq
          have hk9 := keep_PF hPF
          refine lv_iconst (v := 1) hx hb dL_law_732 (by decide) ?_
          refine lv_icmp_ne (tgt := 855) hx hb dL_law_733 (by decide) (fun c22 => ?_) (fun c22 => ?_)
          · exact absurd c22 (fun q => q rfl)
          · skip
            refine lv_aload_n hx hb dL_law_736 rfl (lv_at hl 0 rfl) ?_
            refine lv_iload hx hb dL_law_737 (lv_at hl 7 rfl) ?_
            refine lv_iconst (v := 3) hx hb dL_law_739 (by decide) ?_
            refine lv_iadd hx hb dL_law_740 ?_
            refine lv_topi (fun x23 ex23 => ?_)
            obtain rfl : x23 = nI (40 + 5 * tu + 3) := ex23.trans (nI_add (40 + 5 * tu) 3)
            refine lv_iconst (v := 2) hx hb dL_law_741 (by decide) ?_
            refine vp_callSi (run_of (va_runS (g := F0 m 742 ls [.int 2, .int (nI (40 + 5 * tu + 3)), .ref b]) (As := [.ref b, .int (nI (40 + 5 * tu + 3)), .int 2]) (rest := []) ⟨hx, hb, hml, hown, hta⟩ (c_L_some l (xs := xs) hL (k := 40 + 5 * tu + 3) (n := 2) (by omega) (by decide) (by decide)) (va_cwS 3 hta (gWS mw208 mw209 mw39 mw210) rfl rfl rfl (by decide +kernel) ⟨Nat.le_of_ble_eq_true rfl, Nat.le_of_ble_eq_true rfl⟩) (gPreS hXs hbl hbA hS) rfl rfl hl.1 rfl (lv_room (Nat.le_of_ble_eq_true rfl)) dL_law_742 ⟨(by show cells + 1 + 0 + 0 ≤ 621943; omega), (by show slots + 100 + 0 + 0 ≤ 7227368; omega)⟩)) (fun r24 c25 => ?_)
            obtain rfl := c25
            obtain ⟨v26, ev27, hv28⟩ : ∃ v, smV Ln xs (40 + 5 * tu + 3) 2 = v ∧ v < 2 := ⟨_, rfl, smV_lt (by decide)⟩
            rw [ev27]
            refine lv_if_ne (tgt := 855) hx hb dL_law_745 (by decide) (fun c29 => ?_) (fun c29 => ?_)
            · skip
              refine lv_goto (tgt := 1085) hx hb dL_law_855 (by decide) ?_
              have hTn : TI (raS S qq) (tu + 1) := hT.keep hI9 hk9
              have hl : lv_has ls 19 [(0, .ref b), (1, .ref (ad 0 0)), (2, .int (nI (sN (raS S qq) 3 0))), (3, .int (nI (sN (raS S qq) 0 0))), (4, .int (sI (raS S qq) 2 0)), (5, .long (sJ (raS S qq) 1 0)), (7, .int (nI tu))] := by
                rw [show nI (sN (raS S qq) 3 0) = nI (sN S 3 0) from congrArg nI hk9.1, show nI (sN (raS S qq) 0 0) = nI (sN S 0 0) from congrArg nI hk9.2.1, show sI (raS S qq) 2 0 = sI S 2 0 from hk9.2.2.2.1, show sJ (raS S qq) 1 0 = sJ S 1 0 from hk9.2.2.2.2]
                exact lv_sub hl [0, 1, 2, 3, 4, 5, 6] rfl
              refine lw_check l C (tu := tu) hTn.1 hR hP hD hS hTn.2.1 hTn.2.2.1 (by have := hTn.2.2.2.1; omega) hl (by (try dsimp only); omega) (by (try dsimp only); omega) (fun H locs f ls ce9 sl9 hP hD hS hR hl hc9 hs9 => ?_)
              exact kk _ _ _ _ _ _ _ _ _ hTn hR hP hD hS hl (by omega) (by omega)
            · skip
              refine lv_iconst (v := 0) hx hb dL_law_748 (by decide) ?_
              refine lv_istore (lv' := [(13, .int 0), (0, .ref b), (1, .ref (ad 0 0)), (2, .int (nI (sN S 3 0))), (3, .int (nI (sN S 0 0))), (4, .int (sI S 2 0)), (5, .long (sJ S 1 0)), (7, .int (nI tu)), (8, .int (nI (40 + 5 * tu))), (10, .int (nI qq)), (11, .int (nI lo)), (12, .ref aq)]) hx hb dL_law_749 hl (by decide) rfl (fun ls hl => ?_)
              refine lv_iconst (v := 0) hx hb dL_law_751 (by decide) ?_
              refine lv_istore (lv' := [(14, .int 0), (13, .int 0), (0, .ref b), (1, .ref (ad 0 0)), (2, .int (nI (sN S 3 0))), (3, .int (nI (sN S 0 0))), (4, .int (sI S 2 0)), (5, .long (sJ S 1 0)), (7, .int (nI tu)), (8, .int (nI (40 + 5 * tu))), (10, .int (nI qq)), (11, .int (nI lo)), (12, .ref aq)]) hx hb dL_law_752 hl (by decide) rfl (fun ls hl => ?_)
              refine loop_g (σ := Array Slot) (Wg := fun ls => W p l e _ s m _ below meth c _ _ _ _ _ (F0 m 754 ls [])) (sN (raS S qq) 2 0) (fun j30 ls => lv_has ls 19 [(0, .ref b), (1, .ref (ad 0 0)), (2, .int (nI (sN S 3 0))), (3, .int (nI (sN S 0 0))), (4, .int (sI S 2 0)), (5, .long (sJ S 1 0)), (7, .int (nI tu)), (8, .int (nI (40 + 5 * tu))), (10, .int (nI qq)), (11, .int (nI lo)), (12, .ref aq), (13, .int (psS S (raS S qq) j30)), (14, .int (nI j30))]) (fun j30 hj31 ih32 ls hl => ?_) (fun ls hl => ?_) ls (lv_sub hl [2, 3, 4, 5, 6, 7, 8, 9, 10, 11, 12, 1, 0] rfl)
              · skip
                refine lv_iload hx hb dL_law_754 (lv_at hl 12 rfl) ?_
                refine lv_aload_n hx hb dL_law_756 rfl (lv_at hl 1 rfl) ?_
                obtain ⟨q33, e34⟩ := cell_0 hR (rfl : (0 : Nat) = 0)
                refine gro_i (ci := 12) (As := []) (rest := [.int (nI j30)]) ⟨hx, hb, hml, hown, hta⟩ (c_X10_lots l hR ) (cwV 0 hta (gWV mw110 mw111 mw112 mw40 mw113) rfl rfl rfl (by decide +kernel) ⟨Nat.le_of_ble_eq_true rfl, Nat.le_of_ble_eq_true rfl⟩) hK hP hD rfl e34 rfl hl.1 rfl (Nat.le_of_ble_eq_true rfl) dL_law_757 ⟨(by show cells + 1 + 0 + 0 ≤ 621943; omega), (by show slots + 100 + 0 + 0 ≤ 7227368; omega)⟩ (fun r35 c36 => ?_)
                obtain rfl := c36
                refine lv_icmp_ge (tgt := 786) hx hb dL_law_760 (by decide) (fun c37 => ?_) (fun c37 => ?_)
                · exact absurd c37 (nI_ge (a := j30) (b := sN (raS S qq) 2 0) hj31 (by have := hI9.1.1.nL; omega))
                · skip
                  refine lv_iload hx hb dL_law_763 (lv_at hl 11 rfl) ?_
                  refine lv_aload_n hx hb dL_law_765 rfl (lv_at hl 1 rfl) ?_
                  refine lv_iload hx hb dL_law_766 (lv_at hl 12 rfl) ?_
                  refine vp_callSi (run_of (vx_runSW (g := F0 m 768 ls [.int (nI j30), .ref (ad 0 0), .int (psS S (raS S qq) j30)]) (As := [.ref (ad 0 0), .int (nI j30)]) (rest := [.int (psS S (raS S qq) j30)]) ⟨hx, hb, hml, hown, hta⟩ (c_L_reserved l hR hI9.1.1 hj31) (vx_cwSW 2 hta (gWSW mw484 mw485 mw39 mw486) rfl rfl rfl (by decide +kernel) ⟨Nat.le_of_ble_eq_true rfl, Nat.le_of_ble_eq_true rfl⟩) (gPreB hK hP hD) rfl rfl hl.1 rfl (lv_room (Nat.le_of_ble_eq_true rfl)) dL_law_768 ⟨(by show cells + 1 + 0 + 0 ≤ 621943; omega), (by show slots + 100 + 0 + 0 ≤ 7227368; omega)⟩)) (fun r38 c39 => ?_)
                  obtain rfl := c39
                  refine lv_aload hx hb dL_law_771 (lv_at hl 10 rfl) ?_
                  refine lv_iload hx hb dL_law_773 (lv_at hl 12 rfl) ?_
                  refine a_ld hx hb hKa hG (j := j30) (by have := hI9.1.1.nL; omega) dL_law_775 ?_
                  refine lv_topi (fun x40 ex40 => ?_)
                  obtain rfl : x40 = sI S 42 j30 := ex40.trans (arF_in (by rw [← hn9]; exact hj31))
                  refine lv_isub hx hb dL_law_776 ?_
                  refine lv_iadd hx hb dL_law_777 ?_
                  refine lv_istore (lv' := [(13, .int ((psS S (raS S qq) j30) + ((sI (raS S qq) 42 j30) - (sI S 42 j30)))), (0, .ref b), (1, .ref (ad 0 0)), (2, .int (nI (sN S 3 0))), (3, .int (nI (sN S 0 0))), (4, .int (sI S 2 0)), (5, .long (sJ S 1 0)), (7, .int (nI tu)), (8, .int (nI (40 + 5 * tu))), (10, .int (nI qq)), (11, .int (nI lo)), (12, .ref aq), (14, .int (nI j30))]) hx hb dL_law_778 hl (by decide) rfl (fun ls hl => ?_)
                  refine lv_iinc (v := nI (j30 + 1)) (lv' := [(14, .int (nI (j30 + 1))), (13, .int ((psS S (raS S qq) j30) + ((sI (raS S qq) 42 j30) - (sI S 42 j30)))), (0, .ref b), (1, .ref (ad 0 0)), (2, .int (nI (sN S 3 0))), (3, .int (nI (sN S 0 0))), (4, .int (sI S 2 0)), (5, .long (sJ S 1 0)), (7, .int (nI tu)), (8, .int (nI (40 + 5 * tu))), (10, .int (nI qq)), (11, .int (nI lo)), (12, .ref aq)]) hx hb dL_law_780 hl (k := 12) rfl (nI_1 _) (by decide) rfl (fun ls hl => ?_)
                  refine lv_goto (tgt := 754) hx hb dL_law_783 (by decide) ?_
                  refine ih32 _ ?_
                  have a8 : psS S (raS S qq) ((j30 + 1)) = (psS S (raS S qq) j30) + ((sI (raS S qq) 42 j30) - (sI S 42 j30)) := rfl
                  rw [a8]
                  exact lv_sub hl [2, 3, 4, 5, 6, 7, 8, 9, 10, 11, 12, 1, 0] rfl
              · skip
                refine lv_iload hx hb dL_law_754 (lv_at hl 12 rfl) ?_
                refine lv_aload_n hx hb dL_law_756 rfl (lv_at hl 1 rfl) ?_
                obtain ⟨q41, e42⟩ := cell_0 hR (rfl : (0 : Nat) = 0)
                refine gro_i (ci := 12) (As := []) (rest := [.int (nI (sN (raS S qq) 2 0))]) ⟨hx, hb, hml, hown, hta⟩ (c_X10_lots l hR ) (cwV 0 hta (gWV mw110 mw111 mw112 mw40 mw113) rfl rfl rfl (by decide +kernel) ⟨Nat.le_of_ble_eq_true rfl, Nat.le_of_ble_eq_true rfl⟩) hK hP hD rfl e42 rfl hl.1 rfl (Nat.le_of_ble_eq_true rfl) dL_law_757 ⟨(by show cells + 1 + 0 + 0 ≤ 621943; omega), (by show slots + 100 + 0 + 0 ≤ 7227368; omega)⟩ (fun r43 c44 => ?_)
                obtain rfl := c44
                refine lv_icmp_ge (tgt := 786) hx hb dL_law_760 (by decide) (fun c45 => ?_) (fun c45 => ?_)
                · skip
                  refine lv_aload_n hx hb dL_law_786 rfl (lv_at hl 1 rfl) ?_
                  refine lv_iload hx hb dL_law_787 (lv_at hl 8 rfl) ?_
                  refine vp_callSi (run_of (vx_runSW (g := F0 m 789 ls [.int (nI qq), .ref (ad 0 0)]) (As := [.ref (ad 0 0), .int (nI qq)]) (rest := []) ⟨hx, hb, hml, hown, hta⟩ (c_L_stateOf l hR hI9.1.1 ho9 (to_nar hI9 ho9)) (vx_cwSW 2 hta (gWSW mw627 mw628 mw39 mw629) rfl rfl rfl (by decide +kernel) ⟨Nat.le_of_ble_eq_true rfl, Nat.le_of_ble_eq_true rfl⟩) (gPreB hK hP hD) rfl rfl hl.1 rfl (lv_room (Nat.le_of_ble_eq_true rfl)) dL_law_789 ⟨(by show cells + 1 + 0 + 0 ≤ 621943; omega), (by show slots + 100 + 0 + 0 ≤ 7227368; omega)⟩)) (fun r46 c47 => ?_)
                  obtain rfl := c47
                  refine lv_bipush (v := 112) hx hb dL_law_792 (by decide) ?_
                  refine lv_icmp_ne (tgt := 819) hx hb dL_law_794 (by decide) (fun c48 => ?_) (fun c48 => ?_)
                  · exact absurd c48 (fun q => q h112)
                  · skip
                    refine lv_aload_n hx hb dL_law_797 rfl (lv_at hl 1 rfl) ?_
                    refine lv_iload hx hb dL_law_798 (lv_at hl 8 rfl) ?_
                    refine gsw_iA (vx_runSW (g := F0 m 800 ls [.int (nI qq), .ref (ad 0 0)]) (As := [.ref (ad 0 0), .int (nI qq)]) (rest := []) ⟨hx, hb, hml, hown, hta⟩ (c_L_withdraw l hl0 hR hI9.1.1 ho9 h112) (vx_cwSW 2 hta (gWSW mw552 mw553 mw39 mw554) rfl rfl rfl (by decide +kernel) ⟨Nat.le_of_ble_eq_true rfl, Nat.le_of_ble_eq_true rfl⟩) (gPreW hX hQ hK hP hD hS hA) rfl rfl hl.1 rfl (lv_room (Nat.le_of_ble_eq_true rfl)) dL_law_800 ⟨(by show cells + 1 + 0 + 0 ≤ 621943; omega), (by show slots + 100 + 0 + 0 ≤ 7227368; omega)⟩) hD hS hA hG haq (fun r49 u H locs c50 hR hP hD hS hG => ?_)
                    obtain ⟨T, ad9, L9, f⟩ := u
                    dsimp only at c50 hR hP hD
                    obtain ⟨rfl, rfl, rfl, rfl⟩ := c50
                    rw [hbk] at hR
                    refine lv_iload hx hb dL_law_803 (lv_at hl 11 rfl) ?_
                    refine lv_icmp_ne (tgt := 819) hx hb dL_law_805 (by decide) (fun c51 => ?_) (fun c51 => ?_)
                    · exact absurd c51 (fun q => q (ps_eq hT.1 hI9 hPF.1 ho9 h112 hv9))
                    · skip
                      refine lv_aload_n hx hb dL_law_808 rfl (lv_at hl 1 rfl) ?_
                      refine lv_iload hx hb dL_law_809 (lv_at hl 8 rfl) ?_
                      refine vp_callSi (run_of (vx_runSW (g := F0 m 811 ls [.int (nI qq), .ref (ad 0 0)]) (As := [.ref (ad 0 0), .int (nI qq)]) (rest := []) ⟨hx, hb, hml, hown, hta⟩ (c_L_stateOf l hR hW hqq (to_nar hT.1 hqq)) (vx_cwSW 2 hta (gWSW mw627 mw628 mw39 mw629) rfl rfl rfl (by decide +kernel) ⟨Nat.le_of_ble_eq_true rfl, Nat.le_of_ble_eq_true rfl⟩) (gPreB hK hP hD) rfl rfl hl.1 rfl (lv_room (Nat.le_of_ble_eq_true rfl)) dL_law_811 ⟨(by show cells + 1 + 0 + 0 + 0 ≤ 621943; omega), (by show slots + 100 + 0 + 0 + 0 ≤ 7227368; omega)⟩)) (fun r52 c53 => ?_)
                      obtain rfl := c53
                      refine lv_bipush (v := 45) hx hb dL_law_814 (by decide) ?_
                      refine lv_icmp_eq (tgt := 821) hx hb dL_law_816 (by decide) (fun c54 => ?_) (fun c54 => ?_)
                      · skip
                        refine lv_iconst (v := 0) hx hb dL_law_821 (by decide) ?_
                        refine lv_istore (lv' := [(14, .int 0), (0, .ref b), (1, .ref (ad 0 0)), (2, .int (nI (sN S 3 0))), (3, .int (nI (sN S 0 0))), (4, .int (sI S 2 0)), (5, .long (sJ S 1 0)), (7, .int (nI tu)), (8, .int (nI (40 + 5 * tu))), (10, .int (nI qq)), (11, .int (nI lo)), (12, .ref aq), (13, .int (psS S (raS S qq) (sN (raS S qq) 2 0)))]) hx hb dL_law_822 hl (by decide) rfl (fun ls hl => ?_)
                        refine loop_g (σ := Array Slot) (Wg := fun ls => W p l e _ s m _ below meth c _ _ _ _ _ (F0 m 824 ls [])) (sN S 2 0) (fun j55 ls => lv_has ls 19 [(0, .ref b), (1, .ref (ad 0 0)), (2, .int (nI (sN S 3 0))), (3, .int (nI (sN S 0 0))), (4, .int (sI S 2 0)), (5, .long (sJ S 1 0)), (7, .int (nI tu)), (8, .int (nI (40 + 5 * tu))), (10, .int (nI qq)), (11, .int (nI lo)), (12, .ref aq), (13, .int (psS S (raS S qq) (sN (raS S qq) 2 0))), (14, .int (nI j55))]) (fun j55 hj56 ih57 ls hl => ?_) (fun ls hl => ?_) ls (lv_sub hl [1, 2, 3, 4, 5, 6, 7, 8, 9, 10, 11, 12, 0] rfl)
                        · skip
                          refine lv_iload hx hb dL_law_824 (lv_at hl 12 rfl) ?_
                          refine lv_aload_n hx hb dL_law_826 rfl (lv_at hl 1 rfl) ?_
                          obtain ⟨q58, e59⟩ := cell_0 hR (rfl : (0 : Nat) = 0)
                          refine gro_i (ci := 12) (As := []) (rest := [.int (nI j55)]) ⟨hx, hb, hml, hown, hta⟩ (c_X10_lots l hR ) (cwV 0 hta (gWV mw110 mw111 mw112 mw40 mw113) rfl rfl rfl (by decide +kernel) ⟨Nat.le_of_ble_eq_true rfl, Nat.le_of_ble_eq_true rfl⟩) hK hP hD rfl e59 rfl hl.1 rfl (Nat.le_of_ble_eq_true rfl) dL_law_827 ⟨(by show cells + 1 + 0 + 0 + 0 ≤ 621943; omega), (by show slots + 100 + 0 + 0 + 0 ≤ 7227368; omega)⟩ (fun r60 c61 => ?_)
                          obtain rfl := c61
                          refine lv_icmp_ge (tgt := 855) hx hb dL_law_830 (by decide) (fun c62 => ?_) (fun c62 => ?_)
                          · exact absurd c62 (nI_ge (a := j55) (b := sN S 2 0) hj56 (by have := hW.nL; omega))
                          · skip
                            refine lv_aload_n hx hb dL_law_833 rfl (lv_at hl 1 rfl) ?_
                            refine lv_iload hx hb dL_law_834 (lv_at hl 12 rfl) ?_
                            refine vp_callSi (run_of (vx_runSW (g := F0 m 836 ls [.int (nI j55), .ref (ad 0 0)]) (As := [.ref (ad 0 0), .int (nI j55)]) (rest := []) ⟨hx, hb, hml, hown, hta⟩ (c_L_reserved l hR hW hj56) (vx_cwSW 2 hta (gWSW mw484 mw485 mw39 mw486) rfl rfl rfl (by decide +kernel) ⟨Nat.le_of_ble_eq_true rfl, Nat.le_of_ble_eq_true rfl⟩) (gPreB hK hP hD) rfl rfl hl.1 rfl (lv_room (Nat.le_of_ble_eq_true rfl)) dL_law_836 ⟨(by show cells + 1 + 0 + 0 + 0 ≤ 621943; omega), (by show slots + 100 + 0 + 0 + 0 ≤ 7227368; omega)⟩)) (fun r63 c64 => ?_)
                            obtain rfl := c64
                            refine lv_aload hx hb dL_law_839 (lv_at hl 10 rfl) ?_
                            refine lv_iload hx hb dL_law_841 (lv_at hl 12 rfl) ?_
                            refine a_ld hx hb hKa hG (j := j55) (by have := hW.nL; omega) dL_law_843 ?_
                            refine lv_topi (fun x65 ex65 => ?_)
                            obtain rfl : x65 = sI S 42 j55 := ex65.trans (arF_in hj56)
                            refine lv_icmp_eq (tgt := 849) hx hb dL_law_844 (by decide) (fun c66 => ?_) (fun c66 => ?_)
                            · skip
                              refine lv_iinc (v := nI (j55 + 1)) (lv' := [(14, .int (nI (j55 + 1))), (0, .ref b), (1, .ref (ad 0 0)), (2, .int (nI (sN S 3 0))), (3, .int (nI (sN S 0 0))), (4, .int (sI S 2 0)), (5, .long (sJ S 1 0)), (7, .int (nI tu)), (8, .int (nI (40 + 5 * tu))), (10, .int (nI qq)), (11, .int (nI lo)), (12, .ref aq), (13, .int (psS S (raS S qq) (sN (raS S qq) 2 0)))]) hx hb dL_law_849 hl (k := 12) rfl (nI_1 _) (by decide) rfl (fun ls hl => ?_)
                              refine lv_goto (tgt := 824) hx hb dL_law_852 (by decide) ?_
                              refine ih57 _ ?_
                              exact lv_sub hl [1, 2, 3, 4, 5, 6, 7, 8, 9, 10, 11, 12, 0] rfl
                            · exact absurd rfl c66
                        · skip
                          refine lv_iload hx hb dL_law_824 (lv_at hl 12 rfl) ?_
                          refine lv_aload_n hx hb dL_law_826 rfl (lv_at hl 1 rfl) ?_
                          obtain ⟨q67, e68⟩ := cell_0 hR (rfl : (0 : Nat) = 0)
                          refine gro_i (ci := 12) (As := []) (rest := [.int (nI (sN S 2 0))]) ⟨hx, hb, hml, hown, hta⟩ (c_X10_lots l hR ) (cwV 0 hta (gWV mw110 mw111 mw112 mw40 mw113) rfl rfl rfl (by decide +kernel) ⟨Nat.le_of_ble_eq_true rfl, Nat.le_of_ble_eq_true rfl⟩) hK hP hD rfl e68 rfl hl.1 rfl (Nat.le_of_ble_eq_true rfl) dL_law_827 ⟨(by show cells + 1 + 0 + 0 + 0 ≤ 621943; omega), (by show slots + 100 + 0 + 0 + 0 ≤ 7227368; omega)⟩ (fun r69 c70 => ?_)
                          obtain rfl := c70
                          refine lv_icmp_ge (tgt := 855) hx hb dL_law_830 (by decide) (fun c71 => ?_) (fun c71 => ?_)
                          · skip
                            refine lv_goto (tgt := 1085) hx hb dL_law_855 (by decide) ?_
                            have hTn : TI S (tu + 1) := hT.same
                            have hl : lv_has ls 19 [(0, .ref b), (1, .ref (ad 0 0)), (2, .int (nI (sN S 3 0))), (3, .int (nI (sN S 0 0))), (4, .int (sI S 2 0)), (5, .long (sJ S 1 0)), (7, .int (nI tu))] := by
                              exact lv_sub hl [0, 1, 2, 3, 4, 5, 6] rfl
                            refine lw_check l C (tu := tu) hTn.1 hR hP hD hS hTn.2.1 hTn.2.2.1 (by have := hTn.2.2.2.1; omega) hl (by (try dsimp only); omega) (by (try dsimp only); omega) (fun H locs f ls ce9 sl9 hP hD hS hR hl hc9 hs9 => ?_)
                            exact kk _ _ _ _ _ _ _ _ _ hTn hR hP hD hS hl (by omega) (by omega)
                          · exact absurd (nI_le (a := sN S 2 0) (b := sN S 2 0) (Nat.le_refl _) (by have := hW.nL; omega)) c71
                      · exact absurd h45 c54
                · exact absurd (nI_le (a := sN (raS S qq) 2 0) (b := sN (raS S qq) 2 0) (Nat.le_refl _) (by have := hI9.1.1.nL; omega)) c45
    · exact absurd (nI_le (a := sN S 2 0) (b := sN S 2 0) (Nat.le_refl _) (by have := hW.nL; omega)) c15

