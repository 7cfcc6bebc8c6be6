/-! a turn of the law: which case (made by wip/gen/spec_z3.py) -/
theorem nI_gt0 {n : Nat} (h : ¬ nI n ≤ 0) : 0 < n := by
  cases n with
  | zero => exact absurd (by decide) h
  | succ n => omega
theorem nI_n0 {n : Nat} (h : ¬ nI n = 0) : 0 < n := by
  cases n with
  | zero => exact absurd (by decide) h
  | succ n => omega
theorem nI_z {n : Nat} (hn : n < 2 ^ 31) (h : nI n = 0) : n = 0 := (nI_eq (a := n) (b := 0) hn (by decide)).mp h
set_option maxHeartbeats 8000000 in
set_option maxRecDepth 100000 in
/-- AN ORDER IS RELEASED -/
theorem lb_release {p : Program} {e : Env} {s : State} {m : MethodId} {below : List Frame} {meth : Method} {c : Code} (l : Launch) {b Ln : Nat} {xs : Nat → Int32} {A : Nat → Prop} {D : va_G} {tA : Nat → ClassId} (C : LwC p l s m meth c b Ln xs A D tA) {S : St} {ad : Nat → Nat → Nat} {L : List Nat} {f : Nat → va_E} {H : Heap} {locs : List Loc} {ls : Array Slot} {cells slots : Nat} (hR : Rep tA S ad L f) (hP : va_P D vwCl (va_pl L f) H) (hD : va_D A (va_pl L f)) (hS : va_S A s.heap H locs) {tu qq lo : Nat} (hT : TI S tu) (htu : tu < 60) (hc : cells + 800 ≤ 621943) (hsl : slots + 4000 ≤ 7227368) (hl : lv_has ls 19 [(0, .ref b), (1, .ref (ad 0 0)), (2, .int (nI (sN S 3 0))), (3, .int (nI (sN S 0 0))), (4, .int (sI S 2 0)), (5, .long (sJ S 1 0)), (7, .int (nI tu)), (8, .int (nI (40 + 5 * tu))), (10, .int (nI qq)), (11, .int (nI lo))]) (kk : ∀ (T : St) (ad : Nat → Nat → Nat) (L : List Nat) (f : Nat → va_E) (H : Heap) (locs : List Loc) (ls : Array Slot) (ce sl : Nat), TI T (tu + 1) → Rep tA T ad L f → va_P D vwCl (va_pl L f) H → va_D A (va_pl L f) → va_S A s.heap H locs → lv_has ls 19 [(0, .ref b), (1, .ref (ad 0 0)), (2, .int (nI (sN T 3 0))), (3, .int (nI (sN T 0 0))), (4, .int (sI T 2 0)), (5, .long (sJ T 1 0)), (7, .int (nI tu))] → ce ≤ cells + 800 → sl ≤ slots + 4000 → W p l e room_1 s m #[Value.ref b] below meth c H locs ce sl (lw_Z below #[Value.ref b] s) (F0 m 1344 ls [])) (hqq : qq < sN S 3 0) : W p l e room_1 s m #[Value.ref b] below meth c H locs cells slots (lw_Z below #[Value.ref b] s) (F0 m 608 ls []) := by
  obtain ⟨C0, hL, hA, hA2, hX, hQ, hK, hl0⟩ := id C
  obtain ⟨hx, hb, hr, hml, hown0, hts, hXs, hbl, hlocks, hgv⟩ := id C0
  have hta : ∀ w ∈ WA, w.before #[Value.ref b] s = true := fun w h => hts w (WA_in w h)
  have hown : s.vm.findClass RL = some m.cls := hown0
  have hbA : ¬ A b := fun h => absurd (hA2 b h) (Nat.not_le.mpr hbl)
  have hW := hT.1.1.1
  obtain ⟨ks, vs, hE, hwR⟩ := gSt_start C0 hA2
  refine lv_aload_n hx hb dL_law_608 rfl (lv_at hl 1 rfl) ?_
  refine lv_iload hx hb dL_law_609 (lv_at hl 8 rfl) ?_
  refine vp_callSi (run_of (vx_runSW (g := F0 m 611 ls [.int (nI qq), .ref (ad 0 0)]) (As := [.ref (ad 0 0), .int (nI qq)]) (rest := []) ⟨hx, hb, hml, hown, hta⟩ (c_L_stateOf l hR hW hqq (to_nar hT.1 hqq)) (vx_cwSW 2 hta (gWSW mw627 mw628 mw39 mw629) rfl rfl rfl (by decide +kernel) ⟨Nat.le_of_ble_eq_true rfl, Nat.le_of_ble_eq_true rfl⟩) (gPreB hK hP hD) rfl rfl hl.1 rfl (lv_room (Nat.le_of_ble_eq_true rfl)) dL_law_611 ⟨(by show cells + 0 ≤ 621943; omega), (by show slots + 0 ≤ 7227368; omega)⟩)) (fun r1 c2 => ?_)
  obtain rfl := c2
  refine lv_istore (lv' := [(12, .int (sI S 53 qq)), (0, .ref b), (1, .ref (ad 0 0)), (2, .int (nI (sN S 3 0))), (3, .int (nI (sN S 0 0))), (4, .int (sI S 2 0)), (5, .long (sJ S 1 0)), (7, .int (nI tu)), (8, .int (nI (40 + 5 * tu))), (10, .int (nI qq)), (11, .int (nI lo))]) hx hb dL_law_614 hl (by decide) rfl (fun ls hl => ?_)
  refine lv_aload_n hx hb dL_law_616 rfl (lv_at hl 2 rfl) ?_
  refine lv_bipush (v := 114) hx hb dL_law_617 (by decide) ?_
  refine lv_iload hx hb dL_law_619 (lv_at hl 9 rfl) ?_
  refine lv_iconst (v := 0) hx hb dL_law_621 (by decide) ?_
  rcases Decidable.em (sI S 20 (sN S 7 qq) = 0) with hm | hm
  · skip
    refine gsw_i (vx_runSW (g := F0 m 622 ls [.int 0, .int (nI qq), .int 114, .ref (ad 0 0)]) (As := [.ref (ad 0 0), .int 114, .int (nI qq), .int 0]) (rest := []) ⟨hx, hb, hml, hown, hta⟩ (c_L_isRX l hl0 hR hW hqq 0 (fun z => z.1 hm)) (vx_cwSW 4 hta (gWSW mw672 mw673 mw39 mw674) rfl rfl rfl (by decide +kernel) ⟨Nat.le_of_ble_eq_true rfl, Nat.le_of_ble_eq_true rfl⟩) (gPreW hX hQ hK hP hD hS hA) rfl rfl hl.1 rfl (lv_room (Nat.le_of_ble_eq_true rfl)) dL_law_622 ⟨(by show cells + 1 ≤ 621943; omega), (by show slots + 6 ≤ 7227368; omega)⟩) hD hS hA (fun r3 u H locs c4 hR hP hD hS => ?_)
    obtain ⟨T, ad9, L9, f⟩ := u
    dsimp only at c4 hR hP hD
    obtain ⟨rfl, rfl, rfl, rfl⟩ := c4
    refine lv_istore (lv' := [(13, .int (-1500000)), (12, .int (sI S 53 qq)), (0, .ref b), (1, .ref (ad 0 0)), (2, .int (nI (sN S 3 0))), (3, .int (nI (sN S 0 0))), (4, .int (sI S 2 0)), (5, .long (sJ S 1 0)), (7, .int (nI tu)), (8, .int (nI (40 + 5 * tu))), (10, .int (nI qq)), (11, .int (nI lo))]) hx hb dL_law_625 hl (by decide) rfl (fun ls hl => ?_)
    refine lv_iload hx hb dL_law_627 (lv_at hl 0 rfl) ?_
    refine lv_iconst (v := 1) hx hb dL_law_629 (by decide) ?_
    refine lv_icmp_ne (tgt := 650) hx hb dL_law_630 (by decide) (fun c5 => ?_) (fun c5 => ?_)
    · skip
      refine lv_aload_n hx hb dL_law_650 rfl (lv_at hl 3 rfl) ?_
      refine lv_iload hx hb dL_law_651 (lv_at hl 10 rfl) ?_
      refine vp_callSi (run_of (vx_runSW (g := F0 m 653 ls [.int (nI qq), .ref (ad 0 0)]) (As := [.ref (ad 0 0), .int (nI qq)]) (rest := []) ⟨hx, hb, hml, hown, hta⟩ (c_L_stateOf l hR hW hqq (to_nar hT.1 hqq)) (vx_cwSW 2 hta (gWSW mw627 mw628 mw39 mw629) rfl rfl rfl (by decide +kernel) ⟨Nat.le_of_ble_eq_true rfl, Nat.le_of_ble_eq_true rfl⟩) (gPreB hK hP hD) rfl rfl hl.1 rfl (lv_room (Nat.le_of_ble_eq_true rfl)) dL_law_653 ⟨(by show cells + 1 + 0 ≤ 621943; omega), (by show slots + 6 + 0 ≤ 7227368; omega)⟩)) (fun r6 c7 => ?_)
      obtain rfl := c7
      refine lv_iload hx hb dL_law_656 (lv_at hl 1 rfl) ?_
      refine lv_icmp_eq (tgt := 663) hx hb dL_law_658 (by decide) (fun c8 => ?_) (fun c8 => ?_)
      · skip
        refine lv_goto (tgt := 1085) hx hb dL_law_663 (by decide) ?_
        have hTn : TI S (tu + 1) := hT.same
        have hl : lv_has ls 19 [(0, .ref b), (1, .ref (ad 0 0)), (2, .int (nI (sN S 3 0))), (3, .int (nI (sN S 0 0))), (4, .int (sI S 2 0)), (5, .long (sJ S 1 0)), (7, .int (nI tu))] := by
          exact lv_sub hl [2, 3, 4, 5, 6, 7, 8] rfl
        refine lw_check l C (tu := tu) hTn.1 hR hP hD hS hTn.2.1 hTn.2.2.1 (by have := hTn.2.2.2.1; omega) hl (by (try dsimp only); omega) (by (try dsimp only); omega) (fun H locs f ls ce9 sl9 hP hD hS hR hl hc9 hs9 => ?_)
        exact kk _ _ _ _ _ _ _ _ _ hTn hR hP hD hS hl (by omega) (by omega)
      · exact absurd rfl c8
    · exact absurd c5 (by decide)
  · rcases Decidable.em (sI S 53 qq = 45) with h45 | h45
    · skip
      refine gsw_i (vx_runSW (g := F0 m 622 ls [.int 0, .int (nI qq), .int 114, .ref (ad 0 0)]) (As := [.ref (ad 0 0), .int 114, .int (nI qq), .int 0]) (rest := []) ⟨hx, hb, hml, hown, hta⟩ (c_L_isR45 l hl0 hR hW hqq 0 hm h45 (hT.lots htu)) (vx_cwSW 4 hta (gWSW mw672 mw673 mw39 mw674) rfl rfl rfl (by decide +kernel) ⟨Nat.le_of_ble_eq_true rfl, Nat.le_of_ble_eq_true rfl⟩) (gPreW hX hQ hK hP hD hS hA) rfl rfl hl.1 rfl (lv_room (Nat.le_of_ble_eq_true rfl)) dL_law_622 ⟨(by show cells + 4 ≤ 621943; omega), (by show slots + 16 ≤ 7227368; omega)⟩) hD hS hA (fun r9 u H locs c10 hR hP hD hS => ?_)
      obtain ⟨T, ad9, L9, f⟩ := u
      dsimp only at c10 hR hP hD
      obtain ⟨rfl, rfl, had⟩ := c10
      have had := had 0 0 (rfl : (0 : Nat) = 0)
      rw [← had] at hl
      rcases hT.1.rel1 hqq h45 hm (hT.lots htu) with ⟨e1, e2⟩ | ⟨e1, hI9, hk9, hst⟩
      · rw [e1]
        rw [e2] at hR
        refine W.eq (g2 := F0 m 625 ls [.int 0]) rfl ?_
        refine lv_istore (lv' := [(13, .int 0), (12, .int (sI S 53 qq)), (0, .ref b), (1, .ref (ad9 0 0)), (2, .int (nI (sN S 3 0))), (3, .int (nI (sN S 0 0))), (4, .int (sI S 2 0)), (5, .long (sJ S 1 0)), (7, .int (nI tu)), (8, .int (nI (40 + 5 * tu))), (10, .int (nI qq)), (11, .int (nI lo))]) hx hb dL_law_625 hl (by decide) rfl (fun ls hl => ?_)
        refine lv_iload hx hb dL_law_627 (lv_at hl 0 rfl) ?_
        refine lv_iconst (v := 1) hx hb dL_law_629 (by decide) ?_
        refine lv_icmp_ne (tgt := 650) hx hb dL_law_630 (by decide) (fun c11 => ?_) (fun c11 => ?_)
        · skip
          refine lv_aload_n hx hb dL_law_650 rfl (lv_at hl 3 rfl) ?_
          refine lv_iload hx hb dL_law_651 (lv_at hl 10 rfl) ?_
          refine vp_callSi (run_of (vx_runSW (g := F0 m 653 ls [.int (nI qq), .ref (ad9 0 0)]) (As := [.ref (ad9 0 0), .int (nI qq)]) (rest := []) ⟨hx, hb, hml, hown, hta⟩ (c_L_stateOf l hR hW hqq (to_nar hT.1 hqq)) (vx_cwSW 2 hta (gWSW mw627 mw628 mw39 mw629) rfl rfl rfl (by decide +kernel) ⟨Nat.le_of_ble_eq_true rfl, Nat.le_of_ble_eq_true rfl⟩) (gPreB hK hP hD) rfl rfl hl.1 rfl (lv_room (Nat.le_of_ble_eq_true rfl)) dL_law_653 ⟨(by show cells + 4 + 0 ≤ 621943; omega), (by show slots + 16 + 0 ≤ 7227368; omega)⟩)) (fun r12 c13 => ?_)
          obtain rfl := c13
          refine lv_iload hx hb dL_law_656 (lv_at hl 1 rfl) ?_
          refine lv_icmp_eq (tgt := 663) hx hb dL_law_658 (by decide) (fun c14 => ?_) (fun c14 => ?_)
          · skip
            refine lv_goto (tgt := 1085) hx hb dL_law_663 (by decide) ?_
            have hTn : TI S (tu + 1) := hT.same
            have hl : lv_has ls 19 [(0, .ref b), (1, .ref (ad9 0 0)), (2, .int (nI (sN S 3 0))), (3, .int (nI (sN S 0 0))), (4, .int (sI S 2 0)), (5, .long (sJ S 1 0)), (7, .int (nI tu))] := by
              exact lv_sub hl [2, 3, 4, 5, 6, 7, 8] rfl
            refine lw_check l C (tu := tu) hTn.1 hR hP hD hS hTn.2.1 hTn.2.2.1 (by have := hTn.2.2.2.1; omega) hl (by (try dsimp only); omega) (by (try dsimp only); omega) (fun H locs f ls ce9 sl9 hP hD hS hR hl hc9 hs9 => ?_)
            exact kk _ _ _ _ _ _ _ _ _ hTn hR hP hD hS hl (by omega) (by omega)
          · exact absurd rfl c14
        · exact absurd c11 (by decide)
      · rw [e1]
        refine W.eq (g2 := F0 m 625 ls [.int 1]) rfl ?_
        have ho9 : qq < sN (rl1 S qq) 3 0 := by have : sN (rl1 S qq) 3 0 = sN S 3 0 := hk9.1; omega
        refine lv_istore (lv' := [(13, .int 1), (12, .int (sI S 53 qq)), (0, .ref b), (1, .ref (ad9 0 0)), (2, .int (nI (sN S 3 0))), (3, .int (nI (sN S 0 0))), (4, .int (sI S 2 0)), (5, .long (sJ S 1 0)), (7, .int (nI tu)), (8, .int (nI (40 + 5 * tu))), (10, .int (nI qq)), (11, .int (nI lo))]) hx hb dL_law_625 hl (by decide) rfl (fun ls hl => ?_)
        refine lv_iload hx hb dL_law_627 (lv_at hl 0 rfl) ?_
        refine lv_iconst (v := 1) hx hb dL_law_629 (by decide) ?_
        refine lv_icmp_ne (tgt := 650) hx hb dL_law_630 (by decide) (fun c15 => ?_) (fun c15 => ?_)
        · exact absurd c15 (fun q => q rfl)
        · skip
          refine va_ldcS hx hb hown hwR dL_law_633 ?_
          refine lv_aload_n hx hb dL_law_635 rfl (lv_at hl 3 rfl) ?_
          refine lv_iload hx hb dL_law_636 (lv_at hl 10 rfl) ?_
          refine vp_callSi (run_of (vx_runSW (g := F0 m 638 ls [.int (nI qq), .ref (ad9 0 0), .ref ks]) (As := [.ref (ad9 0 0), .int (nI qq)]) (rest := [.ref ks]) ⟨hx, hb, hml, hown, hta⟩ (c_L_stateOf l hR hI9.1.1 ho9 (to_nar hI9 ho9)) (vx_cwSW 2 hta (gWSW mw627 mw628 mw39 mw629) rfl rfl rfl (by decide +kernel) ⟨Nat.le_of_ble_eq_true rfl, Nat.le_of_ble_eq_true rfl⟩) (gPreB hK hP hD) rfl rfl hl.1 rfl (lv_room (Nat.le_of_ble_eq_true rfl)) dL_law_638 ⟨(by show cells + 4 + 0 ≤ 621943; omega), (by show slots + 16 + 0 ≤ 7227368; omega)⟩)) (fun r16 c17 => ?_)
          obtain rfl := c17
          rcases hst with e3 | e3 | e3
          · rw [e3]
            refine gst_i (k := ks) (v := vs) (As := [.int 119]) (rest := []) ⟨hx, hb, hml, hown, hta⟩ (s_i10 l) (cwV 1 hta (gWV mw778 mw779 mw780 mw53 mw781) rfl rfl rfl (by decide +kernel) ⟨Nat.le_of_ble_eq_true rfl, Nat.le_of_ble_eq_true rfl⟩) hE hS rfl hl.1 rfl (Nat.le_of_ble_eq_true rfl) dL_law_641 ⟨(by show cells + 4 + 0 ≤ 621943; omega), (by show slots + 16 + 0 ≤ 7227368; omega)⟩ (fun r9 c9 => ?_)
            obtain rfl := c9
            refine lv_if_ge (tgt := 663) hx hb dL_law_644 (by decide) (fun c18 => ?_) (fun c18 => ?_)
            · skip
              refine lv_goto (tgt := 1085) hx hb dL_law_663 (by decide) ?_
              have hTn : TI (rl1 S qq) (tu + 1) := hT.keep hI9 hk9
              have hl : lv_has ls 19 [(0, .ref b), (1, .ref (ad9 0 0)), (2, .int (nI (sN (rl1 S qq) 3 0))), (3, .int (nI (sN (rl1 S qq) 0 0))), (4, .int (sI (rl1 S qq) 2 0)), (5, .long (sJ (rl1 S qq) 1 0)), (7, .int (nI tu))] := by
                rw [show nI (sN (rl1 S qq) 3 0) = nI (sN S 3 0) from congrArg nI hk9.1, show nI (sN (rl1 S qq) 0 0) = nI (sN S 0 0) from congrArg nI hk9.2.1, show sI (rl1 S qq) 2 0 = sI S 2 0 from hk9.2.2.2.1, show sJ (rl1 S qq) 1 0 = sJ S 1 0 from hk9.2.2.2.2]
                exact lv_sub hl [2, 3, 4, 5, 6, 7, 8] rfl
              refine lw_check l C (tu := tu) hTn.1 hR hP hD hS hTn.2.1 hTn.2.2.1 (by have := hTn.2.2.2.1; omega) hl (by (try dsimp only); omega) (by (try dsimp only); omega) (fun H locs f ls ce9 sl9 hP hD hS hR hl hc9 hs9 => ?_)
              exact kk _ _ _ _ _ _ _ _ _ hTn hR hP hD hS hl (by omega) (by omega)
            · exact absurd (by decide) c18
          · rw [e3]
            refine gst_i (k := ks) (v := vs) (As := [.int 111]) (rest := []) ⟨hx, hb, hml, hown, hta⟩ (s_i11 l) (cwV 1 hta (gWV mw778 mw779 mw780 mw53 mw781) rfl rfl rfl (by decide +kernel) ⟨Nat.le_of_ble_eq_true rfl, Nat.le_of_ble_eq_true rfl⟩) hE hS rfl hl.1 rfl (Nat.le_of_ble_eq_true rfl) dL_law_641 ⟨(by show cells + 4 + 0 ≤ 621943; omega), (by show slots + 16 + 0 ≤ 7227368; omega)⟩ (fun r9 c9 => ?_)
            obtain rfl := c9
            refine lv_if_ge (tgt := 663) hx hb dL_law_644 (by decide) (fun c19 => ?_) (fun c19 => ?_)
            · skip
              refine lv_goto (tgt := 1085) hx hb dL_law_663 (by decide) ?_
              have hTn : TI (rl1 S qq) (tu + 1) := hT.keep hI9 hk9
              have hl : lv_has ls 19 [(0, .ref b), (1, .ref (ad9 0 0)), (2, .int (nI (sN (rl1 S qq) 3 0))), (3, .int (nI (sN (rl1 S qq) 0 0))), (4, .int (sI (rl1 S qq) 2 0)), (5, .long (sJ (rl1 S qq) 1 0)), (7, .int (nI tu))] := by
                rw [show nI (sN (rl1 S qq) 3 0) = nI (sN S 3 0) from congrArg nI hk9.1, show nI (sN (rl1 S qq) 0 0) = nI (sN S 0 0) from congrArg nI hk9.2.1, show sI (rl1 S qq) 2 0 = sI S 2 0 from hk9.2.2.2.1, show sJ (rl1 S qq) 1 0 = sJ S 1 0 from hk9.2.2.2.2]
                exact lv_sub hl [2, 3, 4, 5, 6, 7, 8] rfl
              refine lw_check l C (tu := tu) hTn.1 hR hP hD hS hTn.2.1 hTn.2.2.1 (by have := hTn.2.2.2.1; omega) hl (by (try dsimp only); omega) (by (try dsimp only); omega) (fun H locs f ls ce9 sl9 hP hD hS hR hl hc9 hs9 => ?_)
              exact kk _ _ _ _ _ _ _ _ _ hTn hR hP hD hS hl (by omega) (by omega)
            · exact absurd (by decide) c19
          · rw [e3]
            refine gst_i (k := ks) (v := vs) (As := [.int 102]) (rest := []) ⟨hx, hb, hml, hown, hta⟩ (s_i12 l) (cwV 1 hta (gWV mw778 mw779 mw780 mw53 mw781) rfl rfl rfl (by decide +kernel) ⟨Nat.le_of_ble_eq_true rfl, Nat.le_of_ble_eq_true rfl⟩) hE hS rfl hl.1 rfl (Nat.le_of_ble_eq_true rfl) dL_law_641 ⟨(by show cells + 4 + 0 ≤ 621943; omega), (by show slots + 16 + 0 ≤ 7227368; omega)⟩ (fun r9 c9 => ?_)
            obtain rfl := c9
            refine lv_if_ge (tgt := 663) hx hb dL_law_644 (by decide) (fun c20 => ?_) (fun c20 => ?_)
            · skip
              refine lv_goto (tgt := 1085) hx hb dL_law_663 (by decide) ?_
              have hTn : TI (rl1 S qq) (tu + 1) := hT.keep hI9 hk9
              have hl : lv_has ls 19 [(0, .ref b), (1, .ref (ad9 0 0)), (2, .int (nI (sN (rl1 S qq) 3 0))), (3, .int (nI (sN (rl1 S qq) 0 0))), (4, .int (sI (rl1 S qq) 2 0)), (5, .long (sJ (rl1 S qq) 1 0)), (7, .int (nI tu))] := by
                rw [show nI (sN (rl1 S qq) 3 0) = nI (sN S 3 0) from congrArg nI hk9.1, show nI (sN (rl1 S qq) 0 0) = nI (sN S 0 0) from congrArg nI hk9.2.1, show sI (rl1 S qq) 2 0 = sI S 2 0 from hk9.2.2.2.1, show sJ (rl1 S qq) 1 0 = sJ S 1 0 from hk9.2.2.2.2]
                exact lv_sub hl [2, 3, 4, 5, 6, 7, 8] rfl
              refine lw_check l C (tu := tu) hTn.1 hR hP hD hS hTn.2.1 hTn.2.2.1 (by have := hTn.2.2.2.1; omega) hl (by (try dsimp only); omega) (by (try dsimp only); omega) (fun H locs f ls ce9 sl9 hP hD hS hR hl hc9 hs9 => ?_)
              exact kk _ _ _ _ _ _ _ _ _ hTn hR hP hD hS hl (by omega) (by omega)
            · exact absurd (by decide) c20
    · rcases Decidable.em (sI S 53 qq = 112) with h112 | h112
      · skip
        refine gsw_i (vx_runSW (g := F0 m 622 ls [.int 0, .int (nI qq), .int 114, .ref (ad 0 0)]) (As := [.ref (ad 0 0), .int 114, .int (nI qq), .int 0]) (rest := []) ⟨hx, hb, hml, hown, hta⟩ (c_L_isR112 l hl0 hR hW hqq 0 hm h112 (hT.lots htu)) (vx_cwSW 4 hta (gWSW mw672 mw673 mw39 mw674) rfl rfl rfl (by decide +kernel) ⟨Nat.le_of_ble_eq_true rfl, Nat.le_of_ble_eq_true rfl⟩) (gPreW hX hQ hK hP hD hS hA) rfl rfl hl.1 rfl (lv_room (Nat.le_of_ble_eq_true rfl)) dL_law_622 ⟨(by show cells + 4 ≤ 621943; omega), (by show slots + 16 ≤ 7227368; omega)⟩) hD hS hA (fun r21 u H locs c22 hR hP hD hS => ?_)
        obtain ⟨T, ad9, L9, f⟩ := u
        dsimp only at c22 hR hP hD
        obtain ⟨rfl, rfl, had⟩ := c22
        have had := had 0 0 (rfl : (0 : Nat) = 0)
        rw [← had] at hl
        obtain ⟨hI9, hk9, hst⟩ := hT.1.rel2 hqq h112 (hT.lots htu)
        have ho9 : qq < sN (rl2 S qq) 3 0 := by have : sN (rl2 S qq) 3 0 = sN S 3 0 := hk9.1; omega
        refine lv_istore (lv' := [(13, .int 1), (12, .int (sI S 53 qq)), (0, .ref b), (1, .ref (ad9 0 0)), (2, .int (nI (sN S 3 0))), (3, .int (nI (sN S 0 0))), (4, .int (sI S 2 0)), (5, .long (sJ S 1 0)), (7, .int (nI tu)), (8, .int (nI (40 + 5 * tu))), (10, .int (nI qq)), (11, .int (nI lo))]) hx hb dL_law_625 hl (by decide) rfl (fun ls hl => ?_)
        refine lv_iload hx hb dL_law_627 (lv_at hl 0 rfl) ?_
        refine lv_iconst (v := 1) hx hb dL_law_629 (by decide) ?_
        refine lv_icmp_ne (tgt := 650) hx hb dL_law_630 (by decide) (fun c23 => ?_) (fun c23 => ?_)
        · exact absurd c23 (fun q => q rfl)
        · skip
          refine va_ldcS hx hb hown hwR dL_law_633 ?_
          refine lv_aload_n hx hb dL_law_635 rfl (lv_at hl 3 rfl) ?_
          refine lv_iload hx hb dL_law_636 (lv_at hl 10 rfl) ?_
          refine vp_callSi (run_of (vx_runSW (g := F0 m 638 ls [.int (nI qq), .ref (ad9 0 0), .ref ks]) (As := [.ref (ad9 0 0), .int (nI qq)]) (rest := [.ref ks]) ⟨hx, hb, hml, hown, hta⟩ (c_L_stateOf l hR hI9.1.1 ho9 (to_nar hI9 ho9)) (vx_cwSW 2 hta (gWSW mw627 mw628 mw39 mw629) rfl rfl rfl (by decide +kernel) ⟨Nat.le_of_ble_eq_true rfl, Nat.le_of_ble_eq_true rfl⟩) (gPreB hK hP hD) rfl rfl hl.1 rfl (lv_room (Nat.le_of_ble_eq_true rfl)) dL_law_638 ⟨(by show cells + 4 + 0 ≤ 621943; omega), (by show slots + 16 + 0 ≤ 7227368; omega)⟩)) (fun r24 c25 => ?_)
          obtain rfl := c25
          rcases hst with e3 | e3 | e3
          · rw [e3]
            refine gst_i (k := ks) (v := vs) (As := [.int 119]) (rest := []) ⟨hx, hb, hml, hown, hta⟩ (s_i10 l) (cwV 1 hta (gWV mw778 mw779 mw780 mw53 mw781) rfl rfl rfl (by decide +kernel) ⟨Nat.le_of_ble_eq_true rfl, Nat.le_of_ble_eq_true rfl⟩) hE hS rfl hl.1 rfl (Nat.le_of_ble_eq_true rfl) dL_law_641 ⟨(by show cells + 4 + 0 ≤ 621943; omega), (by show slots + 16 + 0 ≤ 7227368; omega)⟩ (fun r9 c9 => ?_)
            obtain rfl := c9
            refine lv_if_ge (tgt := 663) hx hb dL_law_644 (by decide) (fun c26 => ?_) (fun c26 => ?_)
            · skip
              refine lv_goto (tgt := 1085) hx hb dL_law_663 (by decide) ?_
              have hTn : TI (rl2 S qq) (tu + 1) := hT.keep hI9 hk9
              have hl : lv_has ls 19 [(0, .ref b), (1, .ref (ad9 0 0)), (2, .int (nI (sN (rl2 S qq) 3 0))), (3, .int (nI (sN (rl2 S qq) 0 0))), (4, .int (sI (rl2 S qq) 2 0)), (5, .long (sJ (rl2 S qq) 1 0)), (7, .int (nI tu))] := by
                rw [show nI (sN (rl2 S qq) 3 0) = nI (sN S 3 0) from congrArg nI hk9.1, show nI (sN (rl2 S qq) 0 0) = nI (sN S 0 0) from congrArg nI hk9.2.1, show sI (rl2 S qq) 2 0 = sI S 2 0 from hk9.2.2.2.1, show sJ (rl2 S qq) 1 0 = sJ S 1 0 from hk9.2.2.2.2]
                exact lv_sub hl [2, 3, 4, 5, 6, 7, 8] rfl
              refine lw_check l C (tu := tu) hTn.1 hR hP hD hS hTn.2.1 hTn.2.2.1 (by have := hTn.2.2.2.1; omega) hl (by (try dsimp only); omega) (by (try dsimp only); omega) (fun H locs f ls ce9 sl9 hP hD hS hR hl hc9 hs9 => ?_)
              exact kk _ _ _ _ _ _ _ _ _ hTn hR hP hD hS hl (by omega) (by omega)
            · exact absurd (by decide) c26
          · rw [e3]
            refine gst_i (k := ks) (v := vs) (As := [.int 111]) (rest := []) ⟨hx, hb, hml, hown, hta⟩ (s_i11 l) (cwV 1 hta (gWV mw778 mw779 mw780 mw53 mw781) rfl rfl rfl (by decide +kernel) ⟨Nat.le_of_ble_eq_true rfl, Nat.le_of_ble_eq_true rfl⟩) hE hS rfl hl.1 rfl (Nat.le_of_ble_eq_true rfl) dL_law_641 ⟨(by show cells + 4 + 0 ≤ 621943; omega), (by show slots + 16 + 0 ≤ 7227368; omega)⟩ (fun r9 c9 => ?_)
            obtain rfl := c9
            refine lv_if_ge (tgt := 663) hx hb dL_law_644 (by decide) (fun c27 => ?_) (fun c27 => ?_)
            · skip
              refine lv_goto (tgt := 1085) hx hb dL_law_663 (by decide) ?_
              have hTn : TI (rl2 S qq) (tu + 1) := hT.keep hI9 hk9
              have hl : lv_has ls 19 [(0, .ref b), (1, .ref (ad9 0 0)), (2, .int (nI (sN (rl2 S qq) 3 0))), (3, .int (nI (sN (rl2 S qq) 0 0))), (4, .int (sI (rl2 S qq) 2 0)), (5, .long (sJ (rl2 S qq) 1 0)), (7, .int (nI tu))] := by
                rw [show nI (sN (rl2 S qq) 3 0) = nI (sN S 3 0) from congrArg nI hk9.1, show nI (sN (rl2 S qq) 0 0) = nI (sN S 0 0) from congrArg nI hk9.2.1, show sI (rl2 S qq) 2 0 = sI S 2 0 from hk9.2.2.2.1, show sJ (rl2 S qq) 1 0 = sJ S 1 0 from hk9.2.2.2.2]
                exact lv_sub hl [2, 3, 4, 5, 6, 7, 8] rfl
              refine lw_check l C (tu := tu) hTn.1 hR hP hD hS hTn.2.1 hTn.2.2.1 (by have := hTn.2.2.2.1; omega) hl (by (try dsimp only); omega) (by (try dsimp only); omega) (fun H locs f ls ce9 sl9 hP hD hS hR hl hc9 hs9 => ?_)
              exact kk _ _ _ _ _ _ _ _ _ hTn hR hP hD hS hl (by omega) (by omega)
            · exact absurd (by decide) c27
          · rw [e3]
            refine gst_i (k := ks) (v := vs) (As := [.int 102]) (rest := []) ⟨hx, hb, hml, hown, hta⟩ (s_i12 l) (cwV 1 hta (gWV mw778 mw779 mw780 mw53 mw781) rfl rfl rfl (by decide +kernel) ⟨Nat.le_of_ble_eq_true rfl, Nat.le_of_ble_eq_true rfl⟩) hE hS rfl hl.1 rfl (Nat.le_of_ble_eq_true rfl) dL_law_641 ⟨(by show cells + 4 + 0 ≤ 621943; omega), (by show slots + 16 + 0 ≤ 7227368; omega)⟩ (fun r9 c9 => ?_)
            obtain rfl := c9
            refine lv_if_ge (tgt := 663) hx hb dL_law_644 (by decide) (fun c28 => ?_) (fun c28 => ?_)
            · skip
              refine lv_goto (tgt := 1085) hx hb dL_law_663 (by decide) ?_
              have hTn : TI (rl2 S qq) (tu + 1) := hT.keep hI9 hk9
              have hl : lv_has ls 19 [(0, .ref b), (1, .ref (ad9 0 0)), (2, .int (nI (sN (rl2 S qq) 3 0))), (3, .int (nI (sN (rl2 S qq) 0 0))), (4, .int (sI (rl2 S qq) 2 0)), (5, .long (sJ (rl2 S qq) 1 0)), (7, .int (nI tu))] := by
                rw [show nI (sN (rl2 S qq) 3 0) = nI (sN S 3 0) from congrArg nI hk9.1, show nI (sN (rl2 S qq) 0 0) = nI (sN S 0 0) from congrArg nI hk9.2.1, show sI (rl2 S qq) 2 0 = sI S 2 0 from hk9.2.2.2.1, show sJ (rl2 S qq) 1 0 = sJ S 1 0 from hk9.2.2.2.2]
                exact lv_sub hl [2, 3, 4, 5, 6, 7, 8] rfl
              refine lw_check l C (tu := tu) hTn.1 hR hP hD hS hTn.2.1 hTn.2.2.1 (by have := hTn.2.2.2.1; omega) hl (by (try dsimp only); omega) (by (try dsimp only); omega) (fun H locs f ls ce9 sl9 hP hD hS hR hl hc9 hs9 => ?_)
              exact kk _ _ _ _ _ _ _ _ _ hTn hR hP hD hS hl (by omega) (by omega)
            · exact absurd (by decide) c28
      · skip
        refine gsw_i (vx_runSW (g := F0 m 622 ls [.int 0, .int (nI qq), .int 114, .ref (ad 0 0)]) (As := [.ref (ad 0 0), .int 114, .int (nI qq), .int 0]) (rest := []) ⟨hx, hb, hml, hown, hta⟩ (c_L_isRX l hl0 hR hW hqq 0 (fun z => z.2.elim h45 h112)) (vx_cwSW 4 hta (gWSW mw672 mw673 mw39 mw674) rfl rfl rfl (by decide +kernel) ⟨Nat.le_of_ble_eq_true rfl, Nat.le_of_ble_eq_true rfl⟩) (gPreW hX hQ hK hP hD hS hA) rfl rfl hl.1 rfl (lv_room (Nat.le_of_ble_eq_true rfl)) dL_law_622 ⟨(by show cells + 1 ≤ 621943; omega), (by show slots + 6 ≤ 7227368; omega)⟩) hD hS hA (fun r29 u H locs c30 hR hP hD hS => ?_)
        obtain ⟨T, ad9, L9, f⟩ := u
        dsimp only at c30 hR hP hD
        obtain ⟨rfl, rfl, rfl, rfl⟩ := c30
        refine lv_istore (lv' := [(13, .int (-1500000)), (12, .int (sI S 53 qq)), (0, .ref b), (1, .ref (ad 0 0)), (2, .int (nI (sN S 3 0))), (3, .int (nI (sN S 0 0))), (4, .int (sI S 2 0)), (5, .long (sJ S 1 0)), (7, .int (nI tu)), (8, .int (nI (40 + 5 * tu))), (10, .int (nI qq)), (11, .int (nI lo))]) hx hb dL_law_625 hl (by decide) rfl (fun ls hl => ?_)
        refine lv_iload hx hb dL_law_627 (lv_at hl 0 rfl) ?_
        refine lv_iconst (v := 1) hx hb dL_law_629 (by decide) ?_
        refine lv_icmp_ne (tgt := 650) hx hb dL_law_630 (by decide) (fun c31 => ?_) (fun c31 => ?_)
        · skip
          refine lv_aload_n hx hb dL_law_650 rfl (lv_at hl 3 rfl) ?_
          refine lv_iload hx hb dL_law_651 (lv_at hl 10 rfl) ?_
          refine vp_callSi (run_of (vx_runSW (g := F0 m 653 ls [.int (nI qq), .ref (ad 0 0)]) (As := [.ref (ad 0 0), .int (nI qq)]) (rest := []) ⟨hx, hb, hml, hown, hta⟩ (c_L_stateOf l hR hW hqq (to_nar hT.1 hqq)) (vx_cwSW 2 hta (gWSW mw627 mw628 mw39 mw629) rfl rfl rfl (by decide +kernel) ⟨Nat.le_of_ble_eq_true rfl, Nat.le_of_ble_eq_true rfl⟩) (gPreB hK hP hD) rfl rfl hl.1 rfl (lv_room (Nat.le_of_ble_eq_true rfl)) dL_law_653 ⟨(by show cells + 1 + 0 ≤ 621943; omega), (by show slots + 6 + 0 ≤ 7227368; omega)⟩)) (fun r32 c33 => ?_)
          obtain rfl := c33
          refine lv_iload hx hb dL_law_656 (lv_at hl 1 rfl) ?_
          refine lv_icmp_eq (tgt := 663) hx hb dL_law_658 (by decide) (fun c34 => ?_) (fun c34 => ?_)
          · skip
            refine lv_goto (tgt := 1085) hx hb dL_law_663 (by decide) ?_
            have hTn : TI S (tu + 1) := hT.same
            have hl : lv_has ls 19 [(0, .ref b), (1, .ref (ad 0 0)), (2, .int (nI (sN S 3 0))), (3, .int (nI (sN S 0 0))), (4, .int (sI S 2 0)), (5, .long (sJ S 1 0)), (7, .int (nI tu))] := by
              exact lv_sub hl [2, 3, 4, 5, 6, 7, 8] rfl
            refine lw_check l C (tu := tu) hTn.1 hR hP hD hS hTn.2.1 hTn.2.2.1 (by have := hTn.2.2.2.1; omega) hl (by (try dsimp only); omega) (by (try dsimp only); omega) (fun H locs f ls ce9 sl9 hP hD hS hR hl hc9 hs9 => ?_)
            exact kk _ _ _ _ _ _ _ _ _ hTn hR hP hD hS hl (by omega) (by omega)
          · exact absurd rfl c34
        · exact absurd c31 (by decide)

set_option maxHeartbeats 8000000 in
set_option maxRecDepth 100000 in
theorem lt_case {p : Program} {e : Env} {s : State} {m : MethodId} {below : List Frame} {meth : Method} {c : Code} (l : Launch) {b Ln : Nat} {xs : Nat → Int32} {A : Nat → Prop} {D : va_G} {tA : Nat → ClassId} (C : LwC p l s m meth c b Ln xs A D tA) {S : St} {ad : Nat → Nat → Nat} {L : List Nat} {f : Nat → va_E} {H : Heap} {locs : List Loc} {ls : Array Slot} {cells slots : Nat} (hR : Rep tA S ad L f) (hP : va_P D vwCl (va_pl L f) H) (hD : va_D A (va_pl L f)) (hS : va_S A s.heap H locs) {tu qq lo wh : Nat} (hT : TI S tu) (htu : tu < 60) (hc : cells + 800 ≤ 621943) (hsl : slots + 4000 ≤ 7227368) (hl : lv_has ls 19 [(0, .ref b), (1, .ref (ad 0 0)), (2, .int (nI (sN S 3 0))), (3, .int (nI (sN S 0 0))), (4, .int (sI S 2 0)), (5, .long (sJ S 1 0)), (7, .int (nI tu)), (8, .int (nI (40 + 5 * tu))), (9, .int (nI wh)), (10, .int (nI qq)), (11, .int (nI lo))]) (kk : ∀ (T : St) (ad : Nat → Nat → Nat) (L : List Nat) (f : Nat → va_E) (H : Heap) (locs : List Loc) (ls : Array Slot) (ce sl : Nat), TI T (tu + 1) → Rep tA T ad L f → va_P D vwCl (va_pl L f) H → va_D A (va_pl L f) → va_S A s.heap H locs → lv_has ls 19 [(0, .ref b), (1, .ref (ad 0 0)), (2, .int (nI (sN T 3 0))), (3, .int (nI (sN T 0 0))), (4, .int (sI T 2 0)), (5, .long (sJ T 1 0)), (7, .int (nI tu))] → ce ≤ cells + 800 → sl ≤ slots + 4000 → W p l e room_1 s m #[Value.ref b] below meth c H locs ce sl (lw_Z below #[Value.ref b] s) (F0 m 1344 ls [])) (hq : 0 < sN S 3 0 → qq < sN S 3 0) (hlo0 : 0 < sN S 2 0 → lo < sN S 2 0) : W p l e room_1 s m #[Value.ref b] below meth c H locs cells slots (lw_Z below #[Value.ref b] s) (F0 m 378 ls []) := by
  obtain ⟨C0, hL, hA, hA2, hX, hQ, hK, hl0⟩ := id C
  obtain ⟨hx, hb, hr, hml, hown0, hts, hXs, hbl, hlocks, hgv⟩ := id C0
  have hta : ∀ w ∈ WA, w.before #[Value.ref b] s = true := fun w h => hts w (WA_in w h)
  have hown : s.vm.findClass RL = some m.cls := hown0
  have hbA : ¬ A b := fun h => absurd (hA2 b h) (Nat.not_le.mpr hbl)
  have hW := hT.1.1.1
  refine lv_iload hx hb dL_law_378 (lv_at hl 8 rfl) ?_
  refine lv_iconst (v := 2) hx hb dL_law_380 (by decide) ?_
  refine lv_icmp_ge (tgt := 515) hx hb dL_law_381 (by decide) (fun c1 => ?_) (fun c1 => ?_)
  · skip
    refine lv_iload hx hb dL_law_515 (lv_at hl 8 rfl) ?_
    refine lv_iconst (v := 4) hx hb dL_law_517 (by decide) ?_
    refine lv_icmp_ge (tgt := 597) hx hb dL_law_518 (by decide) (fun c2 => ?_) (fun c2 => ?_)
    · skip
      refine lv_iload hx hb dL_law_597 (lv_at hl 8 rfl) ?_
      refine lv_bipush (v := 7) hx hb dL_law_599 (by decide) ?_
      refine lv_icmp_ge (tgt := 666) hx hb dL_law_601 (by decide) (fun c3 => ?_) (fun c3 => ?_)
      · skip
        refine lv_iload hx hb dL_law_666 (lv_at hl 8 rfl) ?_
        refine lv_bipush (v := 7) hx hb dL_law_668 (by decide) ?_
        refine lv_icmp_ne (tgt := 858) hx hb dL_law_670 (by decide) (fun c4 => ?_) (fun c4 => ?_)
        · skip
          refine lv_iload hx hb dL_law_858 (lv_at hl 8 rfl) ?_
          refine lv_bipush (v := 8) hx hb dL_law_860 (by decide) ?_
          refine lv_icmp_ne (tgt := 924) hx hb dL_law_862 (by decide) (fun c5 => ?_) (fun c5 => ?_)
          · skip
            refine lv_iload hx hb dL_law_924 (lv_at hl 8 rfl) ?_
            refine lv_bipush (v := 9) hx hb dL_law_926 (by decide) ?_
            refine lv_icmp_ne (tgt := 1004) hx hb dL_law_928 (by decide) (fun c6 => ?_) (fun c6 => ?_)
            · skip
              refine lv_iload hx hb dL_law_1004 (lv_at hl 8 rfl) ?_
              refine lv_bipush (v := 10) hx hb dL_law_1006 (by decide) ?_
              refine lv_icmp_ne (tgt := 1048) hx hb dL_law_1008 (by decide) (fun c7 => ?_) (fun c7 => ?_)
              · skip
                exact lb_advance l C hR hP hD hS (qq := qq) (lo := lo) hT htu hc hsl (lv_sub hl [0, 1, 2, 3, 4, 5, 6, 7, 9, 10] rfl) kk
              · skip
                refine lv_iload_n hx hb dL_law_1011 rfl (lv_at hl 2 rfl) ?_
                refine lv_if_le (tgt := 1048) hx hb dL_law_1012 (by decide) (fun c8 => ?_) (fun c8 => ?_)
                · skip
                  exact lb_advance l C hR hP hD hS (qq := qq) (lo := lo) hT htu hc hsl (lv_sub hl [0, 1, 2, 3, 4, 5, 6, 7, 9, 10] rfl) kk
                · skip
                  exact lb_scrap l C hR hP hD hS (qq := qq) (lo := lo) hT htu hc hsl (lv_sub hl [0, 1, 2, 3, 4, 5, 6, 7, 9, 10] rfl) kk (hq (nI_gt0 c8))
            · skip
              refine lv_aload_n hx hb dL_law_931 rfl (lv_at hl 1 rfl) ?_
              obtain ⟨q9, e10⟩ := cell_0 hR (rfl : (0 : Nat) = 0)
              refine gro_i (ci := 12) (As := []) (rest := []) ⟨hx, hb, hml, hown, hta⟩ (c_X10_lots l hR ) (cwV 0 hta (gWV mw110 mw111 mw112 mw40 mw113) rfl rfl rfl (by decide +kernel) ⟨Nat.le_of_ble_eq_true rfl, Nat.le_of_ble_eq_true rfl⟩) hK hP hD rfl e10 rfl hl.1 rfl (Nat.le_of_ble_eq_true rfl) dL_law_932 ⟨(by show cells + 0 ≤ 621943; omega), (by show slots + 0 ≤ 7227368; omega)⟩ (fun r11 c12 => ?_)
              obtain rfl := c12
              refine lv_if_le (tgt := 1004) hx hb dL_law_935 (by decide) (fun c13 => ?_) (fun c13 => ?_)
              · skip
                refine lv_iload hx hb dL_law_1004 (lv_at hl 8 rfl) ?_
                refine lv_bipush (v := 10) hx hb dL_law_1006 (by decide) ?_
                refine lv_icmp_ne (tgt := 1048) hx hb dL_law_1008 (by decide) (fun c14 => ?_) (fun c14 => ?_)
                · skip
                  exact lb_advance l C hR hP hD hS (qq := qq) (lo := lo) hT htu hc hsl (lv_sub hl [0, 1, 2, 3, 4, 5, 6, 7, 9, 10] rfl) kk
                · skip
                  refine lv_iload_n hx hb dL_law_1011 rfl (lv_at hl 2 rfl) ?_
                  refine lv_if_le (tgt := 1048) hx hb dL_law_1012 (by decide) (fun c15 => ?_) (fun c15 => ?_)
                  · skip
                    exact lb_advance l C hR hP hD hS (qq := qq) (lo := lo) hT htu hc hsl (lv_sub hl [0, 1, 2, 3, 4, 5, 6, 7, 9, 10] rfl) kk
                  · skip
                    exact lb_scrap l C hR hP hD hS (qq := qq) (lo := lo) hT htu hc hsl (lv_sub hl [0, 1, 2, 3, 4, 5, 6, 7, 9, 10] rfl) kk (hq (nI_gt0 c15))
              · skip
                exact lb_hold l C hR hP hD hS (qq := qq) (lo := lo) hT htu hc hsl (lv_sub hl [0, 1, 2, 3, 4, 5, 6, 7, 9, 10] rfl) kk (hlo0 (nI_gt0 c13))
          · skip
            refine lv_iload_n hx hb dL_law_865 rfl (lv_at hl 2 rfl) ?_
            refine lv_if_le (tgt := 924) hx hb dL_law_866 (by decide) (fun c16 => ?_) (fun c16 => ?_)
            · skip
              refine lv_iload hx hb dL_law_924 (lv_at hl 8 rfl) ?_
              refine lv_bipush (v := 9) hx hb dL_law_926 (by decide) ?_
              refine lv_icmp_ne (tgt := 1004) hx hb dL_law_928 (by decide) (fun c17 => ?_) (fun c17 => ?_)
              · skip
                refine lv_iload hx hb dL_law_1004 (lv_at hl 8 rfl) ?_
                refine lv_bipush (v := 10) hx hb dL_law_1006 (by decide) ?_
                refine lv_icmp_ne (tgt := 1048) hx hb dL_law_1008 (by decide) (fun c18 => ?_) (fun c18 => ?_)
                · skip
                  exact lb_advance l C hR hP hD hS (qq := qq) (lo := lo) hT htu hc hsl (lv_sub hl [0, 1, 2, 3, 4, 5, 6, 7, 9, 10] rfl) kk
                · skip
                  refine lv_iload_n hx hb dL_law_1011 rfl (lv_at hl 2 rfl) ?_
                  refine lv_if_le (tgt := 1048) hx hb dL_law_1012 (by decide) (fun c19 => ?_) (fun c19 => ?_)
                  · skip
                    exact lb_advance l C hR hP hD hS (qq := qq) (lo := lo) hT htu hc hsl (lv_sub hl [0, 1, 2, 3, 4, 5, 6, 7, 9, 10] rfl) kk
                  · skip
                    exact lb_scrap l C hR hP hD hS (qq := qq) (lo := lo) hT htu hc hsl (lv_sub hl [0, 1, 2, 3, 4, 5, 6, 7, 9, 10] rfl) kk (hq (nI_gt0 c19))
              · skip
                refine lv_aload_n hx hb dL_law_931 rfl (lv_at hl 1 rfl) ?_
                obtain ⟨q20, e21⟩ := cell_0 hR (rfl : (0 : Nat) = 0)
                refine gro_i (ci := 12) (As := []) (rest := []) ⟨hx, hb, hml, hown, hta⟩ (c_X10_lots l hR ) (cwV 0 hta (gWV mw110 mw111 mw112 mw40 mw113) rfl rfl rfl (by decide +kernel) ⟨Nat.le_of_ble_eq_true rfl, Nat.le_of_ble_eq_true rfl⟩) hK hP hD rfl e21 rfl hl.1 rfl (Nat.le_of_ble_eq_true rfl) dL_law_932 ⟨(by show cells + 0 ≤ 621943; omega), (by show slots + 0 ≤ 7227368; omega)⟩ (fun r22 c23 => ?_)
                obtain rfl := c23
                refine lv_if_le (tgt := 1004) hx hb dL_law_935 (by decide) (fun c24 => ?_) (fun c24 => ?_)
                · skip
                  refine lv_iload hx hb dL_law_1004 (lv_at hl 8 rfl) ?_
                  refine lv_bipush (v := 10) hx hb dL_law_1006 (by decide) ?_
                  refine lv_icmp_ne (tgt := 1048) hx hb dL_law_1008 (by decide) (fun c25 => ?_) (fun c25 => ?_)
                  · skip
                    exact lb_advance l C hR hP hD hS (qq := qq) (lo := lo) hT htu hc hsl (lv_sub hl [0, 1, 2, 3, 4, 5, 6, 7, 9, 10] rfl) kk
                  · skip
                    refine lv_iload_n hx hb dL_law_1011 rfl (lv_at hl 2 rfl) ?_
                    refine lv_if_le (tgt := 1048) hx hb dL_law_1012 (by decide) (fun c26 => ?_) (fun c26 => ?_)
                    · skip
                      exact lb_advance l C hR hP hD hS (qq := qq) (lo := lo) hT htu hc hsl (lv_sub hl [0, 1, 2, 3, 4, 5, 6, 7, 9, 10] rfl) kk
                    · skip
                      exact lb_scrap l C hR hP hD hS (qq := qq) (lo := lo) hT htu hc hsl (lv_sub hl [0, 1, 2, 3, 4, 5, 6, 7, 9, 10] rfl) kk (hq (nI_gt0 c26))
                · skip
                  exact lb_hold l C hR hP hD hS (qq := qq) (lo := lo) hT htu hc hsl (lv_sub hl [0, 1, 2, 3, 4, 5, 6, 7, 9, 10] rfl) kk (hlo0 (nI_gt0 c24))
            · skip
              exact lb_deliver l C hR hP hD hS (qq := qq) (lo := lo) hT htu hc hsl (lv_sub hl [0, 1, 2, 3, 4, 5, 6, 7, 9, 10] rfl) kk (hq (nI_gt0 c16))
        · skip
          refine lv_iload_n hx hb dL_law_673 rfl (lv_at hl 2 rfl) ?_
          refine lv_if_le (tgt := 858) hx hb dL_law_674 (by decide) (fun c27 => ?_) (fun c27 => ?_)
          · skip
            refine lv_iload hx hb dL_law_858 (lv_at hl 8 rfl) ?_
            refine lv_bipush (v := 8) hx hb dL_law_860 (by decide) ?_
            refine lv_icmp_ne (tgt := 924) hx hb dL_law_862 (by decide) (fun c28 => ?_) (fun c28 => ?_)
            · skip
              refine lv_iload hx hb dL_law_924 (lv_at hl 8 rfl) ?_
              refine lv_bipush (v := 9) hx hb dL_law_926 (by decide) ?_
              refine lv_icmp_ne (tgt := 1004) hx hb dL_law_928 (by decide) (fun c29 => ?_) (fun c29 => ?_)
              · skip
                refine lv_iload hx hb dL_law_1004 (lv_at hl 8 rfl) ?_
                refine lv_bipush (v := 10) hx hb dL_law_1006 (by decide) ?_
                refine lv_icmp_ne (tgt := 1048) hx hb dL_law_1008 (by decide) (fun c30 => ?_) (fun c30 => ?_)
                · skip
                  exact lb_advance l C hR hP hD hS (qq := qq) (lo := lo) hT htu hc hsl (lv_sub hl [0, 1, 2, 3, 4, 5, 6, 7, 9, 10] rfl) kk
                · skip
                  refine lv_iload_n hx hb dL_law_1011 rfl (lv_at hl 2 rfl) ?_
                  refine lv_if_le (tgt := 1048) hx hb dL_law_1012 (by decide) (fun c31 => ?_) (fun c31 => ?_)
                  · skip
                    exact lb_advance l C hR hP hD hS (qq := qq) (lo := lo) hT htu hc hsl (lv_sub hl [0, 1, 2, 3, 4, 5, 6, 7, 9, 10] rfl) kk
                  · skip
                    exact lb_scrap l C hR hP hD hS (qq := qq) (lo := lo) hT htu hc hsl (lv_sub hl [0, 1, 2, 3, 4, 5, 6, 7, 9, 10] rfl) kk (hq (nI_gt0 c31))
              · skip
                refine lv_aload_n hx hb dL_law_931 rfl (lv_at hl 1 rfl) ?_
                obtain ⟨q32, e33⟩ := cell_0 hR (rfl : (0 : Nat) = 0)
                refine gro_i (ci := 12) (As := []) (rest := []) ⟨hx, hb, hml, hown, hta⟩ (c_X10_lots l hR ) (cwV 0 hta (gWV mw110 mw111 mw112 mw40 mw113) rfl rfl rfl (by decide +kernel) ⟨Nat.le_of_ble_eq_true rfl, Nat.le_of_ble_eq_true rfl⟩) hK hP hD rfl e33 rfl hl.1 rfl (Nat.le_of_ble_eq_true rfl) dL_law_932 ⟨(by show cells + 0 ≤ 621943; omega), (by show slots + 0 ≤ 7227368; omega)⟩ (fun r34 c35 => ?_)
                obtain rfl := c35
                refine lv_if_le (tgt := 1004) hx hb dL_law_935 (by decide) (fun c36 => ?_) (fun c36 => ?_)
                · skip
                  refine lv_iload hx hb dL_law_1004 (lv_at hl 8 rfl) ?_
                  refine lv_bipush (v := 10) hx hb dL_law_1006 (by decide) ?_
                  refine lv_icmp_ne (tgt := 1048) hx hb dL_law_1008 (by decide) (fun c37 => ?_) (fun c37 => ?_)
                  · skip
                    exact lb_advance l C hR hP hD hS (qq := qq) (lo := lo) hT htu hc hsl (lv_sub hl [0, 1, 2, 3, 4, 5, 6, 7, 9, 10] rfl) kk
                  · skip
                    refine lv_iload_n hx hb dL_law_1011 rfl (lv_at hl 2 rfl) ?_
                    refine lv_if_le (tgt := 1048) hx hb dL_law_1012 (by decide) (fun c38 => ?_) (fun c38 => ?_)
                    · skip
                      exact lb_advance l C hR hP hD hS (qq := qq) (lo := lo) hT htu hc hsl (lv_sub hl [0, 1, 2, 3, 4, 5, 6, 7, 9, 10] rfl) kk
                    · skip
                      exact lb_scrap l C hR hP hD hS (qq := qq) (lo := lo) hT htu hc hsl (lv_sub hl [0, 1, 2, 3, 4, 5, 6, 7, 9, 10] rfl) kk (hq (nI_gt0 c38))
                · skip
                  exact lb_hold l C hR hP hD hS (qq := qq) (lo := lo) hT htu hc hsl (lv_sub hl [0, 1, 2, 3, 4, 5, 6, 7, 9, 10] rfl) kk (hlo0 (nI_gt0 c36))
            · skip
              refine lv_iload_n hx hb dL_law_865 rfl (lv_at hl 2 rfl) ?_
              refine lv_if_le (tgt := 924) hx hb dL_law_866 (by decide) (fun c39 => ?_) (fun c39 => ?_)
              · skip
                refine lv_iload hx hb dL_law_924 (lv_at hl 8 rfl) ?_
                refine lv_bipush (v := 9) hx hb dL_law_926 (by decide) ?_
                refine lv_icmp_ne (tgt := 1004) hx hb dL_law_928 (by decide) (fun c40 => ?_) (fun c40 => ?_)
                · skip
                  refine lv_iload hx hb dL_law_1004 (lv_at hl 8 rfl) ?_
                  refine lv_bipush (v := 10) hx hb dL_law_1006 (by decide) ?_
                  refine lv_icmp_ne (tgt := 1048) hx hb dL_law_1008 (by decide) (fun c41 => ?_) (fun c41 => ?_)
                  · skip
                    exact lb_advance l C hR hP hD hS (qq := qq) (lo := lo) hT htu hc hsl (lv_sub hl [0, 1, 2, 3, 4, 5, 6, 7, 9, 10] rfl) kk
                  · skip
                    refine lv_iload_n hx hb dL_law_1011 rfl (lv_at hl 2 rfl) ?_
                    refine lv_if_le (tgt := 1048) hx hb dL_law_1012 (by decide) (fun c42 => ?_) (fun c42 => ?_)
                    · skip
                      exact lb_advance l C hR hP hD hS (qq := qq) (lo := lo) hT htu hc hsl (lv_sub hl [0, 1, 2, 3, 4, 5, 6, 7, 9, 10] rfl) kk
                    · skip
                      exact lb_scrap l C hR hP hD hS (qq := qq) (lo := lo) hT htu hc hsl (lv_sub hl [0, 1, 2, 3, 4, 5, 6, 7, 9, 10] rfl) kk (hq (nI_gt0 c42))
                · skip
                  refine lv_aload_n hx hb dL_law_931 rfl (lv_at hl 1 rfl) ?_
                  obtain ⟨q43, e44⟩ := cell_0 hR (rfl : (0 : Nat) = 0)
                  refine gro_i (ci := 12) (As := []) (rest := []) ⟨hx, hb, hml, hown, hta⟩ (c_X10_lots l hR ) (cwV 0 hta (gWV mw110 mw111 mw112 mw40 mw113) rfl rfl rfl (by decide +kernel) ⟨Nat.le_of_ble_eq_true rfl, Nat.le_of_ble_eq_true rfl⟩) hK hP hD rfl e44 rfl hl.1 rfl (Nat.le_of_ble_eq_true rfl) dL_law_932 ⟨(by show cells + 0 ≤ 621943; omega), (by show slots + 0 ≤ 7227368; omega)⟩ (fun r45 c46 => ?_)
                  obtain rfl := c46
                  refine lv_if_le (tgt := 1004) hx hb dL_law_935 (by decide) (fun c47 => ?_) (fun c47 => ?_)
                  · skip
                    refine lv_iload hx hb dL_law_1004 (lv_at hl 8 rfl) ?_
                    refine lv_bipush (v := 10) hx hb dL_law_1006 (by decide) ?_
                    refine lv_icmp_ne (tgt := 1048) hx hb dL_law_1008 (by decide) (fun c48 => ?_) (fun c48 => ?_)
                    · skip
                      exact lb_advance l C hR hP hD hS (qq := qq) (lo := lo) hT htu hc hsl (lv_sub hl [0, 1, 2, 3, 4, 5, 6, 7, 9, 10] rfl) kk
                    · skip
                      refine lv_iload_n hx hb dL_law_1011 rfl (lv_at hl 2 rfl) ?_
                      refine lv_if_le (tgt := 1048) hx hb dL_law_1012 (by decide) (fun c49 => ?_) (fun c49 => ?_)
                      · skip
                        exact lb_advance l C hR hP hD hS (qq := qq) (lo := lo) hT htu hc hsl (lv_sub hl [0, 1, 2, 3, 4, 5, 6, 7, 9, 10] rfl) kk
                      · skip
                        exact lb_scrap l C hR hP hD hS (qq := qq) (lo := lo) hT htu hc hsl (lv_sub hl [0, 1, 2, 3, 4, 5, 6, 7, 9, 10] rfl) kk (hq (nI_gt0 c49))
                  · skip
                    exact lb_hold l C hR hP hD hS (qq := qq) (lo := lo) hT htu hc hsl (lv_sub hl [0, 1, 2, 3, 4, 5, 6, 7, 9, 10] rfl) kk (hlo0 (nI_gt0 c47))
              · skip
                exact lb_deliver l C hR hP hD hS (qq := qq) (lo := lo) hT htu hc hsl (lv_sub hl [0, 1, 2, 3, 4, 5, 6, 7, 9, 10] rfl) kk (hq (nI_gt0 c39))
          · skip
            have hqq := hq (nI_gt0 c27)
            refine lv_aload_n hx hb dL_law_677 rfl (lv_at hl 1 rfl) ?_
            refine lv_iload hx hb dL_law_678 (lv_at hl 9 rfl) ?_
            refine vp_callSi (run_of (vx_runSW (g := F0 m 680 ls [.int (nI qq), .ref (ad 0 0)]) (As := [.ref (ad 0 0), .int (nI qq)]) (rest := []) ⟨hx, hb, hml, hown, hta⟩ (c_L_stateOf l hR hW hqq (to_nar hT.1 hqq)) (vx_cwSW 2 hta (gWSW mw627 mw628 mw39 mw629) rfl rfl rfl (by decide +kernel) ⟨Nat.le_of_ble_eq_true rfl, Nat.le_of_ble_eq_true rfl⟩) (gPreB hK hP hD) rfl rfl hl.1 rfl (lv_room (Nat.le_of_ble_eq_true rfl)) dL_law_680 ⟨(by show cells + 0 ≤ 621943; omega), (by show slots + 0 ≤ 7227368; omega)⟩)) (fun r50 c51 => ?_)
            obtain rfl := c51
            refine lv_bipush (v := 45) hx hb dL_law_683 (by decide) ?_
            refine lv_icmp_ne (tgt := 858) hx hb dL_law_685 (by decide) (fun c52 => ?_) (fun c52 => ?_)
            · skip
              refine lv_iload hx hb dL_law_858 (lv_at hl 8 rfl) ?_
              refine lv_bipush (v := 8) hx hb dL_law_860 (by decide) ?_
              refine lv_icmp_ne (tgt := 924) hx hb dL_law_862 (by decide) (fun c53 => ?_) (fun c53 => ?_)
              · skip
                refine lv_iload hx hb dL_law_924 (lv_at hl 8 rfl) ?_
                refine lv_bipush (v := 9) hx hb dL_law_926 (by decide) ?_
                refine lv_icmp_ne (tgt := 1004) hx hb dL_law_928 (by decide) (fun c54 => ?_) (fun c54 => ?_)
                · skip
                  refine lv_iload hx hb dL_law_1004 (lv_at hl 8 rfl) ?_
                  refine lv_bipush (v := 10) hx hb dL_law_1006 (by decide) ?_
                  refine lv_icmp_ne (tgt := 1048) hx hb dL_law_1008 (by decide) (fun c55 => ?_) (fun c55 => ?_)
                  · skip
                    exact lb_advance l C hR hP hD hS (qq := qq) (lo := lo) hT htu hc hsl (lv_sub hl [0, 1, 2, 3, 4, 5, 6, 7, 9, 10] rfl) kk
                  · skip
                    refine lv_iload_n hx hb dL_law_1011 rfl (lv_at hl 2 rfl) ?_
                    refine lv_if_le (tgt := 1048) hx hb dL_law_1012 (by decide) (fun c56 => ?_) (fun c56 => ?_)
                    · skip
                      exact lb_advance l C hR hP hD hS (qq := qq) (lo := lo) hT htu hc hsl (lv_sub hl [0, 1, 2, 3, 4, 5, 6, 7, 9, 10] rfl) kk
                    · skip
                      exact lb_scrap l C hR hP hD hS (qq := qq) (lo := lo) hT htu hc hsl (lv_sub hl [0, 1, 2, 3, 4, 5, 6, 7, 9, 10] rfl) kk (hq (nI_gt0 c27))
                · skip
                  refine lv_aload_n hx hb dL_law_931 rfl (lv_at hl 1 rfl) ?_
                  obtain ⟨q57, e58⟩ := cell_0 hR (rfl : (0 : Nat) = 0)
                  refine gro_i (ci := 12) (As := []) (rest := []) ⟨hx, hb, hml, hown, hta⟩ (c_X10_lots l hR ) (cwV 0 hta (gWV mw110 mw111 mw112 mw40 mw113) rfl rfl rfl (by decide +kernel) ⟨Nat.le_of_ble_eq_true rfl, Nat.le_of_ble_eq_true rfl⟩) hK hP hD rfl e58 rfl hl.1 rfl (Nat.le_of_ble_eq_true rfl) dL_law_932 ⟨(by show cells + 0 ≤ 621943; omega), (by show slots + 0 ≤ 7227368; omega)⟩ (fun r59 c60 => ?_)
                  obtain rfl := c60
                  refine lv_if_le (tgt := 1004) hx hb dL_law_935 (by decide) (fun c61 => ?_) (fun c61 => ?_)
                  · skip
                    refine lv_iload hx hb dL_law_1004 (lv_at hl 8 rfl) ?_
                    refine lv_bipush (v := 10) hx hb dL_law_1006 (by decide) ?_
                    refine lv_icmp_ne (tgt := 1048) hx hb dL_law_1008 (by decide) (fun c62 => ?_) (fun c62 => ?_)
                    · skip
                      exact lb_advance l C hR hP hD hS (qq := qq) (lo := lo) hT htu hc hsl (lv_sub hl [0, 1, 2, 3, 4, 5, 6, 7, 9, 10] rfl) kk
                    · skip
                      refine lv_iload_n hx hb dL_law_1011 rfl (lv_at hl 2 rfl) ?_
                      refine lv_if_le (tgt := 1048) hx hb dL_law_1012 (by decide) (fun c63 => ?_) (fun c63 => ?_)
                      · skip
                        exact lb_advance l C hR hP hD hS (qq := qq) (lo := lo) hT htu hc hsl (lv_sub hl [0, 1, 2, 3, 4, 5, 6, 7, 9, 10] rfl) kk
                      · skip
                        exact lb_scrap l C hR hP hD hS (qq := qq) (lo := lo) hT htu hc hsl (lv_sub hl [0, 1, 2, 3, 4, 5, 6, 7, 9, 10] rfl) kk (hq (nI_gt0 c27))
                  · skip
                    exact lb_hold l C hR hP hD hS (qq := qq) (lo := lo) hT htu hc hsl (lv_sub hl [0, 1, 2, 3, 4, 5, 6, 7, 9, 10] rfl) kk (hlo0 (nI_gt0 c61))
              · skip
                refine lv_iload_n hx hb dL_law_865 rfl (lv_at hl 2 rfl) ?_
                refine lv_if_le (tgt := 924) hx hb dL_law_866 (by decide) (fun c64 => ?_) (fun c64 => ?_)
                · skip
                  refine lv_iload hx hb dL_law_924 (lv_at hl 8 rfl) ?_
                  refine lv_bipush (v := 9) hx hb dL_law_926 (by decide) ?_
                  refine lv_icmp_ne (tgt := 1004) hx hb dL_law_928 (by decide) (fun c65 => ?_) (fun c65 => ?_)
                  · skip
                    refine lv_iload hx hb dL_law_1004 (lv_at hl 8 rfl) ?_
                    refine lv_bipush (v := 10) hx hb dL_law_1006 (by decide) ?_
                    refine lv_icmp_ne (tgt := 1048) hx hb dL_law_1008 (by decide) (fun c66 => ?_) (fun c66 => ?_)
                    · skip
                      exact lb_advance l C hR hP hD hS (qq := qq) (lo := lo) hT htu hc hsl (lv_sub hl [0, 1, 2, 3, 4, 5, 6, 7, 9, 10] rfl) kk
                    · skip
                      refine lv_iload_n hx hb dL_law_1011 rfl (lv_at hl 2 rfl) ?_
                      refine lv_if_le (tgt := 1048) hx hb dL_law_1012 (by decide) (fun c67 => ?_) (fun c67 => ?_)
                      · skip
                        exact lb_advance l C hR hP hD hS (qq := qq) (lo := lo) hT htu hc hsl (lv_sub hl [0, 1, 2, 3, 4, 5, 6, 7, 9, 10] rfl) kk
                      · skip
                        exact lb_scrap l C hR hP hD hS (qq := qq) (lo := lo) hT htu hc hsl (lv_sub hl [0, 1, 2, 3, 4, 5, 6, 7, 9, 10] rfl) kk (hq (nI_gt0 c27))
                  · skip
                    refine lv_aload_n hx hb dL_law_931 rfl (lv_at hl 1 rfl) ?_
                    obtain ⟨q68, e69⟩ := cell_0 hR (rfl : (0 : Nat) = 0)
                    refine gro_i (ci := 12) (As := []) (rest := []) ⟨hx, hb, hml, hown, hta⟩ (c_X10_lots l hR ) (cwV 0 hta (gWV mw110 mw111 mw112 mw40 mw113) rfl rfl rfl (by decide +kernel) ⟨Nat.le_of_ble_eq_true rfl, Nat.le_of_ble_eq_true rfl⟩) hK hP hD rfl e69 rfl hl.1 rfl (Nat.le_of_ble_eq_true rfl) dL_law_932 ⟨(by show cells + 0 ≤ 621943; omega), (by show slots + 0 ≤ 7227368; omega)⟩ (fun r70 c71 => ?_)
                    obtain rfl := c71
                    refine lv_if_le (tgt := 1004) hx hb dL_law_935 (by decide) (fun c72 => ?_) (fun c72 => ?_)
                    · skip
                      refine lv_iload hx hb dL_law_1004 (lv_at hl 8 rfl) ?_
                      refine lv_bipush (v := 10) hx hb dL_law_1006 (by decide) ?_
                      refine lv_icmp_ne (tgt := 1048) hx hb dL_law_1008 (by decide) (fun c73 => ?_) (fun c73 => ?_)
                      · skip
                        exact lb_advance l C hR hP hD hS (qq := qq) (lo := lo) hT htu hc hsl (lv_sub hl [0, 1, 2, 3, 4, 5, 6, 7, 9, 10] rfl) kk
                      · skip
                        refine lv_iload_n hx hb dL_law_1011 rfl (lv_at hl 2 rfl) ?_
                        refine lv_if_le (tgt := 1048) hx hb dL_law_1012 (by decide) (fun c74 => ?_) (fun c74 => ?_)
                        · skip
                          exact lb_advance l C hR hP hD hS (qq := qq) (lo := lo) hT htu hc hsl (lv_sub hl [0, 1, 2, 3, 4, 5, 6, 7, 9, 10] rfl) kk
                        · skip
                          exact lb_scrap l C hR hP hD hS (qq := qq) (lo := lo) hT htu hc hsl (lv_sub hl [0, 1, 2, 3, 4, 5, 6, 7, 9, 10] rfl) kk (hq (nI_gt0 c27))
                    · skip
                      exact lb_hold l C hR hP hD hS (qq := qq) (lo := lo) hT htu hc hsl (lv_sub hl [0, 1, 2, 3, 4, 5, 6, 7, 9, 10] rfl) kk (hlo0 (nI_gt0 c72))
                · skip
                  exact lb_deliver l C hR hP hD hS (qq := qq) (lo := lo) hT htu hc hsl (lv_sub hl [0, 1, 2, 3, 4, 5, 6, 7, 9, 10] rfl) kk (hq (nI_gt0 c27))
            · skip
              exact lb_promise l C hR hP hD hS (qq := qq) (lo := lo) hT htu hc hsl (lv_sub hl [0, 1, 2, 3, 4, 5, 6, 7, 9, 10] rfl) kk hqq c52
      · skip
        refine lv_iload_n hx hb dL_law_604 rfl (lv_at hl 2 rfl) ?_
        refine lv_if_le (tgt := 666) hx hb dL_law_605 (by decide) (fun c75 => ?_) (fun c75 => ?_)
        · skip
          refine lv_iload hx hb dL_law_666 (lv_at hl 8 rfl) ?_
          refine lv_bipush (v := 7) hx hb dL_law_668 (by decide) ?_
          refine lv_icmp_ne (tgt := 858) hx hb dL_law_670 (by decide) (fun c76 => ?_) (fun c76 => ?_)
          · skip
            refine lv_iload hx hb dL_law_858 (lv_at hl 8 rfl) ?_
            refine lv_bipush (v := 8) hx hb dL_law_860 (by decide) ?_
            refine lv_icmp_ne (tgt := 924) hx hb dL_law_862 (by decide) (fun c77 => ?_) (fun c77 => ?_)
            · skip
              refine lv_iload hx hb dL_law_924 (lv_at hl 8 rfl) ?_
              refine lv_bipush (v := 9) hx hb dL_law_926 (by decide) ?_
              refine lv_icmp_ne (tgt := 1004) hx hb dL_law_928 (by decide) (fun c78 => ?_) (fun c78 => ?_)
              · skip
                refine lv_iload hx hb dL_law_1004 (lv_at hl 8 rfl) ?_
                refine lv_bipush (v := 10) hx hb dL_law_1006 (by decide) ?_
                refine lv_icmp_ne (tgt := 1048) hx hb dL_law_1008 (by decide) (fun c79 => ?_) (fun c79 => ?_)
                · skip
                  exact lb_advance l C hR hP hD hS (qq := qq) (lo := lo) hT htu hc hsl (lv_sub hl [0, 1, 2, 3, 4, 5, 6, 7, 9, 10] rfl) kk
                · skip
                  refine lv_iload_n hx hb dL_law_1011 rfl (lv_at hl 2 rfl) ?_
                  refine lv_if_le (tgt := 1048) hx hb dL_law_1012 (by decide) (fun c80 => ?_) (fun c80 => ?_)
                  · skip
                    exact lb_advance l C hR hP hD hS (qq := qq) (lo := lo) hT htu hc hsl (lv_sub hl [0, 1, 2, 3, 4, 5, 6, 7, 9, 10] rfl) kk
                  · skip
                    exact lb_scrap l C hR hP hD hS (qq := qq) (lo := lo) hT htu hc hsl (lv_sub hl [0, 1, 2, 3, 4, 5, 6, 7, 9, 10] rfl) kk (hq (nI_gt0 c80))
              · skip
                refine lv_aload_n hx hb dL_law_931 rfl (lv_at hl 1 rfl) ?_
                obtain ⟨q81, e82⟩ := cell_0 hR (rfl : (0 : Nat) = 0)
                refine gro_i (ci := 12) (As := []) (rest := []) ⟨hx, hb, hml, hown, hta⟩ (c_X10_lots l hR ) (cwV 0 hta (gWV mw110 mw111 mw112 mw40 mw113) rfl rfl rfl (by decide +kernel) ⟨Nat.le_of_ble_eq_true rfl, Nat.le_of_ble_eq_true rfl⟩) hK hP hD rfl e82 rfl hl.1 rfl (Nat.le_of_ble_eq_true rfl) dL_law_932 ⟨(by show cells + 0 ≤ 621943; omega), (by show slots + 0 ≤ 7227368; omega)⟩ (fun r83 c84 => ?_)
                obtain rfl := c84
                refine lv_if_le (tgt := 1004) hx hb dL_law_935 (by decide) (fun c85 => ?_) (fun c85 => ?_)
                · skip
                  refine lv_iload hx hb dL_law_1004 (lv_at hl 8 rfl) ?_
                  refine lv_bipush (v := 10) hx hb dL_law_1006 (by decide) ?_
                  refine lv_icmp_ne (tgt := 1048) hx hb dL_law_1008 (by decide) (fun c86 => ?_) (fun c86 => ?_)
                  · skip
                    exact lb_advance l C hR hP hD hS (qq := qq) (lo := lo) hT htu hc hsl (lv_sub hl [0, 1, 2, 3, 4, 5, 6, 7, 9, 10] rfl) kk
                  · skip
                    refine lv_iload_n hx hb dL_law_1011 rfl (lv_at hl 2 rfl) ?_
                    refine lv_if_le (tgt := 1048) hx hb dL_law_1012 (by decide) (fun c87 => ?_) (fun c87 => ?_)
                    · skip
                      exact lb_advance l C hR hP hD hS (qq := qq) (lo := lo) hT htu hc hsl (lv_sub hl [0, 1, 2, 3, 4, 5, 6, 7, 9, 10] rfl) kk
                    · skip
                      exact lb_scrap l C hR hP hD hS (qq := qq) (lo := lo) hT htu hc hsl (lv_sub hl [0, 1, 2, 3, 4, 5, 6, 7, 9, 10] rfl) kk (hq (nI_gt0 c87))
                · skip
                  exact lb_hold l C hR hP hD hS (qq := qq) (lo := lo) hT htu hc hsl (lv_sub hl [0, 1, 2, 3, 4, 5, 6, 7, 9, 10] rfl) kk (hlo0 (nI_gt0 c85))
            · skip
              refine lv_iload_n hx hb dL_law_865 rfl (lv_at hl 2 rfl) ?_
              refine lv_if_le (tgt := 924) hx hb dL_law_866 (by decide) (fun c88 => ?_) (fun c88 => ?_)
              · skip
                refine lv_iload hx hb dL_law_924 (lv_at hl 8 rfl) ?_
                refine lv_bipush (v := 9) hx hb dL_law_926 (by decide) ?_
                refine lv_icmp_ne (tgt := 1004) hx hb dL_law_928 (by decide) (fun c89 => ?_) (fun c89 => ?_)
                · skip
                  refine lv_iload hx hb dL_law_1004 (lv_at hl 8 rfl) ?_
                  refine lv_bipush (v := 10) hx hb dL_law_1006 (by decide) ?_
                  refine lv_icmp_ne (tgt := 1048) hx hb dL_law_1008 (by decide) (fun c90 => ?_) (fun c90 => ?_)
                  · skip
                    exact lb_advance l C hR hP hD hS (qq := qq) (lo := lo) hT htu hc hsl (lv_sub hl [0, 1, 2, 3, 4, 5, 6, 7, 9, 10] rfl) kk
                  · skip
                    refine lv_iload_n hx hb dL_law_1011 rfl (lv_at hl 2 rfl) ?_
                    refine lv_if_le (tgt := 1048) hx hb dL_law_1012 (by decide) (fun c91 => ?_) (fun c91 => ?_)
                    · skip
                      exact lb_advance l C hR hP hD hS (qq := qq) (lo := lo) hT htu hc hsl (lv_sub hl [0, 1, 2, 3, 4, 5, 6, 7, 9, 10] rfl) kk
                    · skip
                      exact lb_scrap l C hR hP hD hS (qq := qq) (lo := lo) hT htu hc hsl (lv_sub hl [0, 1, 2, 3, 4, 5, 6, 7, 9, 10] rfl) kk (hq (nI_gt0 c91))
                · skip
                  refine lv_aload_n hx hb dL_law_931 rfl (lv_at hl 1 rfl) ?_
                  obtain ⟨q92, e93⟩ := cell_0 hR (rfl : (0 : Nat) = 0)
                  refine gro_i (ci := 12) (As := []) (rest := []) ⟨hx, hb, hml, hown, hta⟩ (c_X10_lots l hR ) (cwV 0 hta (gWV mw110 mw111 mw112 mw40 mw113) rfl rfl rfl (by decide +kernel) ⟨Nat.le_of_ble_eq_true rfl, Nat.le_of_ble_eq_true rfl⟩) hK hP hD rfl e93 rfl hl.1 rfl (Nat.le_of_ble_eq_true rfl) dL_law_932 ⟨(by show cells + 0 ≤ 621943; omega), (by show slots + 0 ≤ 7227368; omega)⟩ (fun r94 c95 => ?_)
                  obtain rfl := c95
                  refine lv_if_le (tgt := 1004) hx hb dL_law_935 (by decide) (fun c96 => ?_) (fun c96 => ?_)
                  · skip
                    refine lv_iload hx hb dL_law_1004 (lv_at hl 8 rfl) ?_
                    refine lv_bipush (v := 10) hx hb dL_law_1006 (by decide) ?_
                    refine lv_icmp_ne (tgt := 1048) hx hb dL_law_1008 (by decide) (fun c97 => ?_) (fun c97 => ?_)
                    · skip
                      exact lb_advance l C hR hP hD hS (qq := qq) (lo := lo) hT htu hc hsl (lv_sub hl [0, 1, 2, 3, 4, 5, 6, 7, 9, 10] rfl) kk
                    · skip
                      refine lv_iload_n hx hb dL_law_1011 rfl (lv_at hl 2 rfl) ?_
                      refine lv_if_le (tgt := 1048) hx hb dL_law_1012 (by decide) (fun c98 => ?_) (fun c98 => ?_)
                      · skip
                        exact lb_advance l C hR hP hD hS (qq := qq) (lo := lo) hT htu hc hsl (lv_sub hl [0, 1, 2, 3, 4, 5, 6, 7, 9, 10] rfl) kk
                      · skip
                        exact lb_scrap l C hR hP hD hS (qq := qq) (lo := lo) hT htu hc hsl (lv_sub hl [0, 1, 2, 3, 4, 5, 6, 7, 9, 10] rfl) kk (hq (nI_gt0 c98))
                  · skip
                    exact lb_hold l C hR hP hD hS (qq := qq) (lo := lo) hT htu hc hsl (lv_sub hl [0, 1, 2, 3, 4, 5, 6, 7, 9, 10] rfl) kk (hlo0 (nI_gt0 c96))
              · skip
                exact lb_deliver l C hR hP hD hS (qq := qq) (lo := lo) hT htu hc hsl (lv_sub hl [0, 1, 2, 3, 4, 5, 6, 7, 9, 10] rfl) kk (hq (nI_gt0 c88))
          · skip
            refine lv_iload_n hx hb dL_law_673 rfl (lv_at hl 2 rfl) ?_
            refine lv_if_le (tgt := 858) hx hb dL_law_674 (by decide) (fun c99 => ?_) (fun c99 => ?_)
            · skip
              refine lv_iload hx hb dL_law_858 (lv_at hl 8 rfl) ?_
              refine lv_bipush (v := 8) hx hb dL_law_860 (by decide) ?_
              refine lv_icmp_ne (tgt := 924) hx hb dL_law_862 (by decide) (fun c100 => ?_) (fun c100 => ?_)
              · skip
                refine lv_iload hx hb dL_law_924 (lv_at hl 8 rfl) ?_
                refine lv_bipush (v := 9) hx hb dL_law_926 (by decide) ?_
                refine lv_icmp_ne (tgt := 1004) hx hb dL_law_928 (by decide) (fun c101 => ?_) (fun c101 => ?_)
                · skip
                  refine lv_iload hx hb dL_law_1004 (lv_at hl 8 rfl) ?_
                  refine lv_bipush (v := 10) hx hb dL_law_1006 (by decide) ?_
                  refine lv_icmp_ne (tgt := 1048) hx hb dL_law_1008 (by decide) (fun c102 => ?_) (fun c102 => ?_)
                  · skip
                    exact lb_advance l C hR hP hD hS (qq := qq) (lo := lo) hT htu hc hsl (lv_sub hl [0, 1, 2, 3, 4, 5, 6, 7, 9, 10] rfl) kk
                  · skip
                    refine lv_iload_n hx hb dL_law_1011 rfl (lv_at hl 2 rfl) ?_
                    refine lv_if_le (tgt := 1048) hx hb dL_law_1012 (by decide) (fun c103 => ?_) (fun c103 => ?_)
                    · skip
                      exact lb_advance l C hR hP hD hS (qq := qq) (lo := lo) hT htu hc hsl (lv_sub hl [0, 1, 2, 3, 4, 5, 6, 7, 9, 10] rfl) kk
                    · skip
                      exact lb_scrap l C hR hP hD hS (qq := qq) (lo := lo) hT htu hc hsl (lv_sub hl [0, 1, 2, 3, 4, 5, 6, 7, 9, 10] rfl) kk (hq (nI_gt0 c103))
                · skip
                  refine lv_aload_n hx hb dL_law_931 rfl (lv_at hl 1 rfl) ?_
                  obtain ⟨q104, e105⟩ := cell_0 hR (rfl : (0 : Nat) = 0)
                  refine gro_i (ci := 12) (As := []) (rest := []) ⟨hx, hb, hml, hown, hta⟩ (c_X10_lots l hR ) (cwV 0 hta (gWV mw110 mw111 mw112 mw40 mw113) rfl rfl rfl (by decide +kernel) ⟨Nat.le_of_ble_eq_true rfl, Nat.le_of_ble_eq_true rfl⟩) hK hP hD rfl e105 rfl hl.1 rfl (Nat.le_of_ble_eq_true rfl) dL_law_932 ⟨(by show cells + 0 ≤ 621943; omega), (by show slots + 0 ≤ 7227368; omega)⟩ (fun r106 c107 => ?_)
                  obtain rfl := c107
                  refine lv_if_le (tgt := 1004) hx hb dL_law_935 (by decide) (fun c108 => ?_) (fun c108 => ?_)
                  · skip
                    refine lv_iload hx hb dL_law_1004 (lv_at hl 8 rfl) ?_
                    refine lv_bipush (v := 10) hx hb dL_law_1006 (by decide) ?_
                    refine lv_icmp_ne (tgt := 1048) hx hb dL_law_1008 (by decide) (fun c109 => ?_) (fun c109 => ?_)
                    · skip
                      exact lb_advance l C hR hP hD hS (qq := qq) (lo := lo) hT htu hc hsl (lv_sub hl [0, 1, 2, 3, 4, 5, 6, 7, 9, 10] rfl) kk
                    · skip
                      refine lv_iload_n hx hb dL_law_1011 rfl (lv_at hl 2 rfl) ?_
                      refine lv_if_le (tgt := 1048) hx hb dL_law_1012 (by decide) (fun c110 => ?_) (fun c110 => ?_)
                      · skip
                        exact lb_advance l C hR hP hD hS (qq := qq) (lo := lo) hT htu hc hsl (lv_sub hl [0, 1, 2, 3, 4, 5, 6, 7, 9, 10] rfl) kk
                      · skip
                        exact lb_scrap l C hR hP hD hS (qq := qq) (lo := lo) hT htu hc hsl (lv_sub hl [0, 1, 2, 3, 4, 5, 6, 7, 9, 10] rfl) kk (hq (nI_gt0 c110))
                  · skip
                    exact lb_hold l C hR hP hD hS (qq := qq) (lo := lo) hT htu hc hsl (lv_sub hl [0, 1, 2, 3, 4, 5, 6, 7, 9, 10] rfl) kk (hlo0 (nI_gt0 c108))
              · skip
                refine lv_iload_n hx hb dL_law_865 rfl (lv_at hl 2 rfl) ?_
                refine lv_if_le (tgt := 924) hx hb dL_law_866 (by decide) (fun c111 => ?_) (fun c111 => ?_)
                · skip
                  refine lv_iload hx hb dL_law_924 (lv_at hl 8 rfl) ?_
                  refine lv_bipush (v := 9) hx hb dL_law_926 (by decide) ?_
                  refine lv_icmp_ne (tgt := 1004) hx hb dL_law_928 (by decide) (fun c112 => ?_) (fun c112 => ?_)
                  · skip
                    refine lv_iload hx hb dL_law_1004 (lv_at hl 8 rfl) ?_
                    refine lv_bipush (v := 10) hx hb dL_law_1006 (by decide) ?_
                    refine lv_icmp_ne (tgt := 1048) hx hb dL_law_1008 (by decide) (fun c113 => ?_) (fun c113 => ?_)
                    · skip
                      exact lb_advance l C hR hP hD hS (qq := qq) (lo := lo) hT htu hc hsl (lv_sub hl [0, 1, 2, 3, 4, 5, 6, 7, 9, 10] rfl) kk
                    · skip
                      refine lv_iload_n hx hb dL_law_1011 rfl (lv_at hl 2 rfl) ?_
                      refine lv_if_le (tgt := 1048) hx hb dL_law_1012 (by decide) (fun c114 => ?_) (fun c114 => ?_)
                      · skip
                        exact lb_advance l C hR hP hD hS (qq := qq) (lo := lo) hT htu hc hsl (lv_sub hl [0, 1, 2, 3, 4, 5, 6, 7, 9, 10] rfl) kk
                      · skip
                        exact lb_scrap l C hR hP hD hS (qq := qq) (lo := lo) hT htu hc hsl (lv_sub hl [0, 1, 2, 3, 4, 5, 6, 7, 9, 10] rfl) kk (hq (nI_gt0 c114))
                  · skip
                    refine lv_aload_n hx hb dL_law_931 rfl (lv_at hl 1 rfl) ?_
                    obtain ⟨q115, e116⟩ := cell_0 hR (rfl : (0 : Nat) = 0)
                    refine gro_i (ci := 12) (As := []) (rest := []) ⟨hx, hb, hml, hown, hta⟩ (c_X10_lots l hR ) (cwV 0 hta (gWV mw110 mw111 mw112 mw40 mw113) rfl rfl rfl (by decide +kernel) ⟨Nat.le_of_ble_eq_true rfl, Nat.le_of_ble_eq_true rfl⟩) hK hP hD rfl e116 rfl hl.1 rfl (Nat.le_of_ble_eq_true rfl) dL_law_932 ⟨(by show cells + 0 ≤ 621943; omega), (by show slots + 0 ≤ 7227368; omega)⟩ (fun r117 c118 => ?_)
                    obtain rfl := c118
                    refine lv_if_le (tgt := 1004) hx hb dL_law_935 (by decide) (fun c119 => ?_) (fun c119 => ?_)
                    · skip
                      refine lv_iload hx hb dL_law_1004 (lv_at hl 8 rfl) ?_
                      refine lv_bipush (v := 10) hx hb dL_law_1006 (by decide) ?_
                      refine lv_icmp_ne (tgt := 1048) hx hb dL_law_1008 (by decide) (fun c120 => ?_) (fun c120 => ?_)
                      · skip
                        exact lb_advance l C hR hP hD hS (qq := qq) (lo := lo) hT htu hc hsl (lv_sub hl [0, 1, 2, 3, 4, 5, 6, 7, 9, 10] rfl) kk
                      · skip
                        refine lv_iload_n hx hb dL_law_1011 rfl (lv_at hl 2 rfl) ?_
                        refine lv_if_le (tgt := 1048) hx hb dL_law_1012 (by decide) (fun c121 => ?_) (fun c121 => ?_)
                        · skip
                          exact lb_advance l C hR hP hD hS (qq := qq) (lo := lo) hT htu hc hsl (lv_sub hl [0, 1, 2, 3, 4, 5, 6, 7, 9, 10] rfl) kk
                        · skip
                          exact lb_scrap l C hR hP hD hS (qq := qq) (lo := lo) hT htu hc hsl (lv_sub hl [0, 1, 2, 3, 4, 5, 6, 7, 9, 10] rfl) kk (hq (nI_gt0 c121))
                    · skip
                      exact lb_hold l C hR hP hD hS (qq := qq) (lo := lo) hT htu hc hsl (lv_sub hl [0, 1, 2, 3, 4, 5, 6, 7, 9, 10] rfl) kk (hlo0 (nI_gt0 c119))
                · skip
                  exact lb_deliver l C hR hP hD hS (qq := qq) (lo := lo) hT htu hc hsl (lv_sub hl [0, 1, 2, 3, 4, 5, 6, 7, 9, 10] rfl) kk (hq (nI_gt0 c111))
            · skip
              have hqq := hq (nI_gt0 c99)
              refine lv_aload_n hx hb dL_law_677 rfl (lv_at hl 1 rfl) ?_
              refine lv_iload hx hb dL_law_678 (lv_at hl 9 rfl) ?_
              refine vp_callSi (run_of (vx_runSW (g := F0 m 680 ls [.int (nI qq), .ref (ad 0 0)]) (As := [.ref (ad 0 0), .int (nI qq)]) (rest := []) ⟨hx, hb, hml, hown, hta⟩ (c_L_stateOf l hR hW hqq (to_nar hT.1 hqq)) (vx_cwSW 2 hta (gWSW mw627 mw628 mw39 mw629) rfl rfl rfl (by decide +kernel) ⟨Nat.le_of_ble_eq_true rfl, Nat.le_of_ble_eq_true rfl⟩) (gPreB hK hP hD) rfl rfl hl.1 rfl (lv_room (Nat.le_of_ble_eq_true rfl)) dL_law_680 ⟨(by show cells + 0 ≤ 621943; omega), (by show slots + 0 ≤ 7227368; omega)⟩)) (fun r122 c123 => ?_)
              obtain rfl := c123
              refine lv_bipush (v := 45) hx hb dL_law_683 (by decide) ?_
              refine lv_icmp_ne (tgt := 858) hx hb dL_law_685 (by decide) (fun c124 => ?_) (fun c124 => ?_)
              · skip
                refine lv_iload hx hb dL_law_858 (lv_at hl 8 rfl) ?_
                refine lv_bipush (v := 8) hx hb dL_law_860 (by decide) ?_
                refine lv_icmp_ne (tgt := 924) hx hb dL_law_862 (by decide) (fun c125 => ?_) (fun c125 => ?_)
                · skip
                  refine lv_iload hx hb dL_law_924 (lv_at hl 8 rfl) ?_
                  refine lv_bipush (v := 9) hx hb dL_law_926 (by decide) ?_
                  refine lv_icmp_ne (tgt := 1004) hx hb dL_law_928 (by decide) (fun c126 => ?_) (fun c126 => ?_)
                  · skip
                    refine lv_iload hx hb dL_law_1004 (lv_at hl 8 rfl) ?_
                    refine lv_bipush (v := 10) hx hb dL_law_1006 (by decide) ?_
                    refine lv_icmp_ne (tgt := 1048) hx hb dL_law_1008 (by decide) (fun c127 => ?_) (fun c127 => ?_)
                    · skip
                      exact lb_advance l C hR hP hD hS (qq := qq) (lo := lo) hT htu hc hsl (lv_sub hl [0, 1, 2, 3, 4, 5, 6, 7, 9, 10] rfl) kk
                    · skip
                      refine lv_iload_n hx hb dL_law_1011 rfl (lv_at hl 2 rfl) ?_
                      refine lv_if_le (tgt := 1048) hx hb dL_law_1012 (by decide) (fun c128 => ?_) (fun c128 => ?_)
                      · skip
                        exact lb_advance l C hR hP hD hS (qq := qq) (lo := lo) hT htu hc hsl (lv_sub hl [0, 1, 2, 3, 4, 5, 6, 7, 9, 10] rfl) kk
                      · skip
                        exact lb_scrap l C hR hP hD hS (qq := qq) (lo := lo) hT htu hc hsl (lv_sub hl [0, 1, 2, 3, 4, 5, 6, 7, 9, 10] rfl) kk (hq (nI_gt0 c99))
                  · skip
                    refine lv_aload_n hx hb dL_law_931 rfl (lv_at hl 1 rfl) ?_
                    obtain ⟨q129, e130⟩ := cell_0 hR (rfl : (0 : Nat) = 0)
                    refine gro_i (ci := 12) (As := []) (rest := []) ⟨hx, hb, hml, hown, hta⟩ (c_X10_lots l hR ) (cwV 0 hta (gWV mw110 mw111 mw112 mw40 mw113) rfl rfl rfl (by decide +kernel) ⟨Nat.le_of_ble_eq_true rfl, Nat.le_of_ble_eq_true rfl⟩) hK hP hD rfl e130 rfl hl.1 rfl (Nat.le_of_ble_eq_true rfl) dL_law_932 ⟨(by show cells + 0 ≤ 621943; omega), (by show slots + 0 ≤ 7227368; omega)⟩ (fun r131 c132 => ?_)
                    obtain rfl := c132
                    refine lv_if_le (tgt := 1004) hx hb dL_law_935 (by decide) (fun c133 => ?_) (fun c133 => ?_)
                    · skip
                      refine lv_iload hx hb dL_law_1004 (lv_at hl 8 rfl) ?_
                      refine lv_bipush (v := 10) hx hb dL_law_1006 (by decide) ?_
                      refine lv_icmp_ne (tgt := 1048) hx hb dL_law_1008 (by decide) (fun c134 => ?_) (fun c134 => ?_)
                      · skip
                        exact lb_advance l C hR hP hD hS (qq := qq) (lo := lo) hT htu hc hsl (lv_sub hl [0, 1, 2, 3, 4, 5, 6, 7, 9, 10] rfl) kk
                      · skip
                        refine lv_iload_n hx hb dL_law_1011 rfl (lv_at hl 2 rfl) ?_
                        refine lv_if_le (tgt := 1048) hx hb dL_law_1012 (by decide) (fun c135 => ?_) (fun c135 => ?_)
                        · skip
                          exact lb_advance l C hR hP hD hS (qq := qq) (lo := lo) hT htu hc hsl (lv_sub hl [0, 1, 2, 3, 4, 5, 6, 7, 9, 10] rfl) kk
                        · skip
                          exact lb_scrap l C hR hP hD hS (qq := qq) (lo := lo) hT htu hc hsl (lv_sub hl [0, 1, 2, 3, 4, 5, 6, 7, 9, 10] rfl) kk (hq (nI_gt0 c99))
                    · skip
                      exact lb_hold l C hR hP hD hS (qq := qq) (lo := lo) hT htu hc hsl (lv_sub hl [0, 1, 2, 3, 4, 5, 6, 7, 9, 10] rfl) kk (hlo0 (nI_gt0 c133))
                · skip
                  refine lv_iload_n hx hb dL_law_865 rfl (lv_at hl 2 rfl) ?_
                  refine lv_if_le (tgt := 924) hx hb dL_law_866 (by decide) (fun c136 => ?_) (fun c136 => ?_)
                  · skip
                    refine lv_iload hx hb dL_law_924 (lv_at hl 8 rfl) ?_
                    refine lv_bipush (v := 9) hx hb dL_law_926 (by decide) ?_
                    refine lv_icmp_ne (tgt := 1004) hx hb dL_law_928 (by decide) (fun c137 => ?_) (fun c137 => ?_)
                    · skip
                      refine lv_iload hx hb dL_law_1004 (lv_at hl 8 rfl) ?_
                      refine lv_bipush (v := 10) hx hb dL_law_1006 (by decide) ?_
                      refine lv_icmp_ne (tgt := 1048) hx hb dL_law_1008 (by decide) (fun c138 => ?_) (fun c138 => ?_)
                      · skip
                        exact lb_advance l C hR hP hD hS (qq := qq) (lo := lo) hT htu hc hsl (lv_sub hl [0, 1, 2, 3, 4, 5, 6, 7, 9, 10] rfl) kk
                      · skip
                        refine lv_iload_n hx hb dL_law_1011 rfl (lv_at hl 2 rfl) ?_
                        refine lv_if_le (tgt := 1048) hx hb dL_law_1012 (by decide) (fun c139 => ?_) (fun c139 => ?_)
                        · skip
                          exact lb_advance l C hR hP hD hS (qq := qq) (lo := lo) hT htu hc hsl (lv_sub hl [0, 1, 2, 3, 4, 5, 6, 7, 9, 10] rfl) kk
                        · skip
                          exact lb_scrap l C hR hP hD hS (qq := qq) (lo := lo) hT htu hc hsl (lv_sub hl [0, 1, 2, 3, 4, 5, 6, 7, 9, 10] rfl) kk (hq (nI_gt0 c99))
                    · skip
                      refine lv_aload_n hx hb dL_law_931 rfl (lv_at hl 1 rfl) ?_
                      obtain ⟨q140, e141⟩ := cell_0 hR (rfl : (0 : Nat) = 0)
                      refine gro_i (ci := 12) (As := []) (rest := []) ⟨hx, hb, hml, hown, hta⟩ (c_X10_lots l hR ) (cwV 0 hta (gWV mw110 mw111 mw112 mw40 mw113) rfl rfl rfl (by decide +kernel) ⟨Nat.le_of_ble_eq_true rfl, Nat.le_of_ble_eq_true rfl⟩) hK hP hD rfl e141 rfl hl.1 rfl (Nat.le_of_ble_eq_true rfl) dL_law_932 ⟨(by show cells + 0 ≤ 621943; omega), (by show slots + 0 ≤ 7227368; omega)⟩ (fun r142 c143 => ?_)
                      obtain rfl := c143
                      refine lv_if_le (tgt := 1004) hx hb dL_law_935 (by decide) (fun c144 => ?_) (fun c144 => ?_)
                      · skip
                        refine lv_iload hx hb dL_law_1004 (lv_at hl 8 rfl) ?_
                        refine lv_bipush (v := 10) hx hb dL_law_1006 (by decide) ?_
                        refine lv_icmp_ne (tgt := 1048) hx hb dL_law_1008 (by decide) (fun c145 => ?_) (fun c145 => ?_)
                        · skip
                          exact lb_advance l C hR hP hD hS (qq := qq) (lo := lo) hT htu hc hsl (lv_sub hl [0, 1, 2, 3, 4, 5, 6, 7, 9, 10] rfl) kk
                        · skip
                          refine lv_iload_n hx hb dL_law_1011 rfl (lv_at hl 2 rfl) ?_
                          refine lv_if_le (tgt := 1048) hx hb dL_law_1012 (by decide) (fun c146 => ?_) (fun c146 => ?_)
                          · skip
                            exact lb_advance l C hR hP hD hS (qq := qq) (lo := lo) hT htu hc hsl (lv_sub hl [0, 1, 2, 3, 4, 5, 6, 7, 9, 10] rfl) kk
                          · skip
                            exact lb_scrap l C hR hP hD hS (qq := qq) (lo := lo) hT htu hc hsl (lv_sub hl [0, 1, 2, 3, 4, 5, 6, 7, 9, 10] rfl) kk (hq (nI_gt0 c99))
                      · skip
                        exact lb_hold l C hR hP hD hS (qq := qq) (lo := lo) hT htu hc hsl (lv_sub hl [0, 1, 2, 3, 4, 5, 6, 7, 9, 10] rfl) kk (hlo0 (nI_gt0 c144))
                  · skip
                    exact lb_deliver l C hR hP hD hS (qq := qq) (lo := lo) hT htu hc hsl (lv_sub hl [0, 1, 2, 3, 4, 5, 6, 7, 9, 10] rfl) kk (hq (nI_gt0 c99))
              · skip
                exact lb_promise l C hR hP hD hS (qq := qq) (lo := lo) hT htu hc hsl (lv_sub hl [0, 1, 2, 3, 4, 5, 6, 7, 9, 10] rfl) kk hqq c124
        · skip
          exact lb_release l C hR hP hD hS (qq := qq) (lo := lo) hT htu hc hsl (lv_sub hl [0, 1, 2, 3, 4, 5, 6, 7, 9, 10] rfl) kk (hq (nI_gt0 c75))
    · skip
      exact lb_order l C hR hP hD hS (qq := qq) (lo := lo) hT htu hc hsl (lv_sub hl [0, 1, 2, 3, 4, 5, 6, 7, 9, 10] rfl) kk
  · skip
    exact lb_receive l C hR hP hD hS (qq := qq) (lo := lo) hT htu hc hsl (lv_sub hl [0, 1, 2, 3, 4, 5, 6, 7, 9, 10] rfl) kk

set_option maxHeartbeats 8000000 in
set_option maxRecDepth 100000 in
/-- A TURN -/
theorem lw_turn {p : Program} {e : Env} {s : State} {m : MethodId} {below : List Frame} {meth : Method} {c : Code} (l : Launch) {b Ln : Nat} {xs : Nat → Int32} {A : Nat → Prop} {D : va_G} {tA : Nat → ClassId} (C : LwC p l s m meth c b Ln xs A D tA) {S : St} {ad : Nat → Nat → Nat} {L : List Nat} {f : Nat → va_E} {H : Heap} {locs : List Loc} {ls : Array Slot} {cells slots : Nat} (hR : Rep tA S ad L f) (hP : va_P D vwCl (va_pl L f) H) (hD : va_D A (va_pl L f)) (hS : va_S A s.heap H locs) {tu : Nat} (hT : TI S tu) (htu : tu < 60) (hc : cells + 800 ≤ 621943) (hsl : slots + 4000 ≤ 7227368) (hl : lv_has ls 19 [(0, .ref b), (1, .ref (ad 0 0)), (2, .int (nI (sN S 3 0))), (3, .int (nI (sN S 0 0))), (4, .int (sI S 2 0)), (5, .long (sJ S 1 0)), (7, .int (nI tu))]) (kk : ∀ (T : St) (ad : Nat → Nat → Nat) (L : List Nat) (f : Nat → va_E) (H : Heap) (locs : List Loc) (ls : Array Slot) (ce sl : Nat), TI T (tu + 1) → Rep tA T ad L f → va_P D vwCl (va_pl L f) H → va_D A (va_pl L f) → va_S A s.heap H locs → lv_has ls 19 [(0, .ref b), (1, .ref (ad 0 0)), (2, .int (nI (sN T 3 0))), (3, .int (nI (sN T 0 0))), (4, .int (sI T 2 0)), (5, .long (sJ T 1 0)), (7, .int (nI tu))] → ce ≤ cells + 800 → sl ≤ slots + 4000 → W p l e room_1 s m #[Value.ref b] below meth c H locs ce sl (lw_Z below #[Value.ref b] s) (F0 m 1344 ls [])) : W p l e room_1 s m #[Value.ref b] below meth c H locs cells slots (lw_Z below #[Value.ref b] s) (F0 m 305 ls []) := by
  obtain ⟨C0, hL, hA, hA2, hX, hQ, hK, hl0⟩ := id C
  obtain ⟨hx, hb, hr, hml, hown0, hts, hXs, hbl, hlocks, hgv⟩ := id C0
  have hta : ∀ w ∈ WA, w.before #[Value.ref b] s = true := fun w h => hts w (WA_in w h)
  have hown : s.vm.findClass RL = some m.cls := hown0
  have hbA : ¬ A b := fun h => absurd (hA2 b h) (Nat.not_le.mpr hbl)
  have hW := hT.1.1.1
  refine lv_bipush (v := 40) hx hb dL_law_305 (by decide) ?_
  refine lv_iconst (v := 5) hx hb dL_law_307 (by decide) ?_
  refine lv_iload hx hb dL_law_308 (lv_at hl 6 rfl) ?_
  refine lv_imul hx hb dL_law_310 ?_
  refine lv_topi (fun x1 ex1 => ?_)
  obtain rfl : x1 = nI (5 * tu) := ex1.trans (nI_mul 5 tu)
  refine lv_iadd hx hb dL_law_311 ?_
  refine lv_topi (fun x2 ex2 => ?_)
  obtain rfl : x2 = nI (40 + 5 * tu) := ex2.trans (nI_add 40 (5 * tu))
  refine lv_istore (lv' := [(8, .int (nI (40 + 5 * tu))), (0, .ref b), (1, .ref (ad 0 0)), (2, .int (nI (sN S 3 0))), (3, .int (nI (sN S 0 0))), (4, .int (sI S 2 0)), (5, .long (sJ S 1 0)), (7, .int (nI tu))]) hx hb dL_law_312 hl (by decide) rfl (fun ls hl => ?_)
  refine lv_iload hx hb dL_law_314 (lv_at hl 7 rfl) ?_
  refine lv_iconst (v := 5) hx hb dL_law_316 (by decide) ?_
  refine lv_icmp_ge (tgt := 324) hx hb dL_law_317 (by decide) (fun c3 => ?_) (fun c3 => ?_)
  · skip
    refine lv_aload_n hx hb dL_law_324 rfl (lv_at hl 1 rfl) ?_
    refine lv_iload hx hb dL_law_325 (lv_at hl 0 rfl) ?_
    refine lv_bipush (v := 12) hx hb dL_law_327 (by decide) ?_
    refine vp_callSi (run_of (va_runS (g := F0 m 329 ls [.int 12, .int (nI (40 + 5 * tu)), .ref b]) (As := [.ref b, .int (nI (40 + 5 * tu)), .int 12]) (rest := []) ⟨hx, hb, hml, hown, hta⟩ (c_L_some l (xs := xs) hL (k := 40 + 5 * tu) (n := 12) (by omega) (by decide) (by decide)) (va_cwS 3 hta (gWS mw208 mw209 mw39 mw210) rfl rfl rfl (by decide +kernel) ⟨Nat.le_of_ble_eq_true rfl, Nat.le_of_ble_eq_true rfl⟩) (gPreS hXs hbl hbA hS) rfl rfl hl.1 rfl (lv_room (Nat.le_of_ble_eq_true rfl)) dL_law_329 ⟨(by show cells + 0 ≤ 621943; omega), (by show slots + 0 ≤ 7227368; omega)⟩)) (fun r4 c5 => ?_)
    obtain rfl := c5
    obtain ⟨v6, ev7, hv8⟩ : ∃ v, smV Ln xs (40 + 5 * tu) 12 = v ∧ v < 12 := ⟨_, rfl, smV_lt (by decide)⟩
    rw [ev7]
    refine lv_istore (lv' := [(9, .int (nI v6)), (8, .int (nI (40 + 5 * tu))), (0, .ref b), (1, .ref (ad 0 0)), (2, .int (nI (sN S 3 0))), (3, .int (nI (sN S 0 0))), (4, .int (sI S 2 0)), (5, .long (sJ S 1 0)), (7, .int (nI tu))]) hx hb dL_law_332 hl (by decide) rfl (fun ls hl => ?_)
    refine lv_iload_n hx hb dL_law_334 rfl (lv_at hl 4 rfl) ?_
    refine lv_if_ne (tgt := 342) hx hb dL_law_335 (by decide) (fun c9 => ?_) (fun c9 => ?_)
    · skip
      have hpO := nI_n0 c9
      refine lv_aload_n hx hb dL_law_342 rfl (lv_at hl 2 rfl) ?_
      refine lv_iload hx hb dL_law_343 (lv_at hl 1 rfl) ?_
      refine lv_iconst (v := 1) hx hb dL_law_345 (by decide) ?_
      refine lv_iadd hx hb dL_law_346 ?_
      refine lv_topi (fun x10 ex10 => ?_)
      obtain rfl : x10 = nI (40 + 5 * tu + 1) := ex10.trans (nI_add (40 + 5 * tu) 1)
      refine lv_iload_n hx hb dL_law_347 rfl (lv_at hl 4 rfl) ?_
      refine vp_callSi (run_of (va_runS (g := F0 m 348 ls [.int (nI (sN S 3 0)), .int (nI (40 + 5 * tu + 1)), .ref b]) (As := [.ref b, .int (nI (40 + 5 * tu + 1)), .int (nI (sN S 3 0))]) (rest := []) ⟨hx, hb, hml, hown, hta⟩ (c_L_some l (xs := xs) hL (k := 40 + 5 * tu + 1) (n := sN S 3 0) (by omega) hpO (by have := hW.nO; omega)) (va_cwS 3 hta (gWS mw208 mw209 mw39 mw210) rfl rfl rfl (by decide +kernel) ⟨Nat.le_of_ble_eq_true rfl, Nat.le_of_ble_eq_true rfl⟩) (gPreS hXs hbl hbA hS) rfl rfl hl.1 rfl (lv_room (Nat.le_of_ble_eq_true rfl)) dL_law_348 ⟨(by show cells + 0 ≤ 621943; omega), (by show slots + 0 ≤ 7227368; omega)⟩)) (fun r11 c12 => ?_)
      obtain rfl := c12
      obtain ⟨v13, ev14, hv15⟩ : ∃ v, smV Ln xs (40 + 5 * tu + 1) (sN S 3 0) = v ∧ v < sN S 3 0 := ⟨_, rfl, smV_lt hpO⟩
      rw [ev14]
      refine lv_istore (lv' := [(10, .int (nI v13)), (9, .int (nI v6)), (8, .int (nI (40 + 5 * tu))), (0, .ref b), (1, .ref (ad 0 0)), (2, .int (nI (sN S 3 0))), (3, .int (nI (sN S 0 0))), (4, .int (sI S 2 0)), (5, .long (sJ S 1 0)), (7, .int (nI tu))]) hx hb dL_law_351 hl (by decide) rfl (fun ls hl => ?_)
      refine lv_aload_n hx hb dL_law_353 rfl (lv_at hl 4 rfl) ?_
      obtain ⟨q16, e17⟩ := cell_0 hR (rfl : (0 : Nat) = 0)
      refine gro_i (ci := 12) (As := []) (rest := []) ⟨hx, hb, hml, hown, hta⟩ (c_X10_lots l hR ) (cwV 0 hta (gWV mw110 mw111 mw112 mw40 mw113) rfl rfl rfl (by decide +kernel) ⟨Nat.le_of_ble_eq_true rfl, Nat.le_of_ble_eq_true rfl⟩) hK hP hD rfl e17 rfl hl.1 rfl (Nat.le_of_ble_eq_true rfl) dL_law_354 ⟨(by show cells + 0 ≤ 621943; omega), (by show slots + 0 ≤ 7227368; omega)⟩ (fun r18 c19 => ?_)
      obtain rfl := c19
      refine lv_if_ne (tgt := 364) hx hb dL_law_357 (by decide) (fun c20 => ?_) (fun c20 => ?_)
      · skip
        have hpL := nI_n0 c20
        refine lv_aload_n hx hb dL_law_364 rfl (lv_at hl 3 rfl) ?_
        refine lv_iload hx hb dL_law_365 (lv_at hl 2 rfl) ?_
        refine lv_iconst (v := 2) hx hb dL_law_367 (by decide) ?_
        refine lv_iadd hx hb dL_law_368 ?_
        refine lv_topi (fun x21 ex21 => ?_)
        obtain rfl : x21 = nI (40 + 5 * tu + 2) := ex21.trans (nI_add (40 + 5 * tu) 2)
        refine lv_aload_n hx hb dL_law_369 rfl (lv_at hl 4 rfl) ?_
        obtain ⟨q22, e23⟩ := cell_0 hR (rfl : (0 : Nat) = 0)
        refine gro_i (ci := 12) (As := []) (rest := [.int (nI (40 + 5 * tu + 2)), .ref b]) ⟨hx, hb, hml, hown, hta⟩ (c_X10_lots l hR ) (cwV 0 hta (gWV mw110 mw111 mw112 mw40 mw113) rfl rfl rfl (by decide +kernel) ⟨Nat.le_of_ble_eq_true rfl, Nat.le_of_ble_eq_true rfl⟩) hK hP hD rfl e23 rfl hl.1 rfl (Nat.le_of_ble_eq_true rfl) dL_law_370 ⟨(by show cells + 0 ≤ 621943; omega), (by show slots + 0 ≤ 7227368; omega)⟩ (fun r24 c25 => ?_)
        obtain rfl := c25
        refine vp_callSi (run_of (va_runS (g := F0 m 373 ls [.int (nI (sN S 2 0)), .int (nI (40 + 5 * tu + 2)), .ref b]) (As := [.ref b, .int (nI (40 + 5 * tu + 2)), .int (nI (sN S 2 0))]) (rest := []) ⟨hx, hb, hml, hown, hta⟩ (c_L_some l (xs := xs) hL (k := 40 + 5 * tu + 2) (n := sN S 2 0) (by omega) hpL (by have := hW.nL; omega)) (va_cwS 3 hta (gWS mw208 mw209 mw39 mw210) rfl rfl rfl (by decide +kernel) ⟨Nat.le_of_ble_eq_true rfl, Nat.le_of_ble_eq_true rfl⟩) (gPreS hXs hbl hbA hS) rfl rfl hl.1 rfl (lv_room (Nat.le_of_ble_eq_true rfl)) dL_law_373 ⟨(by show cells + 0 ≤ 621943; omega), (by show slots + 0 ≤ 7227368; omega)⟩)) (fun r26 c27 => ?_)
        obtain rfl := c27
        obtain ⟨v28, ev29, hv30⟩ : ∃ v, smV Ln xs (40 + 5 * tu + 2) (sN S 2 0) = v ∧ v < sN S 2 0 := ⟨_, rfl, smV_lt hpL⟩
        rw [ev29]
        refine lv_istore (lv' := [(11, .int (nI v28)), (10, .int (nI v13)), (9, .int (nI v6)), (8, .int (nI (40 + 5 * tu))), (0, .ref b), (1, .ref (ad 0 0)), (2, .int (nI (sN S 3 0))), (3, .int (nI (sN S 0 0))), (4, .int (sI S 2 0)), (5, .long (sJ S 1 0)), (7, .int (nI tu))]) hx hb dL_law_376 hl (by decide) rfl (fun ls hl => ?_)
        exact lt_case l C hR hP hD hS (wh := v6) (qq := v13) (lo := v28) hT htu hc hsl (lv_sub hl [4, 5, 6, 7, 8, 9, 10, 3, 2, 1, 0] rfl) kk (fun _ => hv15) (fun _ => hv30)
      · skip
        refine lv_iconst (v := 0) hx hb dL_law_360 (by decide) ?_
        refine lv_goto (tgt := 376) hx hb dL_law_361 (by decide) ?_
        refine lv_istore (lv' := [(11, .int 0), (10, .int (nI v13)), (9, .int (nI v6)), (8, .int (nI (40 + 5 * tu))), (0, .ref b), (1, .ref (ad 0 0)), (2, .int (nI (sN S 3 0))), (3, .int (nI (sN S 0 0))), (4, .int (sI S 2 0)), (5, .long (sJ S 1 0)), (7, .int (nI tu))]) hx hb dL_law_376 hl (by decide) rfl (fun ls hl => ?_)
        exact lt_case l C hR hP hD hS (wh := v6) (qq := v13) (lo := 0) hT htu hc hsl (lv_sub hl [4, 5, 6, 7, 8, 9, 10, 3, 2, 1, 0] rfl) kk (fun _ => hv15) (fun h9 => absurd (nI_z (by have := hW.nL; omega) c20) (Nat.ne_of_gt h9))
    · skip
      refine lv_iconst (v := 0) hx hb dL_law_338 (by decide) ?_
      refine lv_goto (tgt := 351) hx hb dL_law_339 (by decide) ?_
      refine lv_istore (lv' := [(10, .int 0), (9, .int (nI v6)), (8, .int (nI (40 + 5 * tu))), (0, .ref b), (1, .ref (ad 0 0)), (2, .int (nI (sN S 3 0))), (3, .int (nI (sN S 0 0))), (4, .int (sI S 2 0)), (5, .long (sJ S 1 0)), (7, .int (nI tu))]) hx hb dL_law_351 hl (by decide) rfl (fun ls hl => ?_)
      refine lv_aload_n hx hb dL_law_353 rfl (lv_at hl 4 rfl) ?_
      obtain ⟨q31, e32⟩ := cell_0 hR (rfl : (0 : Nat) = 0)
      refine gro_i (ci := 12) (As := []) (rest := []) ⟨hx, hb, hml, hown, hta⟩ (c_X10_lots l hR ) (cwV 0 hta (gWV mw110 mw111 mw112 mw40 mw113) rfl rfl rfl (by decide +kernel) ⟨Nat.le_of_ble_eq_true rfl, Nat.le_of_ble_eq_true rfl⟩) hK hP hD rfl e32 rfl hl.1 rfl (Nat.le_of_ble_eq_true rfl) dL_law_354 ⟨(by show cells + 0 ≤ 621943; omega), (by show slots + 0 ≤ 7227368; omega)⟩ (fun r33 c34 => ?_)
      obtain rfl := c34
      refine lv_if_ne (tgt := 364) hx hb dL_law_357 (by decide) (fun c35 => ?_) (fun c35 => ?_)
      · skip
        have hpL := nI_n0 c35
        refine lv_aload_n hx hb dL_law_364 rfl (lv_at hl 3 rfl) ?_
        refine lv_iload hx hb dL_law_365 (lv_at hl 2 rfl) ?_
        refine lv_iconst (v := 2) hx hb dL_law_367 (by decide) ?_
        refine lv_iadd hx hb dL_law_368 ?_
        refine lv_topi (fun x36 ex36 => ?_)
        obtain rfl : x36 = nI (40 + 5 * tu + 2) := ex36.trans (nI_add (40 + 5 * tu) 2)
        refine lv_aload_n hx hb dL_law_369 rfl (lv_at hl 4 rfl) ?_
        obtain ⟨q37, e38⟩ := cell_0 hR (rfl : (0 : Nat) = 0)
        refine gro_i (ci := 12) (As := []) (rest := [.int (nI (40 + 5 * tu + 2)), .ref b]) ⟨hx, hb, hml, hown, hta⟩ (c_X10_lots l hR ) (cwV 0 hta (gWV mw110 mw111 mw112 mw40 mw113) rfl rfl rfl (by decide +kernel) ⟨Nat.le_of_ble_eq_true rfl, Nat.le_of_ble_eq_true rfl⟩) hK hP hD rfl e38 rfl hl.1 rfl (Nat.le_of_ble_eq_true rfl) dL_law_370 ⟨(by show cells + 0 ≤ 621943; omega), (by show slots + 0 ≤ 7227368; omega)⟩ (fun r39 c40 => ?_)
        obtain rfl := c40
        refine vp_callSi (run_of (va_runS (g := F0 m 373 ls [.int (nI (sN S 2 0)), .int (nI (40 + 5 * tu + 2)), .ref b]) (As := [.ref b, .int (nI (40 + 5 * tu + 2)), .int (nI (sN S 2 0))]) (rest := []) ⟨hx, hb, hml, hown, hta⟩ (c_L_some l (xs := xs) hL (k := 40 + 5 * tu + 2) (n := sN S 2 0) (by omega) hpL (by have := hW.nL; omega)) (va_cwS 3 hta (gWS mw208 mw209 mw39 mw210) rfl rfl rfl (by decide +kernel) ⟨Nat.le_of_ble_eq_true rfl, Nat.le_of_ble_eq_true rfl⟩) (gPreS hXs hbl hbA hS) rfl rfl hl.1 rfl (lv_room (Nat.le_of_ble_eq_true rfl)) dL_law_373 ⟨(by show cells + 0 ≤ 621943; omega), (by show slots + 0 ≤ 7227368; omega)⟩)) (fun r41 c42 => ?_)
        obtain rfl := c42
        obtain ⟨v43, ev44, hv45⟩ : ∃ v, smV Ln xs (40 + 5 * tu + 2) (sN S 2 0) = v ∧ v < sN S 2 0 := ⟨_, rfl, smV_lt hpL⟩
        rw [ev44]
        refine lv_istore (lv' := [(11, .int (nI v43)), (10, .int 0), (9, .int (nI v6)), (8, .int (nI (40 + 5 * tu))), (0, .ref b), (1, .ref (ad 0 0)), (2, .int (nI (sN S 3 0))), (3, .int (nI (sN S 0 0))), (4, .int (sI S 2 0)), (5, .long (sJ S 1 0)), (7, .int (nI tu))]) hx hb dL_law_376 hl (by decide) rfl (fun ls hl => ?_)
        exact lt_case l C hR hP hD hS (wh := v6) (qq := 0) (lo := v43) hT htu hc hsl (lv_sub hl [4, 5, 6, 7, 8, 9, 10, 3, 2, 1, 0] rfl) kk (fun h9 => absurd (nI_z (by have := hW.nO; omega) c9) (Nat.ne_of_gt h9)) (fun _ => hv45)
      · skip
        refine lv_iconst (v := 0) hx hb dL_law_360 (by decide) ?_
        refine lv_goto (tgt := 376) hx hb dL_law_361 (by decide) ?_
        refine lv_istore (lv' := [(11, .int 0), (10, .int 0), (9, .int (nI v6)), (8, .int (nI (40 + 5 * tu))), (0, .ref b), (1, .ref (ad 0 0)), (2, .int (nI (sN S 3 0))), (3, .int (nI (sN S 0 0))), (4, .int (sI S 2 0)), (5, .long (sJ S 1 0)), (7, .int (nI tu))]) hx hb dL_law_376 hl (by decide) rfl (fun ls hl => ?_)
        exact lt_case l C hR hP hD hS (wh := v6) (qq := 0) (lo := 0) hT htu hc hsl (lv_sub hl [4, 5, 6, 7, 8, 9, 10, 3, 2, 1, 0] rfl) kk (fun h9 => absurd (nI_z (by have := hW.nO; omega) c9) (Nat.ne_of_gt h9)) (fun h9 => absurd (nI_z (by have := hW.nL; omega) c35) (Nat.ne_of_gt h9))
  · skip
    refine lv_iconst (v := 0) hx hb dL_law_320 (by decide) ?_
    refine lv_goto (tgt := 332) hx hb dL_law_321 (by decide) ?_
    refine lv_istore (lv' := [(9, .int 0), (8, .int (nI (40 + 5 * tu))), (0, .ref b), (1, .ref (ad 0 0)), (2, .int (nI (sN S 3 0))), (3, .int (nI (sN S 0 0))), (4, .int (sI S 2 0)), (5, .long (sJ S 1 0)), (7, .int (nI tu))]) hx hb dL_law_332 hl (by decide) rfl (fun ls hl => ?_)
    refine lv_iload_n hx hb dL_law_334 rfl (lv_at hl 4 rfl) ?_
    refine lv_if_ne (tgt := 342) hx hb dL_law_335 (by decide) (fun c46 => ?_) (fun c46 => ?_)
    · skip
      have hpO := nI_n0 c46
      refine lv_aload_n hx hb dL_law_342 rfl (lv_at hl 2 rfl) ?_
      refine lv_iload hx hb dL_law_343 (lv_at hl 1 rfl) ?_
      refine lv_iconst (v := 1) hx hb dL_law_345 (by decide) ?_
      refine lv_iadd hx hb dL_law_346 ?_
      refine lv_topi (fun x47 ex47 => ?_)
      obtain rfl : x47 = nI (40 + 5 * tu + 1) := ex47.trans (nI_add (40 + 5 * tu) 1)
      refine lv_iload_n hx hb dL_law_347 rfl (lv_at hl 4 rfl) ?_
      refine vp_callSi (run_of (va_runS (g := F0 m 348 ls [.int (nI (sN S 3 0)), .int (nI (40 + 5 * tu + 1)), .ref b]) (As := [.ref b, .int (nI (40 + 5 * tu + 1)), .int (nI (sN S 3 0))]) (rest := []) ⟨hx, hb, hml, hown, hta⟩ (c_L_some l (xs := xs) hL (k := 40 + 5 * tu + 1) (n := sN S 3 0) (by omega) hpO (by have := hW.nO; omega)) (va_cwS 3 hta (gWS mw208 mw209 mw39 mw210) rfl rfl rfl (by decide +kernel) ⟨Nat.le_of_ble_eq_true rfl, Nat.le_of_ble_eq_true rfl⟩) (gPreS hXs hbl hbA hS) rfl rfl hl.1 rfl (lv_room (Nat.le_of_ble_eq_true rfl)) dL_law_348 ⟨(by show cells + 0 ≤ 621943; omega), (by show slots + 0 ≤ 7227368; omega)⟩)) (fun r48 c49 => ?_)
      obtain rfl := c49
      obtain ⟨v50, ev51, hv52⟩ : ∃ v, smV Ln xs (40 + 5 * tu + 1) (sN S 3 0) = v ∧ v < sN S 3 0 := ⟨_, rfl, smV_lt hpO⟩
      rw [ev51]
      refine lv_istore (lv' := [(10, .int (nI v50)), (9, .int 0), (8, .int (nI (40 + 5 * tu))), (0, .ref b), (1, .ref (ad 0 0)), (2, .int (nI (sN S 3 0))), (3, .int (nI (sN S 0 0))), (4, .int (sI S 2 0)), (5, .long (sJ S 1 0)), (7, .int (nI tu))]) hx hb dL_law_351 hl (by decide) rfl (fun ls hl => ?_)
      refine lv_aload_n hx hb dL_law_353 rfl (lv_at hl 4 rfl) ?_
      obtain ⟨q53, e54⟩ := cell_0 hR (rfl : (0 : Nat) = 0)
      refine gro_i (ci := 12) (As := []) (rest := []) ⟨hx, hb, hml, hown, hta⟩ (c_X10_lots l hR ) (cwV 0 hta (gWV mw110 mw111 mw112 mw40 mw113) rfl rfl rfl (by decide +kernel) ⟨Nat.le_of_ble_eq_true rfl, Nat.le_of_ble_eq_true rfl⟩) hK hP hD rfl e54 rfl hl.1 rfl (Nat.le_of_ble_eq_true rfl) dL_law_354 ⟨(by show cells + 0 ≤ 621943; omega), (by show slots + 0 ≤ 7227368; omega)⟩ (fun r55 c56 => ?_)
      obtain rfl := c56
      refine lv_if_ne (tgt := 364) hx hb dL_law_357 (by decide) (fun c57 => ?_) (fun c57 => ?_)
      · skip
        have hpL := nI_n0 c57
        refine lv_aload_n hx hb dL_law_364 rfl (lv_at hl 3 rfl) ?_
        refine lv_iload hx hb dL_law_365 (lv_at hl 2 rfl) ?_
        refine lv_iconst (v := 2) hx hb dL_law_367 (by decide) ?_
        refine lv_iadd hx hb dL_law_368 ?_
        refine lv_topi (fun x58 ex58 => ?_)
        obtain rfl : x58 = nI (40 + 5 * tu + 2) := ex58.trans (nI_add (40 + 5 * tu) 2)
        refine lv_aload_n hx hb dL_law_369 rfl (lv_at hl 4 rfl) ?_
        obtain ⟨q59, e60⟩ := cell_0 hR (rfl : (0 : Nat) = 0)
        refine gro_i (ci := 12) (As := []) (rest := [.int (nI (40 + 5 * tu + 2)), .ref b]) ⟨hx, hb, hml, hown, hta⟩ (c_X10_lots l hR ) (cwV 0 hta (gWV mw110 mw111 mw112 mw40 mw113) rfl rfl rfl (by decide +kernel) ⟨Nat.le_of_ble_eq_true rfl, Nat.le_of_ble_eq_true rfl⟩) hK hP hD rfl e60 rfl hl.1 rfl (Nat.le_of_ble_eq_true rfl) dL_law_370 ⟨(by show cells + 0 ≤ 621943; omega), (by show slots + 0 ≤ 7227368; omega)⟩ (fun r61 c62 => ?_)
        obtain rfl := c62
        refine vp_callSi (run_of (va_runS (g := F0 m 373 ls [.int (nI (sN S 2 0)), .int (nI (40 + 5 * tu + 2)), .ref b]) (As := [.ref b, .int (nI (40 + 5 * tu + 2)), .int (nI (sN S 2 0))]) (rest := []) ⟨hx, hb, hml, hown, hta⟩ (c_L_some l (xs := xs) hL (k := 40 + 5 * tu + 2) (n := sN S 2 0) (by omega) hpL (by have := hW.nL; omega)) (va_cwS 3 hta (gWS mw208 mw209 mw39 mw210) rfl rfl rfl (by decide +kernel) ⟨Nat.le_of_ble_eq_true rfl, Nat.le_of_ble_eq_true rfl⟩) (gPreS hXs hbl hbA hS) rfl rfl hl.1 rfl (lv_room (Nat.le_of_ble_eq_true rfl)) dL_law_373 ⟨(by show cells + 0 ≤ 621943; omega), (by show slots + 0 ≤ 7227368; omega)⟩)) (fun r63 c64 => ?_)
        obtain rfl := c64
        obtain ⟨v65, ev66, hv67⟩ : ∃ v, smV Ln xs (40 + 5 * tu + 2) (sN S 2 0) = v ∧ v < sN S 2 0 := ⟨_, rfl, smV_lt hpL⟩
        rw [ev66]
        refine lv_istore (lv' := [(11, .int (nI v65)), (10, .int (nI v50)), (9, .int 0), (8, .int (nI (40 + 5 * tu))), (0, .ref b), (1, .ref (ad 0 0)), (2, .int (nI (sN S 3 0))), (3, .int (nI (sN S 0 0))), (4, .int (sI S 2 0)), (5, .long (sJ S 1 0)), (7, .int (nI tu))]) hx hb dL_law_376 hl (by decide) rfl (fun ls hl => ?_)
        exact lt_case l C hR hP hD hS (wh := 0) (qq := v50) (lo := v65) hT htu hc hsl (lv_sub hl [4, 5, 6, 7, 8, 9, 10, 3, 2, 1, 0] rfl) kk (fun _ => hv52) (fun _ => hv67)
      · skip
        refine lv_iconst (v := 0) hx hb dL_law_360 (by decide) ?_
        refine lv_goto (tgt := 376) hx hb dL_law_361 (by decide) ?_
        refine lv_istore (lv' := [(11, .int 0), (10, .int (nI v50)), (9, .int 0), (8, .int (nI (40 + 5 * tu))), (0, .ref b), (1, .ref (ad 0 0)), (2, .int (nI (sN S 3 0))), (3, .int (nI (sN S 0 0))), (4, .int (sI S 2 0)), (5, .long (sJ S 1 0)), (7, .int (nI tu))]) hx hb dL_law_376 hl (by decide) rfl (fun ls hl => ?_)
        exact lt_case l C hR hP hD hS (wh := 0) (qq := v50) (lo := 0) hT htu hc hsl (lv_sub hl [4, 5, 6, 7, 8, 9, 10, 3, 2, 1, 0] rfl) kk (fun _ => hv52) (fun h9 => absurd (nI_z (by have := hW.nL; omega) c57) (Nat.ne_of_gt h9))
    · skip
      refine lv_iconst (v := 0) hx hb dL_law_338 (by decide) ?_
      refine lv_goto (tgt := 351) hx hb dL_law_339 (by decide) ?_
      refine lv_istore (lv' := [(10, .int 0), (9, .int 0), (8, .int (nI (40 + 5 * tu))), (0, .ref b), (1, .ref (ad 0 0)), (2, .int (nI (sN S 3 0))), (3, .int (nI (sN S 0 0))), (4, .int (sI S 2 0)), (5, .long (sJ S 1 0)), (7, .int (nI tu))]) hx hb dL_law_351 hl (by decide) rfl (fun ls hl => ?_)
      refine lv_aload_n hx hb dL_law_353 rfl (lv_at hl 4 rfl) ?_
      obtain ⟨q68, e69⟩ := cell_0 hR (rfl : (0 : Nat) = 0)
      refine gro_i (ci := 12) (As := []) (rest := []) ⟨hx, hb, hml, hown, hta⟩ (c_X10_lots l hR ) (cwV 0 hta (gWV mw110 mw111 mw112 mw40 mw113) rfl rfl rfl (by decide +kernel) ⟨Nat.le_of_ble_eq_true rfl, Nat.le_of_ble_eq_true rfl⟩) hK hP hD rfl e69 rfl hl.1 rfl (Nat.le_of_ble_eq_true rfl) dL_law_354 ⟨(by show cells + 0 ≤ 621943; omega), (by show slots + 0 ≤ 7227368; omega)⟩ (fun r70 c71 => ?_)
      obtain rfl := c71
      refine lv_if_ne (tgt := 364) hx hb dL_law_357 (by decide) (fun c72 => ?_) (fun c72 => ?_)
      · skip
        have hpL := nI_n0 c72
        refine lv_aload_n hx hb dL_law_364 rfl (lv_at hl 3 rfl) ?_
        refine lv_iload hx hb dL_law_365 (lv_at hl 2 rfl) ?_
        refine lv_iconst (v := 2) hx hb dL_law_367 (by decide) ?_
        refine lv_iadd hx hb dL_law_368 ?_
        refine lv_topi (fun x73 ex73 => ?_)
        obtain rfl : x73 = nI (40 + 5 * tu + 2) := ex73.trans (nI_add (40 + 5 * tu) 2)
        refine lv_aload_n hx hb dL_law_369 rfl (lv_at hl 4 rfl) ?_
        obtain ⟨q74, e75⟩ := cell_0 hR (rfl : (0 : Nat) = 0)
        refine gro_i (ci := 12) (As := []) (rest := [.int (nI (40 + 5 * tu + 2)), .ref b]) ⟨hx, hb, hml, hown, hta⟩ (c_X10_lots l hR ) (cwV 0 hta (gWV mw110 mw111 mw112 mw40 mw113) rfl rfl rfl (by decide +kernel) ⟨Nat.le_of_ble_eq_true rfl, Nat.le_of_ble_eq_true rfl⟩) hK hP hD rfl e75 rfl hl.1 rfl (Nat.le_of_ble_eq_true rfl) dL_law_370 ⟨(by show cells + 0 ≤ 621943; omega), (by show slots + 0 ≤ 7227368; omega)⟩ (fun r76 c77 => ?_)
        obtain rfl := c77
        refine vp_callSi (run_of (va_runS (g := F0 m 373 ls [.int (nI (sN S 2 0)), .int (nI (40 + 5 * tu + 2)), .ref b]) (As := [.ref b, .int (nI (40 + 5 * tu + 2)), .int (nI (sN S 2 0))]) (rest := []) ⟨hx, hb, hml, hown, hta⟩ (c_L_some l (xs := xs) hL (k := 40 + 5 * tu + 2) (n := sN S 2 0) (by omega) hpL (by have := hW.nL; omega)) (va_cwS 3 hta (gWS mw208 mw209 mw39 mw210) rfl rfl rfl (by decide +kernel) ⟨Nat.le_of_ble_eq_true rfl, Nat.le_of_ble_eq_true rfl⟩) (gPreS hXs hbl hbA hS) rfl rfl hl.1 rfl (lv_room (Nat.le_of_ble_eq_true rfl)) dL_law_373 ⟨(by show cells + 0 ≤ 621943; omega), (by show slots + 0 ≤ 7227368; omega)⟩)) (fun r78 c79 => ?_)
        obtain rfl := c79
        obtain ⟨v80, ev81, hv82⟩ : ∃ v, smV Ln xs (40 + 5 * tu + 2) (sN S 2 0) = v ∧ v < sN S 2 0 := ⟨_, rfl, smV_lt hpL⟩
        rw [ev81]
        refine lv_istore (lv' := [(11, .int (nI v80)), (10, .int 0), (9, .int 0), (8, .int (nI (40 + 5 * tu))), (0, .ref b), (1, .ref (ad 0 0)), (2, .int (nI (sN S 3 0))), (3, .int (nI (sN S 0 0))), (4, .int (sI S 2 0)), (5, .long (sJ S 1 0)), (7, .int (nI tu))]) hx hb dL_law_376 hl (by decide) rfl (fun ls hl => ?_)
        exact lt_case l C hR hP hD hS (wh := 0) (qq := 0) (lo := v80) hT htu hc hsl (lv_sub hl [4, 5, 6, 7, 8, 9, 10, 3, 2, 1, 0] rfl) kk (fun h9 => absurd (nI_z (by have := hW.nO; omega) c46) (Nat.ne_of_gt h9)) (fun _ => hv82)
      · skip
        refine lv_iconst (v := 0) hx hb dL_law_360 (by decide) ?_
        refine lv_goto (tgt := 376) hx hb dL_law_361 (by decide) ?_
        refine lv_istore (lv' := [(11, .int 0), (10, .int 0), (9, .int 0), (8, .int (nI (40 + 5 * tu))), (0, .ref b), (1, .ref (ad 0 0)), (2, .int (nI (sN S 3 0))), (3, .int (nI (sN S 0 0))), (4, .int (sI S 2 0)), (5, .long (sJ S 1 0)), (7, .int (nI tu))]) hx hb dL_law_376 hl (by decide) rfl (fun ls hl => ?_)
        exact lt_case l C hR hP hD hS (wh := 0) (qq := 0) (lo := 0) hT htu hc hsl (lv_sub hl [4, 5, 6, 7, 8, 9, 10, 3, 2, 1, 0] rfl) kk (fun h9 => absurd (nI_z (by have := hW.nO; omega) c46) (Nat.ne_of_gt h9)) (fun h9 => absurd (nI_z (by have := hW.nL; omega) c72) (Nat.ne_of_gt h9))

set_option maxHeartbeats 8000000 in
set_option maxRecDepth 100000 in
/-- THE END -/
theorem lw_end {p : Program} {e : Env} {s : State} {m : MethodId} {below : List Frame} {meth : Method} {c : Code} (l : Launch) {b Ln : Nat} {xs : Nat → Int32} {A : Nat → Prop} {D : va_G} {tA : Nat → ClassId} (C : LwC p l s m meth c b Ln xs A D tA) {S : St} {ad : Nat → Nat → Nat} {L : List Nat} {f : Nat → va_E} {H : Heap} {locs : List Loc} {ls : Array Slot} {cells slots : Nat} (hR : Rep tA S ad L f) (hP : va_P D vwCl (va_pl L f) H) (hD : va_D A (va_pl L f)) (hS : va_S A s.heap H locs) {tu : Nat} (hT : TI S tu) (hc : cells + 800 ≤ 621943) (hsl : slots + 4000 ≤ 7227368) (hl : lv_has ls 19 [(0, .ref b), (1, .ref (ad 0 0)), (2, .int (nI (sN S 3 0))), (3, .int (nI (sN S 0 0))), (4, .int (sI S 2 0)), (5, .long (sJ S 1 0))]) : W p l e room_1 s m #[Value.ref b] below meth c H locs cells slots (lw_Z below #[Value.ref b] s) (F0 m 1350 ls []) := by
  obtain ⟨C0, hL, hA, hA2, hX, hQ, hK, hl0⟩ := id C
  obtain ⟨hx, hb, hr, hml, hown0, hts, hXs, hbl, hlocks, hgv⟩ := id C0
  have hta : ∀ w ∈ WA, w.before #[Value.ref b] s = true := fun w h => hts w (WA_in w h)
  have hown : s.vm.findClass RL = some m.cls := hown0
  have hbA : ¬ A b := fun h => absurd (hA2 b h) (Nat.not_le.mpr hbl)
  have hW := hT.1.1.1
  refine lv_aload_n hx hb dL_law_1350 rfl (lv_at hl 1 rfl) ?_
  obtain ⟨q1, e2⟩ := cell_0 hR (rfl : (0 : Nat) = 0)
  refine gro_i (ci := 12) (As := []) (rest := []) ⟨hx, hb, hml, hown, hta⟩ (c_X10_isSound l hR hW) (cwV 0 hta (gWV mw160 mw161 mw162 mw40 mw163) rfl rfl rfl (by decide +kernel) ⟨Nat.le_of_ble_eq_true rfl, Nat.le_of_ble_eq_true rfl⟩) hK hP hD rfl e2 rfl hl.1 rfl (Nat.le_of_ble_eq_true rfl) dL_law_1351 ⟨(by show cells + 0 ≤ 621943; omega), (by show slots + 0 ≤ 7227368; omega)⟩ (fun r3 c4 => ?_)
  obtain rfl := c4
  rw [hT.1.sound]
  refine W.eq (g2 := F0 m 1354 ls [.int 1]) rfl ?_
  refine lv_if_eq (tgt := 1375) hx hb dL_law_1354 (by decide) (fun c5 => ?_) (fun c5 => ?_)
  · exact absurd c5 (by decide)
  · skip
    refine lv_iload_n hx hb dL_law_1357 rfl (lv_at hl 2 rfl) ?_
    refine lv_if_eq (tgt := 1371) hx hb dL_law_1358 (by decide) (fun c6 => ?_) (fun c6 => ?_)
    · skip
      refine lv_iconst (v := 1) hx hb dL_law_1371 (by decide) ?_
      refine lv_goto (tgt := 1376) hx hb dL_law_1372 (by decide) ?_
      refine va_forget (fun q hq => hA2 _ (hS.2.2 q hq)) ?_
      refine W.widen (k := 621943) (n := 7227368) (by (try dsimp only); omega) (by (try dsimp only); omega) ?_
      refine W.base ?_
      exact lw_ret (Drawn.sameBut.refl s.drawn lw_cs) hx hb hr hlocks dL_law_1376
    · skip
      refine lv_aload_n hx hb dL_law_1361 rfl (lv_at hl 1 rfl) ?_
      refine lv_iload_n hx hb dL_law_1362 rfl (lv_at hl 2 rfl) ?_
      refine gsw_i (vx_runSW (g := F0 m 1363 ls [.int (nI (sN S 3 0)), .ref (ad 0 0)]) (As := [.ref (ad 0 0), .int (nI (sN S 3 0))]) (rest := []) ⟨hx, hb, hml, hown, hta⟩ (c_L_finPast l hl0 hR hW) (vx_cwSW 2 hta (gWSW mw650 mw651 mw39 mw652) rfl rfl rfl (by decide +kernel) ⟨Nat.le_of_ble_eq_true rfl, Nat.le_of_ble_eq_true rfl⟩) (gPreW hX hQ hK hP hD hS hA) rfl rfl hl.1 rfl (lv_room (Nat.le_of_ble_eq_true rfl)) dL_law_1363 ⟨(by show cells + 1 ≤ 621943; omega), (by show slots + 6 ≤ 7227368; omega)⟩) hD hS hA (fun r7 u H locs c8 hR hP hD hS => ?_)
      obtain ⟨T, ad9, L9, f⟩ := u
      dsimp only at c8 hR hP hD
      obtain ⟨rfl, rfl, rfl, rfl⟩ := c8
      refine lv_ldc (own := RL) (index := 34) (v := -2500000) hx hb hown (hta _ mw352) dL_law_1366 ?_
      refine lv_icmp_ne (tgt := 1375) hx hb dL_law_1368 (by decide) (fun c9 => ?_) (fun c9 => ?_)
      · exact absurd c9 (by decide)
      · skip
        refine lv_iconst (v := 1) hx hb dL_law_1371 (by decide) ?_
        refine lv_goto (tgt := 1376) hx hb dL_law_1372 (by decide) ?_
        refine va_forget (fun q hq => hA2 _ (hS.2.2 q hq)) ?_
        refine W.widen (k := 621943) (n := 7227368) (by (try dsimp only); omega) (by (try dsimp only); omega) ?_
        refine W.base ?_
        exact lw_ret (Drawn.sameBut.refl s.drawn lw_cs) hx hb hr hlocks dL_law_1376

set_option maxHeartbeats 8000000 in
set_option maxRecDepth 100000 in
/-- ALL TURNS -/
theorem lw_turns {p : Program} {e : Env} {s : State} {m : MethodId} {below : List Frame} {meth : Method} {c : Code} (l : Launch) {b Ln : Nat} {xs : Nat → Int32} {A : Nat → Prop} {D : va_G} {tA : Nat → ClassId} (C : LwC p l s m meth c b Ln xs A D tA) {S : St} {ad : Nat → Nat → Nat} {L : List Nat} {f : Nat → va_E} {H : Heap} {locs : List Loc} {ls : Array Slot} {cells slots : Nat} (hR : Rep tA S ad L f) (hP : va_P D vwCl (va_pl L f) H) (hD : va_D A (va_pl L f)) (hS : va_S A s.heap H locs) (hT : TI S 0) (hc : cells ≤ 2000) (hsl : slots ≤ 20000) (hl : lv_has ls 19 [(0, .ref b), (1, .ref (ad 0 0)), (2, .int (nI (sN S 3 0))), (3, .int (nI (sN S 0 0))), (4, .int (sI S 2 0)), (5, .long (sJ S 1 0)), (7, .int (nI 0))]) : W p l e room_1 s m #[Value.ref b] below meth c H locs cells slots (lw_Z below #[Value.ref b] s) (F0 m 298 ls []) := by
  refine loop_g (σ := St × (Nat → Nat → Nat) × List Nat × (Nat → va_E) × Heap × List Loc × Array Slot × Nat × Nat) (Wg := fun z => W p l e room_1 s m #[Value.ref b] below meth c z.2.2.2.2.1 z.2.2.2.2.2.1 z.2.2.2.2.2.2.2.1 z.2.2.2.2.2.2.2.2 (lw_Z below #[Value.ref b] s) (F0 m 298 z.2.2.2.2.2.2.1 [])) 60
    (fun j z => TI z.1 j ∧ Rep tA z.1 z.2.1 z.2.2.1 z.2.2.2.1 ∧ va_P D vwCl (va_pl z.2.2.1 z.2.2.2.1) z.2.2.2.2.1 ∧ va_D A (va_pl z.2.2.1 z.2.2.2.1) ∧ va_S A s.heap z.2.2.2.2.1 z.2.2.2.2.2.1 ∧ lv_has z.2.2.2.2.2.2.1 19 [(0, .ref b), (1, .ref (z.2.1 0 0)), (2, .int (nI (sN z.1 3 0))), (3, .int (nI (sN z.1 0 0))), (4, .int (sI z.1 2 0)), (5, .long (sJ z.1 1 0)), (7, .int (nI j))] ∧ z.2.2.2.2.2.2.2.1 ≤ 2000 + 800 * j ∧ z.2.2.2.2.2.2.2.2 ≤ 20000 + 4000 * j)
    (fun j hj ih z hz => ?_) (fun z hz => ?_) (S, ad, L, f, H, locs, ls, cells, slots) ⟨hT, hR, hP, hD, hS, hl, by (try dsimp only); omega, by (try dsimp only); omega⟩
  · obtain ⟨S, ad, L, f, H, locs, ls, cells, slots⟩ := z
    obtain ⟨hT, hR, hP, hD, hS, hl, hc, hsl⟩ := hz
    dsimp only at hT hR hP hD hS hl hc hsl ⊢
    obtain ⟨C0, hL, hA, hA2, hX, hQ, hK, hl0⟩ := id C
    obtain ⟨hx, hb, hr, hml, hown0, hts, hXs, hbl, hlocks, hgv⟩ := id C0
    have hta : ∀ w ∈ WA, w.before #[Value.ref b] s = true := fun w h => hts w (WA_in w h)
    have hown : s.vm.findClass RL = some m.cls := hown0
    have hbA : ¬ A b := fun h => absurd (hA2 b h) (Nat.not_le.mpr hbl)
    refine lv_iload hx hb dL_law_298 (lv_at hl 6 rfl) ?_
    refine lv_bipush (v := 60) hx hb dL_law_300 (by decide) ?_
    refine lv_icmp_ge (tgt := 1350) hx hb dL_law_302 (by decide) (fun c1 => ?_) (fun c1 => ?_)
    · exact absurd c1 (nI_ge (a := j) (b := 60) hj (by decide))
    · refine lw_turn l C hR hP hD hS (tu := j) hT hj (by omega) (by omega) hl (fun S ad L f H locs ls ce sl hT hR hP hD hS hl hc9 hs9 => ?_)
      refine lv_iinc (v := nI (j + 1)) (lv' := [(7, .int (nI (j + 1))), (0, .ref b), (1, .ref (ad 0 0)), (2, .int (nI (sN S 3 0))), (3, .int (nI (sN S 0 0))), (4, .int (sI S 2 0)), (5, .long (sJ S 1 0))]) hx hb dL_law_1344 hl (k := 6) rfl (nI_1 _) (by decide) rfl (fun ls hl => ?_)
      refine lv_goto (tgt := 298) hx hb dL_law_1347 (by decide) ?_
      exact ih (S, ad, L, f, H, locs, ls, ce, sl) ⟨hT, hR, hP, hD, hS, lv_sub hl [1, 2, 3, 4, 5, 6, 0] rfl, by (try dsimp only); omega, by (try dsimp only); omega⟩
  · obtain ⟨S, ad, L, f, H, locs, ls, cells, slots⟩ := z
    obtain ⟨hT, hR, hP, hD, hS, hl, hc, hsl⟩ := hz
    dsimp only at hT hR hP hD hS hl hc hsl ⊢
    obtain ⟨C0, hL, hA, hA2, hX, hQ, hK, hl0⟩ := id C
    obtain ⟨hx, hb, hr, hml, hown0, hts, hXs, hbl, hlocks, hgv⟩ := id C0
    have hta : ∀ w ∈ WA, w.before #[Value.ref b] s = true := fun w h => hts w (WA_in w h)
    have hown : s.vm.findClass RL = some m.cls := hown0
    have hbA : ¬ A b := fun h => absurd (hA2 b h) (Nat.not_le.mpr hbl)
    refine lv_iload hx hb dL_law_298 (lv_at hl 6 rfl) ?_
    refine lv_bipush (v := 60) hx hb dL_law_300 (by decide) ?_
    refine lv_icmp_ge (tgt := 1350) hx hb dL_law_302 (by decide) (fun c1 => ?_) (fun c1 => ?_)
    · exact lw_end l C hR hP hD hS hT (by omega) (by omega) (lv_sub hl [0, 1, 2, 3, 4, 5] rfl)
    · exact absurd (by decide) c1

