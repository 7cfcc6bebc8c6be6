/-! the set-up, piece by piece (made by wip/gen/spec_u.py) -/
set_option maxHeartbeats 8000000 in
set_option maxRecDepth 100000 in
/-- A MACHINE -/
theorem lu_mach {p : Program} {e : Env} {s : State} {m : MethodId} {below : List Frame} {meth : Method} {c : Code} (l : Launch) {b Ln : Nat} {xs : Nat → Int32} {A : Nat → Prop} {D : va_G} {tA : Nat → ClassId} (C : LwC p l s m meth c b Ln xs A D tA) {S : St} {ad : Nat → Nat → Nat} {L : List Nat} {f : Nat → va_E} {H : Heap} {locs : List Loc} {ls : Array Slot} {cells slots : Nat} (hR : Rep tA S ad L f) (hP : va_P D vwCl (va_pl L f) H) (hD : va_D A (va_pl L f)) (hS : va_S A s.heap H locs) {j nm : Nat} (hB : SB S j 0) (hj : j < nm) (h3 : nm ≤ 3) (hc : cells + 100 ≤ 621943) (hsl : slots + 1000 ≤ 7227368) (hl : lv_has ls 19 [(0, .ref b), (1, .ref (ad 0 0)), (2, .int 0), (3, .int (nI nm)), (4, .int 0), (5, .long 0), (7, .int (nI j))]) (kk : ∀ (T : St) (ad : Nat → Nat → Nat) (L : List Nat) (f : Nat → va_E) (H : Heap) (locs : List Loc) (ls : Array Slot) (ce sl : Nat), SB T (j + 1) 0 → Rep tA T ad L f → va_P D vwCl (va_pl L f) H → va_D A (va_pl L f) → va_S A s.heap H locs → lv_has ls 19 [(0, .ref b), (1, .ref (ad 0 0)), (2, .int 0), (3, .int (nI nm)), (4, .int 0), (5, .long 0), (7, .int (nI (j + 1)))] → ce ≤ cells + 1 → sl ≤ slots + 11 → W p l e room_1 s m #[Value.ref b] below meth c H locs ce sl (lw_Z below #[Value.ref b] s) (F0 m 28 ls [])) : W p l e room_1 s m #[Value.ref b] below meth c H locs cells slots (lw_Z below #[Value.ref b] s) (F0 m 34 ls []) := by
  obtain ⟨C0, hL, hA, hA2, hX, hQ, hK, hl0⟩ := id C
  obtain ⟨hx, hb, hr, hml, hown0, hts, hXs, hbl, hlocks, hgv⟩ := id C0
  have hta : ∀ w ∈ WA, w.before #[Value.ref b] s = true := fun w h => hts w (WA_in w h)
  have hown : s.vm.findClass RL = some m.cls := hown0
  have hbA : ¬ A b := fun h => absurd (hA2 b h) (Nat.not_le.mpr hbl)
  have hW := hB.1.1
  refine lv_aload_n hx hb dL_law_34 rfl (lv_at hl 1 rfl) ?_
  refine lv_iconst (v := 0) hx hb dL_law_35 (by decide) ?_
  refine lv_aload_n hx hb dL_law_36 rfl (lv_at hl 0 rfl) ?_
  refine lv_iload hx hb dL_law_37 (lv_at hl 6 rfl) ?_
  refine lv_iconst (v := 1) hx hb dL_law_39 (by decide) ?_
  refine lv_iadd hx hb dL_law_40 ?_
  refine lv_topi (fun x1 ex1 => ?_)
  obtain rfl : x1 = nI (j + 1) := ex1.trans (nI_add j 1)
  refine lv_bipush (v := 6) hx hb dL_law_41 (by decide) ?_
  refine vp_callSi (run_of (va_runS (g := F0 m 43 ls [.int 6, .int (nI (j + 1)), .ref b, .int 0, .ref (ad 0 0)]) (As := [.ref b, .int (nI (j + 1)), .int 6]) (rest := [.int 0, .ref (ad 0 0)]) ⟨hx, hb, hml, hown, hta⟩ (c_L_some l (xs := xs) hL (k := j + 1) (n := 6) (by omega) (by decide) (by decide)) (va_cwS 3 hta (gWS mw208 mw209 mw39 mw210) rfl rfl rfl (by decide +kernel) ⟨Nat.le_of_ble_eq_true rfl, Nat.le_of_ble_eq_true rfl⟩) (gPreS hXs hbl hbA hS) rfl rfl hl.1 rfl (lv_room (Nat.le_of_ble_eq_true rfl)) dL_law_43 ⟨(by show cells + 0 ≤ 621943; omega), (by show slots + 0 ≤ 7227368; omega)⟩)) (fun r2 c3 => ?_)
  obtain rfl := c3
  obtain ⟨v4, ev5, hv6⟩ : ∃ v, smV Ln xs (j + 1) 6 = v ∧ v < 6 := ⟨_, rfl, smV_lt (by decide)⟩
  rw [ev5]
  refine lv_iconst (v := 5) hx hb dL_law_46 (by decide) ?_
  refine lv_aload_n hx hb dL_law_47 rfl (lv_at hl 0 rfl) ?_
  refine lv_iload hx hb dL_law_48 (lv_at hl 6 rfl) ?_
  refine lv_iconst (v := 2) hx hb dL_law_50 (by decide) ?_
  refine lv_iadd hx hb dL_law_51 ?_
  refine lv_topi (fun x7 ex7 => ?_)
  obtain rfl : x7 = nI (j + 2) := ex7.trans (nI_add j 2)
  refine lv_bipush (v := 12) hx hb dL_law_52 (by decide) ?_
  refine vp_callSi (run_of (va_runS (g := F0 m 54 ls [.int 12, .int (nI (j + 2)), .ref b, .int 5, .int (nI v4), .int 0, .ref (ad 0 0)]) (As := [.ref b, .int (nI (j + 2)), .int 12]) (rest := [.int 5, .int (nI v4), .int 0, .ref (ad 0 0)]) ⟨hx, hb, hml, hown, hta⟩ (c_L_some l (xs := xs) hL (k := j + 2) (n := 12) (by omega) (by decide) (by decide)) (va_cwS 3 hta (gWS mw208 mw209 mw39 mw210) rfl rfl rfl (by decide +kernel) ⟨Nat.le_of_ble_eq_true rfl, Nat.le_of_ble_eq_true rfl⟩) (gPreS hXs hbl hbA hS) rfl rfl hl.1 rfl (lv_room (Nat.le_of_ble_eq_true rfl)) dL_law_54 ⟨(by show cells + 0 ≤ 621943; omega), (by show slots + 0 ≤ 7227368; omega)⟩)) (fun r8 c9 => ?_)
  obtain rfl := c9
  obtain ⟨v10, ev11, hv12⟩ : ∃ v, smV Ln xs (j + 2) 12 = v ∧ v < 12 := ⟨_, rfl, smV_lt (by decide)⟩
  rw [ev11]
  refine lv_iadd hx hb dL_law_57 ?_
  refine lv_topi (fun x13 ex13 => ?_)
  obtain rfl : x13 = nI (5 + v10) := ex13.trans (nI_add 5 v10)
  refine lv_iconst (v := 1) hx hb dL_law_58 (by decide) ?_
  refine lv_aload_n hx hb dL_law_59 rfl (lv_at hl 0 rfl) ?_
  refine lv_iload hx hb dL_law_60 (lv_at hl 6 rfl) ?_
  refine lv_iconst (v := 3) hx hb dL_law_62 (by decide) ?_
  refine lv_iadd hx hb dL_law_63 ?_
  refine lv_topi (fun x14 ex14 => ?_)
  obtain rfl : x14 = nI (j + 3) := ex14.trans (nI_add j 3)
  refine lv_iconst (v := 5) hx hb dL_law_64 (by decide) ?_
  refine vp_callSi (run_of (va_runS (g := F0 m 65 ls [.int 5, .int (nI (j + 3)), .ref b, .int 1, .int (nI (5 + v10)), .int (nI v4), .int 0, .ref (ad 0 0)]) (As := [.ref b, .int (nI (j + 3)), .int 5]) (rest := [.int 1, .int (nI (5 + v10)), .int (nI v4), .int 0, .ref (ad 0 0)]) ⟨hx, hb, hml, hown, hta⟩ (c_L_some l (xs := xs) hL (k := j + 3) (n := 5) (by omega) (by decide) (by decide)) (va_cwS 3 hta (gWS mw208 mw209 mw39 mw210) rfl rfl rfl (by decide +kernel) ⟨Nat.le_of_ble_eq_true rfl, Nat.le_of_ble_eq_true rfl⟩) (gPreS hXs hbl hbA hS) rfl rfl hl.1 rfl (lv_room (Nat.le_of_ble_eq_true rfl)) dL_law_65 ⟨(by show cells + 0 ≤ 621943; omega), (by show slots + 0 ≤ 7227368; omega)⟩)) (fun r15 c16 => ?_)
  obtain rfl := c16
  obtain ⟨v17, ev18, hv19⟩ : ∃ v, smV Ln xs (j + 3) 5 = v ∧ v < 5 := ⟨_, rfl, smV_lt (by decide)⟩
  rw [ev18]
  refine lv_iadd hx hb dL_law_68 ?_
  refine lv_topi (fun x20 ex20 => ?_)
  obtain rfl : x20 = nI (1 + v17) := ex20.trans (nI_add 1 v17)
  refine gsw_i (vx_runSW (g := F0 m 69 ls [.int (nI (1 + v17)), .int (nI (5 + v10)), .int (nI v4), .int 0, .ref (ad 0 0)]) (As := [.ref (ad 0 0), .int 0, .int (nI v4), .int (nI (5 + v10)), .int (nI (1 + v17))]) (rest := []) ⟨hx, hb, hml, hown, hta⟩ (c_L_addMachine l hl0 hR hW 0 (nI v4) (nI (5 + v10)) (nI (1 + v17)) (by decide) (inR_n (a := 0) (b := 50) (by omega) (by omega) (by decide)) (inR_n (a := 5) (b := 500) (by omega) (by omega) (by decide)) (inR_n (a := 1) (b := 99) (by omega) (by omega) (by decide)) (by have := hB.2.1; omega)) (vx_cwSW 5 hta (gWSW mw214 mw215 mw39 mw216) rfl rfl rfl (by decide +kernel) ⟨Nat.le_of_ble_eq_true rfl, Nat.le_of_ble_eq_true rfl⟩) (gPreW hX hQ hK hP hD hS hA) rfl rfl hl.1 rfl (lv_room (Nat.le_of_ble_eq_true rfl)) dL_law_69 ⟨(by show cells + 1 ≤ 621943; omega), (by show slots + 11 ≤ 7227368; omega)⟩) hD hS hA (fun r21 u H locs c22 hR hP hD hS => ?_)
  obtain ⟨T, ad9, L9, f⟩ := u
  dsimp only at c22 hR hP hD
  obtain ⟨rfl, rfl, had⟩ := c22
  have had := had 0 0 (rfl : (0 : Nat) = 0)
  rw [← had] at hl
  refine lv_iload hx hb dL_law_72 (lv_at hl 6 rfl) ?_
  refine lv_icmp_eq (tgt := 79) hx hb dL_law_74 (by decide) (fun c23 => ?_) (fun c23 => ?_)
  · skip
    refine lv_iinc (v := nI (j + 1)) (lv' := [(7, .int (nI (j + 1))), (0, .ref b), (1, .ref (ad9 0 0)), (2, .int 0), (3, .int (nI nm)), (4, .int 0), (5, .long 0)]) hx hb dL_law_79 hl (k := 6) rfl (nI_1 _) (by decide) rfl (fun ls hl => ?_)
    refine lv_goto (tgt := 28) hx hb dL_law_82 (by decide) ?_
    exact kk _ _ _ _ _ _ _ _ _ (hB.m (by omega)) hR hP hD hS (lv_sub hl [1, 2, 3, 4, 5, 6, 0] rfl) (by (try dsimp only); omega) (by (try dsimp only); omega)
  · exact absurd (congrArg nI hB.2.1) c23

set_option maxHeartbeats 8000000 in
set_option maxRecDepth 100000 in
/-- A PART -/
theorem lu_part {p : Program} {e : Env} {s : State} {m : MethodId} {below : List Frame} {meth : Method} {c : Code} (l : Launch) {b Ln : Nat} {xs : Nat → Int32} {A : Nat → Prop} {D : va_G} {tA : Nat → ClassId} (C : LwC p l s m meth c b Ln xs A D tA) {S : St} {ad : Nat → Nat → Nat} {L : List Nat} {f : Nat → va_E} {H : Heap} {locs : List Loc} {ls : Array Slot} {cells slots : Nat} (hR : Rep tA S ad L f) (hP : va_P D vwCl (va_pl L f) H) (hD : va_D A (va_pl L f)) (hS : va_S A s.heap H locs) {j nm : Nat} (hB : SB S nm j) (hj : j < 6) (hc : cells + 100 ≤ 621943) (hsl : slots + 1000 ≤ 7227368) (hl : lv_has ls 19 [(0, .ref b), (1, .ref (ad 0 0)), (2, .int 0), (3, .int (nI nm)), (4, .int 0), (5, .long 0), (7, .int (nI j))]) (kk : ∀ (T : St) (ad : Nat → Nat → Nat) (L : List Nat) (f : Nat → va_E) (H : Heap) (locs : List Loc) (ls : Array Slot) (ce sl : Nat), SB T nm (j + 1) → Rep tA T ad L f → va_P D vwCl (va_pl L f) H → va_D A (va_pl L f) → va_S A s.heap H locs → lv_has ls 19 [(0, .ref b), (1, .ref (ad 0 0)), (2, .int 0), (3, .int (nI nm)), (4, .int 0), (5, .long 0), (7, .int (nI (j + 1)))] → ce ≤ cells + 4 → sl ≤ slots + 20 → W p l e room_1 s m #[Value.ref b] below meth c H locs ce sl (lw_Z below #[Value.ref b] s) (F0 m 88 ls [])) : W p l e room_1 s m #[Value.ref b] below meth c H locs cells slots (lw_Z below #[Value.ref b] s) (F0 m 95 ls []) := by
  obtain ⟨C0, hL, hA, hA2, hX, hQ, hK, hl0⟩ := id C
  obtain ⟨hx, hb, hr, hml, hown0, hts, hXs, hbl, hlocks, hgv⟩ := id C0
  have hta : ∀ w ∈ WA, w.before #[Value.ref b] s = true := fun w h => hts w (WA_in w h)
  have hown : s.vm.findClass RL = some m.cls := hown0
  have hbA : ¬ A b := fun h => absurd (hA2 b h) (Nat.not_le.mpr hbl)
  have hW := hB.1.1
  refine lv_aload_n hx hb dL_law_95 rfl (lv_at hl 1 rfl) ?_
  refine lv_iload hx hb dL_law_96 (lv_at hl 6 rfl) ?_
  refine lv_iconst (v := 1) hx hb dL_law_98 (by decide) ?_
  refine lv_icmp_le (tgt := 106) hx hb dL_law_99 (by decide) (fun c1 => ?_) (fun c1 => ?_)
  · skip
    refine lv_iconst (v := 0) hx hb dL_law_106 (by decide) ?_
    refine lv_aload_n hx hb dL_law_107 rfl (lv_at hl 0 rfl) ?_
    refine lv_iload hx hb dL_law_108 (lv_at hl 6 rfl) ?_
    refine lv_iconst (v := 4) hx hb dL_law_110 (by decide) ?_
    refine lv_iadd hx hb dL_law_111 ?_
    refine lv_topi (fun x2 ex2 => ?_)
    obtain rfl : x2 = nI (j + 4) := ex2.trans (nI_add j 4)
    refine lv_iconst (v := 4) hx hb dL_law_112 (by decide) ?_
    refine vp_callSi (run_of (va_runS (g := F0 m 113 ls [.int 4, .int (nI (j + 4)), .ref b, .int 0, .ref (ad 0 0)]) (As := [.ref b, .int (nI (j + 4)), .int 4]) (rest := [.int 0, .ref (ad 0 0)]) ⟨hx, hb, hml, hown, hta⟩ (c_L_some l (xs := xs) hL (k := j + 4) (n := 4) (by omega) (by decide) (by decide)) (va_cwS 3 hta (gWS mw208 mw209 mw39 mw210) rfl rfl rfl (by decide +kernel) ⟨Nat.le_of_ble_eq_true rfl, Nat.le_of_ble_eq_true rfl⟩) (gPreS hXs hbl hbA hS) rfl rfl hl.1 rfl (lv_room (Nat.le_of_ble_eq_true rfl)) dL_law_113 ⟨(by show cells + 0 ≤ 621943; omega), (by show slots + 0 ≤ 7227368; omega)⟩)) (fun r3 c4 => ?_)
    obtain rfl := c4
    obtain ⟨v5, ev6, hv7⟩ : ∃ v, smV Ln xs (j + 4) 4 = v ∧ v < 4 := ⟨_, rfl, smV_lt (by decide)⟩
    rw [ev6]
    refine gsw_i (vx_runSW (g := F0 m 116 ls [.int (nI v5), .int 0, .ref (ad 0 0)]) (As := [.ref (ad 0 0), .int 0, .int (nI v5)]) (rest := []) ⟨hx, hb, hml, hown, hta⟩ (c_L_addPart l hl0 hR hW false (nI v5) (inR_n (a := 0) (b := 3) (by omega) (by omega) (by decide)) (by have := hB.2.2.1; omega)) (vx_cwSW 3 hta (gWSW mw263 mw264 mw39 mw265) rfl rfl rfl (by decide +kernel) ⟨Nat.le_of_ble_eq_true rfl, Nat.le_of_ble_eq_true rfl⟩) (gPreW hX hQ hK hP hD hS hA) rfl rfl hl.1 rfl (lv_room (Nat.le_of_ble_eq_true rfl)) dL_law_116 ⟨(by show cells + 4 ≤ 621943; omega), (by show slots + 20 ≤ 7227368; omega)⟩) hD hS hA (fun r8 u H locs c9 hR hP hD hS => ?_)
    obtain ⟨T, ad9, L9, f⟩ := u
    dsimp only at c9 hR hP hD
    obtain ⟨rfl, rfl, had⟩ := c9
    have had := had 0 0 (rfl : (0 : Nat) = 0)
    rw [← had] at hl
    refine lv_iload hx hb dL_law_119 (lv_at hl 6 rfl) ?_
    refine lv_icmp_eq (tgt := 126) hx hb dL_law_121 (by decide) (fun c10 => ?_) (fun c10 => ?_)
    · skip
      refine lv_iinc (v := nI (j + 1)) (lv' := [(7, .int (nI (j + 1))), (0, .ref b), (1, .ref (ad9 0 0)), (2, .int 0), (3, .int (nI nm)), (4, .int 0), (5, .long 0)]) hx hb dL_law_126 hl (k := 6) rfl (nI_1 _) (by decide) rfl (fun ls hl => ?_)
      refine lv_goto (tgt := 88) hx hb dL_law_129 (by decide) ?_
      exact kk _ _ _ _ _ _ _ _ _ (hB.p (by omega) (fl_le (by omega) c1)) hR hP hD hS (lv_sub hl [1, 2, 3, 4, 5, 6, 0] rfl) (by (try dsimp only); omega) (by (try dsimp only); omega)
    · exact absurd (congrArg nI hB.2.2.1) c10
  · skip
    refine lv_iconst (v := 1) hx hb dL_law_102 (by decide) ?_
    refine lv_goto (tgt := 107) hx hb dL_law_103 (by decide) ?_
    refine lv_aload_n hx hb dL_law_107 rfl (lv_at hl 0 rfl) ?_
    refine lv_iload hx hb dL_law_108 (lv_at hl 6 rfl) ?_
    refine lv_iconst (v := 4) hx hb dL_law_110 (by decide) ?_
    refine lv_iadd hx hb dL_law_111 ?_
    refine lv_topi (fun x11 ex11 => ?_)
    obtain rfl : x11 = nI (j + 4) := ex11.trans (nI_add j 4)
    refine lv_iconst (v := 4) hx hb dL_law_112 (by decide) ?_
    refine vp_callSi (run_of (va_runS (g := F0 m 113 ls [.int 4, .int (nI (j + 4)), .ref b, .int 1, .ref (ad 0 0)]) (As := [.ref b, .int (nI (j + 4)), .int 4]) (rest := [.int 1, .ref (ad 0 0)]) ⟨hx, hb, hml, hown, hta⟩ (c_L_some l (xs := xs) hL (k := j + 4) (n := 4) (by omega) (by decide) (by decide)) (va_cwS 3 hta (gWS mw208 mw209 mw39 mw210) rfl rfl rfl (by decide +kernel) ⟨Nat.le_of_ble_eq_true rfl, Nat.le_of_ble_eq_true rfl⟩) (gPreS hXs hbl hbA hS) rfl rfl hl.1 rfl (lv_room (Nat.le_of_ble_eq_true rfl)) dL_law_113 ⟨(by show cells + 0 ≤ 621943; omega), (by show slots + 0 ≤ 7227368; omega)⟩)) (fun r12 c13 => ?_)
    obtain rfl := c13
    obtain ⟨v14, ev15, hv16⟩ : ∃ v, smV Ln xs (j + 4) 4 = v ∧ v < 4 := ⟨_, rfl, smV_lt (by decide)⟩
    rw [ev15]
    refine gsw_i (vx_runSW (g := F0 m 116 ls [.int (nI v14), .int 1, .ref (ad 0 0)]) (As := [.ref (ad 0 0), .int 1, .int (nI v14)]) (rest := []) ⟨hx, hb, hml, hown, hta⟩ (c_L_addPart l hl0 hR hW true (nI v14) (inR_n (a := 0) (b := 3) (by omega) (by omega) (by decide)) (by have := hB.2.2.1; omega)) (vx_cwSW 3 hta (gWSW mw263 mw264 mw39 mw265) rfl rfl rfl (by decide +kernel) ⟨Nat.le_of_ble_eq_true rfl, Nat.le_of_ble_eq_true rfl⟩) (gPreW hX hQ hK hP hD hS hA) rfl rfl hl.1 rfl (lv_room (Nat.le_of_ble_eq_true rfl)) dL_law_116 ⟨(by show cells + 4 ≤ 621943; omega), (by show slots + 20 ≤ 7227368; omega)⟩) hD hS hA (fun r17 u H locs c18 hR hP hD hS => ?_)
    obtain ⟨T, ad9, L9, f⟩ := u
    dsimp only at c18 hR hP hD
    obtain ⟨rfl, rfl, had⟩ := c18
    have had := had 0 0 (rfl : (0 : Nat) = 0)
    rw [← had] at hl
    refine lv_iload hx hb dL_law_119 (lv_at hl 6 rfl) ?_
    refine lv_icmp_eq (tgt := 126) hx hb dL_law_121 (by decide) (fun c19 => ?_) (fun c19 => ?_)
    · skip
      refine lv_iinc (v := nI (j + 1)) (lv' := [(7, .int (nI (j + 1))), (0, .ref b), (1, .ref (ad9 0 0)), (2, .int 0), (3, .int (nI nm)), (4, .int 0), (5, .long 0)]) hx hb dL_law_126 hl (k := 6) rfl (nI_1 _) (by decide) rfl (fun ls hl => ?_)
      refine lv_goto (tgt := 88) hx hb dL_law_129 (by decide) ?_
      exact kk _ _ _ _ _ _ _ _ _ (hB.p (by omega) (fl_gt (by omega) c1)) hR hP hD hS (lv_sub hl [1, 2, 3, 4, 5, 6, 0] rfl) (by (try dsimp only); omega) (by (try dsimp only); omega)
    · exact absurd (congrArg nI hB.2.2.1) c19

set_option maxHeartbeats 8000000 in
set_option maxRecDepth 100000 in
/-- A COMPONENT -/
theorem lu_comp {p : Program} {e : Env} {s : State} {m : MethodId} {below : List Frame} {meth : Method} {c : Code} (l : Launch) {b Ln : Nat} {xs : Nat → Int32} {A : Nat → Prop} {D : va_G} {tA : Nat → ClassId} (C : LwC p l s m meth c b Ln xs A D tA) {S : St} {ad : Nat → Nat → Nat} {L : List Nat} {f : Nat → va_E} {H : Heap} {locs : List Loc} {ls : Array Slot} {cells slots : Nat} (hR : Rep tA S ad L f) (hP : va_P D vwCl (va_pl L f) H) (hD : va_D A (va_pl L f)) (hS : va_S A s.heap H locs) {j k nm : Nat} (hC : SC S nm k j 0) (hj : j < 2) (h2 : 2 ≤ k) (h6 : k < 6) (hc : cells + 100 ≤ 621943) (hsl : slots + 1000 ≤ 7227368) (hl : lv_has ls 19 [(0, .ref b), (1, .ref (ad 0 0)), (2, .int 0), (3, .int (nI nm)), (4, .int 0), (5, .long 0), (7, .int (nI k)), (8, .int (nI j))]) (kk : ∀ (T : St) (ad : Nat → Nat → Nat) (L : List Nat) (f : Nat → va_E) (H : Heap) (locs : List Loc) (ls : Array Slot) (ce sl : Nat), SC T nm k (j + 1) 0 → Rep tA T ad L f → va_P D vwCl (va_pl L f) H → va_D A (va_pl L f) → va_S A s.heap H locs → lv_has ls 19 [(0, .ref b), (1, .ref (ad 0 0)), (2, .int 0), (3, .int (nI nm)), (4, .int 0), (5, .long 0), (7, .int (nI k)), (8, .int (nI (j + 1)))] → ce ≤ cells + 1 → sl ≤ slots + 3 → W p l e room_1 s m #[Value.ref b] below meth c H locs ce sl (lw_Z below #[Value.ref b] s) (F0 m 145 ls [])) : W p l e room_1 s m #[Value.ref b] below meth c H locs cells slots (lw_Z below #[Value.ref b] s) (F0 m 151 ls []) := by
  obtain ⟨C0, hL, hA, hA2, hX, hQ, hK, hl0⟩ := id C
  obtain ⟨hx, hb, hr, hml, hown0, hts, hXs, hbl, hlocks, hgv⟩ := id C0
  have hta : ∀ w ∈ WA, w.before #[Value.ref b] s = true := fun w h => hts w (WA_in w h)
  have hown : s.vm.findClass RL = some m.cls := hown0
  have hbA : ¬ A b := fun h => absurd (hA2 b h) (Nat.not_le.mpr hbl)
  have hW := hC.1.1.1
  refine lv_aload_n hx hb dL_law_151 rfl (lv_at hl 1 rfl) ?_
  refine lv_iload hx hb dL_law_152 (lv_at hl 6 rfl) ?_
  refine lv_aload_n hx hb dL_law_154 rfl (lv_at hl 0 rfl) ?_
  refine lv_bipush (v := 10) hx hb dL_law_155 (by decide) ?_
  refine lv_iload hx hb dL_law_157 (lv_at hl 6 rfl) ?_
  refine lv_iadd hx hb dL_law_159 ?_
  refine lv_topi (fun x1 ex1 => ?_)
  obtain rfl : x1 = nI (10 + k) := ex1.trans (nI_add 10 k)
  refine lv_iload hx hb dL_law_160 (lv_at hl 7 rfl) ?_
  refine lv_iadd hx hb dL_law_162 ?_
  refine lv_topi (fun x2 ex2 => ?_)
  obtain rfl : x2 = nI (10 + k + j) := ex2.trans (nI_add (10 + k) j)
  refine lv_iload hx hb dL_law_163 (lv_at hl 6 rfl) ?_
  refine vp_callSi (run_of (va_runS (g := F0 m 165 ls [.int (nI k), .int (nI (10 + k + j)), .ref b, .int (nI k), .ref (ad 0 0)]) (As := [.ref b, .int (nI (10 + k + j)), .int (nI k)]) (rest := [.int (nI k), .ref (ad 0 0)]) ⟨hx, hb, hml, hown, hta⟩ (c_L_some l (xs := xs) hL (k := 10 + k + j) (n := k) (by omega) (by omega) (by omega)) (va_cwS 3 hta (gWS mw208 mw209 mw39 mw210) rfl rfl rfl (by decide +kernel) ⟨Nat.le_of_ble_eq_true rfl, Nat.le_of_ble_eq_true rfl⟩) (gPreS hXs hbl hbA hS) rfl rfl hl.1 rfl (lv_room (Nat.le_of_ble_eq_true rfl)) dL_law_165 ⟨(by show cells + 0 ≤ 621943; omega), (by show slots + 0 ≤ 7227368; omega)⟩)) (fun r3 c4 => ?_)
  obtain rfl := c4
  obtain ⟨v5, ev6, hv7⟩ : ∃ v, smV Ln xs (10 + k + j) k = v ∧ v < k := ⟨_, rfl, smV_lt (by omega)⟩
  rw [ev6]
  refine lv_iconst (v := 1) hx hb dL_law_168 (by decide) ?_
  refine lv_aload_n hx hb dL_law_169 rfl (lv_at hl 0 rfl) ?_
  refine lv_bipush (v := 16) hx hb dL_law_170 (by decide) ?_
  refine lv_iload hx hb dL_law_172 (lv_at hl 6 rfl) ?_
  refine lv_iadd hx hb dL_law_174 ?_
  refine lv_topi (fun x8 ex8 => ?_)
  obtain rfl : x8 = nI (16 + k) := ex8.trans (nI_add 16 k)
  refine lv_iload hx hb dL_law_175 (lv_at hl 7 rfl) ?_
  refine lv_iadd hx hb dL_law_177 ?_
  refine lv_topi (fun x9 ex9 => ?_)
  obtain rfl : x9 = nI (16 + k + j) := ex9.trans (nI_add (16 + k) j)
  refine lv_iconst (v := 2) hx hb dL_law_178 (by decide) ?_
  refine vp_callSi (run_of (va_runS (g := F0 m 179 ls [.int 2, .int (nI (16 + k + j)), .ref b, .int 1, .int (nI v5), .int (nI k), .ref (ad 0 0)]) (As := [.ref b, .int (nI (16 + k + j)), .int 2]) (rest := [.int 1, .int (nI v5), .int (nI k), .ref (ad 0 0)]) ⟨hx, hb, hml, hown, hta⟩ (c_L_some l (xs := xs) hL (k := 16 + k + j) (n := 2) (by omega) (by decide) (by decide)) (va_cwS 3 hta (gWS mw208 mw209 mw39 mw210) rfl rfl rfl (by decide +kernel) ⟨Nat.le_of_ble_eq_true rfl, Nat.le_of_ble_eq_true rfl⟩) (gPreS hXs hbl hbA hS) rfl rfl hl.1 rfl (lv_room (Nat.le_of_ble_eq_true rfl)) dL_law_179 ⟨(by show cells + 0 ≤ 621943; omega), (by show slots + 0 ≤ 7227368; omega)⟩)) (fun r10 c11 => ?_)
  obtain rfl := c11
  obtain ⟨v12, ev13, hv14⟩ : ∃ v, smV Ln xs (16 + k + j) 2 = v ∧ v < 2 := ⟨_, rfl, smV_lt (by decide)⟩
  rw [ev13]
  refine lv_iadd hx hb dL_law_182 ?_
  refine lv_topi (fun x15 ex15 => ?_)
  obtain rfl : x15 = nI (1 + v12) := ex15.trans (nI_add 1 v12)
  refine lv_aload_n hx hb dL_law_183 rfl (lv_at hl 0 rfl) ?_
  refine lv_bipush (v := 20) hx hb dL_law_184 (by decide) ?_
  refine lv_iload hx hb dL_law_186 (lv_at hl 6 rfl) ?_
  refine lv_iadd hx hb dL_law_188 ?_
  refine lv_topi (fun x16 ex16 => ?_)
  obtain rfl : x16 = nI (20 + k) := ex16.trans (nI_add 20 k)
  refine lv_iconst (v := 3) hx hb dL_law_189 (by decide) ?_
  refine vp_callSi (run_of (va_runS (g := F0 m 190 ls [.int 3, .int (nI (20 + k)), .ref b, .int (nI (1 + v12)), .int (nI v5), .int (nI k), .ref (ad 0 0)]) (As := [.ref b, .int (nI (20 + k)), .int 3]) (rest := [.int (nI (1 + v12)), .int (nI v5), .int (nI k), .ref (ad 0 0)]) ⟨hx, hb, hml, hown, hta⟩ (c_L_some l (xs := xs) hL (k := 20 + k) (n := 3) (by omega) (by decide) (by decide)) (va_cwS 3 hta (gWS mw208 mw209 mw39 mw210) rfl rfl rfl (by decide +kernel) ⟨Nat.le_of_ble_eq_true rfl, Nat.le_of_ble_eq_true rfl⟩) (gPreS hXs hbl hbA hS) rfl rfl hl.1 rfl (lv_room (Nat.le_of_ble_eq_true rfl)) dL_law_190 ⟨(by show cells + 0 ≤ 621943; omega), (by show slots + 0 ≤ 7227368; omega)⟩)) (fun r17 c18 => ?_)
  obtain rfl := c18
  obtain ⟨v19, ev20, hv21⟩ : ∃ v, smV Ln xs (20 + k) 3 = v ∧ v < 3 := ⟨_, rfl, smV_lt (by decide)⟩
  rw [ev20]
  refine lv_iconst (v := 1) hx hb dL_law_193 (by decide) ?_
  refine lv_isub hx hb dL_law_194 ?_
  have hk6 : k < sN S 1 0 := by have := hC.1.2.2.1; omega
  refine gsw_i (vx_runSW (g := F0 m 195 ls [.int ((nI v19) - 1), .int (nI (1 + v12)), .int (nI v5), .int (nI k), .ref (ad 0 0)]) (As := [.ref (ad 0 0), .int (nI k), .int (nI v5), .int (nI (1 + v12)), .int ((nI v19) - 1)]) (rest := []) ⟨hx, hb, hml, hown, hta⟩ (c_L_addComponent l hl0 hR hW (p9 := k) (cz := v5) hk6 (Nat.lt_trans hv7 hk6) hv7 (nI (1 + v12)) ((nI v19) - 1) (inR_n (a := 1) (b := 9) (by omega) (by omega) (by decide)) (op_in hv21) (hC.made (by omega) h6) (by have := hC.2.1; omega)) (vx_cwSW 5 hta (gWSW mw300 mw301 mw39 mw302) rfl rfl rfl (by decide +kernel) ⟨Nat.le_of_ble_eq_true rfl, Nat.le_of_ble_eq_true rfl⟩) (gPreW hX hQ hK hP hD hS hA) rfl rfl hl.1 rfl (lv_room (Nat.le_of_ble_eq_true rfl)) dL_law_195 ⟨(by show cells + 1 ≤ 621943; omega), (by show slots + 3 ≤ 7227368; omega)⟩) hD hS hA (fun r22 u H locs c23 hR hP hD hS => ?_)
  obtain ⟨T, ad9, L9, f⟩ := u
  dsimp only at c23 hR hP hD
  obtain ⟨rfl, rfl, had⟩ := c23
  have had := had 0 0 (rfl : (0 : Nat) = 0)
  rw [← had] at hl
  refine lv_iload hx hb dL_law_198 (lv_at hl 7 rfl) ?_
  refine lv_iconst (v := 1) hx hb dL_law_200 (by decide) ?_
  refine lv_iadd hx hb dL_law_201 ?_
  refine lv_topi (fun x24 ex24 => ?_)
  obtain rfl : x24 = nI (j + 1) := ex24.trans (nI_add j 1)
  refine lv_icmp_eq (tgt := 207) hx hb dL_law_202 (by decide) (fun c25 => ?_) (fun c25 => ?_)
  · skip
    refine lv_iinc (v := nI (j + 1)) (lv' := [(8, .int (nI (j + 1))), (0, .ref b), (1, .ref (ad9 0 0)), (2, .int 0), (3, .int (nI nm)), (4, .int 0), (5, .long 0), (7, .int (nI k))]) hx hb dL_law_207 hl (k := 7) rfl (nI_1 _) (by decide) rfl (fun ls hl => ?_)
    refine lv_goto (tgt := 145) hx hb dL_law_210 (by decide) ?_
    exact kk _ _ _ _ _ _ _ _ _ (hC.addC h6 hv7 (by rw [nI_toInt (by omega)]; omega) (by rw [nI_toInt (by omega)]; omega) (by omega)) hR hP hD hS (lv_sub hl [1, 2, 3, 4, 5, 6, 7, 0] rfl) (by (try dsimp only); omega) (by (try dsimp only); omega)
  · exact absurd (by rw [hC.2.1]) c25

set_option maxHeartbeats 8000000 in
set_option maxRecDepth 100000 in
/-- AN OPERATION -/
theorem lu_oper {p : Program} {e : Env} {s : State} {m : MethodId} {below : List Frame} {meth : Method} {c : Code} (l : Launch) {b Ln : Nat} {xs : Nat → Int32} {A : Nat → Prop} {D : va_G} {tA : Nat → ClassId} (C : LwC p l s m meth c b Ln xs A D tA) {S : St} {ad : Nat → Nat → Nat} {L : List Nat} {f : Nat → va_E} {H : Heap} {locs : List Loc} {ls : Array Slot} {cells slots : Nat} (hR : Rep tA S ad L f) (hP : va_P D vwCl (va_pl L f) H) (hD : va_D A (va_pl L f)) (hS : va_S A s.heap H locs) {j k nm w9 : Nat} (hC : SC S nm k 2 w9) (hj : j < 2) (hw : w9 < 3) (h2 : 2 ≤ k) (h6 : k < 6) (hn1 : 1 ≤ nm) (hn3 : nm ≤ 3) (hc : cells + 100 ≤ 621943) (hsl : slots + 1000 ≤ 7227368) (hl : lv_has ls 19 [(0, .ref b), (1, .ref (ad 0 0)), (2, .int 0), (3, .int (nI nm)), (4, .int 0), (5, .long 0), (7, .int (nI k)), (8, .int (nI (j + 1)))]) (kk : ∀ (T : St) (ad : Nat → Nat → Nat) (L : List Nat) (f : Nat → va_E) (H : Heap) (locs : List Loc) (ls : Array Slot) (ce sl : Nat), SC T nm k 2 (w9 + 1) → Rep tA T ad L f → va_P D vwCl (va_pl L f) H → va_D A (va_pl L f) → va_S A s.heap H locs → lv_has ls 19 [(0, .ref b), (1, .ref (ad 0 0)), (2, .int 0), (3, .int (nI nm)), (4, .int 0), (5, .long 0), (7, .int (nI k)), (8, .int (nI j))] → ce ≤ cells + 1 → sl ≤ slots + 3 → W p l e room_1 s m #[Value.ref b] below meth c H locs ce sl (lw_Z below #[Value.ref b] s) (F0 m 225 ls [])) : W p l e room_1 s m #[Value.ref b] below meth c H locs cells slots (lw_Z below #[Value.ref b] s) (F0 m 230 ls []) := by
  obtain ⟨C0, hL, hA, hA2, hX, hQ, hK, hl0⟩ := id C
  obtain ⟨hx, hb, hr, hml, hown0, hts, hXs, hbl, hlocks, hgv⟩ := id C0
  have hta : ∀ w ∈ WA, w.before #[Value.ref b] s = true := fun w h => hts w (WA_in w h)
  have hown : s.vm.findClass RL = some m.cls := hown0
  have hbA : ¬ A b := fun h => absurd (hA2 b h) (Nat.not_le.mpr hbl)
  have hW := hC.1.1.1
  refine lv_aload_n hx hb dL_law_230 rfl (lv_at hl 1 rfl) ?_
  refine lv_iload hx hb dL_law_231 (lv_at hl 6 rfl) ?_
  refine lv_aload_n hx hb dL_law_233 rfl (lv_at hl 0 rfl) ?_
  refine lv_bipush (v := 30) hx hb dL_law_234 (by decide) ?_
  refine lv_iload hx hb dL_law_236 (lv_at hl 6 rfl) ?_
  refine lv_iadd hx hb dL_law_238 ?_
  refine lv_topi (fun x1 ex1 => ?_)
  obtain rfl : x1 = nI (30 + k) := ex1.trans (nI_add 30 k)
  refine lv_iload hx hb dL_law_239 (lv_at hl 7 rfl) ?_
  refine lv_iadd hx hb dL_law_241 ?_
  refine lv_topi (fun x2 ex2 => ?_)
  obtain rfl : x2 = nI (30 + k + (j + 1)) := ex2.trans (nI_add (30 + k) (j + 1))
  refine lv_iload_n hx hb dL_law_242 rfl (lv_at hl 3 rfl) ?_
  refine vp_callSi (run_of (va_runS (g := F0 m 243 ls [.int (nI nm), .int (nI (30 + k + (j + 1))), .ref b, .int (nI k), .ref (ad 0 0)]) (As := [.ref b, .int (nI (30 + k + (j + 1))), .int (nI nm)]) (rest := [.int (nI k), .ref (ad 0 0)]) ⟨hx, hb, hml, hown, hta⟩ (c_L_some l (xs := xs) hL (k := 30 + k + (j + 1)) (n := nm) (by omega) (by omega) (by omega)) (va_cwS 3 hta (gWS mw208 mw209 mw39 mw210) rfl rfl rfl (by decide +kernel) ⟨Nat.le_of_ble_eq_true rfl, Nat.le_of_ble_eq_true rfl⟩) (gPreS hXs hbl hbA hS) rfl rfl hl.1 rfl (lv_room (Nat.le_of_ble_eq_true rfl)) dL_law_243 ⟨(by show cells + 0 ≤ 621943; omega), (by show slots + 0 ≤ 7227368; omega)⟩)) (fun r3 c4 => ?_)
  obtain rfl := c4
  obtain ⟨v5, ev6, hv7⟩ : ∃ v, smV Ln xs (30 + k + (j + 1)) nm = v ∧ v < nm := ⟨_, rfl, smV_lt (by omega)⟩
  rw [ev6]
  refine lv_aload_n hx hb dL_law_246 rfl (lv_at hl 0 rfl) ?_
  refine lv_bipush (v := 34) hx hb dL_law_247 (by decide) ?_
  refine lv_iload hx hb dL_law_249 (lv_at hl 6 rfl) ?_
  refine lv_iadd hx hb dL_law_251 ?_
  refine lv_topi (fun x8 ex8 => ?_)
  obtain rfl : x8 = nI (34 + k) := ex8.trans (nI_add 34 k)
  refine lv_iload hx hb dL_law_252 (lv_at hl 7 rfl) ?_
  refine lv_iadd hx hb dL_law_254 ?_
  refine lv_topi (fun x9 ex9 => ?_)
  obtain rfl : x9 = nI (34 + k + (j + 1)) := ex9.trans (nI_add (34 + k) (j + 1))
  refine lv_iload_n hx hb dL_law_255 rfl (lv_at hl 3 rfl) ?_
  refine lv_iconst (v := 1) hx hb dL_law_256 (by decide) ?_
  refine lv_iadd hx hb dL_law_257 ?_
  refine lv_topi (fun x10 ex10 => ?_)
  obtain rfl : x10 = nI (nm + 1) := ex10.trans (nI_add nm 1)
  refine vp_callSi (run_of (va_runS (g := F0 m 258 ls [.int (nI (nm + 1)), .int (nI (34 + k + (j + 1))), .ref b, .int (nI v5), .int (nI k), .ref (ad 0 0)]) (As := [.ref b, .int (nI (34 + k + (j + 1))), .int (nI (nm + 1))]) (rest := [.int (nI v5), .int (nI k), .ref (ad 0 0)]) ⟨hx, hb, hml, hown, hta⟩ (c_L_some l (xs := xs) hL (k := 34 + k + (j + 1)) (n := nm + 1) (by omega) (by omega) (by omega)) (va_cwS 3 hta (gWS mw208 mw209 mw39 mw210) rfl rfl rfl (by decide +kernel) ⟨Nat.le_of_ble_eq_true rfl, Nat.le_of_ble_eq_true rfl⟩) (gPreS hXs hbl hbA hS) rfl rfl hl.1 rfl (lv_room (Nat.le_of_ble_eq_true rfl)) dL_law_258 ⟨(by show cells + 0 ≤ 621943; omega), (by show slots + 0 ≤ 7227368; omega)⟩)) (fun r11 c12 => ?_)
  obtain rfl := c12
  obtain ⟨v13, ev14, hv15⟩ : ∃ v, smV Ln xs (34 + k + (j + 1)) (nm + 1) = v ∧ v < nm + 1 := ⟨_, rfl, smV_lt (by omega)⟩
  rw [ev14]
  refine lv_iconst (v := 1) hx hb dL_law_261 (by decide) ?_
  refine lv_isub hx hb dL_law_262 ?_
  refine lv_iconst (v := 1) hx hb dL_law_263 (by decide) ?_
  refine lv_aload_n hx hb dL_law_264 rfl (lv_at hl 0 rfl) ?_
  refine lv_bipush (v := 38) hx hb dL_law_265 (by decide) ?_
  refine lv_iload hx hb dL_law_267 (lv_at hl 6 rfl) ?_
  refine lv_iadd hx hb dL_law_269 ?_
  refine lv_topi (fun x16 ex16 => ?_)
  obtain rfl : x16 = nI (38 + k) := ex16.trans (nI_add 38 k)
  refine lv_iconst (v := 3) hx hb dL_law_270 (by decide) ?_
  refine vp_callSi (run_of (va_runS (g := F0 m 271 ls [.int 3, .int (nI (38 + k)), .ref b, .int 1, .int ((nI v13) - 1), .int (nI v5), .int (nI k), .ref (ad 0 0)]) (As := [.ref b, .int (nI (38 + k)), .int 3]) (rest := [.int 1, .int ((nI v13) - 1), .int (nI v5), .int (nI k), .ref (ad 0 0)]) ⟨hx, hb, hml, hown, hta⟩ (c_L_some l (xs := xs) hL (k := 38 + k) (n := 3) (by omega) (by decide) (by decide)) (va_cwS 3 hta (gWS mw208 mw209 mw39 mw210) rfl rfl rfl (by decide +kernel) ⟨Nat.le_of_ble_eq_true rfl, Nat.le_of_ble_eq_true rfl⟩) (gPreS hXs hbl hbA hS) rfl rfl hl.1 rfl (lv_room (Nat.le_of_ble_eq_true rfl)) dL_law_271 ⟨(by show cells + 0 ≤ 621943; omega), (by show slots + 0 ≤ 7227368; omega)⟩)) (fun r17 c18 => ?_)
  obtain rfl := c18
  obtain ⟨v19, ev20, hv21⟩ : ∃ v, smV Ln xs (38 + k) 3 = v ∧ v < 3 := ⟨_, rfl, smV_lt (by decide)⟩
  rw [ev20]
  refine lv_iadd hx hb dL_law_274 ?_
  refine lv_topi (fun x22 ex22 => ?_)
  obtain rfl : x22 = nI (1 + v19) := ex22.trans (nI_add 1 v19)
  have hk6 : k < sN S 1 0 := by have := hC.1.2.2.1; omega
  have hm9 : v5 < sN S 0 0 := by have := hC.1.2.1; omega
  rcases v13 with _ | a9
  · skip
    rw [show nI 0 - 1 = -1 by decide]
    refine gsw_i (vx_runSW (g := F0 m 275 ls [.int (nI (1 + v19)), .int (-1), .int (nI v5), .int (nI k), .ref (ad 0 0)]) (As := [.ref (ad 0 0), .int (nI k), .int (nI v5), .int (-1), .int (nI (1 + v19))]) (rest := []) ⟨hx, hb, hml, hown, hta⟩ (c_L_addOperationn l hl0 hR hW (p9 := k) (m9 := v5) hk6 hm9 (nI (1 + v19)) (inR_n (a := 1) (b := 20) (by omega) (by omega) (by decide)) (hC.made (by omega) h6) (by have := hC.2.2; omega)) (vx_cwSW 5 hta (gWSW mw354 mw355 mw39 mw356) rfl rfl rfl (by decide +kernel) ⟨Nat.le_of_ble_eq_true rfl, Nat.le_of_ble_eq_true rfl⟩) (gPreW hX hQ hK hP hD hS hA) rfl rfl hl.1 rfl (lv_room (Nat.le_of_ble_eq_true rfl)) dL_law_275 ⟨(by show cells + 1 ≤ 621943; omega), (by show slots + 3 ≤ 7227368; omega)⟩) hD hS hA (fun r23 u H locs c24 hR hP hD hS => ?_)
    obtain ⟨T, ad9, L9, f⟩ := u
    dsimp only at c24 hR hP hD
    obtain ⟨rfl, rfl, had⟩ := c24
    have had := had 0 0 (rfl : (0 : Nat) = 0)
    rw [← had] at hl
    refine lv_if_ge (tgt := 283) hx hb dL_law_278 (by decide) (fun c25 => ?_) (fun c25 => ?_)
    · skip
      refine lv_iinc (v := (nI (j + 1)) + (Int32.ofInt (-1))) (lv' := [(8, .int ((nI (j + 1)) + (Int32.ofInt (-1)))), (0, .ref b), (1, .ref (ad9 0 0)), (2, .int 0), (3, .int (nI nm)), (4, .int 0), (5, .long 0), (7, .int (nI k))]) hx hb dL_law_283 hl (k := 7) rfl (rfl) (by decide) rfl (fun ls hl => ?_)
      refine lv_goto (tgt := 225) hx hb dL_law_286 (by decide) ?_
      rw [nI_dec] at hl
      exact kk _ _ _ _ _ _ _ _ _ (hC.addW h6 hv7 (fun a ha => by cases ha) hw) hR hP hD hS (lv_sub hl [1, 2, 3, 4, 5, 6, 7, 0] rfl) (by (try dsimp only); omega) (by (try dsimp only); omega)
    · exact absurd (nI_pos' (by have := hC.2.2; omega)) c25
  · skip
    rw [nI_pred]
    have ha9 : a9 < sN S 0 0 := by have := hC.1.2.1; omega
    refine gsw_i (vx_runSW (g := F0 m 275 ls [.int (nI (1 + v19)), .int (nI a9), .int (nI v5), .int (nI k), .ref (ad 0 0)]) (As := [.ref (ad 0 0), .int (nI k), .int (nI v5), .int (nI a9), .int (nI (1 + v19))]) (rest := []) ⟨hx, hb, hml, hown, hta⟩ (c_L_addOperations l hl0 hR hW (p9 := k) (m9 := v5) (a9 := a9) hk6 hm9 ha9 (nI (1 + v19)) (inR_n (a := 1) (b := 20) (by omega) (by omega) (by decide)) (hC.made (by omega) h6) (by have := hC.2.2; omega)) (vx_cwSW 5 hta (gWSW mw354 mw355 mw39 mw356) rfl rfl rfl (by decide +kernel) ⟨Nat.le_of_ble_eq_true rfl, Nat.le_of_ble_eq_true rfl⟩) (gPreW hX hQ hK hP hD hS hA) rfl rfl hl.1 rfl (lv_room (Nat.le_of_ble_eq_true rfl)) dL_law_275 ⟨(by show cells + 1 ≤ 621943; omega), (by show slots + 3 ≤ 7227368; omega)⟩) hD hS hA (fun r26 u H locs c27 hR hP hD hS => ?_)
    obtain ⟨T, ad9, L9, f⟩ := u
    dsimp only at c27 hR hP hD
    obtain ⟨rfl, rfl, had⟩ := c27
    have had := had 0 0 (rfl : (0 : Nat) = 0)
    rw [← had] at hl
    refine lv_if_ge (tgt := 283) hx hb dL_law_278 (by decide) (fun c28 => ?_) (fun c28 => ?_)
    · skip
      refine lv_iinc (v := (nI (j + 1)) + (Int32.ofInt (-1))) (lv' := [(8, .int ((nI (j + 1)) + (Int32.ofInt (-1)))), (0, .ref b), (1, .ref (ad9 0 0)), (2, .int 0), (3, .int (nI nm)), (4, .int 0), (5, .long 0), (7, .int (nI k))]) hx hb dL_law_283 hl (k := 7) rfl (rfl) (by decide) rfl (fun ls hl => ?_)
      refine lv_goto (tgt := 225) hx hb dL_law_286 (by decide) ?_
      rw [nI_dec] at hl
      exact kk _ _ _ _ _ _ _ _ _ (hC.addW h6 hv7 (fun a ha => by cases ha; omega) hw) hR hP hD hS (lv_sub hl [1, 2, 3, 4, 5, 6, 7, 0] rfl) (by (try dsimp only); omega) (by (try dsimp only); omega)
    · exact absurd (nI_pos' (by have := hC.2.2; omega)) c28

