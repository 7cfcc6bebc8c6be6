set_option maxHeartbeats 8000000 in
set_option maxRecDepth 100000 in
/-- from behind the constructor: the set-up, all turns, the end -/
theorem lw_go {p : Program} {e : Env} {s : State} {m : MethodId} {below : List Frame} {meth : Method} {c : Code} (l : Launch) {b Ln : Nat} {xs : Nat → Int32} {A : Nat → Prop} {D : va_G} {tA : Nat → ClassId} (C : LwC p l s m meth c b Ln xs A D tA) {S : St} {ad : Nat → Nat → Nat} {L : List Nat} {f : Nat → va_E} {H : Heap} {locs : List Loc} {ls : Array Slot} {cells slots : Nat} (hR : Rep tA S ad L f) (hP : va_P D vwCl (va_pl L f) H) (hD : va_D A (va_pl L f)) (hS : va_S A s.heap H locs) (hB : SB S 0 0) (hc : cells ≤ 100) (hsl : slots ≤ 1000) (hl : lv_has ls 19 [(1, .ref (ad 0 0)), (0, .ref b)]) : W p l e room_1 s m #[Value.ref b] below meth c H locs cells slots (lw_Z below #[Value.ref b] s) (F0 m 8 ls []) := by
  obtain ⟨C0, hL, hA, hA2, hX, hQ, hK, hl0⟩ := id C
  obtain ⟨hx, hb, hr, hml, hown0, hts, hXs, hbl, hlocks, hgv⟩ := id C0
  have hta : ∀ w ∈ WA, w.before #[Value.ref b] s = true := fun w h => hts w (WA_in w h)
  have hown : s.vm.findClass RL = some m.cls := hown0
  have hbA : ¬ A b := fun h => absurd (hA2 b h) (Nat.not_le.mpr hbl)
  refine lv_iconst (v := 0) hx hb dL_law_8 (by decide) ?_
  refine lv_istore_n (lv' := [(2, .int 0), (1, .ref (ad 0 0)), (0, .ref b)]) hx hb dL_law_9 rfl hl (by decide) rfl (fun ls hl => ?_)
  refine lv_iconst (v := 1) hx hb dL_law_10 (by decide) ?_
  refine lv_aload_n hx hb dL_law_11 rfl (lv_at hl 2 rfl) ?_
  refine lv_iconst (v := 0) hx hb dL_law_12 (by decide) ?_
  refine lv_iconst (v := 3) hx hb dL_law_13 (by decide) ?_
  refine vp_callSi (run_of (va_runS (g := F0 m 14 ls [.int 3, .int 0, .ref b, .int 1]) (As := [.ref b, .int 0, .int 3]) (rest := [.int 1]) ⟨hx, hb, hml, hown, hta⟩ (c_L_some l (xs := xs) hL (k := 0) (n := 3) (by omega) (by decide) (by decide)) (va_cwS 3 hta (gWS mw208 mw209 mw39 mw210) rfl rfl rfl (by decide +kernel) ⟨Nat.le_of_ble_eq_true rfl, Nat.le_of_ble_eq_true rfl⟩) (gPreS hXs hbl hbA hS) rfl rfl hl.1 rfl (lv_room (Nat.le_of_ble_eq_true rfl)) dL_law_14 ⟨(by show cells + 0 ≤ 621943; omega), (by show slots + 0 ≤ 7227368; omega)⟩)) (fun r3 c3 => ?_)
  obtain rfl := c3
  obtain ⟨v, ev, hv⟩ : ∃ v, smV Ln xs 0 3 = v ∧ v < 3 := ⟨_, rfl, smV_lt (by decide)⟩
  rw [ev]
  refine lv_iadd hx hb dL_law_17 ?_
  refine lv_topi (fun x1 ex1 => ?_)
  obtain rfl : x1 = nI (1 + v) := ex1.trans (nI_add 1 v)
  refine lv_istore_n (lv' := [(3, .int (nI (1 + v))), (2, .int 0), (1, .ref (ad 0 0)), (0, .ref b)]) hx hb dL_law_18 rfl hl (by decide) rfl (fun ls hl => ?_)
  refine lv_iconst (v := 0) hx hb dL_law_19 (by decide) ?_
  refine lv_istore (lv' := [(4, .int 0), (3, .int (nI (1 + v))), (2, .int 0), (1, .ref (ad 0 0)), (0, .ref b)]) hx hb dL_law_20 hl (by decide) rfl (fun ls hl => ?_)
  refine lv_lconst (v := 0) hx hb dL_law_22 (by decide) ?_
  refine lv_lstore (lv' := [(5, .long 0), (4, .int 0), (3, .int (nI (1 + v))), (2, .int 0), (1, .ref (ad 0 0)), (0, .ref b)]) hx hb dL_law_23 hl (by decide) rfl (fun ls hl => ?_)
  refine lv_iconst (v := 0) hx hb dL_law_25 (by decide) ?_
  refine lv_istore (lv' := [(7, .int (nI 0)), (5, .long 0), (4, .int 0), (3, .int (nI (1 + v))), (2, .int 0), (1, .ref (ad 0 0)), (0, .ref b)]) hx hb dL_law_26 hl (by decide) rfl (fun ls hl => ?_)
  refine lu_ml l C hR hP hD hS (nm := 1 + v) hB (by omega) (by omega) (by omega) (lv_sub hl [6, 5, 4, 3, 2, 1, 0] rfl) (fun T ad L f H locs ls ce1 sl1 hB hR hP hD hS hl hc1 hs1 => ?_)
  refine lv_iconst (v := 0) hx hb dL_law_85 (by decide) ?_
  refine lv_istore (lv' := [(7, .int (nI 0)), (0, .ref b), (1, .ref (ad 0 0)), (2, .int 0), (3, .int (nI (1 + v))), (4, .int 0), (5, .long 0)]) hx hb dL_law_86 hl (by decide) rfl (fun ls hl => ?_)
  refine lu_pl l C hR hP hD hS (nm := 1 + v) hB (by omega) (by omega) (lv_sub hl [1, 2, 3, 4, 5, 6, 0] rfl) (fun T ad L f H locs ls ce2 sl2 hB hR hP hD hS hl hc2 hs2 => ?_)
  refine lv_iconst (v := 2) hx hb dL_law_132 (by decide) ?_
  refine lv_istore (lv' := [(7, .int (nI (2 + 0))), (0, .ref b), (1, .ref (ad 0 0)), (2, .int 0), (3, .int (nI (1 + v))), (4, .int 0), (5, .long 0)]) hx hb dL_law_133 hl (by decide) rfl (fun ls hl => ?_)
  refine lu_kl l C hR hP hD hS (nm := 1 + v) hB.e (by omega) (by omega) (by omega) (by omega) (lv_sub hl [1, 2, 3, 4, 5, 6, 0] rfl) (fun T ad L f H locs ls ce3 sl3 hB hR hP hD hS hl hc3 hs3 => ?_)
  refine lv_iconst (v := 0) hx hb dL_law_295 (by decide) ?_
  refine lv_istore (lv' := [(7, .int (nI 0)), (0, .ref b), (1, .ref (ad 0 0)), (2, .int 0), (3, .int (nI (1 + v))), (4, .int 0), (5, .long 0)]) hx hb dL_law_296 hl (by decide) rfl (fun ls hl => ?_)
  obtain ⟨hT, z1, z2, z3⟩ := hB.ti (by omega) (by omega)
  have hl : lv_has ls 19 [(0, .ref b), (1, .ref (ad 0 0)), (2, .int 0), (3, .int (nI (1 + v))), (4, .int 0), (5, .long 0), (7, .int (nI 0))] := lv_sub hl [1, 2, 3, 4, 5, 6, 0] rfl
  refine lw_turns l C hR hP hD hS hT (by omega) (by omega) ?_
  rw [z1, z2, z3, show sN T 0 0 = 1 + v from hB.2.1]
  exact hl
set_option maxHeartbeats 8000000 in
set_option maxRecDepth 100000 in
theorem whole_start {p : Program} {e : Env} {s : State} {m : MethodId} {below : List Frame} {meth : Method} {c : Code} (l : Launch) (hflags : l.flags = flags0) {b L : Nat} {xs : Nat → Int32} (hL : L ≤ 260) (C0 : lw_At p s m meth c b L xs) : W p l e room_1 s m #[Value.ref b] below meth c s.heap [] 0 0 (lw_Z below #[Value.ref b] s) (entryFrame m ([Value.ref b] : List Value).toArray 19) := by
  obtain ⟨A, D, tA, C⟩ := lw_ctx (l := l) hflags hL C0
  obtain ⟨C0, hL, hA, hA2, hX, hQ, hK, hl0⟩ := id C
  obtain ⟨hx, hb, hr, hml, hown0, hts, hXs, hbl, hlocks, hgv⟩ := id C0
  have hta : ∀ w ∈ WA, w.before #[Value.ref b] s = true := fun w h => hts w (WA_in w h)
  have hown : s.vm.findClass RL = some m.cls := hown0
  have hbA : ¬ A b := fun h => absurd (hA2 b h) (Nat.not_le.mpr hbl)
  have hS : va_S A s.heap s.heap [] := va_S.rf
  have hP0 : va_P D vwCl (va_pl [] (fun _ => (.inr (12, [.null, .null, .null, .null, .null, .null, .int 0, .int 0, .int 0, .int 0, .int 0, .int 0, .long 0, .long 0]) : va_E))) s.heap := fun k q h => by simp [va_pl] at h
  have hD0 : va_D A (va_pl [] (fun _ => (.inr (12, [.null, .null, .null, .null, .null, .null, .int 0, .int 0, .int 0, .int 0, .int 0, .int 0, .long 0, .long 0]) : va_E))) := ⟨fun i j p q h => by simp [va_pl] at h, fun k q h => by simp [va_pl] at h⟩
  have hl := lv_entry ([.ref b]) (n := 19) (Nat.le_of_ble_eq_true rfl)
  rw [lg_entry_eq]
  generalize (lg_sl ([.ref b]) ++ List.replicate (19 - (lg_sl ([.ref b])).length) Slot.unset).toArray = ls at hl ⊢
  have hl : lv_has ls 19 [(0, .ref b)] := hl
  refine va_new (ci := 12) (fs := [.null, .null, .null, .null, .null, .null, .int 0, .int 0, .int 0, .int 0, .int 0, .int 0, .long 0, .long 0]) (C := RX10) (T := TX10) (N := 14) hx hb hta iwX10 tyX10 tyX10_ok hown (hta _ mw69) (hta _ mw70) (hta _ mw40) hK hP0 hD0 hS hA rfl (fun j hj => by rcases (show j = 0 ∨ j = 1 ∨ j = 2 ∨ j = 3 ∨ j = 4 ∨ j = 5 ∨ j = 6 ∨ j = 7 ∨ j = 8 ∨ j = 9 ∨ j = 10 ∨ j = 11 ∨ j = 12 ∨ j = 13 by omega) with rfl | rfl | rfl | rfl | rfl | rfl | rfl | rfl | rfl | rfl | rfl | rfl | rfl | rfl <;> rfl) (Nat.le_of_ble_eq_true rfl) (Nat.le_of_ble_eq_true rfl) dL_law_0 (fun q H hP hD hS => ?_)
  have hP : va_P D vwCl (va_pl [q] (fun _ => (.inr (12, [.null, .null, .null, .null, .null, .null, .int 0, .int 0, .int 0, .int 0, .int 0, .int 0, .long 0, .long 0]) : va_E))) H := hP
  have hD : va_D A (va_pl [q] (fun _ => (.inr (12, [.null, .null, .null, .null, .null, .null, .int 0, .int 0, .int 0, .int 0, .int 0, .int 0, .long 0, .long 0]) : va_E))) := hD
  refine lv_dup hx hb dL_law_3 rfl ?_
  refine graw_Y (As := []) (rest := [.ref q]) ⟨hx, hb, hml, hown, hta⟩ (c_X10_init l (L := [q]) (f := fun _ => (.inr (12, [.null, .null, .null, .null, .null, .null, .int 0, .int 0, .int 0, .int 0, .int 0, .int 0, .long 0, .long 0]) : va_E)) (q := q) (List.mem_singleton.mpr rfl) rfl) (cwI 0 hta (gWI mw73) rfl rfl rfl (hta _ mw40) (hta _ mw71) (hta _ mw72) rfl (by decide +kernel) ⟨Nat.le_of_ble_eq_true rfl, Nat.le_of_ble_eq_true rfl⟩) hX hK hP hD hS hA rfl hl.1 rfl (Nat.le_of_ble_eq_true rfl) dL_law_4 ⟨Nat.le_of_ble_eq_true rfl, Nat.le_of_ble_eq_true rfl⟩ (fun u H locs hu hP hD hS => ?_)
  obtain ⟨L9, f9⟩ := u
  dsimp only at hu hP hD
  obtain ⟨q1, q22, q47, q76, q109, q146, q206, q271, q341, q416, e0, g1, g2, g3, g4, g5, g6, g7, g8, g9, g10, d1, d2, d3, d4, d5, d6, d7, d8, d9, d10, d11, d12, d13, d14, d15, d16, d17, d18, d19, d20, d21, d22, d23, d24, d25, d26, d27, d28, d29, d30, d31, d32, d33, d34, d35, d36, d37, d38, d39, d40, d41, d42, d43, d44, d45, hin, -, -⟩ := hu
  have hR : Rep tA S0 (ad0 q q1 q22 q47 q76 q109 q146 q206 q271 q341 q416) L9 f9 := Rep0 (hin q (List.mem_singleton.mpr rfl)) g1.2.2.1 g2.2.2.1 g3.2.2.1 g4.2.2.1 g5.2.2.1 g6.2.2.1 g7.2.2.1 g8.2.2.1 g9.2.2.1 g10.2.2.1 e0 g1.1 g2.1 g3.1 g4.1 g5.1 g6.1 g7.1 g8.1 g9.1 g10.1 (by
    simp [Ne.symm g1.2.2.2, Ne.symm g2.2.2.2, Ne.symm g3.2.2.2, Ne.symm g4.2.2.2, Ne.symm g5.2.2.2, Ne.symm g6.2.2.2, Ne.symm g7.2.2.2, Ne.symm g8.2.2.2, Ne.symm g9.2.2.2, Ne.symm g10.2.2.2, d1, d2, d3, d4, d5, d6, d7, d8, d9, d10, d11, d12, d13, d14, d15, d16, d17, d18, d19, d20, d21, d22, d23, d24, d25, d26, d27, d28, d29, d30, d31, d32, d33, d34, d35, d36, d37, d38, d39, d40, d41, d42, d43, d44, d45])
  refine lv_astore_n (lv' := [(1, .ref (ad0 q q1 q22 q47 q76 q109 q146 q206 q271 q341 q416 0 0)), (0, .ref b)]) hx hb dL_law_7 rfl hl (by decide) rfl (fun ls hl => ?_)
  exact lw_go l C hR hP hD hS SB0 (Nat.le_of_ble_eq_true rfl) (Nat.le_of_ble_eq_true rfl) hl
