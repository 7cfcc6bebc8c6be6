set_option maxHeartbeats 4000000 in
set_option maxRecDepth 100000 in
theorem c_X10_addMachine_t (l : Launch) {D : va_G} {tE sz : Nat} {h0 a1 a2 a3 a4 a5 h6 s0 s1 s2 s3 : Nat} {t1 t2 t3 t4 t5 : ClassId} {x1 x2 x3 x4 : Int32} (g91 : inR x1 0 20 = true) (g92 : inR x2 0 50 = true) (g93 : inR x3 5 500 = true) (g94 : inR x4 1 99 = true) : Met l ⟨"Foundrymark", "addMachine", "(IIII)I"⟩ (wsC ⟨"Foundrymark", "addMachine", "(IIII)I"⟩ cX10_addMachine 5 (some .int)) ({ frames := 2, cells := 1, slots := 11, locals := 44 }) (va_Pc [.ref h0, .int x1, .int x2, .int x3, .int x4] (gS tE D (wX h0 a1 a2 a3 a4 a5 h6 s0 s1 s2 s3 t1 t2 t3 t4 t5) (tX t1 t2 t3 t4 t5) sz)) (va_Qi (fun (r : Int32) (_ : Unit) => r = 0) (gO D (fun _ => []) (fun _ => []) (va_A (wX h0 a1 a2 a3 a4 a5 h6 s0 s1 s2 s3 t1 t2 t3 t4 t5) sz)) (va_A (wX h0 a1 a2 a3 a4 a5 h6 s0 s1 s2 s3 t1 t2 t3 t4 t5) sz)) 1 11 (va_A (wX h0 a1 a2 a3 a4 a5 h6 s0 s1 s2 s3 t1 t2 t3 t4 t5) sz) := by
  refine Met.ofW (cc := cX10_addMachine) (maxL := 5) (ret := (some .int)) (by decide) rfl ?_
  intro p e s m args below meth c s₁ B hml hv
  obtain ⟨rfl, hsz, hP, hK, hD0, hG⟩ := hv
  have hx := B.exec
  have hb := B.bytes
  have hr := B.returns
  have hlocks := B.notSynchronized
  have hts := atoms_spec (ws := wsC ⟨"Foundrymark", "addMachine", "(IIII)I"⟩ cX10_addMachine 5 (some .int)) B.pre
  have hta : ∀ w ∈ WA, w.before _ s = true := fun w h => hts w (List.mem_cons_of_mem _ h)
  have hown : s.vm.findClass "Foundrymark" = some m.cls := findClass_of_methodNamed B.named
  subst hsz
  have hD : va_D (va_A (wX h0 a1 a2 a3 a4 a5 h6 s0 s1 s2 s3 t1 t2 t3 t4 t5) s.heap.size) (wX h0 a1 a2 a3 a4 a5 h6 s0 s1 s2 s3 t1 t2 t3 t4 t5) := hD0.self (sz := s.heap.size)
  generalize hAe : va_A (wX h0 a1 a2 a3 a4 a5 h6 s0 s1 s2 s3 t1 t2 t3 t4 t5) s.heap.size = A at hD hG ⊢
  have hA : ∀ q : Nat, s.heap.size ≤ q → A q := fun q h => by rw [← hAe]; exact Or.inr h
  have hS : va_S A s.heap s.heap [] := va_S.rf
  have hP : va_P D vwCl (wX h0 a1 a2 a3 a4 a5 h6 s0 s1 s2 s3 t1 t2 t3 t4 t5) s.heap := hP
  have hl := lv_entry ([.ref h0, .int x1, .int x2, .int x3, .int x4]) (n := 5) (Nat.le_of_ble_eq_true rfl)
  rw [lg_entry_eq]
  generalize (lg_sl ([.ref h0, .int x1, .int x2, .int x3, .int x4]) ++ List.replicate (5 - (lg_sl ([.ref h0, .int x1, .int x2, .int x3, .int x4])).length) Slot.unset).toArray = ls at hl ⊢
  have hl : lv_has ls 5 [(0, .ref h0), (1, .int x1), (2, .int x2), (3, .int x3), (4, .int x4)] := hl
  refine lv_iload_n hx hb dX10_addMachine_0 rfl (lv_at hl 1 rfl) ?_
  refine lv_iconst (v := 0) hx hb dX10_addMachine_1 (by decide) ?_
  refine lv_bipush (v := 20) hx hb dX10_addMachine_2 (by decide) ?_
  refine vp_callSi (W.runS (As := [.int x1, .int 0, .int 20]) (rest := []) ⟨hx, hb, hml, hown, hta⟩ (c_X10_isFrom l x1 0 20) (va_cwS 3 hta (gWS mw57 mw58 mw10 mw56) rfl rfl rfl (by decide +kernel) ⟨Nat.le_of_ble_eq_true rfl, Nat.le_of_ble_eq_true rfl⟩) ⟨fun a U g mk q => ⟨q.1, trivial⟩, fun U hU hW => ⟨rfl, trivial⟩⟩ rfl rfl hl.1 rfl (lv_room (Nat.le_of_ble_eq_true rfl)) dX10_addMachine_4 ⟨Nat.le_of_ble_eq_true rfl, Nat.le_of_ble_eq_true rfl⟩) (fun r1 h2 => ?_)
  obtain rfl : r1 = 1 := h2.trans (by rw [g91]; rfl)
  refine lv_if_eq (tgt := 42) hx hb dX10_addMachine_7 (by decide) (fun c3 => ?_) (fun c3 => ?_)
  · exact absurd c3 (by decide)
  · skip
    refine lv_iload_n hx hb dX10_addMachine_10 rfl (lv_at hl 2 rfl) ?_
    refine lv_iconst (v := 0) hx hb dX10_addMachine_11 (by decide) ?_
    refine lv_bipush (v := 50) hx hb dX10_addMachine_12 (by decide) ?_
    refine vp_callSi (W.runS (As := [.int x2, .int 0, .int 50]) (rest := []) ⟨hx, hb, hml, hown, hta⟩ (c_X10_isFrom l x2 0 50) (va_cwS 3 hta (gWS mw57 mw58 mw10 mw56) rfl rfl rfl (by decide +kernel) ⟨Nat.le_of_ble_eq_true rfl, Nat.le_of_ble_eq_true rfl⟩) ⟨fun a U g mk q => ⟨q.1, trivial⟩, fun U hU hW => ⟨rfl, trivial⟩⟩ rfl rfl hl.1 rfl (lv_room (Nat.le_of_ble_eq_true rfl)) dX10_addMachine_14 ⟨Nat.le_of_ble_eq_true rfl, Nat.le_of_ble_eq_true rfl⟩) (fun r4 h5 => ?_)
    obtain rfl : r4 = 1 := h5.trans (by rw [g92]; rfl)
    refine lv_if_eq (tgt := 42) hx hb dX10_addMachine_17 (by decide) (fun c6 => ?_) (fun c6 => ?_)
    · exact absurd c6 (by decide)
    · skip
      refine lv_iload_n hx hb dX10_addMachine_20 rfl (lv_at hl 3 rfl) ?_
      refine lv_iconst (v := 5) hx hb dX10_addMachine_21 (by decide) ?_
      refine lv_sipush (v := 500) hx hb dX10_addMachine_22 (by decide) ?_
      refine vp_callSi (W.runS (As := [.int x3, .int 5, .int 500]) (rest := []) ⟨hx, hb, hml, hown, hta⟩ (c_X10_isFrom l x3 5 500) (va_cwS 3 hta (gWS mw57 mw58 mw10 mw56) rfl rfl rfl (by decide +kernel) ⟨Nat.le_of_ble_eq_true rfl, Nat.le_of_ble_eq_true rfl⟩) ⟨fun a U g mk q => ⟨q.1, trivial⟩, fun U hU hW => ⟨rfl, trivial⟩⟩ rfl rfl hl.1 rfl (lv_room (Nat.le_of_ble_eq_true rfl)) dX10_addMachine_25 ⟨Nat.le_of_ble_eq_true rfl, Nat.le_of_ble_eq_true rfl⟩) (fun r7 h8 => ?_)
      obtain rfl : r7 = 1 := h8.trans (by rw [g93]; rfl)
      refine lv_if_eq (tgt := 42) hx hb dX10_addMachine_28 (by decide) (fun c9 => ?_) (fun c9 => ?_)
      · exact absurd c9 (by decide)
      · skip
        refine lv_iload hx hb dX10_addMachine_31 (lv_at hl 4 rfl) ?_
        refine lv_iconst (v := 1) hx hb dX10_addMachine_33 (by decide) ?_
        refine lv_bipush (v := 99) hx hb dX10_addMachine_34 (by decide) ?_
        refine vp_callSi (W.runS (As := [.int x4, .int 1, .int 99]) (rest := []) ⟨hx, hb, hml, hown, hta⟩ (c_X10_isFrom l x4 1 99) (va_cwS 3 hta (gWS mw57 mw58 mw10 mw56) rfl rfl rfl (by decide +kernel) ⟨Nat.le_of_ble_eq_true rfl, Nat.le_of_ble_eq_true rfl⟩) ⟨fun a U g mk q => ⟨q.1, trivial⟩, fun U hU hW => ⟨rfl, trivial⟩⟩ rfl rfl hl.1 rfl (lv_room (Nat.le_of_ble_eq_true rfl)) dX10_addMachine_36 ⟨Nat.le_of_ble_eq_true rfl, Nat.le_of_ble_eq_true rfl⟩) (fun r10 h11 => ?_)
        obtain rfl : r10 = 1 := h11.trans (by rw [g94]; rfl)
        refine lv_if_ne (tgt := 52) hx hb dX10_addMachine_39 (by decide) (fun c12 => ?_) (fun c12 => ?_)
        · skip
          refine lv_aload_n hx hb dX10_addMachine_52 rfl (lv_at hl 0 rfl) ?_
          refine va_get (D := D) (ci := 15) (v := .int 0) (C := RX10) (T := TX10) (N := 14) hx hb hta iwX10 hown hK hP 0 rfl rfl 6 (by decide) (hta _ mw54) (fun _ h9 => h9) rfl dX10_addMachine_53 ?_
          refine lv_aload_n hx hb dX10_addMachine_56 rfl (lv_at hl 0 rfl) ?_
          refine va_get (D := D) (ci := 15) (v := .ref a1) (C := RX10) (T := TX10) (N := 14) hx hb hta iwX10 hown hK hP 0 rfl rfl 0 (by decide) (hta _ mw2) (fun _ h9 => h9) rfl dX10_addMachine_57 ?_
          refine va_alen hx hb hK hP 1 0 rfl rfl (v := 5) rfl dX10_addMachine_60 ?_
          refine lv_icmp_lt (tgt := 74) hx hb dX10_addMachine_61 (by decide) (fun c13 => ?_) (fun c13 => ?_)
          · skip
            refine lv_aload_n hx hb dX10_addMachine_74 rfl (lv_at hl 0 rfl) ?_
            refine va_get (D := D) (ci := 15) (v := .ref a1) (C := RX10) (T := TX10) (N := 14) hx hb hta iwX10 hown hK hP 0 rfl rfl 0 (by decide) (hta _ mw2) (fun _ h9 => h9) rfl dX10_addMachine_75 ?_
            refine lv_aload_n hx hb dX10_addMachine_78 rfl (lv_at hl 0 rfl) ?_
            refine va_get (D := D) (ci := 15) (v := .int 0) (C := RX10) (T := TX10) (N := 14) hx hb hta iwX10 hown hK hP 0 rfl rfl 6 (by decide) (hta _ mw54) (fun _ h9 => h9) rfl dX10_addMachine_79 ?_
            refine va_new (ci := 9) (fs := [.int 0, .int 0, .int 0, .int 0, .int 0, .int 0, .int 0, .int 0, .int 0, .int 0, .null]) (C := RX4) (T := TX4) (N := 11) hx hb hta iwX4 tyX4 tyX4_ok hown (hta _ mw95) (hta _ mw96) (hta _ mw97) hK hP hD hS hA rfl (fun j hj => by rcases (show j = 0 ∨ j = 1 ∨ j = 2 ∨ j = 3 ∨ j = 4 ∨ j = 5 ∨ j = 6 ∨ j = 7 ∨ j = 8 ∨ j = 9 ∨ j = 10 by omega) with rfl | rfl | rfl | rfl | rfl | rfl | rfl | rfl | rfl | rfl | rfl <;> rfl) (Nat.le_of_ble_eq_true rfl) (Nat.le_of_ble_eq_true rfl) dX10_addMachine_82 (fun q14 H hP hD hS => ?_)
            have hP : va_P D vwCl [(h0, .inr (15, [.ref a1, .ref a2, .ref a3, .ref a4, .ref a5, .ref h6, .int 0, .int 0, .int 0, .int 0, .int 0, .int 0, .long 0, .long 0])), (a1, .inl (t1, 5, .inr (.inr (.inr (.inr (fun _ => none)))))), (a2, .inl (t2, 12, .inr (.inr (.inr (.inr (fun _ => none)))))), (a3, .inl (t3, 4, .inr (.inr (.inr (.inr (va_up (va_up (va_up (va_up (fun _ => none) 0 (some s0)) 1 (some s1)) 2 (some s2)) 3 (some s3))))))), (a4, .inl (t4, 90, .inr (.inr (.inr (.inr (fun _ => none)))))), (a5, .inl (t5, 30, .inr (.inr (.inr (.inr (fun _ => none)))))), (h6, .inr (10, [.long 0, .long 0])), (s0, .inr (14, [.int 110, .int 0, .int 0])), (s1, .inr (14, [.int 110, .int 0, .int 0])), (s2, .inr (14, [.int 110, .int 0, .int 0])), (s3, .inr (14, [.int 110, .int 0, .int 0])), (q14, .inr (9, [.int 0, .int 0, .int 0, .int 0, .int 0, .int 0, .int 0, .int 0, .int 0, .int 0, .null]))] H := hP
            have hD : va_D A [(h0, .inr (15, [.ref a1, .ref a2, .ref a3, .ref a4, .ref a5, .ref h6, .int 0, .int 0, .int 0, .int 0, .int 0, .int 0, .long 0, .long 0])), (a1, .inl (t1, 5, .inr (.inr (.inr (.inr (fun _ => none)))))), (a2, .inl (t2, 12, .inr (.inr (.inr (.inr (fun _ => none)))))), (a3, .inl (t3, 4, .inr (.inr (.inr (.inr (va_up (va_up (va_up (va_up (fun _ => none) 0 (some s0)) 1 (some s1)) 2 (some s2)) 3 (some s3))))))), (a4, .inl (t4, 90, .inr (.inr (.inr (.inr (fun _ => none)))))), (a5, .inl (t5, 30, .inr (.inr (.inr (.inr (fun _ => none)))))), (h6, .inr (10, [.long 0, .long 0])), (s0, .inr (14, [.int 110, .int 0, .int 0])), (s1, .inr (14, [.int 110, .int 0, .int 0])), (s2, .inr (14, [.int 110, .int 0, .int 0])), (s3, .inr (14, [.int 110, .int 0, .int 0])), (q14, .inr (9, [.int 0, .int 0, .int 0, .int 0, .int 0, .int 0, .int 0, .int 0, .int 0, .int 0, .null]))] := hD
            refine lv_dup hx hb dX10_addMachine_85 rfl ?_
            refine lv_iload_n hx hb dX10_addMachine_86 rfl (lv_at hl 1 rfl) ?_
            refine lv_iload_n hx hb dX10_addMachine_87 rfl (lv_at hl 2 rfl) ?_
            refine lv_iload_n hx hb dX10_addMachine_88 rfl (lv_at hl 3 rfl) ?_
            refine lv_iload hx hb dX10_addMachine_89 (lv_at hl 4 rfl) ?_
            have hPc := hP.sub (ws' := [(q14, .inr (9, [.int 0, .int 0, .int 0, .int 0, .int 0, .int 0, .int 0, .int 0, .int 0, .int 0, .null]))]) [11] rfl
            have hKc := hK.sub (tys' := []) [] rfl
            have hDc := hD.sub (ws' := [(q14, .inr (9, [.int 0, .int 0, .int 0, .int 0, .int 0, .int 0, .int 0, .int 0, .int 0, .int 0, .null]))]) [11] (by decide) rfl
            have hFc := va_free (wc := [(q14, .inr (9, [.int 0, .int 0, .int 0, .int 0, .int 0, .int 0, .int 0, .int 0, .int 0, .int 0, .null]))]) hD hS hA [11] rfl
            refine gJ_v (isC := [11]) (isR := [0, 1, 2, 3, 4, 5, 6, 7, 8, 9, 10]) (wr := (wX h0 a1 a2 a3 a4 a5 h6 s0 s1 s2 s3 t1 t2 t3 t4 t5)) (va_runI (As := [.int x1, .int x2, .int x3, .int x4]) (rest := [.ref q14, .int 0, .ref a1]) ⟨hx, hb, hml, hown, hta⟩ (c_X4_init l ) (cwI 4 hta (gWI mw98) rfl rfl rfl (hta _ mw97) (hta _ mw99) (hta _ mw100) rfl (by decide +kernel) ⟨Nat.le_of_ble_eq_true rfl, Nat.le_of_ble_eq_true rfl⟩) ⟨gS_blind, fun U hU hW => ⟨rfl, by rw [hU], by rw [hU]; exact hPc, va_K.moved hW.alike hKc, hDc.weaken (fun _ _ _ _ => trivial), hG.call hS hU hW hFc⟩⟩ rfl rfl hl.1 rfl (lv_room (Nat.le_of_ble_eq_true rfl)) dX10_addMachine_91 ⟨Nat.le_of_ble_eq_true rfl, Nat.le_of_ble_eq_true rfl⟩) hP hD hS hK hFc rfl rfl (by decide) (by decide) (fun u16 H locs h17 hP hD hS hK => ?_)
            have hK : va_K D vwCl (tX t1 t2 t3 t4 t5) s := hK
            have hP : va_P D vwCl [(h0, .inr (15, [.ref a1, .ref a2, .ref a3, .ref a4, .ref a5, .ref h6, .int 0, .int 0, .int 0, .int 0, .int 0, .int 0, .long 0, .long 0])), (a1, .inl (t1, 5, .inr (.inr (.inr (.inr (fun _ => none)))))), (a2, .inl (t2, 12, .inr (.inr (.inr (.inr (fun _ => none)))))), (a3, .inl (t3, 4, .inr (.inr (.inr (.inr (va_up (va_up (va_up (va_up (fun _ => none) 0 (some s0)) 1 (some s1)) 2 (some s2)) 3 (some s3))))))), (a4, .inl (t4, 90, .inr (.inr (.inr (.inr (fun _ => none)))))), (a5, .inl (t5, 30, .inr (.inr (.inr (.inr (fun _ => none)))))), (h6, .inr (10, [.long 0, .long 0])), (s0, .inr (14, [.int 110, .int 0, .int 0])), (s1, .inr (14, [.int 110, .int 0, .int 0])), (s2, .inr (14, [.int 110, .int 0, .int 0])), (s3, .inr (14, [.int 110, .int 0, .int 0])), (q14, .inr (9, [.int x1, .int x2, .int x3, .int x4, .int 45, .int (-1), .int 0, .int 0, .int (-1), .int 0, .null]))] H := hP
            have hD : va_D A [(h0, .inr (15, [.ref a1, .ref a2, .ref a3, .ref a4, .ref a5, .ref h6, .int 0, .int 0, .int 0, .int 0, .int 0, .int 0, .long 0, .long 0])), (a1, .inl (t1, 5, .inr (.inr (.inr (.inr (fun _ => none)))))), (a2, .inl (t2, 12, .inr (.inr (.inr (.inr (fun _ => none)))))), (a3, .inl (t3, 4, .inr (.inr (.inr (.inr (va_up (va_up (va_up (va_up (fun _ => none) 0 (some s0)) 1 (some s1)) 2 (some s2)) 3 (some s3))))))), (a4, .inl (t4, 90, .inr (.inr (.inr (.inr (fun _ => none)))))), (a5, .inl (t5, 30, .inr (.inr (.inr (.inr (fun _ => none)))))), (h6, .inr (10, [.long 0, .long 0])), (s0, .inr (14, [.int 110, .int 0, .int 0])), (s1, .inr (14, [.int 110, .int 0, .int 0])), (s2, .inr (14, [.int 110, .int 0, .int 0])), (s3, .inr (14, [.int 110, .int 0, .int 0])), (q14, .inr (9, [.int x1, .int x2, .int x3, .int x4, .int 45, .int (-1), .int 0, .int 0, .int (-1), .int 0, .null]))] := hD
            refine va_astq (r := (RX4, TX4, 11)) hx hb hK hP hD hS 1 0 11 9 rfl rfl rfl rfl (i := 0) (by unfold vp_in; decide) dX10_addMachine_94 (fun H locs hP hD hS => ?_)
            have hP : va_P D vwCl [(h0, .inr (15, [.ref a1, .ref a2, .ref a3, .ref a4, .ref a5, .ref h6, .int 0, .int 0, .int 0, .int 0, .int 0, .int 0, .long 0, .long 0])), (a1, .inl (t1, 5, .inr (.inr (.inr (.inr (va_up (fun _ => none) 0 (some q14))))))), (a2, .inl (t2, 12, .inr (.inr (.inr (.inr (fun _ => none)))))), (a3, .inl (t3, 4, .inr (.inr (.inr (.inr (va_up (va_up (va_up (va_up (fun _ => none) 0 (some s0)) 1 (some s1)) 2 (some s2)) 3 (some s3))))))), (a4, .inl (t4, 90, .inr (.inr (.inr (.inr (fun _ => none)))))), (a5, .inl (t5, 30, .inr (.inr (.inr (.inr (fun _ => none)))))), (h6, .inr (10, [.long 0, .long 0])), (s0, .inr (14, [.int 110, .int 0, .int 0])), (s1, .inr (14, [.int 110, .int 0, .int 0])), (s2, .inr (14, [.int 110, .int 0, .int 0])), (s3, .inr (14, [.int 110, .int 0, .int 0])), (q14, .inr (9, [.int x1, .int x2, .int x3, .int x4, .int 45, .int (-1), .int 0, .int 0, .int (-1), .int 0, .null]))] H := hP
            have hD : va_D A [(h0, .inr (15, [.ref a1, .ref a2, .ref a3, .ref a4, .ref a5, .ref h6, .int 0, .int 0, .int 0, .int 0, .int 0, .int 0, .long 0, .long 0])), (a1, .inl (t1, 5, .inr (.inr (.inr (.inr (va_up (fun _ => none) 0 (some q14))))))), (a2, .inl (t2, 12, .inr (.inr (.inr (.inr (fun _ => none)))))), (a3, .inl (t3, 4, .inr (.inr (.inr (.inr (va_up (va_up (va_up (va_up (fun _ => none) 0 (some s0)) 1 (some s1)) 2 (some s2)) 3 (some s3))))))), (a4, .inl (t4, 90, .inr (.inr (.inr (.inr (fun _ => none)))))), (a5, .inl (t5, 30, .inr (.inr (.inr (.inr (fun _ => none)))))), (h6, .inr (10, [.long 0, .long 0])), (s0, .inr (14, [.int 110, .int 0, .int 0])), (s1, .inr (14, [.int 110, .int 0, .int 0])), (s2, .inr (14, [.int 110, .int 0, .int 0])), (s3, .inr (14, [.int 110, .int 0, .int 0])), (q14, .inr (9, [.int x1, .int x2, .int x3, .int x4, .int 45, .int (-1), .int 0, .int 0, .int (-1), .int 0, .null]))] := hD
            refine lv_aload_n hx hb dX10_addMachine_95 rfl (lv_at hl 0 rfl) ?_
            refine lv_dup hx hb dX10_addMachine_96 rfl ?_
            refine va_get (D := D) (ci := 15) (v := .int 0) (C := RX10) (T := TX10) (N := 14) hx hb hta iwX10 hown hK hP 0 rfl rfl 6 (by decide) (hta _ mw54) (fun _ h9 => h9) rfl dX10_addMachine_97 ?_
            refine lv_iconst (v := 1) hx hb dX10_addMachine_100 (by decide) ?_
            refine lv_iadd hx hb dX10_addMachine_101 ?_
            refine lv_topi (fun x18 ex18 => ?_)
            obtain rfl : x18 = 1 := ex18.trans (by decide)
            refine va_put (D := D) (ci := 15) (v := .int 1) (ty := .int) (C := RX10) (T := TX10) (N := 14) hx hb hta iwX10 tyX10 tyX10_ok nmX10 hown hK hP hD hS 0 rfl rfl 6 (by decide) (hta _ mw54) (fun _ h9 => h9) rfl (by decide +kernel) rfl rfl (Nat.le_of_ble_eq_true rfl) dX10_addMachine_102 (fun H locs hP hD hS => ?_)
            have hP : va_P D vwCl [(h0, .inr (15, [.ref a1, .ref a2, .ref a3, .ref a4, .ref a5, .ref h6, .int 1, .int 0, .int 0, .int 0, .int 0, .int 0, .long 0, .long 0])), (a1, .inl (t1, 5, .inr (.inr (.inr (.inr (va_up (fun _ => none) 0 (some q14))))))), (a2, .inl (t2, 12, .inr (.inr (.inr (.inr (fun _ => none)))))), (a3, .inl (t3, 4, .inr (.inr (.inr (.inr (va_up (va_up (va_up (va_up (fun _ => none) 0 (some s0)) 1 (some s1)) 2 (some s2)) 3 (some s3))))))), (a4, .inl (t4, 90, .inr (.inr (.inr (.inr (fun _ => none)))))), (a5, .inl (t5, 30, .inr (.inr (.inr (.inr (fun _ => none)))))), (h6, .inr (10, [.long 0, .long 0])), (s0, .inr (14, [.int 110, .int 0, .int 0])), (s1, .inr (14, [.int 110, .int 0, .int 0])), (s2, .inr (14, [.int 110, .int 0, .int 0])), (s3, .inr (14, [.int 110, .int 0, .int 0])), (q14, .inr (9, [.int x1, .int x2, .int x3, .int x4, .int 45, .int (-1), .int 0, .int 0, .int (-1), .int 0, .null]))] H := hP
            have hD : va_D A [(h0, .inr (15, [.ref a1, .ref a2, .ref a3, .ref a4, .ref a5, .ref h6, .int 1, .int 0, .int 0, .int 0, .int 0, .int 0, .long 0, .long 0])), (a1, .inl (t1, 5, .inr (.inr (.inr (.inr (va_up (fun _ => none) 0 (some q14))))))), (a2, .inl (t2, 12, .inr (.inr (.inr (.inr (fun _ => none)))))), (a3, .inl (t3, 4, .inr (.inr (.inr (.inr (va_up (va_up (va_up (va_up (fun _ => none) 0 (some s0)) 1 (some s1)) 2 (some s2)) 3 (some s3))))))), (a4, .inl (t4, 90, .inr (.inr (.inr (.inr (fun _ => none)))))), (a5, .inl (t5, 30, .inr (.inr (.inr (.inr (fun _ => none)))))), (h6, .inr (10, [.long 0, .long 0])), (s0, .inr (14, [.int 110, .int 0, .int 0])), (s1, .inr (14, [.int 110, .int 0, .int 0])), (s2, .inr (14, [.int 110, .int 0, .int 0])), (s3, .inr (14, [.int 110, .int 0, .int 0])), (q14, .inr (9, [.int x1, .int x2, .int x3, .int x4, .int 45, .int (-1), .int 0, .int 0, .int (-1), .int 0, .null]))] := hD
            refine lv_aload_n hx hb dX10_addMachine_105 rfl (lv_at hl 0 rfl) ?_
            refine va_get (D := D) (ci := 15) (v := .int 1) (C := RX10) (T := TX10) (N := 14) hx hb hta iwX10 hown hK hP 0 rfl rfl 6 (by decide) (hta _ mw54) (fun _ h9 => h9) rfl dX10_addMachine_106 ?_
            refine lv_iconst (v := 1) hx hb dX10_addMachine_109 (by decide) ?_
            refine lv_isub hx hb dX10_addMachine_110 ?_
            refine lv_topi (fun x19 ex19 => ?_)
            obtain rfl : x19 = 0 := ex19.trans (by decide)
            have hP9 := hP.sub (ws' := []) [] rfl
            have hD9 := hD.sub (ws' := []) [] (by decide) rfl
            have hK9 := hK.sub (tys' := []) [] rfl
            refine W.widen (k := 1) (n := 11) (Nat.le_of_ble_eq_true rfl) (Nat.le_of_ble_eq_true rfl) ?_
            exact W.iret (v := 0) hx hb hr (fun t ht hWm => ⟨⟨_, (), rfl, rfl, ⟨by rw [ht]; exact hP9, va_K.moved hWm.alike hK9, hD9⟩⟩, hS.F ht⟩) hS.2.2 dX10_addMachine_111
          · exact absurd (by decide) c13
        · exact absurd c12 (by decide)

set_option maxHeartbeats 4000000 in
set_option maxRecDepth 100000 in
theorem c_X10_addMachine_f (l : Launch) (hl0 : l.stackTraces = false) {D : va_G} {tE sz : Nat} {h0 a1 a2 a3 a4 a5 h6 s0 s1 s2 s3 : Nat} {t1 t2 t3 t4 t5 : ClassId} {x1 x2 x3 x4 : Int32} (hf : fitM x1 x2 x3 x4 = false) : vx_Met l ⟨"Foundrymark", "addMachine", "(IIII)I"⟩ (wsC ⟨"Foundrymark", "addMachine", "(IIII)I"⟩ cX10_addMachine 5 (some .int)) ({ frames := 6, cells := 1, slots := 6, locals := 98 }) (va_Pc [.ref h0, .int x1, .int x2, .int x3, .int x4] (gS tE D (wX h0 a1 a2 a3 a4 a5 h6 s0 s1 s2 s3 t1 t2 t3 t4 t5) (tX t1 t2 t3 t4 t5) sz)) (fun _ _ _ _ => False) (vx_X (fun _ : Unit => True) (fun E9 _ _ => E9 = "java/lang/IllegalArgumentException") (va_A (wX h0 a1 a2 a3 a4 a5 h6 s0 s1 s2 s3 t1 t2 t3 t4 t5) sz)) 1 6 (va_A (wX h0 a1 a2 a3 a4 a5 h6 s0 s1 s2 s3 t1 t2 t3 t4 t5) sz) := by
  refine vx_ofW (cc := cX10_addMachine) (maxL := 5) (ret := (some .int)) (by decide) rfl ?_
  intro p e s m args below meth c s₁ B hml hout hv
  obtain ⟨rfl, hsz, hP, hK, hD0, hG⟩ := hv
  have hx := B.exec
  have hb := B.bytes
  have hr := B.returns
  have hlocks := B.notSynchronized
  have hts := atoms_spec (ws := wsC ⟨"Foundrymark", "addMachine", "(IIII)I"⟩ cX10_addMachine 5 (some .int)) B.pre
  have hta : ∀ w ∈ WA, w.before _ s = true := fun w h => hts w (List.mem_cons_of_mem _ h)
  have hown : s.vm.findClass "Foundrymark" = some m.cls := findClass_of_methodNamed B.named
  subst hsz
  have hD : va_D (va_A (wX h0 a1 a2 a3 a4 a5 h6 s0 s1 s2 s3 t1 t2 t3 t4 t5) s.heap.size) (wX h0 a1 a2 a3 a4 a5 h6 s0 s1 s2 s3 t1 t2 t3 t4 t5) := hD0.self (sz := s.heap.size)
  generalize hAe : va_A (wX h0 a1 a2 a3 a4 a5 h6 s0 s1 s2 s3 t1 t2 t3 t4 t5) s.heap.size = A at hD hG ⊢
  have hA : ∀ q : Nat, s.heap.size ≤ q → A q := fun q h => by rw [← hAe]; exact Or.inr h
  have hS : va_S A s.heap s.heap [] := va_S.rf
  have hP : va_P D vwCl (wX h0 a1 a2 a3 a4 a5 h6 s0 s1 s2 s3 t1 t2 t3 t4 t5) s.heap := hP
  have hl := lv_entry ([.ref h0, .int x1, .int x2, .int x3, .int x4]) (n := 5) (Nat.le_of_ble_eq_true rfl)
  rw [lg_entry_eq]
  generalize (lg_sl ([.ref h0, .int x1, .int x2, .int x3, .int x4]) ++ List.replicate (5 - (lg_sl ([.ref h0, .int x1, .int x2, .int x3, .int x4])).length) Slot.unset).toArray = ls at hl ⊢
  have hl : lv_has ls 5 [(0, .ref h0), (1, .int x1), (2, .int x2), (3, .int x3), (4, .int x4)] := hl
  refine lv_iload_n hx hb dX10_addMachine_0 rfl (lv_at hl 1 rfl) ?_
  refine lv_iconst (v := 0) hx hb dX10_addMachine_1 (by decide) ?_
  refine lv_bipush (v := 20) hx hb dX10_addMachine_2 (by decide) ?_
  refine vp_callSi (W.runS (As := [.int x1, .int 0, .int 20]) (rest := []) ⟨hx, hb, hml, hown, hta⟩ (c_X10_isFrom l x1 0 20) (va_cwS 3 hta (gWS mw57 mw58 mw10 mw56) rfl rfl rfl (by decide +kernel) ⟨Nat.le_of_ble_eq_true rfl, Nat.le_of_ble_eq_true rfl⟩) ⟨fun a U g mk q => ⟨q.1, trivial⟩, fun U hU hW => ⟨rfl, trivial⟩⟩ rfl rfl hl.1 rfl (lv_room (Nat.le_of_ble_eq_true rfl)) dX10_addMachine_4 ⟨Nat.le_of_ble_eq_true rfl, Nat.le_of_ble_eq_true rfl⟩) (fun r1 h2 => ?_)
  rcases g3 : inR x1 0 20 with _ | _
  · skip
    obtain rfl : r1 = 0 := h2.trans (by rw [g3]; rfl)
    refine lv_if_eq (tgt := 42) hx hb dX10_addMachine_7 (by decide) (fun c4 => ?_) (fun c4 => ?_)
    · skip
      obtain ⟨sa, hsa⟩ := hG.S (53, "a number of the machine is out of range") (by decide)
      exact vx_throwS (names := xnms) (mc := 1) (ms := 6) (text := "a number of the machine is out of range") (own := "Foundrymark") hx hb hl0 hown (by decide +kernel) (by decide +kernel) (hta _ mw59) (hta _ mw60) hsa (vx_hat (B := exB) (fun w hw => hta w (wx_55 w hw)) (by decide +kernel) (fun w hw => hG.B w hw)) (by decide +kernel) hG.U hG.N hS (hl.1.trans hml.symm) dX10_addMachine_42 dX10_addMachine_45 dX10_addMachine_46 dX10_addMachine_48 dX10_addMachine_51 (fun x hx9 => (hout x hx9).elim) (Nat.le_of_ble_eq_true rfl) (Nat.le_of_ble_eq_true rfl) (Nat.le_of_ble_eq_true rfl) (Nat.le_of_ble_eq_true rfl) hlocks (fun t hv hz hk => ⟨(), trivial, rfl, gF9 hS hz hk⟩) hS.2.2 (Nat.le_of_ble_eq_true rfl) (Nat.le_of_ble_eq_true rfl)
    · exact absurd (by decide) c4
  · skip
    obtain rfl : r1 = 1 := h2.trans (by rw [g3]; rfl)
    refine lv_if_eq (tgt := 42) hx hb dX10_addMachine_7 (by decide) (fun c5 => ?_) (fun c5 => ?_)
    · exact absurd c5 (by decide)
    · skip
      refine lv_iload_n hx hb dX10_addMachine_10 rfl (lv_at hl 2 rfl) ?_
      refine lv_iconst (v := 0) hx hb dX10_addMachine_11 (by decide) ?_
      refine lv_bipush (v := 50) hx hb dX10_addMachine_12 (by decide) ?_
      refine vp_callSi (W.runS (As := [.int x2, .int 0, .int 50]) (rest := []) ⟨hx, hb, hml, hown, hta⟩ (c_X10_isFrom l x2 0 50) (va_cwS 3 hta (gWS mw57 mw58 mw10 mw56) rfl rfl rfl (by decide +kernel) ⟨Nat.le_of_ble_eq_true rfl, Nat.le_of_ble_eq_true rfl⟩) ⟨fun a U g mk q => ⟨q.1, trivial⟩, fun U hU hW => ⟨rfl, trivial⟩⟩ rfl rfl hl.1 rfl (lv_room (Nat.le_of_ble_eq_true rfl)) dX10_addMachine_14 ⟨Nat.le_of_ble_eq_true rfl, Nat.le_of_ble_eq_true rfl⟩) (fun r6 h7 => ?_)
      rcases g8 : inR x2 0 50 with _ | _
      · skip
        obtain rfl : r6 = 0 := h7.trans (by rw [g8]; rfl)
        refine lv_if_eq (tgt := 42) hx hb dX10_addMachine_17 (by decide) (fun c9 => ?_) (fun c9 => ?_)
        · skip
          obtain ⟨sa, hsa⟩ := hG.S (53, "a number of the machine is out of range") (by decide)
          exact vx_throwS (names := xnms) (mc := 1) (ms := 6) (text := "a number of the machine is out of range") (own := "Foundrymark") hx hb hl0 hown (by decide +kernel) (by decide +kernel) (hta _ mw59) (hta _ mw60) hsa (vx_hat (B := exB) (fun w hw => hta w (wx_55 w hw)) (by decide +kernel) (fun w hw => hG.B w hw)) (by decide +kernel) hG.U hG.N hS (hl.1.trans hml.symm) dX10_addMachine_42 dX10_addMachine_45 dX10_addMachine_46 dX10_addMachine_48 dX10_addMachine_51 (fun x hx9 => (hout x hx9).elim) (Nat.le_of_ble_eq_true rfl) (Nat.le_of_ble_eq_true rfl) (Nat.le_of_ble_eq_true rfl) (Nat.le_of_ble_eq_true rfl) hlocks (fun t hv hz hk => ⟨(), trivial, rfl, gF9 hS hz hk⟩) hS.2.2 (Nat.le_of_ble_eq_true rfl) (Nat.le_of_ble_eq_true rfl)
        · exact absurd (by decide) c9
      · skip
        obtain rfl : r6 = 1 := h7.trans (by rw [g8]; rfl)
        refine lv_if_eq (tgt := 42) hx hb dX10_addMachine_17 (by decide) (fun c10 => ?_) (fun c10 => ?_)
        · exact absurd c10 (by decide)
        · skip
          refine lv_iload_n hx hb dX10_addMachine_20 rfl (lv_at hl 3 rfl) ?_
          refine lv_iconst (v := 5) hx hb dX10_addMachine_21 (by decide) ?_
          refine lv_sipush (v := 500) hx hb dX10_addMachine_22 (by decide) ?_
          refine vp_callSi (W.runS (As := [.int x3, .int 5, .int 500]) (rest := []) ⟨hx, hb, hml, hown, hta⟩ (c_X10_isFrom l x3 5 500) (va_cwS 3 hta (gWS mw57 mw58 mw10 mw56) rfl rfl rfl (by decide +kernel) ⟨Nat.le_of_ble_eq_true rfl, Nat.le_of_ble_eq_true rfl⟩) ⟨fun a U g mk q => ⟨q.1, trivial⟩, fun U hU hW => ⟨rfl, trivial⟩⟩ rfl rfl hl.1 rfl (lv_room (Nat.le_of_ble_eq_true rfl)) dX10_addMachine_25 ⟨Nat.le_of_ble_eq_true rfl, Nat.le_of_ble_eq_true rfl⟩) (fun r11 h12 => ?_)
          rcases g13 : inR x3 5 500 with _ | _
          · skip
            obtain rfl : r11 = 0 := h12.trans (by rw [g13]; rfl)
            refine lv_if_eq (tgt := 42) hx hb dX10_addMachine_28 (by decide) (fun c14 => ?_) (fun c14 => ?_)
            · skip
              obtain ⟨sa, hsa⟩ := hG.S (53, "a number of the machine is out of range") (by decide)
              exact vx_throwS (names := xnms) (mc := 1) (ms := 6) (text := "a number of the machine is out of range") (own := "Foundrymark") hx hb hl0 hown (by decide +kernel) (by decide +kernel) (hta _ mw59) (hta _ mw60) hsa (vx_hat (B := exB) (fun w hw => hta w (wx_55 w hw)) (by decide +kernel) (fun w hw => hG.B w hw)) (by decide +kernel) hG.U hG.N hS (hl.1.trans hml.symm) dX10_addMachine_42 dX10_addMachine_45 dX10_addMachine_46 dX10_addMachine_48 dX10_addMachine_51 (fun x hx9 => (hout x hx9).elim) (Nat.le_of_ble_eq_true rfl) (Nat.le_of_ble_eq_true rfl) (Nat.le_of_ble_eq_true rfl) (Nat.le_of_ble_eq_true rfl) hlocks (fun t hv hz hk => ⟨(), trivial, rfl, gF9 hS hz hk⟩) hS.2.2 (Nat.le_of_ble_eq_true rfl) (Nat.le_of_ble_eq_true rfl)
            · exact absurd (by decide) c14
          · skip
            obtain rfl : r11 = 1 := h12.trans (by rw [g13]; rfl)
            refine lv_if_eq (tgt := 42) hx hb dX10_addMachine_28 (by decide) (fun c15 => ?_) (fun c15 => ?_)
            · exact absurd c15 (by decide)
            · skip
              refine lv_iload hx hb dX10_addMachine_31 (lv_at hl 4 rfl) ?_
              refine lv_iconst (v := 1) hx hb dX10_addMachine_33 (by decide) ?_
              refine lv_bipush (v := 99) hx hb dX10_addMachine_34 (by decide) ?_
              refine vp_callSi (W.runS (As := [.int x4, .int 1, .int 99]) (rest := []) ⟨hx, hb, hml, hown, hta⟩ (c_X10_isFrom l x4 1 99) (va_cwS 3 hta (gWS mw57 mw58 mw10 mw56) rfl rfl rfl (by decide +kernel) ⟨Nat.le_of_ble_eq_true rfl, Nat.le_of_ble_eq_true rfl⟩) ⟨fun a U g mk q => ⟨q.1, trivial⟩, fun U hU hW => ⟨rfl, trivial⟩⟩ rfl rfl hl.1 rfl (lv_room (Nat.le_of_ble_eq_true rfl)) dX10_addMachine_36 ⟨Nat.le_of_ble_eq_true rfl, Nat.le_of_ble_eq_true rfl⟩) (fun r16 h17 => ?_)
              rcases g18 : inR x4 1 99 with _ | _
              · skip
                obtain rfl : r16 = 0 := h17.trans (by rw [g18]; rfl)
                refine lv_if_ne (tgt := 52) hx hb dX10_addMachine_39 (by decide) (fun c19 => ?_) (fun c19 => ?_)
                · exact absurd c19 (by decide)
                · skip
                  obtain ⟨sa, hsa⟩ := hG.S (53, "a number of the machine is out of range") (by decide)
                  exact vx_throwS (names := xnms) (mc := 1) (ms := 6) (text := "a number of the machine is out of range") (own := "Foundrymark") hx hb hl0 hown (by decide +kernel) (by decide +kernel) (hta _ mw59) (hta _ mw60) hsa (vx_hat (B := exB) (fun w hw => hta w (wx_55 w hw)) (by decide +kernel) (fun w hw => hG.B w hw)) (by decide +kernel) hG.U hG.N hS (hl.1.trans hml.symm) dX10_addMachine_42 dX10_addMachine_45 dX10_addMachine_46 dX10_addMachine_48 dX10_addMachine_51 (fun x hx9 => (hout x hx9).elim) (Nat.le_of_ble_eq_true rfl) (Nat.le_of_ble_eq_true rfl) (Nat.le_of_ble_eq_true rfl) (Nat.le_of_ble_eq_true rfl) hlocks (fun t hv hz hk => ⟨(), trivial, rfl, gF9 hS hz hk⟩) hS.2.2 (Nat.le_of_ble_eq_true rfl) (Nat.le_of_ble_eq_true rfl)
              · skip
                obtain rfl : r16 = 1 := h17.trans (by rw [g18]; rfl)
                exact absurd hf (by simp [fitM, g3, g8, g13, g18])

set_option maxHeartbeats 4000000 in
set_option maxRecDepth 100000 in
theorem c_X10_addPart_t0 (l : Launch) {D : va_G} {tE sz : Nat} {h0 a1 a2 a3 a4 a5 h6 s0 s1 s2 s3 : Nat} {t1 t2 t3 t4 t5 : ClassId} {f : Int32} (g91 : inR f 0 3 = true) : Met l ⟨"Foundrymark", "addPart", "(ZI)I"⟩ (wsC ⟨"Foundrymark", "addPart", "(ZI)I"⟩ cX10_addPart 3 (some .int)) ({ frames := 3, cells := 4, slots := 20, locals := 63 }) (va_Pc [.ref h0, .int 0, .int f] (gS tE D (wX h0 a1 a2 a3 a4 a5 h6 s0 s1 s2 s3 t1 t2 t3 t4 t5) (tX t1 t2 t3 t4 t5) sz)) (va_Qi (fun (r : Int32) (_ : Unit) => r = 0) (gO D (fun _ => []) (fun _ => []) (va_A (wX h0 a1 a2 a3 a4 a5 h6 s0 s1 s2 s3 t1 t2 t3 t4 t5) sz)) (va_A (wX h0 a1 a2 a3 a4 a5 h6 s0 s1 s2 s3 t1 t2 t3 t4 t5) sz)) 4 20 (va_A (wX h0 a1 a2 a3 a4 a5 h6 s0 s1 s2 s3 t1 t2 t3 t4 t5) sz) := by
  refine Met.ofW (cc := cX10_addPart) (maxL := 3) (ret := (some .int)) (by decide) rfl ?_
  intro p e s m args below meth c s₁ B hml hv
  obtain ⟨rfl, hsz, hP, hK, hD0, hG⟩ := hv
  have hx := B.exec
  have hb := B.bytes
  have hr := B.returns
  have hlocks := B.notSynchronized
  have hts := atoms_spec (ws := wsC ⟨"Foundrymark", "addPart", "(ZI)I"⟩ cX10_addPart 3 (some .int)) B.pre
  have hta : ∀ w ∈ WA, w.before _ s = true := fun w h => hts w (List.mem_cons_of_mem _ h)
  have hown : s.vm.findClass "Foundrymark" = some m.cls := findClass_of_methodNamed B.named
  subst hsz
  have hD : va_D (va_A (wX h0 a1 a2 a3 a4 a5 h6 s0 s1 s2 s3 t1 t2 t3 t4 t5) s.heap.size) (wX h0 a1 a2 a3 a4 a5 h6 s0 s1 s2 s3 t1 t2 t3 t4 t5) := hD0.self (sz := s.heap.size)
  generalize hAe : va_A (wX h0 a1 a2 a3 a4 a5 h6 s0 s1 s2 s3 t1 t2 t3 t4 t5) s.heap.size = A at hD hG ⊢
  have hA : ∀ q : Nat, s.heap.size ≤ q → A q := fun q h => by rw [← hAe]; exact Or.inr h
  have hS : va_S A s.heap s.heap [] := va_S.rf
  have hP : va_P D vwCl (wX h0 a1 a2 a3 a4 a5 h6 s0 s1 s2 s3 t1 t2 t3 t4 t5) s.heap := hP
  have hl := lv_entry ([.ref h0, .int 0, .int f]) (n := 3) (Nat.le_of_ble_eq_true rfl)
  rw [lg_entry_eq]
  generalize (lg_sl ([.ref h0, .int 0, .int f]) ++ List.replicate (3 - (lg_sl ([.ref h0, .int 0, .int f])).length) Slot.unset).toArray = ls at hl ⊢
  have hl : lv_has ls 3 [(0, .ref h0), (1, .int 0), (2, .int f)] := hl
  refine lv_iload_n hx hb dX10_addPart_0 rfl (lv_at hl 2 rfl) ?_
  refine lv_iconst (v := 0) hx hb dX10_addPart_1 (by decide) ?_
  refine lv_iconst (v := 3) hx hb dX10_addPart_2 (by decide) ?_
  refine vp_callSi (W.runS (As := [.int f, .int 0, .int 3]) (rest := []) ⟨hx, hb, hml, hown, hta⟩ (c_X10_isFrom l f 0 3) (va_cwS 3 hta (gWS mw57 mw58 mw10 mw56) rfl rfl rfl (by decide +kernel) ⟨Nat.le_of_ble_eq_true rfl, Nat.le_of_ble_eq_true rfl⟩) ⟨fun a U g mk q => ⟨q.1, trivial⟩, fun U hU hW => ⟨rfl, trivial⟩⟩ rfl rfl hl.1 rfl (lv_room (Nat.le_of_ble_eq_true rfl)) dX10_addPart_3 ⟨Nat.le_of_ble_eq_true rfl, Nat.le_of_ble_eq_true rfl⟩) (fun r1 h2 => ?_)
  obtain rfl : r1 = 1 := h2.trans (by rw [g91]; rfl)
  refine lv_if_ne (tgt := 19) hx hb dX10_addPart_6 (by decide) (fun c3 => ?_) (fun c3 => ?_)
  · skip
    refine lv_aload_n hx hb dX10_addPart_19 rfl (lv_at hl 0 rfl) ?_
    refine va_get (D := D) (ci := 15) (v := .int 0) (C := RX10) (T := TX10) (N := 14) hx hb hta iwX10 hown hK hP 0 rfl rfl 7 (by decide) (hta _ mw101) (fun _ h9 => h9) rfl dX10_addPart_20 ?_
    refine lv_aload_n hx hb dX10_addPart_23 rfl (lv_at hl 0 rfl) ?_
    refine va_get (D := D) (ci := 15) (v := .ref a2) (C := RX10) (T := TX10) (N := 14) hx hb hta iwX10 hown hK hP 0 rfl rfl 1 (by decide) (hta _ mw3) (fun _ h9 => h9) rfl dX10_addPart_24 ?_
    refine va_alen hx hb hK hP 2 1 rfl rfl (v := 12) rfl dX10_addPart_27 ?_
    refine lv_icmp_lt (tgt := 41) hx hb dX10_addPart_28 (by decide) (fun c4 => ?_) (fun c4 => ?_)
    · skip
      refine lv_aload_n hx hb dX10_addPart_41 rfl (lv_at hl 0 rfl) ?_
      refine va_get (D := D) (ci := 15) (v := .ref a2) (C := RX10) (T := TX10) (N := 14) hx hb hta iwX10 hown hK hP 0 rfl rfl 1 (by decide) (hta _ mw3) (fun _ h9 => h9) rfl dX10_addPart_42 ?_
      refine lv_aload_n hx hb dX10_addPart_45 rfl (lv_at hl 0 rfl) ?_
      refine va_get (D := D) (ci := 15) (v := .int 0) (C := RX10) (T := TX10) (N := 14) hx hb hta iwX10 hown hK hP 0 rfl rfl 7 (by decide) (hta _ mw101) (fun _ h9 => h9) rfl dX10_addPart_46 ?_
      refine va_new (ci := 13) (fs := [.int 0, .int 0, .int 0, .null, .null, .null, .int 0, .int 0]) (C := RX8) (T := TX8) (N := 8) hx hb hta iwX8 tyX8 tyX8_ok hown (hta _ mw102) (hta _ mw103) (hta _ mw104) hK hP hD hS hA rfl (fun j hj => by rcases (show j = 0 ∨ j = 1 ∨ j = 2 ∨ j = 3 ∨ j = 4 ∨ j = 5 ∨ j = 6 ∨ j = 7 by omega) with rfl | rfl | rfl | rfl | rfl | rfl | rfl | rfl <;> rfl) (Nat.le_of_ble_eq_true rfl) (Nat.le_of_ble_eq_true rfl) dX10_addPart_49 (fun q5 H hP hD hS => ?_)
      have hP : va_P D vwCl [(h0, .inr (15, [.ref a1, .ref a2, .ref a3, .ref a4, .ref a5, .ref h6, .int 0, .int 0, .int 0, .int 0, .int 0, .int 0, .long 0, .long 0])), (a1, .inl (t1, 5, .inr (.inr (.inr (.inr (fun _ => none)))))), (a2, .inl (t2, 12, .inr (.inr (.inr (.inr (fun _ => none)))))), (a3, .inl (t3, 4, .inr (.inr (.inr (.inr (va_up (va_up (va_up (va_up (fun _ => none) 0 (some s0)) 1 (some s1)) 2 (some s2)) 3 (some s3))))))), (a4, .inl (t4, 90, .inr (.inr (.inr (.inr (fun _ => none)))))), (a5, .inl (t5, 30, .inr (.inr (.inr (.inr (fun _ => none)))))), (h6, .inr (10, [.long 0, .long 0])), (s0, .inr (14, [.int 110, .int 0, .int 0])), (s1, .inr (14, [.int 110, .int 0, .int 0])), (s2, .inr (14, [.int 110, .int 0, .int 0])), (s3, .inr (14, [.int 110, .int 0, .int 0])), (q5, .inr (13, [.int 0, .int 0, .int 0, .null, .null, .null, .int 0, .int 0]))] H := hP
      have hD : va_D A [(h0, .inr (15, [.ref a1, .ref a2, .ref a3, .ref a4, .ref a5, .ref h6, .int 0, .int 0, .int 0, .int 0, .int 0, .int 0, .long 0, .long 0])), (a1, .inl (t1, 5, .inr (.inr (.inr (.inr (fun _ => none)))))), (a2, .inl (t2, 12, .inr (.inr (.inr (.inr (fun _ => none)))))), (a3, .inl (t3, 4, .inr (.inr (.inr (.inr (va_up (va_up (va_up (va_up (fun _ => none) 0 (some s0)) 1 (some s1)) 2 (some s2)) 3 (some s3))))))), (a4, .inl (t4, 90, .inr (.inr (.inr (.inr (fun _ => none)))))), (a5, .inl (t5, 30, .inr (.inr (.inr (.inr (fun _ => none)))))), (h6, .inr (10, [.long 0, .long 0])), (s0, .inr (14, [.int 110, .int 0, .int 0])), (s1, .inr (14, [.int 110, .int 0, .int 0])), (s2, .inr (14, [.int 110, .int 0, .int 0])), (s3, .inr (14, [.int 110, .int 0, .int 0])), (q5, .inr (13, [.int 0, .int 0, .int 0, .null, .null, .null, .int 0, .int 0]))] := hD
      refine lv_dup hx hb dX10_addPart_52 rfl ?_
      refine lv_aload_n hx hb dX10_addPart_53 rfl (lv_at hl 0 rfl) ?_
      refine va_get (D := D) (ci := 15) (v := .int 0) (C := RX10) (T := TX10) (N := 14) hx hb hta iwX10 hown hK hP 0 rfl rfl 7 (by decide) (hta _ mw101) (fun _ h9 => h9) rfl dX10_addPart_54 ?_
      refine lv_iload_n hx hb dX10_addPart_57 rfl (lv_at hl 1 rfl) ?_
      refine lv_iload_n hx hb dX10_addPart_58 rfl (lv_at hl 2 rfl) ?_
      have hPc := hP.sub (ws' := [(q5, .inr (13, [.int 0, .int 0, .int 0, .null, .null, .null, .int 0, .int 0]))]) [11] rfl
      have hKc := hK.sub (tys' := []) [] rfl
      have hDc := hD.sub (ws' := [(q5, .inr (13, [.int 0, .int 0, .int 0, .null, .null, .null, .int 0, .int 0]))]) [11] (by decide) rfl
      have hFc := va_free (wc := [(q5, .inr (13, [.int 0, .int 0, .int 0, .null, .null, .null, .int 0, .int 0]))]) hD hS hA [11] rfl
      refine gJ_v (isC := [11]) (isR := [0, 1, 2, 3, 4, 5, 6, 7, 8, 9, 10]) (wr := (wX h0 a1 a2 a3 a4 a5 h6 s0 s1 s2 s3 t1 t2 t3 t4 t5)) (va_runI (As := [.int 0, .int 0, .int f]) (rest := [.ref q5, .int 0, .ref a2]) ⟨hx, hb, hml, hown, hta⟩ (c_X8_init_0 l ) (cwI 3 hta (gWI mw105) rfl rfl rfl (hta _ mw104) (hta _ mw106) (hta _ mw107) rfl (by decide +kernel) ⟨Nat.le_of_ble_eq_true rfl, Nat.le_of_ble_eq_true rfl⟩) ⟨gS_blind, fun U hU hW => ⟨rfl, by rw [hU], by rw [hU]; exact hPc, va_K.moved hW.alike hKc, hDc.weaken (fun _ _ _ _ => trivial), hG.call hS hU hW hFc⟩⟩ rfl rfl hl.1 rfl (lv_room (Nat.le_of_ble_eq_true rfl)) dX10_addPart_59 ⟨Nat.le_of_ble_eq_true rfl, Nat.le_of_ble_eq_true rfl⟩) hP hD hS hK hFc rfl rfl (by decide) (by decide) (fun u7 H locs h8 hP hD hS hK => ?_)
      have hK : va_K D vwCl (tX t1 t2 t3 t4 t5) s := hK
      have hP : va_P D vwCl [(h0, .inr (15, [.ref a1, .ref a2, .ref a3, .ref a4, .ref a5, .ref h6, .int 0, .int 0, .int 0, .int 0, .int 0, .int 0, .long 0, .long 0])), (a1, .inl (t1, 5, .inr (.inr (.inr (.inr (fun _ => none)))))), (a2, .inl (t2, 12, .inr (.inr (.inr (.inr (fun _ => none)))))), (a3, .inl (t3, 4, .inr (.inr (.inr (.inr (va_up (va_up (va_up (va_up (fun _ => none) 0 (some s0)) 1 (some s1)) 2 (some s2)) 3 (some s3))))))), (a4, .inl (t4, 90, .inr (.inr (.inr (.inr (fun _ => none)))))), (a5, .inl (t5, 30, .inr (.inr (.inr (.inr (fun _ => none)))))), (h6, .inr (10, [.long 0, .long 0])), (s0, .inr (14, [.int 110, .int 0, .int 0])), (s1, .inr (14, [.int 110, .int 0, .int 0])), (s2, .inr (14, [.int 110, .int 0, .int 0])), (s3, .inr (14, [.int 110, .int 0, .int 0])), (q5, .inr (13, u7))] H := hP
      have hD : va_D A [(h0, .inr (15, [.ref a1, .ref a2, .ref a3, .ref a4, .ref a5, .ref h6, .int 0, .int 0, .int 0, .int 0, .int 0, .int 0, .long 0, .long 0])), (a1, .inl (t1, 5, .inr (.inr (.inr (.inr (fun _ => none)))))), (a2, .inl (t2, 12, .inr (.inr (.inr (.inr (fun _ => none)))))), (a3, .inl (t3, 4, .inr (.inr (.inr (.inr (va_up (va_up (va_up (va_up (fun _ => none) 0 (some s0)) 1 (some s1)) 2 (some s2)) 3 (some s3))))))), (a4, .inl (t4, 90, .inr (.inr (.inr (.inr (fun _ => none)))))), (a5, .inl (t5, 30, .inr (.inr (.inr (.inr (fun _ => none)))))), (h6, .inr (10, [.long 0, .long 0])), (s0, .inr (14, [.int 110, .int 0, .int 0])), (s1, .inr (14, [.int 110, .int 0, .int 0])), (s2, .inr (14, [.int 110, .int 0, .int 0])), (s3, .inr (14, [.int 110, .int 0, .int 0])), (q5, .inr (13, u7))] := hD
      refine va_astq (r := (RX8, TX8, 8)) hx hb hK hP hD hS 2 1 11 13 rfl rfl rfl rfl (i := 0) (by unfold vp_in; decide) dX10_addPart_62 (fun H locs hP hD hS => ?_)
      have hP : va_P D vwCl [(h0, .inr (15, [.ref a1, .ref a2, .ref a3, .ref a4, .ref a5, .ref h6, .int 0, .int 0, .int 0, .int 0, .int 0, .int 0, .long 0, .long 0])), (a1, .inl (t1, 5, .inr (.inr (.inr (.inr (fun _ => none)))))), (a2, .inl (t2, 12, .inr (.inr (.inr (.inr (va_up (fun _ => none) 0 (some q5))))))), (a3, .inl (t3, 4, .inr (.inr (.inr (.inr (va_up (va_up (va_up (va_up (fun _ => none) 0 (some s0)) 1 (some s1)) 2 (some s2)) 3 (some s3))))))), (a4, .inl (t4, 90, .inr (.inr (.inr (.inr (fun _ => none)))))), (a5, .inl (t5, 30, .inr (.inr (.inr (.inr (fun _ => none)))))), (h6, .inr (10, [.long 0, .long 0])), (s0, .inr (14, [.int 110, .int 0, .int 0])), (s1, .inr (14, [.int 110, .int 0, .int 0])), (s2, .inr (14, [.int 110, .int 0, .int 0])), (s3, .inr (14, [.int 110, .int 0, .int 0])), (q5, .inr (13, u7))] H := hP
      have hD : va_D A [(h0, .inr (15, [.ref a1, .ref a2, .ref a3, .ref a4, .ref a5, .ref h6, .int 0, .int 0, .int 0, .int 0, .int 0, .int 0, .long 0, .long 0])), (a1, .inl (t1, 5, .inr (.inr (.inr (.inr (fun _ => none)))))), (a2, .inl (t2, 12, .inr (.inr (.inr (.inr (va_up (fun _ => none) 0 (some q5))))))), (a3, .inl (t3, 4, .inr (.inr (.inr (.inr (va_up (va_up (va_up (va_up (fun _ => none) 0 (some s0)) 1 (some s1)) 2 (some s2)) 3 (some s3))))))), (a4, .inl (t4, 90, .inr (.inr (.inr (.inr (fun _ => none)))))), (a5, .inl (t5, 30, .inr (.inr (.inr (.inr (fun _ => none)))))), (h6, .inr (10, [.long 0, .long 0])), (s0, .inr (14, [.int 110, .int 0, .int 0])), (s1, .inr (14, [.int 110, .int 0, .int 0])), (s2, .inr (14, [.int 110, .int 0, .int 0])), (s3, .inr (14, [.int 110, .int 0, .int 0])), (q5, .inr (13, u7))] := hD
      refine lv_aload_n hx hb dX10_addPart_63 rfl (lv_at hl 0 rfl) ?_
      refine lv_dup hx hb dX10_addPart_64 rfl ?_
      refine va_get (D := D) (ci := 15) (v := .int 0) (C := RX10) (T := TX10) (N := 14) hx hb hta iwX10 hown hK hP 0 rfl rfl 7 (by decide) (hta _ mw101) (fun _ h9 => h9) rfl dX10_addPart_65 ?_
      refine lv_iconst (v := 1) hx hb dX10_addPart_68 (by decide) ?_
      refine lv_iadd hx hb dX10_addPart_69 ?_
      refine lv_topi (fun x9 ex9 => ?_)
      obtain rfl : x9 = 1 := ex9.trans (by decide)
      refine va_put (D := D) (ci := 15) (v := .int 1) (ty := .int) (C := RX10) (T := TX10) (N := 14) hx hb hta iwX10 tyX10 tyX10_ok nmX10 hown hK hP hD hS 0 rfl rfl 7 (by decide) (hta _ mw101) (fun _ h9 => h9) rfl (by decide +kernel) rfl rfl (Nat.le_of_ble_eq_true rfl) dX10_addPart_70 (fun H locs hP hD hS => ?_)
      have hP : va_P D vwCl [(h0, .inr (15, [.ref a1, .ref a2, .ref a3, .ref a4, .ref a5, .ref h6, .int 0, .int 1, .int 0, .int 0, .int 0, .int 0, .long 0, .long 0])), (a1, .inl (t1, 5, .inr (.inr (.inr (.inr (fun _ => none)))))), (a2, .inl (t2, 12, .inr (.inr (.inr (.inr (va_up (fun _ => none) 0 (some q5))))))), (a3, .inl (t3, 4, .inr (.inr (.inr (.inr (va_up (va_up (va_up (va_up (fun _ => none) 0 (some s0)) 1 (some s1)) 2 (some s2)) 3 (some s3))))))), (a4, .inl (t4, 90, .inr (.inr (.inr (.inr (fun _ => none)))))), (a5, .inl (t5, 30, .inr (.inr (.inr (.inr (fun _ => none)))))), (h6, .inr (10, [.long 0, .long 0])), (s0, .inr (14, [.int 110, .int 0, .int 0])), (s1, .inr (14, [.int 110, .int 0, .int 0])), (s2, .inr (14, [.int 110, .int 0, .int 0])), (s3, .inr (14, [.int 110, .int 0, .int 0])), (q5, .inr (13, u7))] H := hP
      have hD : va_D A [(h0, .inr (15, [.ref a1, .ref a2, .ref a3, .ref a4, .ref a5, .ref h6, .int 0, .int 1, .int 0, .int 0, .int 0, .int 0, .long 0, .long 0])), (a1, .inl (t1, 5, .inr (.inr (.inr (.inr (fun _ => none)))))), (a2, .inl (t2, 12, .inr (.inr (.inr (.inr (va_up (fun _ => none) 0 (some q5))))))), (a3, .inl (t3, 4, .inr (.inr (.inr (.inr (va_up (va_up (va_up (va_up (fun _ => none) 0 (some s0)) 1 (some s1)) 2 (some s2)) 3 (some s3))))))), (a4, .inl (t4, 90, .inr (.inr (.inr (.inr (fun _ => none)))))), (a5, .inl (t5, 30, .inr (.inr (.inr (.inr (fun _ => none)))))), (h6, .inr (10, [.long 0, .long 0])), (s0, .inr (14, [.int 110, .int 0, .int 0])), (s1, .inr (14, [.int 110, .int 0, .int 0])), (s2, .inr (14, [.int 110, .int 0, .int 0])), (s3, .inr (14, [.int 110, .int 0, .int 0])), (q5, .inr (13, u7))] := hD
      refine lv_aload_n hx hb dX10_addPart_73 rfl (lv_at hl 0 rfl) ?_
      refine va_get (D := D) (ci := 15) (v := .int 1) (C := RX10) (T := TX10) (N := 14) hx hb hta iwX10 hown hK hP 0 rfl rfl 7 (by decide) (hta _ mw101) (fun _ h9 => h9) rfl dX10_addPart_74 ?_
      refine lv_iconst (v := 1) hx hb dX10_addPart_77 (by decide) ?_
      refine lv_isub hx hb dX10_addPart_78 ?_
      refine lv_topi (fun x10 ex10 => ?_)
      obtain rfl : x10 = 0 := ex10.trans (by decide)
      have hP9 := hP.sub (ws' := []) [] rfl
      have hD9 := hD.sub (ws' := []) [] (by decide) rfl
      have hK9 := hK.sub (tys' := []) [] rfl
      refine W.widen (k := 4) (n := 20) (Nat.le_of_ble_eq_true rfl) (Nat.le_of_ble_eq_true rfl) ?_
      exact W.iret (v := 0) hx hb hr (fun t ht hWm => ⟨⟨_, (), rfl, rfl, ⟨by rw [ht]; exact hP9, va_K.moved hWm.alike hK9, hD9⟩⟩, hS.F ht⟩) hS.2.2 dX10_addPart_79
    · exact absurd (by decide) c4
  · exact absurd c3 (by decide)

set_option maxHeartbeats 4000000 in
set_option maxRecDepth 100000 in
theorem c_X10_addPart_t1 (l : Launch) {D : va_G} {tE sz : Nat} {h0 a1 a2 a3 a4 a5 h6 s0 s1 s2 s3 : Nat} {t1 t2 t3 t4 t5 : ClassId} {f : Int32} (g91 : inR f 0 3 = true) : Met l ⟨"Foundrymark", "addPart", "(ZI)I"⟩ (wsC ⟨"Foundrymark", "addPart", "(ZI)I"⟩ cX10_addPart 3 (some .int)) ({ frames := 3, cells := 4, slots := 20, locals := 63 }) (va_Pc [.ref h0, .int 1, .int f] (gS tE D (wX h0 a1 a2 a3 a4 a5 h6 s0 s1 s2 s3 t1 t2 t3 t4 t5) (tX t1 t2 t3 t4 t5) sz)) (va_Qi (fun (r : Int32) (_ : Unit) => r = 0) (gO D (fun _ => []) (fun _ => []) (va_A (wX h0 a1 a2 a3 a4 a5 h6 s0 s1 s2 s3 t1 t2 t3 t4 t5) sz)) (va_A (wX h0 a1 a2 a3 a4 a5 h6 s0 s1 s2 s3 t1 t2 t3 t4 t5) sz)) 4 20 (va_A (wX h0 a1 a2 a3 a4 a5 h6 s0 s1 s2 s3 t1 t2 t3 t4 t5) sz) := by
  refine Met.ofW (cc := cX10_addPart) (maxL := 3) (ret := (some .int)) (by decide) rfl ?_
  intro p e s m args below meth c s₁ B hml hv
  obtain ⟨rfl, hsz, hP, hK, hD0, hG⟩ := hv
  have hx := B.exec
  have hb := B.bytes
  have hr := B.returns
  have hlocks := B.notSynchronized
  have hts := atoms_spec (ws := wsC ⟨"Foundrymark", "addPart", "(ZI)I"⟩ cX10_addPart 3 (some .int)) B.pre
  have hta : ∀ w ∈ WA, w.before _ s = true := fun w h => hts w (List.mem_cons_of_mem _ h)
  have hown : s.vm.findClass "Foundrymark" = some m.cls := findClass_of_methodNamed B.named
  subst hsz
  have hD : va_D (va_A (wX h0 a1 a2 a3 a4 a5 h6 s0 s1 s2 s3 t1 t2 t3 t4 t5) s.heap.size) (wX h0 a1 a2 a3 a4 a5 h6 s0 s1 s2 s3 t1 t2 t3 t4 t5) := hD0.self (sz := s.heap.size)
  generalize hAe : va_A (wX h0 a1 a2 a3 a4 a5 h6 s0 s1 s2 s3 t1 t2 t3 t4 t5) s.heap.size = A at hD hG ⊢
  have hA : ∀ q : Nat, s.heap.size ≤ q → A q := fun q h => by rw [← hAe]; exact Or.inr h
  have hS : va_S A s.heap s.heap [] := va_S.rf
  have hP : va_P D vwCl (wX h0 a1 a2 a3 a4 a5 h6 s0 s1 s2 s3 t1 t2 t3 t4 t5) s.heap := hP
  have hl := lv_entry ([.ref h0, .int 1, .int f]) (n := 3) (Nat.le_of_ble_eq_true rfl)
  rw [lg_entry_eq]
  generalize (lg_sl ([.ref h0, .int 1, .int f]) ++ List.replicate (3 - (lg_sl ([.ref h0, .int 1, .int f])).length) Slot.unset).toArray = ls at hl ⊢
  have hl : lv_has ls 3 [(0, .ref h0), (1, .int 1), (2, .int f)] := hl
  refine lv_iload_n hx hb dX10_addPart_0 rfl (lv_at hl 2 rfl) ?_
  refine lv_iconst (v := 0) hx hb dX10_addPart_1 (by decide) ?_
  refine lv_iconst (v := 3) hx hb dX10_addPart_2 (by decide) ?_
  refine vp_callSi (W.runS (As := [.int f, .int 0, .int 3]) (rest := []) ⟨hx, hb, hml, hown, hta⟩ (c_X10_isFrom l f 0 3) (va_cwS 3 hta (gWS mw57 mw58 mw10 mw56) rfl rfl rfl (by decide +kernel) ⟨Nat.le_of_ble_eq_true rfl, Nat.le_of_ble_eq_true rfl⟩) ⟨fun a U g mk q => ⟨q.1, trivial⟩, fun U hU hW => ⟨rfl, trivial⟩⟩ rfl rfl hl.1 rfl (lv_room (Nat.le_of_ble_eq_true rfl)) dX10_addPart_3 ⟨Nat.le_of_ble_eq_true rfl, Nat.le_of_ble_eq_true rfl⟩) (fun r1 h2 => ?_)
  obtain rfl : r1 = 1 := h2.trans (by rw [g91]; rfl)
  refine lv_if_ne (tgt := 19) hx hb dX10_addPart_6 (by decide) (fun c3 => ?_) (fun c3 => ?_)
  · skip
    refine lv_aload_n hx hb dX10_addPart_19 rfl (lv_at hl 0 rfl) ?_
    refine va_get (D := D) (ci := 15) (v := .int 0) (C := RX10) (T := TX10) (N := 14) hx hb hta iwX10 hown hK hP 0 rfl rfl 7 (by decide) (hta _ mw101) (fun _ h9 => h9) rfl dX10_addPart_20 ?_
    refine lv_aload_n hx hb dX10_addPart_23 rfl (lv_at hl 0 rfl) ?_
    refine va_get (D := D) (ci := 15) (v := .ref a2) (C := RX10) (T := TX10) (N := 14) hx hb hta iwX10 hown hK hP 0 rfl rfl 1 (by decide) (hta _ mw3) (fun _ h9 => h9) rfl dX10_addPart_24 ?_
    refine va_alen hx hb hK hP 2 1 rfl rfl (v := 12) rfl dX10_addPart_27 ?_
    refine lv_icmp_lt (tgt := 41) hx hb dX10_addPart_28 (by decide) (fun c4 => ?_) (fun c4 => ?_)
    · skip
      refine lv_aload_n hx hb dX10_addPart_41 rfl (lv_at hl 0 rfl) ?_
      refine va_get (D := D) (ci := 15) (v := .ref a2) (C := RX10) (T := TX10) (N := 14) hx hb hta iwX10 hown hK hP 0 rfl rfl 1 (by decide) (hta _ mw3) (fun _ h9 => h9) rfl dX10_addPart_42 ?_
      refine lv_aload_n hx hb dX10_addPart_45 rfl (lv_at hl 0 rfl) ?_
      refine va_get (D := D) (ci := 15) (v := .int 0) (C := RX10) (T := TX10) (N := 14) hx hb hta iwX10 hown hK hP 0 rfl rfl 7 (by decide) (hta _ mw101) (fun _ h9 => h9) rfl dX10_addPart_46 ?_
      refine va_new (ci := 13) (fs := [.int 0, .int 0, .int 0, .null, .null, .null, .int 0, .int 0]) (C := RX8) (T := TX8) (N := 8) hx hb hta iwX8 tyX8 tyX8_ok hown (hta _ mw102) (hta _ mw103) (hta _ mw104) hK hP hD hS hA rfl (fun j hj => by rcases (show j = 0 ∨ j = 1 ∨ j = 2 ∨ j = 3 ∨ j = 4 ∨ j = 5 ∨ j = 6 ∨ j = 7 by omega) with rfl | rfl | rfl | rfl | rfl | rfl | rfl | rfl <;> rfl) (Nat.le_of_ble_eq_true rfl) (Nat.le_of_ble_eq_true rfl) dX10_addPart_49 (fun q5 H hP hD hS => ?_)
      have hP : va_P D vwCl [(h0, .inr (15, [.ref a1, .ref a2, .ref a3, .ref a4, .ref a5, .ref h6, .int 0, .int 0, .int 0, .int 0, .int 0, .int 0, .long 0, .long 0])), (a1, .inl (t1, 5, .inr (.inr (.inr (.inr (fun _ => none)))))), (a2, .inl (t2, 12, .inr (.inr (.inr (.inr (fun _ => none)))))), (a3, .inl (t3, 4, .inr (.inr (.inr (.inr (va_up (va_up (va_up (va_up (fun _ => none) 0 (some s0)) 1 (some s1)) 2 (some s2)) 3 (some s3))))))), (a4, .inl (t4, 90, .inr (.inr (.inr (.inr (fun _ => none)))))), (a5, .inl (t5, 30, .inr (.inr (.inr (.inr (fun _ => none)))))), (h6, .inr (10, [.long 0, .long 0])), (s0, .inr (14, [.int 110, .int 0, .int 0])), (s1, .inr (14, [.int 110, .int 0, .int 0])), (s2, .inr (14, [.int 110, .int 0, .int 0])), (s3, .inr (14, [.int 110, .int 0, .int 0])), (q5, .inr (13, [.int 0, .int 0, .int 0, .null, .null, .null, .int 0, .int 0]))] H := hP
      have hD : va_D A [(h0, .inr (15, [.ref a1, .ref a2, .ref a3, .ref a4, .ref a5, .ref h6, .int 0, .int 0, .int 0, .int 0, .int 0, .int 0, .long 0, .long 0])), (a1, .inl (t1, 5, .inr (.inr (.inr (.inr (fun _ => none)))))), (a2, .inl (t2, 12, .inr (.inr (.inr (.inr (fun _ => none)))))), (a3, .inl (t3, 4, .inr (.inr (.inr (.inr (va_up (va_up (va_up (va_up (fun _ => none) 0 (some s0)) 1 (some s1)) 2 (some s2)) 3 (some s3))))))), (a4, .inl (t4, 90, .inr (.inr (.inr (.inr (fun _ => none)))))), (a5, .inl (t5, 30, .inr (.inr (.inr (.inr (fun _ => none)))))), (h6, .inr (10, [.long 0, .long 0])), (s0, .inr (14, [.int 110, .int 0, .int 0])), (s1, .inr (14, [.int 110, .int 0, .int 0])), (s2, .inr (14, [.int 110, .int 0, .int 0])), (s3, .inr (14, [.int 110, .int 0, .int 0])), (q5, .inr (13, [.int 0, .int 0, .int 0, .null, .null, .null, .int 0, .int 0]))] := hD
      refine lv_dup hx hb dX10_addPart_52 rfl ?_
      refine lv_aload_n hx hb dX10_addPart_53 rfl (lv_at hl 0 rfl) ?_
      refine va_get (D := D) (ci := 15) (v := .int 0) (C := RX10) (T := TX10) (N := 14) hx hb hta iwX10 hown hK hP 0 rfl rfl 7 (by decide) (hta _ mw101) (fun _ h9 => h9) rfl dX10_addPart_54 ?_
      refine lv_iload_n hx hb dX10_addPart_57 rfl (lv_at hl 1 rfl) ?_
      refine lv_iload_n hx hb dX10_addPart_58 rfl (lv_at hl 2 rfl) ?_
      have hPc := hP.sub (ws' := [(q5, .inr (13, [.int 0, .int 0, .int 0, .null, .null, .null, .int 0, .int 0]))]) [11] rfl
      have hKc := hK.sub (tys' := []) [] rfl
      have hDc := hD.sub (ws' := [(q5, .inr (13, [.int 0, .int 0, .int 0, .null, .null, .null, .int 0, .int 0]))]) [11] (by decide) rfl
      have hFc := va_free (wc := [(q5, .inr (13, [.int 0, .int 0, .int 0, .null, .null, .null, .int 0, .int 0]))]) hD hS hA [11] rfl
      refine gJ_v (isC := [11]) (isR := [0, 1, 2, 3, 4, 5, 6, 7, 8, 9, 10]) (wr := (wX h0 a1 a2 a3 a4 a5 h6 s0 s1 s2 s3 t1 t2 t3 t4 t5)) (va_runI (As := [.int 0, .int 1, .int f]) (rest := [.ref q5, .int 0, .ref a2]) ⟨hx, hb, hml, hown, hta⟩ (c_X8_init_1 l ) (cwI 3 hta (gWI mw105) rfl rfl rfl (hta _ mw104) (hta _ mw106) (hta _ mw107) rfl (by decide +kernel) ⟨Nat.le_of_ble_eq_true rfl, Nat.le_of_ble_eq_true rfl⟩) ⟨gS_blind, fun U hU hW => ⟨rfl, by rw [hU], by rw [hU]; exact hPc, va_K.moved hW.alike hKc, hDc.weaken (fun _ _ _ _ => trivial), hG.call hS hU hW hFc⟩⟩ rfl rfl hl.1 rfl (lv_room (Nat.le_of_ble_eq_true rfl)) dX10_addPart_59 ⟨Nat.le_of_ble_eq_true rfl, Nat.le_of_ble_eq_true rfl⟩) hP hD hS hK hFc rfl rfl (by decide) (by decide) (fun u7 H locs h8 hP hD hS hK => ?_)
      have hK : va_K D vwCl (tX t1 t2 t3 t4 t5) s := hK
      have hP : va_P D vwCl [(h0, .inr (15, [.ref a1, .ref a2, .ref a3, .ref a4, .ref a5, .ref h6, .int 0, .int 0, .int 0, .int 0, .int 0, .int 0, .long 0, .long 0])), (a1, .inl (t1, 5, .inr (.inr (.inr (.inr (fun _ => none)))))), (a2, .inl (t2, 12, .inr (.inr (.inr (.inr (fun _ => none)))))), (a3, .inl (t3, 4, .inr (.inr (.inr (.inr (va_up (va_up (va_up (va_up (fun _ => none) 0 (some s0)) 1 (some s1)) 2 (some s2)) 3 (some s3))))))), (a4, .inl (t4, 90, .inr (.inr (.inr (.inr (fun _ => none)))))), (a5, .inl (t5, 30, .inr (.inr (.inr (.inr (fun _ => none)))))), (h6, .inr (10, [.long 0, .long 0])), (s0, .inr (14, [.int 110, .int 0, .int 0])), (s1, .inr (14, [.int 110, .int 0, .int 0])), (s2, .inr (14, [.int 110, .int 0, .int 0])), (s3, .inr (14, [.int 110, .int 0, .int 0])), (q5, .inr (13, u7))] H := hP
      have hD : va_D A [(h0, .inr (15, [.ref a1, .ref a2, .ref a3, .ref a4, .ref a5, .ref h6, .int 0, .int 0, .int 0, .int 0, .int 0, .int 0, .long 0, .long 0])), (a1, .inl (t1, 5, .inr (.inr (.inr (.inr (fun _ => none)))))), (a2, .inl (t2, 12, .inr (.inr (.inr (.inr (fun _ => none)))))), (a3, .inl (t3, 4, .inr (.inr (.inr (.inr (va_up (va_up (va_up (va_up (fun _ => none) 0 (some s0)) 1 (some s1)) 2 (some s2)) 3 (some s3))))))), (a4, .inl (t4, 90, .inr (.inr (.inr (.inr (fun _ => none)))))), (a5, .inl (t5, 30, .inr (.inr (.inr (.inr (fun _ => none)))))), (h6, .inr (10, [.long 0, .long 0])), (s0, .inr (14, [.int 110, .int 0, .int 0])), (s1, .inr (14, [.int 110, .int 0, .int 0])), (s2, .inr (14, [.int 110, .int 0, .int 0])), (s3, .inr (14, [.int 110, .int 0, .int 0])), (q5, .inr (13, u7))] := hD
      refine va_astq (r := (RX8, TX8, 8)) hx hb hK hP hD hS 2 1 11 13 rfl rfl rfl rfl (i := 0) (by unfold vp_in; decide) dX10_addPart_62 (fun H locs hP hD hS => ?_)
      have hP : va_P D vwCl [(h0, .inr (15, [.ref a1, .ref a2, .ref a3, .ref a4, .ref a5, .ref h6, .int 0, .int 0, .int 0, .int 0, .int 0, .int 0, .long 0, .long 0])), (a1, .inl (t1, 5, .inr (.inr (.inr (.inr (fun _ => none)))))), (a2, .inl (t2, 12, .inr (.inr (.inr (.inr (va_up (fun _ => none) 0 (some q5))))))), (a3, .inl (t3, 4, .inr (.inr (.inr (.inr (va_up (va_up (va_up (va_up (fun _ => none) 0 (some s0)) 1 (some s1)) 2 (some s2)) 3 (some s3))))))), (a4, .inl (t4, 90, .inr (.inr (.inr (.inr (fun _ => none)))))), (a5, .inl (t5, 30, .inr (.inr (.inr (.inr (fun _ => none)))))), (h6, .inr (10, [.long 0, .long 0])), (s0, .inr (14, [.int 110, .int 0, .int 0])), (s1, .inr (14, [.int 110, .int 0, .int 0])), (s2, .inr (14, [.int 110, .int 0, .int 0])), (s3, .inr (14, [.int 110, .int 0, .int 0])), (q5, .inr (13, u7))] H := hP
      have hD : va_D A [(h0, .inr (15, [.ref a1, .ref a2, .ref a3, .ref a4, .ref a5, .ref h6, .int 0, .int 0, .int 0, .int 0, .int 0, .int 0, .long 0, .long 0])), (a1, .inl (t1, 5, .inr (.inr (.inr (.inr (fun _ => none)))))), (a2, .inl (t2, 12, .inr (.inr (.inr (.inr (va_up (fun _ => none) 0 (some q5))))))), (a3, .inl (t3, 4, .inr (.inr (.inr (.inr (va_up (va_up (va_up (va_up (fun _ => none) 0 (some s0)) 1 (some s1)) 2 (some s2)) 3 (some s3))))))), (a4, .inl (t4, 90, .inr (.inr (.inr (.inr (fun _ => none)))))), (a5, .inl (t5, 30, .inr (.inr (.inr (.inr (fun _ => none)))))), (h6, .inr (10, [.long 0, .long 0])), (s0, .inr (14, [.int 110, .int 0, .int 0])), (s1, .inr (14, [.int 110, .int 0, .int 0])), (s2, .inr (14, [.int 110, .int 0, .int 0])), (s3, .inr (14, [.int 110, .int 0, .int 0])), (q5, .inr (13, u7))] := hD
      refine lv_aload_n hx hb dX10_addPart_63 rfl (lv_at hl 0 rfl) ?_
      refine lv_dup hx hb dX10_addPart_64 rfl ?_
      refine va_get (D := D) (ci := 15) (v := .int 0) (C := RX10) (T := TX10) (N := 14) hx hb hta iwX10 hown hK hP 0 rfl rfl 7 (by decide) (hta _ mw101) (fun _ h9 => h9) rfl dX10_addPart_65 ?_
      refine lv_iconst (v := 1) hx hb dX10_addPart_68 (by decide) ?_
      refine lv_iadd hx hb dX10_addPart_69 ?_
      refine lv_topi (fun x9 ex9 => ?_)
      obtain rfl : x9 = 1 := ex9.trans (by decide)
      refine va_put (D := D) (ci := 15) (v := .int 1) (ty := .int) (C := RX10) (T := TX10) (N := 14) hx hb hta iwX10 tyX10 tyX10_ok nmX10 hown hK hP hD hS 0 rfl rfl 7 (by decide) (hta _ mw101) (fun _ h9 => h9) rfl (by decide +kernel) rfl rfl (Nat.le_of_ble_eq_true rfl) dX10_addPart_70 (fun H locs hP hD hS => ?_)
      have hP : va_P D vwCl [(h0, .inr (15, [.ref a1, .ref a2, .ref a3, .ref a4, .ref a5, .ref h6, .int 0, .int 1, .int 0, .int 0, .int 0, .int 0, .long 0, .long 0])), (a1, .inl (t1, 5, .inr (.inr (.inr (.inr (fun _ => none)))))), (a2, .inl (t2, 12, .inr (.inr (.inr (.inr (va_up (fun _ => none) 0 (some q5))))))), (a3, .inl (t3, 4, .inr (.inr (.inr (.inr (va_up (va_up (va_up (va_up (fun _ => none) 0 (some s0)) 1 (some s1)) 2 (some s2)) 3 (some s3))))))), (a4, .inl (t4, 90, .inr (.inr (.inr (.inr (fun _ => none)))))), (a5, .inl (t5, 30, .inr (.inr (.inr (.inr (fun _ => none)))))), (h6, .inr (10, [.long 0, .long 0])), (s0, .inr (14, [.int 110, .int 0, .int 0])), (s1, .inr (14, [.int 110, .int 0, .int 0])), (s2, .inr (14, [.int 110, .int 0, .int 0])), (s3, .inr (14, [.int 110, .int 0, .int 0])), (q5, .inr (13, u7))] H := hP
      have hD : va_D A [(h0, .inr (15, [.ref a1, .ref a2, .ref a3, .ref a4, .ref a5, .ref h6, .int 0, .int 1, .int 0, .int 0, .int 0, .int 0, .long 0, .long 0])), (a1, .inl (t1, 5, .inr (.inr (.inr (.inr (fun _ => none)))))), (a2, .inl (t2, 12, .inr (.inr (.inr (.inr (va_up (fun _ => none) 0 (some q5))))))), (a3, .inl (t3, 4, .inr (.inr (.inr (.inr (va_up (va_up (va_up (va_up (fun _ => none) 0 (some s0)) 1 (some s1)) 2 (some s2)) 3 (some s3))))))), (a4, .inl (t4, 90, .inr (.inr (.inr (.inr (fun _ => none)))))), (a5, .inl (t5, 30, .inr (.inr (.inr (.inr (fun _ => none)))))), (h6, .inr (10, [.long 0, .long 0])), (s0, .inr (14, [.int 110, .int 0, .int 0])), (s1, .inr (14, [.int 110, .int 0, .int 0])), (s2, .inr (14, [.int 110, .int 0, .int 0])), (s3, .inr (14, [.int 110, .int 0, .int 0])), (q5, .inr (13, u7))] := hD
      refine lv_aload_n hx hb dX10_addPart_73 rfl (lv_at hl 0 rfl) ?_
      refine va_get (D := D) (ci := 15) (v := .int 1) (C := RX10) (T := TX10) (N := 14) hx hb hta iwX10 hown hK hP 0 rfl rfl 7 (by decide) (hta _ mw101) (fun _ h9 => h9) rfl dX10_addPart_74 ?_
      refine lv_iconst (v := 1) hx hb dX10_addPart_77 (by decide) ?_
      refine lv_isub hx hb dX10_addPart_78 ?_
      refine lv_topi (fun x10 ex10 => ?_)
      obtain rfl : x10 = 0 := ex10.trans (by decide)
      have hP9 := hP.sub (ws' := []) [] rfl
      have hD9 := hD.sub (ws' := []) [] (by decide) rfl
      have hK9 := hK.sub (tys' := []) [] rfl
      refine W.widen (k := 4) (n := 20) (Nat.le_of_ble_eq_true rfl) (Nat.le_of_ble_eq_true rfl) ?_
      exact W.iret (v := 0) hx hb hr (fun t ht hWm => ⟨⟨_, (), rfl, rfl, ⟨by rw [ht]; exact hP9, va_K.moved hWm.alike hK9, hD9⟩⟩, hS.F ht⟩) hS.2.2 dX10_addPart_79
    · exact absurd (by decide) c4
  · exact absurd c3 (by decide)

set_option maxHeartbeats 4000000 in
set_option maxRecDepth 100000 in
theorem c_X10_addPart_f (l : Launch) (hl0 : l.stackTraces = false) {D : va_G} {tE sz : Nat} {h0 a1 a2 a3 a4 a5 h6 s0 s1 s2 s3 : Nat} {t1 t2 t3 t4 t5 : ClassId} {z f : Int32} (hf : inR f 0 3 = false) : vx_Met l ⟨"Foundrymark", "addPart", "(ZI)I"⟩ (wsC ⟨"Foundrymark", "addPart", "(ZI)I"⟩ cX10_addPart 3 (some .int)) ({ frames := 6, cells := 1, slots := 6, locals := 98 }) (va_Pc [.ref h0, .int z, .int f] (gS tE D (wX h0 a1 a2 a3 a4 a5 h6 s0 s1 s2 s3 t1 t2 t3 t4 t5) (tX t1 t2 t3 t4 t5) sz)) (fun _ _ _ _ => False) (vx_X (fun _ : Unit => True) (fun E9 _ _ => E9 = "java/lang/IllegalArgumentException") (va_A (wX h0 a1 a2 a3 a4 a5 h6 s0 s1 s2 s3 t1 t2 t3 t4 t5) sz)) 1 6 (va_A (wX h0 a1 a2 a3 a4 a5 h6 s0 s1 s2 s3 t1 t2 t3 t4 t5) sz) := by
  refine vx_ofW (cc := cX10_addPart) (maxL := 3) (ret := (some .int)) (by decide) rfl ?_
  intro p e s m args below meth c s₁ B hml hout hv
  obtain ⟨rfl, hsz, hP, hK, hD0, hG⟩ := hv
  have hx := B.exec
  have hb := B.bytes
  have hr := B.returns
  have hlocks := B.notSynchronized
  have hts := atoms_spec (ws := wsC ⟨"Foundrymark", "addPart", "(ZI)I"⟩ cX10_addPart 3 (some .int)) B.pre
  have hta : ∀ w ∈ WA, w.before _ s = true := fun w h => hts w (List.mem_cons_of_mem _ h)
  have hown : s.vm.findClass "Foundrymark" = some m.cls := findClass_of_methodNamed B.named
  subst hsz
  have hD : va_D (va_A (wX h0 a1 a2 a3 a4 a5 h6 s0 s1 s2 s3 t1 t2 t3 t4 t5) s.heap.size) (wX h0 a1 a2 a3 a4 a5 h6 s0 s1 s2 s3 t1 t2 t3 t4 t5) := hD0.self (sz := s.heap.size)
  generalize hAe : va_A (wX h0 a1 a2 a3 a4 a5 h6 s0 s1 s2 s3 t1 t2 t3 t4 t5) s.heap.size = A at hD hG ⊢
  have hA : ∀ q : Nat, s.heap.size ≤ q → A q := fun q h => by rw [← hAe]; exact Or.inr h
  have hS : va_S A s.heap s.heap [] := va_S.rf
  have hP : va_P D vwCl (wX h0 a1 a2 a3 a4 a5 h6 s0 s1 s2 s3 t1 t2 t3 t4 t5) s.heap := hP
  have hl := lv_entry ([.ref h0, .int z, .int f]) (n := 3) (Nat.le_of_ble_eq_true rfl)
  rw [lg_entry_eq]
  generalize (lg_sl ([.ref h0, .int z, .int f]) ++ List.replicate (3 - (lg_sl ([.ref h0, .int z, .int f])).length) Slot.unset).toArray = ls at hl ⊢
  have hl : lv_has ls 3 [(0, .ref h0), (1, .int z), (2, .int f)] := hl
  refine lv_iload_n hx hb dX10_addPart_0 rfl (lv_at hl 2 rfl) ?_
  refine lv_iconst (v := 0) hx hb dX10_addPart_1 (by decide) ?_
  refine lv_iconst (v := 3) hx hb dX10_addPart_2 (by decide) ?_
  refine vp_callSi (W.runS (As := [.int f, .int 0, .int 3]) (rest := []) ⟨hx, hb, hml, hown, hta⟩ (c_X10_isFrom l f 0 3) (va_cwS 3 hta (gWS mw57 mw58 mw10 mw56) rfl rfl rfl (by decide +kernel) ⟨Nat.le_of_ble_eq_true rfl, Nat.le_of_ble_eq_true rfl⟩) ⟨fun a U g mk q => ⟨q.1, trivial⟩, fun U hU hW => ⟨rfl, trivial⟩⟩ rfl rfl hl.1 rfl (lv_room (Nat.le_of_ble_eq_true rfl)) dX10_addPart_3 ⟨Nat.le_of_ble_eq_true rfl, Nat.le_of_ble_eq_true rfl⟩) (fun r1 h2 => ?_)
  obtain rfl : r1 = 0 := h2.trans (by rw [hf]; rfl)
  refine lv_if_ne (tgt := 19) hx hb dX10_addPart_6 (by decide) (fun c3 => ?_) (fun c3 => ?_)
  · exact absurd c3 (by decide)
  · skip
    obtain ⟨sa, hsa⟩ := hG.S (70, "there is no such family") (by decide)
    exact vx_throwS (names := xnms) (mc := 1) (ms := 6) (text := "there is no such family") (own := "Foundrymark") hx hb hl0 hown (by decide +kernel) (by decide +kernel) (hta _ mw59) (hta _ mw60) hsa (vx_hat (B := exB) (fun w hw => hta w (wx_55 w hw)) (by decide +kernel) (fun w hw => hG.B w hw)) (by decide +kernel) hG.U hG.N hS (hl.1.trans hml.symm) dX10_addPart_9 dX10_addPart_12 dX10_addPart_13 dX10_addPart_15 dX10_addPart_18 (fun x hx9 => (hout x hx9).elim) (Nat.le_of_ble_eq_true rfl) (Nat.le_of_ble_eq_true rfl) (Nat.le_of_ble_eq_true rfl) (Nat.le_of_ble_eq_true rfl) hlocks (fun t hv hz hk => ⟨(), trivial, rfl, gF9 hS hz hk⟩) hS.2.2 (Nat.le_of_ble_eq_true rfl) (Nat.le_of_ble_eq_true rfl)
