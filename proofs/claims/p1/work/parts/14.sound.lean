set_option maxHeartbeats 4000000 in
set_option maxRecDepth 100000 in
theorem c_X10_areLotsSound (l : Launch) {D : va_G} {h0 a1 a2 a3 a4 a5 h6 s0 s1 s2 s3 : Nat} {t1 t2 t3 t4 t5 : ClassId} : Met l ⟨"Foundrymark", "areLotsSound", "()Z"⟩ (wsC ⟨"Foundrymark", "areLotsSound", "()Z"⟩ cX10_areLotsSound 5 (some .boolean)) ({ frames := 0, cells := 0, slots := 0, locals := 0 }) (va_Pc [.ref h0] (gR D (wX h0 a1 a2 a3 a4 a5 h6 s0 s1 s2 s3 t1 t2 t3 t4 t5) (tX t1 t2 t3 t4 t5))) (vp_Si (fun r => r = 1)) 0 0 (fun _ => False) := by
  refine Met.ofW (cc := cX10_areLotsSound) (maxL := 5) (ret := (some .boolean)) (by decide) rfl ?_
  intro p e s m args below meth c s₁ B hml hv
  obtain ⟨rfl, hP, hK⟩ := hv
  have hx := B.exec
  have hb := B.bytes
  have hr := B.returns
  have hlocks := B.notSynchronized
  have hts := atoms_spec (ws := wsC ⟨"Foundrymark", "areLotsSound", "()Z"⟩ cX10_areLotsSound 5 (some .boolean)) B.pre
  have hta : ∀ w ∈ WA, w.before _ s = true := fun w h => hts w (List.mem_cons_of_mem _ h)
  have hown : s.vm.findClass "Foundrymark" = some m.cls := findClass_of_methodNamed B.named
  have hP : va_P D vwCl (wX h0 a1 a2 a3 a4 a5 h6 s0 s1 s2 s3 t1 t2 t3 t4 t5) s.heap := hP
  have hl := lv_entry ([.ref h0]) (n := 5) (Nat.le_of_ble_eq_true rfl)
  rw [lg_entry_eq]
  generalize (lg_sl ([.ref h0]) ++ List.replicate (5 - (lg_sl ([.ref h0])).length) Slot.unset).toArray = ls at hl ⊢
  have hl : lv_has ls 5 [(0, .ref h0)] := hl
  refine lv_aload_n hx hb dX10_areLotsSound_0 rfl (lv_at hl 0 rfl) ?_
  refine va_get (D := D) (ci := 15) (v := .ref a4) (C := RX10) (T := TX10) (N := 14) hx hb hta iwX10 hown hK hP 0 rfl rfl 3 (by decide) (hta _ mw4) (fun _ h9 => h9) rfl dX10_areLotsSound_1 ?_
  refine lv_astore_n (lv' := [(1, .ref a4), (0, .ref h0)]) hx hb dX10_areLotsSound_4 rfl hl (by decide) rfl (fun ls hl => ?_)
  refine lv_aload_n hx hb dX10_areLotsSound_5 rfl (lv_at hl 0 rfl) ?_
  refine va_alen hx hb hK hP 4 3 rfl rfl (v := 90) rfl dX10_areLotsSound_6 ?_
  refine lv_istore_n (lv' := [(2, .int 90), (1, .ref a4), (0, .ref h0)]) hx hb dX10_areLotsSound_7 rfl hl (by decide) rfl (fun ls hl => ?_)
  refine lv_iconst (v := 0) hx hb dX10_areLotsSound_8 (by decide) ?_
  refine lv_istore_n (lv' := [(3, .int 0), (2, .int 90), (1, .ref a4), (0, .ref h0)]) hx hb dX10_areLotsSound_9 rfl hl (by decide) rfl (fun ls hl => ?_)
  refine loop_g (σ := Array Slot) (Wg := fun ls => W p l e _ s m _ below meth c _ _ _ _ _ (F0 m 10 ls [])) 90 (fun j1 ls => lv_has ls 5 [(0, .ref h0), (1, .ref a4), (2, .int 90), (3, .int (nI j1))]) (fun j1 hj2 ih3 ls hl => ?_) (fun ls hl => ?_) ls (lv_sub hl [3, 2, 1, 0] rfl)
  · skip
    refine lv_iload_n hx hb dX10_areLotsSound_10 rfl (lv_at hl 3 rfl) ?_
    refine lv_iload_n hx hb dX10_areLotsSound_11 rfl (lv_at hl 2 rfl) ?_
    refine lv_icmp_ge (tgt := 60) hx hb dX10_areLotsSound_12 (by decide) (fun c4 => ?_) (fun c4 => ?_)
    · exact absurd c4 (nI_ge (a := j1) (b := 90) hj2 (by decide))
    · skip
      refine lv_aload_n hx hb dX10_areLotsSound_15 rfl (lv_at hl 1 rfl) ?_
      refine lv_iload_n hx hb dX10_areLotsSound_16 rfl (lv_at hl 3 rfl) ?_
      refine va_aldq hx hb hK hP 4 3 rfl rfl (i := nI j1) (vp_in_nI hj2 (by decide)) dX10_areLotsSound_17 ?_
      refine W.eq (g2 := F0 m 18 ls [.null]) rfl ?_
      refine lv_astoreN (lv' := [(4, .null), (0, .ref h0), (1, .ref a4), (2, .int 90), (3, .int (nI j1))]) hx hb dX10_areLotsSound_18 hl (by decide) rfl (fun ls hl => ?_)
      refine lv_aloadN hx hb dX10_areLotsSound_20 (lv_at hl 0 rfl) ?_
      refine lv_ifnullN (tgt := 54) hx hb dX10_areLotsSound_22 (by decide) ?_
      refine lv_iinc (v := nI (j1 + 1)) (lv' := [(3, .int (nI (j1 + 1))), (4, .null), (0, .ref h0), (1, .ref a4), (2, .int 90)]) hx hb dX10_areLotsSound_54 hl (k := 4) rfl (nI_1 _) (by decide) rfl (fun ls hl => ?_)
      refine lv_goto (tgt := 10) hx hb dX10_areLotsSound_57 (by decide) ?_
      refine ih3 _ ?_
      exact lv_sub hl [2, 3, 4, 0] rfl
  · skip
    refine lv_iload_n hx hb dX10_areLotsSound_10 rfl (lv_at hl 3 rfl) ?_
    refine lv_iload_n hx hb dX10_areLotsSound_11 rfl (lv_at hl 2 rfl) ?_
    refine lv_icmp_ge (tgt := 60) hx hb dX10_areLotsSound_12 (by decide) (fun c5 => ?_) (fun c5 => ?_)
    · skip
      refine lv_iconst (v := 1) hx hb dX10_areLotsSound_60 (by decide) ?_
      exact W.zret (v := 1) (ty := .boolean) hx hb hr (by decide) (fun t ht hWm => ⟨_, rfl, rfl, ht⟩) (fun q h => absurd h List.not_mem_nil) dX10_areLotsSound_61
    · exact absurd (nI_le (a := 90) (b := 90) (Nat.le_refl _) (by decide)) c5

set_option maxHeartbeats 4000000 in
set_option maxRecDepth 100000 in
theorem c_X10_areJobsSound (l : Launch) {D : va_G} {h0 a1 a2 a3 a4 a5 h6 s0 s1 s2 s3 : Nat} {t1 t2 t3 t4 t5 : ClassId} : Met l ⟨"Foundrymark", "areJobsSound", "()Z"⟩ (wsC ⟨"Foundrymark", "areJobsSound", "()Z"⟩ cX10_areJobsSound 6 (some .boolean)) ({ frames := 0, cells := 0, slots := 0, locals := 0 }) (va_Pc [.ref h0] (gR D (wX h0 a1 a2 a3 a4 a5 h6 s0 s1 s2 s3 t1 t2 t3 t4 t5) (tX t1 t2 t3 t4 t5))) (vp_Si (fun r => r = 1)) 0 0 (fun _ => False) := by
  refine Met.ofW (cc := cX10_areJobsSound) (maxL := 6) (ret := (some .boolean)) (by decide) rfl ?_
  intro p e s m args below meth c s₁ B hml hv
  obtain ⟨rfl, hP, hK⟩ := hv
  have hx := B.exec
  have hb := B.bytes
  have hr := B.returns
  have hlocks := B.notSynchronized
  have hts := atoms_spec (ws := wsC ⟨"Foundrymark", "areJobsSound", "()Z"⟩ cX10_areJobsSound 6 (some .boolean)) B.pre
  have hta : ∀ w ∈ WA, w.before _ s = true := fun w h => hts w (List.mem_cons_of_mem _ h)
  have hown : s.vm.findClass "Foundrymark" = some m.cls := findClass_of_methodNamed B.named
  have hP : va_P D vwCl (wX h0 a1 a2 a3 a4 a5 h6 s0 s1 s2 s3 t1 t2 t3 t4 t5) s.heap := hP
  have hl := lv_entry ([.ref h0]) (n := 6) (Nat.le_of_ble_eq_true rfl)
  rw [lg_entry_eq]
  generalize (lg_sl ([.ref h0]) ++ List.replicate (6 - (lg_sl ([.ref h0])).length) Slot.unset).toArray = ls at hl ⊢
  have hl : lv_has ls 6 [(0, .ref h0)] := hl
  refine lv_iconst (v := 0) hx hb dX10_areJobsSound_0 (by decide) ?_
  refine lv_istore_n (lv' := [(1, .int 0), (0, .ref h0)]) hx hb dX10_areJobsSound_1 rfl hl (by decide) rfl (fun ls hl => ?_)
  refine lv_aload_n hx hb dX10_areJobsSound_2 rfl (lv_at hl 1 rfl) ?_
  refine va_get (D := D) (ci := 15) (v := .ref a5) (C := RX10) (T := TX10) (N := 14) hx hb hta iwX10 hown hK hP 0 rfl rfl 4 (by decide) (hta _ mw5) (fun _ h9 => h9) rfl dX10_areJobsSound_3 ?_
  refine lv_astore_n (lv' := [(2, .ref a5), (1, .int 0), (0, .ref h0)]) hx hb dX10_areJobsSound_6 rfl hl (by decide) rfl (fun ls hl => ?_)
  refine lv_aload_n hx hb dX10_areJobsSound_7 rfl (lv_at hl 0 rfl) ?_
  refine va_alen hx hb hK hP 5 4 rfl rfl (v := 30) rfl dX10_areJobsSound_8 ?_
  refine lv_istore_n (lv' := [(3, .int 30), (2, .ref a5), (1, .int 0), (0, .ref h0)]) hx hb dX10_areJobsSound_9 rfl hl (by decide) rfl (fun ls hl => ?_)
  refine lv_iconst (v := 0) hx hb dX10_areJobsSound_10 (by decide) ?_
  refine lv_istore (lv' := [(4, .int 0), (3, .int 30), (2, .ref a5), (1, .int 0), (0, .ref h0)]) hx hb dX10_areJobsSound_11 hl (by decide) rfl (fun ls hl => ?_)
  refine loop_g (σ := Array Slot) (Wg := fun ls => W p l e _ s m _ below meth c _ _ _ _ _ (F0 m 13 ls [])) 30 (fun j1 ls => lv_has ls 6 [(0, .ref h0), (1, .int 0), (2, .ref a5), (3, .int 30), (4, .int (nI j1))]) (fun j1 hj2 ih3 ls hl => ?_) (fun ls hl => ?_) ls (lv_sub hl [4, 3, 2, 1, 0] rfl)
  · skip
    refine lv_iload hx hb dX10_areJobsSound_13 (lv_at hl 4 rfl) ?_
    refine lv_iload_n hx hb dX10_areJobsSound_15 rfl (lv_at hl 3 rfl) ?_
    refine lv_icmp_ge (tgt := 54) hx hb dX10_areJobsSound_16 (by decide) (fun c4 => ?_) (fun c4 => ?_)
    · exact absurd c4 (nI_ge (a := j1) (b := 30) hj2 (by decide))
    · skip
      refine lv_aload_n hx hb dX10_areJobsSound_19 rfl (lv_at hl 2 rfl) ?_
      refine lv_iload hx hb dX10_areJobsSound_20 (lv_at hl 4 rfl) ?_
      refine va_aldq hx hb hK hP 5 4 rfl rfl (i := nI j1) (vp_in_nI hj2 (by decide)) dX10_areJobsSound_22 ?_
      refine W.eq (g2 := F0 m 23 ls [.null]) rfl ?_
      refine lv_astoreN (lv' := [(5, .null), (0, .ref h0), (1, .int 0), (2, .ref a5), (3, .int 30), (4, .int (nI j1))]) hx hb dX10_areJobsSound_23 hl (by decide) rfl (fun ls hl => ?_)
      refine lv_aloadN hx hb dX10_areJobsSound_25 (lv_at hl 0 rfl) ?_
      refine lv_ifnullN (tgt := 48) hx hb dX10_areJobsSound_27 (by decide) ?_
      refine lv_iinc (v := nI (j1 + 1)) (lv' := [(4, .int (nI (j1 + 1))), (5, .null), (0, .ref h0), (1, .int 0), (2, .ref a5), (3, .int 30)]) hx hb dX10_areJobsSound_48 hl (k := 5) rfl (nI_1 _) (by decide) rfl (fun ls hl => ?_)
      refine lv_goto (tgt := 13) hx hb dX10_areJobsSound_51 (by decide) ?_
      refine ih3 _ ?_
      exact lv_sub hl [2, 3, 4, 5, 0] rfl
  · skip
    refine lv_iload hx hb dX10_areJobsSound_13 (lv_at hl 4 rfl) ?_
    refine lv_iload_n hx hb dX10_areJobsSound_15 rfl (lv_at hl 3 rfl) ?_
    refine lv_icmp_ge (tgt := 54) hx hb dX10_areJobsSound_16 (by decide) (fun c5 => ?_) (fun c5 => ?_)
    · skip
      refine lv_aload_n hx hb dX10_areJobsSound_54 rfl (lv_at hl 0 rfl) ?_
      refine va_get (D := D) (ci := 15) (v := .ref a4) (C := RX10) (T := TX10) (N := 14) hx hb hta iwX10 hown hK hP 0 rfl rfl 3 (by decide) (hta _ mw4) (fun _ h9 => h9) rfl dX10_areJobsSound_55 ?_
      refine lv_astore_n (lv' := [(2, .ref a4), (0, .ref h0), (1, .int 0), (3, .int 30), (4, .int (nI 30))]) hx hb dX10_areJobsSound_58 rfl hl (by decide) rfl (fun ls hl => ?_)
      refine lv_aload_n hx hb dX10_areJobsSound_59 rfl (lv_at hl 0 rfl) ?_
      refine va_alen hx hb hK hP 4 3 rfl rfl (v := 90) rfl dX10_areJobsSound_60 ?_
      refine lv_istore_n (lv' := [(3, .int 90), (2, .ref a4), (0, .ref h0), (1, .int 0), (4, .int (nI 30))]) hx hb dX10_areJobsSound_61 rfl hl (by decide) rfl (fun ls hl => ?_)
      refine lv_iconst (v := 0) hx hb dX10_areJobsSound_62 (by decide) ?_
      refine lv_istore (lv' := [(4, .int 0), (3, .int 90), (2, .ref a4), (0, .ref h0), (1, .int 0)]) hx hb dX10_areJobsSound_63 hl (by decide) rfl (fun ls hl => ?_)
      refine loop_g (σ := Array Slot) (Wg := fun ls => W p l e _ s m _ below meth c _ _ _ _ _ (F0 m 65 ls [])) 90 (fun j6 ls => lv_has ls 6 [(0, .ref h0), (1, .int 0), (2, .ref a4), (3, .int 90), (4, .int (nI j6))]) (fun j6 hj7 ih8 ls hl => ?_) (fun ls hl => ?_) ls (lv_sub hl [3, 4, 2, 1, 0] rfl)
      · skip
        refine lv_iload hx hb dX10_areJobsSound_65 (lv_at hl 4 rfl) ?_
        refine lv_iload_n hx hb dX10_areJobsSound_67 rfl (lv_at hl 3 rfl) ?_
        refine lv_icmp_ge (tgt := 100) hx hb dX10_areJobsSound_68 (by decide) (fun c9 => ?_) (fun c9 => ?_)
        · exact absurd c9 (nI_ge (a := j6) (b := 90) hj7 (by decide))
        · skip
          refine lv_aload_n hx hb dX10_areJobsSound_71 rfl (lv_at hl 2 rfl) ?_
          refine lv_iload hx hb dX10_areJobsSound_72 (lv_at hl 4 rfl) ?_
          refine va_aldq hx hb hK hP 4 3 rfl rfl (i := nI j6) (vp_in_nI hj7 (by decide)) dX10_areJobsSound_74 ?_
          refine W.eq (g2 := F0 m 75 ls [.null]) rfl ?_
          refine lv_astoreN (lv' := [(5, .null), (0, .ref h0), (1, .int 0), (2, .ref a4), (3, .int 90), (4, .int (nI j6))]) hx hb dX10_areJobsSound_75 hl (by decide) rfl (fun ls hl => ?_)
          refine lv_iload_n hx hb dX10_areJobsSound_77 rfl (lv_at hl 2 rfl) ?_
          refine lv_aloadN hx hb dX10_areJobsSound_78 (lv_at hl 0 rfl) ?_
          refine lv_ifnullN (tgt := 91) hx hb dX10_areJobsSound_80 (by decide) ?_
          refine lv_iconst (v := 0) hx hb dX10_areJobsSound_91 (by decide) ?_
          refine lv_isub hx hb dX10_areJobsSound_92 ?_
          refine lv_topi (fun x10 ex10 => ?_)
          obtain rfl : x10 = 0 := ex10.trans (by decide)
          refine lv_istore_n (lv' := [(1, .int 0), (5, .null), (0, .ref h0), (2, .ref a4), (3, .int 90), (4, .int (nI j6))]) hx hb dX10_areJobsSound_93 rfl hl (by decide) rfl (fun ls hl => ?_)
          refine lv_iinc (v := nI (j6 + 1)) (lv' := [(4, .int (nI (j6 + 1))), (1, .int 0), (5, .null), (0, .ref h0), (2, .ref a4), (3, .int 90)]) hx hb dX10_areJobsSound_94 hl (k := 5) rfl (nI_1 _) (by decide) rfl (fun ls hl => ?_)
          refine lv_goto (tgt := 65) hx hb dX10_areJobsSound_97 (by decide) ?_
          refine ih8 _ ?_
          have a8 : 0 = 0 := by decide
          rw [a8]
          exact lv_sub hl [3, 1, 4, 5, 0] rfl
      · skip
        refine lv_iload hx hb dX10_areJobsSound_65 (lv_at hl 4 rfl) ?_
        refine lv_iload_n hx hb dX10_areJobsSound_67 rfl (lv_at hl 3 rfl) ?_
        refine lv_icmp_ge (tgt := 100) hx hb dX10_areJobsSound_68 (by decide) (fun c11 => ?_) (fun c11 => ?_)
        · skip
          refine lv_iload_n hx hb dX10_areJobsSound_100 rfl (lv_at hl 1 rfl) ?_
          refine lv_if_ne (tgt := 108) hx hb dX10_areJobsSound_101 (by decide) (fun c12 => ?_) (fun c12 => ?_)
          · exact absurd c12 (by decide)
          · skip
            refine lv_iconst (v := 1) hx hb dX10_areJobsSound_104 (by decide) ?_
            refine lv_goto (tgt := 109) hx hb dX10_areJobsSound_105 (by decide) ?_
            exact W.zret (v := 1) (ty := .boolean) hx hb hr (by decide) (fun t ht hWm => ⟨_, rfl, rfl, ht⟩) (fun q h => absurd h List.not_mem_nil) dX10_areJobsSound_109
        · exact absurd (nI_le (a := 90) (b := 90) (Nat.le_refl _) (by decide)) c11
    · exact absurd (nI_le (a := 30) (b := 30) (Nat.le_refl _) (by decide)) c5

set_option maxHeartbeats 4000000 in
set_option maxRecDepth 100000 in
theorem c_X10_areCostsSound (l : Launch) {D : va_G} {h0 a1 a2 a3 a4 a5 h6 s0 s1 s2 s3 : Nat} {t1 t2 t3 t4 t5 : ClassId} : Met l ⟨"Foundrymark", "areCostsSound", "()Z"⟩ (wsC ⟨"Foundrymark", "areCostsSound", "()Z"⟩ cX10_areCostsSound 7 (some .boolean)) ({ frames := 0, cells := 0, slots := 0, locals := 0 }) (va_Pc [.ref h0] (gR D (wX h0 a1 a2 a3 a4 a5 h6 s0 s1 s2 s3 t1 t2 t3 t4 t5) (tX t1 t2 t3 t4 t5))) (vp_Si (fun r => r = 1)) 0 0 (fun _ => False) := by
  refine Met.ofW (cc := cX10_areCostsSound) (maxL := 7) (ret := (some .boolean)) (by decide) rfl ?_
  intro p e s m args below meth c s₁ B hml hv
  obtain ⟨rfl, hP, hK⟩ := hv
  have hx := B.exec
  have hb := B.bytes
  have hr := B.returns
  have hlocks := B.notSynchronized
  have hts := atoms_spec (ws := wsC ⟨"Foundrymark", "areCostsSound", "()Z"⟩ cX10_areCostsSound 7 (some .boolean)) B.pre
  have hta : ∀ w ∈ WA, w.before _ s = true := fun w h => hts w (List.mem_cons_of_mem _ h)
  have hown : s.vm.findClass "Foundrymark" = some m.cls := findClass_of_methodNamed B.named
  have hP : va_P D vwCl (wX h0 a1 a2 a3 a4 a5 h6 s0 s1 s2 s3 t1 t2 t3 t4 t5) s.heap := hP
  have hl := lv_entry ([.ref h0]) (n := 7) (Nat.le_of_ble_eq_true rfl)
  rw [lg_entry_eq]
  generalize (lg_sl ([.ref h0]) ++ List.replicate (7 - (lg_sl ([.ref h0])).length) Slot.unset).toArray = ls at hl ⊢
  have hl : lv_has ls 7 [(0, .ref h0)] := hl
  refine lv_aload_n hx hb dX10_areCostsSound_0 rfl (lv_at hl 0 rfl) ?_
  refine va_get (D := D) (ci := 15) (v := .long 0) (C := RX10) (T := TX10) (N := 14) hx hb hta iwX10 hown hK hP 0 rfl rfl 13 (by decide) (hta _ mw30) (fun _ h9 => h9) rfl dX10_areCostsSound_1 ?_
  refine lv_lstore_n (lv' := [(1, .long 0), (0, .ref h0)]) hx hb dX10_areCostsSound_4 rfl hl (by decide) rfl (fun ls hl => ?_)
  refine lv_aload_n hx hb dX10_areCostsSound_5 rfl (lv_at hl 1 rfl) ?_
  refine va_get (D := D) (ci := 15) (v := .ref a4) (C := RX10) (T := TX10) (N := 14) hx hb hta iwX10 hown hK hP 0 rfl rfl 3 (by decide) (hta _ mw4) (fun _ h9 => h9) rfl dX10_areCostsSound_6 ?_
  refine lv_astore_n (lv' := [(3, .ref a4), (1, .long 0), (0, .ref h0)]) hx hb dX10_areCostsSound_9 rfl hl (by decide) rfl (fun ls hl => ?_)
  refine lv_aload_n hx hb dX10_areCostsSound_10 rfl (lv_at hl 0 rfl) ?_
  refine va_alen hx hb hK hP 4 3 rfl rfl (v := 90) rfl dX10_areCostsSound_11 ?_
  refine lv_istore (lv' := [(4, .int 90), (3, .ref a4), (1, .long 0), (0, .ref h0)]) hx hb dX10_areCostsSound_12 hl (by decide) rfl (fun ls hl => ?_)
  refine lv_iconst (v := 0) hx hb dX10_areCostsSound_14 (by decide) ?_
  refine lv_istore (lv' := [(5, .int 0), (4, .int 90), (3, .ref a4), (1, .long 0), (0, .ref h0)]) hx hb dX10_areCostsSound_15 hl (by decide) rfl (fun ls hl => ?_)
  refine loop_g (σ := Array Slot) (Wg := fun ls => W p l e _ s m _ below meth c _ _ _ _ _ (F0 m 17 ls [])) 90 (fun j1 ls => lv_has ls 7 [(0, .ref h0), (1, .long 0), (3, .ref a4), (4, .int 90), (5, .int (nI j1))]) (fun j1 hj2 ih3 ls hl => ?_) (fun ls hl => ?_) ls (lv_sub hl [4, 3, 2, 1, 0] rfl)
  · skip
    refine lv_iload hx hb dX10_areCostsSound_17 (lv_at hl 4 rfl) ?_
    refine lv_iload hx hb dX10_areCostsSound_19 (lv_at hl 3 rfl) ?_
    refine lv_icmp_ge (tgt := 53) hx hb dX10_areCostsSound_21 (by decide) (fun c4 => ?_) (fun c4 => ?_)
    · exact absurd c4 (nI_ge (a := j1) (b := 90) hj2 (by decide))
    · skip
      refine lv_aload_n hx hb dX10_areCostsSound_24 rfl (lv_at hl 2 rfl) ?_
      refine lv_iload hx hb dX10_areCostsSound_25 (lv_at hl 4 rfl) ?_
      refine va_aldq hx hb hK hP 4 3 rfl rfl (i := nI j1) (vp_in_nI hj2 (by decide)) dX10_areCostsSound_27 ?_
      refine W.eq (g2 := F0 m 28 ls [.null]) rfl ?_
      refine lv_astoreN (lv' := [(6, .null), (0, .ref h0), (1, .long 0), (3, .ref a4), (4, .int 90), (5, .int (nI j1))]) hx hb dX10_areCostsSound_28 hl (by decide) rfl (fun ls hl => ?_)
      refine lv_lload_n hx hb dX10_areCostsSound_30 rfl (lv_at hl 2 rfl) ?_
      refine lv_aloadN hx hb dX10_areCostsSound_31 (lv_at hl 0 rfl) ?_
      refine lv_ifnullN (tgt := 44) hx hb dX10_areCostsSound_33 (by decide) ?_
      refine lv_lconst (v := 0) hx hb dX10_areCostsSound_44 (by decide) ?_
      refine lv_ladd hx hb dX10_areCostsSound_45 ?_
      refine lv_lstore_n (lv' := [(1, .long (0 + 0)), (6, .null), (0, .ref h0), (3, .ref a4), (4, .int 90), (5, .int (nI j1))]) hx hb dX10_areCostsSound_46 rfl hl (by decide) rfl (fun ls hl => ?_)
      refine lv_iinc (v := nI (j1 + 1)) (lv' := [(5, .int (nI (j1 + 1))), (1, .long (0 + 0)), (6, .null), (0, .ref h0), (3, .ref a4), (4, .int 90)]) hx hb dX10_areCostsSound_47 hl (k := 5) rfl (nI_1 _) (by decide) rfl (fun ls hl => ?_)
      refine lv_goto (tgt := 17) hx hb dX10_areCostsSound_50 (by decide) ?_
      refine ih3 _ ?_
      have a8 : 0 = 0 + 0 := by decide
      rw [a8]
      exact lv_sub hl [3, 1, 4, 5, 0] rfl
  · skip
    refine lv_iload hx hb dX10_areCostsSound_17 (lv_at hl 4 rfl) ?_
    refine lv_iload hx hb dX10_areCostsSound_19 (lv_at hl 3 rfl) ?_
    refine lv_icmp_ge (tgt := 53) hx hb dX10_areCostsSound_21 (by decide) (fun c5 => ?_) (fun c5 => ?_)
    · skip
      refine lv_aload_n hx hb dX10_areCostsSound_53 rfl (lv_at hl 0 rfl) ?_
      refine va_get (D := D) (ci := 15) (v := .ref a5) (C := RX10) (T := TX10) (N := 14) hx hb hta iwX10 hown hK hP 0 rfl rfl 4 (by decide) (hta _ mw5) (fun _ h9 => h9) rfl dX10_areCostsSound_54 ?_
      refine lv_astore_n (lv' := [(3, .ref a5), (0, .ref h0), (1, .long 0), (4, .int 90), (5, .int (nI 90))]) hx hb dX10_areCostsSound_57 rfl hl (by decide) rfl (fun ls hl => ?_)
      refine lv_aload_n hx hb dX10_areCostsSound_58 rfl (lv_at hl 0 rfl) ?_
      refine va_alen hx hb hK hP 5 4 rfl rfl (v := 30) rfl dX10_areCostsSound_59 ?_
      refine lv_istore (lv' := [(4, .int 30), (3, .ref a5), (0, .ref h0), (1, .long 0), (5, .int (nI 90))]) hx hb dX10_areCostsSound_60 hl (by decide) rfl (fun ls hl => ?_)
      refine lv_iconst (v := 0) hx hb dX10_areCostsSound_62 (by decide) ?_
      refine lv_istore (lv' := [(5, .int 0), (4, .int 30), (3, .ref a5), (0, .ref h0), (1, .long 0)]) hx hb dX10_areCostsSound_63 hl (by decide) rfl (fun ls hl => ?_)
      refine loop_g (σ := Array Slot) (Wg := fun ls => W p l e _ s m _ below meth c _ _ _ _ _ (F0 m 65 ls [])) 30 (fun j6 ls => lv_has ls 7 [(0, .ref h0), (1, .long 0), (3, .ref a5), (4, .int 30), (5, .int (nI j6))]) (fun j6 hj7 ih8 ls hl => ?_) (fun ls hl => ?_) ls (lv_sub hl [3, 4, 2, 1, 0] rfl)
      · skip
        refine lv_iload hx hb dX10_areCostsSound_65 (lv_at hl 4 rfl) ?_
        refine lv_iload hx hb dX10_areCostsSound_67 (lv_at hl 3 rfl) ?_
        refine lv_icmp_ge (tgt := 110) hx hb dX10_areCostsSound_69 (by decide) (fun c9 => ?_) (fun c9 => ?_)
        · exact absurd c9 (nI_ge (a := j6) (b := 30) hj7 (by decide))
        · skip
          refine lv_aload_n hx hb dX10_areCostsSound_72 rfl (lv_at hl 2 rfl) ?_
          refine lv_iload hx hb dX10_areCostsSound_73 (lv_at hl 4 rfl) ?_
          refine va_aldq hx hb hK hP 5 4 rfl rfl (i := nI j6) (vp_in_nI hj7 (by decide)) dX10_areCostsSound_75 ?_
          refine W.eq (g2 := F0 m 76 ls [.null]) rfl ?_
          refine lv_astoreN (lv' := [(6, .null), (0, .ref h0), (1, .long 0), (3, .ref a5), (4, .int 30), (5, .int (nI j6))]) hx hb dX10_areCostsSound_76 hl (by decide) rfl (fun ls hl => ?_)
          refine lv_lload_n hx hb dX10_areCostsSound_78 rfl (lv_at hl 2 rfl) ?_
          refine lv_aloadN hx hb dX10_areCostsSound_79 (lv_at hl 0 rfl) ?_
          refine lv_ifnullN (tgt := 101) hx hb dX10_areCostsSound_81 (by decide) ?_
          refine lv_lconst (v := 0) hx hb dX10_areCostsSound_101 (by decide) ?_
          refine lv_ladd hx hb dX10_areCostsSound_102 ?_
          refine lv_lstore_n (lv' := [(1, .long (0 + 0)), (6, .null), (0, .ref h0), (3, .ref a5), (4, .int 30), (5, .int (nI j6))]) hx hb dX10_areCostsSound_103 rfl hl (by decide) rfl (fun ls hl => ?_)
          refine lv_iinc (v := nI (j6 + 1)) (lv' := [(5, .int (nI (j6 + 1))), (1, .long (0 + 0)), (6, .null), (0, .ref h0), (3, .ref a5), (4, .int 30)]) hx hb dX10_areCostsSound_104 hl (k := 5) rfl (nI_1 _) (by decide) rfl (fun ls hl => ?_)
          refine lv_goto (tgt := 65) hx hb dX10_areCostsSound_107 (by decide) ?_
          refine ih8 _ ?_
          have a8 : 0 = 0 + 0 := by decide
          rw [a8]
          exact lv_sub hl [3, 1, 4, 5, 0] rfl
      · skip
        refine lv_iload hx hb dX10_areCostsSound_65 (lv_at hl 4 rfl) ?_
        refine lv_iload hx hb dX10_areCostsSound_67 (lv_at hl 3 rfl) ?_
        refine lv_icmp_ge (tgt := 110) hx hb dX10_areCostsSound_69 (by decide) (fun c10 => ?_) (fun c10 => ?_)
        · skip
          refine lv_lload_n hx hb dX10_areCostsSound_110 rfl (lv_at hl 1 rfl) ?_
          refine lv_aload_n hx hb dX10_areCostsSound_111 rfl (lv_at hl 0 rfl) ?_
          refine va_get (D := D) (ci := 15) (v := .long 0) (C := RX10) (T := TX10) (N := 14) hx hb hta iwX10 hown hK hP 0 rfl rfl 12 (by decide) (hta _ mw31) (fun _ h9 => h9) rfl dX10_areCostsSound_112 ?_
          refine W.lcmp hx hb dX10_areCostsSound_115 ?_
          refine lv_if_ne (tgt := 123) hx hb dX10_areCostsSound_116 (by decide) (fun c11 => ?_) (fun c11 => ?_)
          · exact absurd c11 (fun z => z lgc)
          · skip
            refine lv_iconst (v := 1) hx hb dX10_areCostsSound_119 (by decide) ?_
            refine lv_goto (tgt := 124) hx hb dX10_areCostsSound_120 (by decide) ?_
            exact W.zret (v := 1) (ty := .boolean) hx hb hr (by decide) (fun t ht hWm => ⟨_, rfl, rfl, ht⟩) (fun q h => absurd h List.not_mem_nil) dX10_areCostsSound_124
        · exact absurd (nI_le (a := 30) (b := 30) (Nat.le_refl _) (by decide)) c10
    · exact absurd (nI_le (a := 90) (b := 90) (Nat.le_refl _) (by decide)) c5

set_option maxHeartbeats 4000000 in
set_option maxRecDepth 100000 in
theorem c_X10_arePromisesSound (l : Launch) {D : va_G} {h0 a1 a2 a3 a4 a5 h6 s0 s1 s2 s3 : Nat} {t1 t2 t3 t4 t5 : ClassId} : Met l ⟨"Foundrymark", "arePromisesSound", "()Z"⟩ (wsC ⟨"Foundrymark", "arePromisesSound", "()Z"⟩ cX10_arePromisesSound 5 (some .boolean)) ({ frames := 0, cells := 0, slots := 0, locals := 0 }) (va_Pc [.ref h0] (gR D (wX h0 a1 a2 a3 a4 a5 h6 s0 s1 s2 s3 t1 t2 t3 t4 t5) (tX t1 t2 t3 t4 t5))) (vp_Si (fun r => r = 1)) 0 0 (fun _ => False) := by
  refine Met.ofW (cc := cX10_arePromisesSound) (maxL := 5) (ret := (some .boolean)) (by decide) rfl ?_
  intro p e s m args below meth c s₁ B hml hv
  obtain ⟨rfl, hP, hK⟩ := hv
  have hx := B.exec
  have hb := B.bytes
  have hr := B.returns
  have hlocks := B.notSynchronized
  have hts := atoms_spec (ws := wsC ⟨"Foundrymark", "arePromisesSound", "()Z"⟩ cX10_arePromisesSound 5 (some .boolean)) B.pre
  have hta : ∀ w ∈ WA, w.before _ s = true := fun w h => hts w (List.mem_cons_of_mem _ h)
  have hown : s.vm.findClass "Foundrymark" = some m.cls := findClass_of_methodNamed B.named
  have hP : va_P D vwCl (wX h0 a1 a2 a3 a4 a5 h6 s0 s1 s2 s3 t1 t2 t3 t4 t5) s.heap := hP
  have hl := lv_entry ([.ref h0]) (n := 5) (Nat.le_of_ble_eq_true rfl)
  rw [lg_entry_eq]
  generalize (lg_sl ([.ref h0]) ++ List.replicate (5 - (lg_sl ([.ref h0])).length) Slot.unset).toArray = ls at hl ⊢
  have hl : lv_has ls 5 [(0, .ref h0)] := hl
  refine lv_aload_n hx hb dX10_arePromisesSound_0 rfl (lv_at hl 0 rfl) ?_
  refine va_get (D := D) (ci := 15) (v := .ref a4) (C := RX10) (T := TX10) (N := 14) hx hb hta iwX10 hown hK hP 0 rfl rfl 3 (by decide) (hta _ mw4) (fun _ h9 => h9) rfl dX10_arePromisesSound_1 ?_
  refine lv_astore_n (lv' := [(1, .ref a4), (0, .ref h0)]) hx hb dX10_arePromisesSound_4 rfl hl (by decide) rfl (fun ls hl => ?_)
  refine lv_aload_n hx hb dX10_arePromisesSound_5 rfl (lv_at hl 0 rfl) ?_
  refine va_alen hx hb hK hP 4 3 rfl rfl (v := 90) rfl dX10_arePromisesSound_6 ?_
  refine lv_istore_n (lv' := [(2, .int 90), (1, .ref a4), (0, .ref h0)]) hx hb dX10_arePromisesSound_7 rfl hl (by decide) rfl (fun ls hl => ?_)
  refine lv_iconst (v := 0) hx hb dX10_arePromisesSound_8 (by decide) ?_
  refine lv_istore_n (lv' := [(3, .int 0), (2, .int 90), (1, .ref a4), (0, .ref h0)]) hx hb dX10_arePromisesSound_9 rfl hl (by decide) rfl (fun ls hl => ?_)
  refine loop_g (σ := Array Slot) (Wg := fun ls => W p l e _ s m _ below meth c _ _ _ _ _ (F0 m 10 ls [])) 90 (fun j1 ls => lv_has ls 5 [(0, .ref h0), (1, .ref a4), (2, .int 90), (3, .int (nI j1))]) (fun j1 hj2 ih3 ls hl => ?_) (fun ls hl => ?_) ls (lv_sub hl [3, 2, 1, 0] rfl)
  · skip
    refine lv_iload_n hx hb dX10_arePromisesSound_10 rfl (lv_at hl 3 rfl) ?_
    refine lv_iload_n hx hb dX10_arePromisesSound_11 rfl (lv_at hl 2 rfl) ?_
    refine lv_icmp_ge (tgt := 78) hx hb dX10_arePromisesSound_12 (by decide) (fun c4 => ?_) (fun c4 => ?_)
    · exact absurd c4 (nI_ge (a := j1) (b := 90) hj2 (by decide))
    · skip
      refine lv_aload_n hx hb dX10_arePromisesSound_15 rfl (lv_at hl 1 rfl) ?_
      refine lv_iload_n hx hb dX10_arePromisesSound_16 rfl (lv_at hl 3 rfl) ?_
      refine va_aldq hx hb hK hP 4 3 rfl rfl (i := nI j1) (vp_in_nI hj2 (by decide)) dX10_arePromisesSound_17 ?_
      refine W.eq (g2 := F0 m 18 ls [.null]) rfl ?_
      refine lv_astoreN (lv' := [(4, .null), (0, .ref h0), (1, .ref a4), (2, .int 90), (3, .int (nI j1))]) hx hb dX10_arePromisesSound_18 hl (by decide) rfl (fun ls hl => ?_)
      refine lv_aloadN hx hb dX10_arePromisesSound_20 (lv_at hl 0 rfl) ?_
      refine lv_ifnullN (tgt := 72) hx hb dX10_arePromisesSound_22 (by decide) ?_
      refine lv_iinc (v := nI (j1 + 1)) (lv' := [(3, .int (nI (j1 + 1))), (4, .null), (0, .ref h0), (1, .ref a4), (2, .int 90)]) hx hb dX10_arePromisesSound_72 hl (k := 4) rfl (nI_1 _) (by decide) rfl (fun ls hl => ?_)
      refine lv_goto (tgt := 10) hx hb dX10_arePromisesSound_75 (by decide) ?_
      refine ih3 _ ?_
      exact lv_sub hl [2, 3, 4, 0] rfl
  · skip
    refine lv_iload_n hx hb dX10_arePromisesSound_10 rfl (lv_at hl 3 rfl) ?_
    refine lv_iload_n hx hb dX10_arePromisesSound_11 rfl (lv_at hl 2 rfl) ?_
    refine lv_icmp_ge (tgt := 78) hx hb dX10_arePromisesSound_12 (by decide) (fun c5 => ?_) (fun c5 => ?_)
    · skip
      refine lv_iconst (v := 1) hx hb dX10_arePromisesSound_78 (by decide) ?_
      exact W.zret (v := 1) (ty := .boolean) hx hb hr (by decide) (fun t ht hWm => ⟨_, rfl, rfl, ht⟩) (fun q h => absurd h List.not_mem_nil) dX10_arePromisesSound_79
    · exact absurd (nI_le (a := 90) (b := 90) (Nat.le_refl _) (by decide)) c5

set_option maxHeartbeats 4000000 in
set_option maxRecDepth 100000 in
theorem c_X10_areTracesSound (l : Launch) {D : va_G} {h0 a1 a2 a3 a4 a5 h6 s0 s1 s2 s3 : Nat} {t1 t2 t3 t4 t5 : ClassId} : Met l ⟨"Foundrymark", "areTracesSound", "()Z"⟩ (wsC ⟨"Foundrymark", "areTracesSound", "()Z"⟩ cX10_areTracesSound 5 (some .boolean)) ({ frames := 0, cells := 0, slots := 0, locals := 0 }) (va_Pc [.ref h0] (gR D (wX h0 a1 a2 a3 a4 a5 h6 s0 s1 s2 s3 t1 t2 t3 t4 t5) (tX t1 t2 t3 t4 t5))) (vp_Si (fun r => r = 1)) 0 0 (fun _ => False) := by
  refine Met.ofW (cc := cX10_areTracesSound) (maxL := 5) (ret := (some .boolean)) (by decide) rfl ?_
  intro p e s m args below meth c s₁ B hml hv
  obtain ⟨rfl, hP, hK⟩ := hv
  have hx := B.exec
  have hb := B.bytes
  have hr := B.returns
  have hlocks := B.notSynchronized
  have hts := atoms_spec (ws := wsC ⟨"Foundrymark", "areTracesSound", "()Z"⟩ cX10_areTracesSound 5 (some .boolean)) B.pre
  have hta : ∀ w ∈ WA, w.before _ s = true := fun w h => hts w (List.mem_cons_of_mem _ h)
  have hown : s.vm.findClass "Foundrymark" = some m.cls := findClass_of_methodNamed B.named
  have hP : va_P D vwCl (wX h0 a1 a2 a3 a4 a5 h6 s0 s1 s2 s3 t1 t2 t3 t4 t5) s.heap := hP
  have hl := lv_entry ([.ref h0]) (n := 5) (Nat.le_of_ble_eq_true rfl)
  rw [lg_entry_eq]
  generalize (lg_sl ([.ref h0]) ++ List.replicate (5 - (lg_sl ([.ref h0])).length) Slot.unset).toArray = ls at hl ⊢
  have hl : lv_has ls 5 [(0, .ref h0)] := hl
  refine lv_aload_n hx hb dX10_areTracesSound_0 rfl (lv_at hl 0 rfl) ?_
  refine va_get (D := D) (ci := 15) (v := .ref a4) (C := RX10) (T := TX10) (N := 14) hx hb hta iwX10 hown hK hP 0 rfl rfl 3 (by decide) (hta _ mw4) (fun _ h9 => h9) rfl dX10_areTracesSound_1 ?_
  refine lv_astore_n (lv' := [(1, .ref a4), (0, .ref h0)]) hx hb dX10_areTracesSound_4 rfl hl (by decide) rfl (fun ls hl => ?_)
  refine lv_aload_n hx hb dX10_areTracesSound_5 rfl (lv_at hl 0 rfl) ?_
  refine va_alen hx hb hK hP 4 3 rfl rfl (v := 90) rfl dX10_areTracesSound_6 ?_
  refine lv_istore_n (lv' := [(2, .int 90), (1, .ref a4), (0, .ref h0)]) hx hb dX10_areTracesSound_7 rfl hl (by decide) rfl (fun ls hl => ?_)
  refine lv_iconst (v := 0) hx hb dX10_areTracesSound_8 (by decide) ?_
  refine lv_istore_n (lv' := [(3, .int 0), (2, .int 90), (1, .ref a4), (0, .ref h0)]) hx hb dX10_areTracesSound_9 rfl hl (by decide) rfl (fun ls hl => ?_)
  refine loop_g (σ := Array Slot) (Wg := fun ls => W p l e _ s m _ below meth c _ _ _ _ _ (F0 m 10 ls [])) 90 (fun j1 ls => lv_has ls 5 [(0, .ref h0), (1, .ref a4), (2, .int 90), (3, .int (nI j1))]) (fun j1 hj2 ih3 ls hl => ?_) (fun ls hl => ?_) ls (lv_sub hl [3, 2, 1, 0] rfl)
  · skip
    refine lv_iload_n hx hb dX10_areTracesSound_10 rfl (lv_at hl 3 rfl) ?_
    refine lv_iload_n hx hb dX10_areTracesSound_11 rfl (lv_at hl 2 rfl) ?_
    refine lv_icmp_ge (tgt := 42) hx hb dX10_areTracesSound_12 (by decide) (fun c4 => ?_) (fun c4 => ?_)
    · exact absurd c4 (nI_ge (a := j1) (b := 90) hj2 (by decide))
    · skip
      refine lv_aload_n hx hb dX10_areTracesSound_15 rfl (lv_at hl 1 rfl) ?_
      refine lv_iload_n hx hb dX10_areTracesSound_16 rfl (lv_at hl 3 rfl) ?_
      refine va_aldq hx hb hK hP 4 3 rfl rfl (i := nI j1) (vp_in_nI hj2 (by decide)) dX10_areTracesSound_17 ?_
      refine W.eq (g2 := F0 m 18 ls [.null]) rfl ?_
      refine lv_astoreN (lv' := [(4, .null), (0, .ref h0), (1, .ref a4), (2, .int 90), (3, .int (nI j1))]) hx hb dX10_areTracesSound_18 hl (by decide) rfl (fun ls hl => ?_)
      refine lv_aloadN hx hb dX10_areTracesSound_20 (lv_at hl 0 rfl) ?_
      refine lv_ifnullN (tgt := 36) hx hb dX10_areTracesSound_22 (by decide) ?_
      refine lv_iinc (v := nI (j1 + 1)) (lv' := [(3, .int (nI (j1 + 1))), (4, .null), (0, .ref h0), (1, .ref a4), (2, .int 90)]) hx hb dX10_areTracesSound_36 hl (k := 4) rfl (nI_1 _) (by decide) rfl (fun ls hl => ?_)
      refine lv_goto (tgt := 10) hx hb dX10_areTracesSound_39 (by decide) ?_
      refine ih3 _ ?_
      exact lv_sub hl [2, 3, 4, 0] rfl
  · skip
    refine lv_iload_n hx hb dX10_areTracesSound_10 rfl (lv_at hl 3 rfl) ?_
    refine lv_iload_n hx hb dX10_areTracesSound_11 rfl (lv_at hl 2 rfl) ?_
    refine lv_icmp_ge (tgt := 42) hx hb dX10_areTracesSound_12 (by decide) (fun c5 => ?_) (fun c5 => ?_)
    · skip
      refine lv_iconst (v := 1) hx hb dX10_areTracesSound_42 (by decide) ?_
      exact W.zret (v := 1) (ty := .boolean) hx hb hr (by decide) (fun t ht hWm => ⟨_, rfl, rfl, ht⟩) (fun q h => absurd h List.not_mem_nil) dX10_areTracesSound_43
    · exact absurd (nI_le (a := 90) (b := 90) (Nat.le_refl _) (by decide)) c5

set_option maxHeartbeats 4000000 in
set_option maxRecDepth 100000 in
theorem c_X10_isSound (l : Launch) {D : va_G} {h0 a1 a2 a3 a4 a5 h6 s0 s1 s2 s3 : Nat} {t1 t2 t3 t4 t5 : ClassId} : Met l ⟨"Foundrymark", "isSound", "()Z"⟩ (wsC ⟨"Foundrymark", "isSound", "()Z"⟩ cX10_isSound 1 (some .boolean)) ({ frames := 1, cells := 0, slots := 0, locals := 26 }) (va_Pc [.ref h0] (gR D (wX h0 a1 a2 a3 a4 a5 h6 s0 s1 s2 s3 t1 t2 t3 t4 t5) (tX t1 t2 t3 t4 t5))) (vp_Si (fun r => r = 1)) 0 0 (fun _ => False) := by
  refine Met.ofW (cc := cX10_isSound) (maxL := 1) (ret := (some .boolean)) (by decide) rfl ?_
  intro p e s m args below meth c s₁ B hml hv
  obtain ⟨rfl, hP, hK⟩ := hv
  have hx := B.exec
  have hb := B.bytes
  have hr := B.returns
  have hlocks := B.notSynchronized
  have hts := atoms_spec (ws := wsC ⟨"Foundrymark", "isSound", "()Z"⟩ cX10_isSound 1 (some .boolean)) B.pre
  have hta : ∀ w ∈ WA, w.before _ s = true := fun w h => hts w (List.mem_cons_of_mem _ h)
  have hown : s.vm.findClass "Foundrymark" = some m.cls := findClass_of_methodNamed B.named
  have hP : va_P D vwCl (wX h0 a1 a2 a3 a4 a5 h6 s0 s1 s2 s3 t1 t2 t3 t4 t5) s.heap := hP
  have hl := lv_entry ([.ref h0]) (n := 1) (Nat.le_of_ble_eq_true rfl)
  rw [lg_entry_eq]
  generalize (lg_sl ([.ref h0]) ++ List.replicate (1 - (lg_sl ([.ref h0])).length) Slot.unset).toArray = ls at hl ⊢
  have hl : lv_has ls 1 [(0, .ref h0)] := hl
  refine lv_aload_n hx hb dX10_isSound_0 rfl (lv_at hl 0 rfl) ?_
  have hPc := hP.sub (ws' := (wX h0 a1 a2 a3 a4 a5 h6 s0 s1 s2 s3 t1 t2 t3 t4 t5)) [0, 1, 2, 3, 4, 5, 6, 7, 8, 9, 10] rfl
  have hKc := hK.sub (tys' := (tX t1 t2 t3 t4 t5)) [0, 1, 2, 3, 4] rfl
  refine vp_callSi (W.runV (As := []) (rest := []) ⟨hx, hb, hml, hown, hta⟩ (c_X10_areLotsSound l ) (cwV 0 hta (gWV mw33 mw34 mw35 mw10 mw32) rfl rfl rfl (by decide +kernel) ⟨Nat.le_of_ble_eq_true rfl, Nat.le_of_ble_eq_true rfl⟩) ⟨gR_blind, va_recv hKc hPc (ci := 15) (q0 := 0) rfl rfl, fun U hU hW => ⟨rfl, by rw [hU]; exact hPc, va_K.moved hW.alike hKc⟩⟩ rfl rfl hl.1 rfl (lv_room (Nat.le_of_ble_eq_true rfl)) dX10_isSound_1 ⟨Nat.le_of_ble_eq_true rfl, Nat.le_of_ble_eq_true rfl⟩) (fun r1 h2 => ?_)
  obtain rfl : r1 = 1 := h2
  refine lv_if_eq (tgt := 39) hx hb dX10_isSound_4 (by decide) (fun c3 => ?_) (fun c3 => ?_)
  · exact absurd c3 (by decide)
  · skip
    refine lv_aload_n hx hb dX10_isSound_7 rfl (lv_at hl 0 rfl) ?_
    have hPc := hP.sub (ws' := (wX h0 a1 a2 a3 a4 a5 h6 s0 s1 s2 s3 t1 t2 t3 t4 t5)) [0, 1, 2, 3, 4, 5, 6, 7, 8, 9, 10] rfl
    have hKc := hK.sub (tys' := (tX t1 t2 t3 t4 t5)) [0, 1, 2, 3, 4] rfl
    refine vp_callSi (W.runV (As := []) (rest := []) ⟨hx, hb, hml, hown, hta⟩ (c_X10_areJobsSound l ) (cwV 0 hta (gWV mw37 mw38 mw39 mw10 mw36) rfl rfl rfl (by decide +kernel) ⟨Nat.le_of_ble_eq_true rfl, Nat.le_of_ble_eq_true rfl⟩) ⟨gR_blind, va_recv hKc hPc (ci := 15) (q0 := 0) rfl rfl, fun U hU hW => ⟨rfl, by rw [hU]; exact hPc, va_K.moved hW.alike hKc⟩⟩ rfl rfl hl.1 rfl (lv_room (Nat.le_of_ble_eq_true rfl)) dX10_isSound_8 ⟨Nat.le_of_ble_eq_true rfl, Nat.le_of_ble_eq_true rfl⟩) (fun r4 h5 => ?_)
    obtain rfl : r4 = 1 := h5
    refine lv_if_eq (tgt := 39) hx hb dX10_isSound_11 (by decide) (fun c6 => ?_) (fun c6 => ?_)
    · exact absurd c6 (by decide)
    · skip
      refine lv_aload_n hx hb dX10_isSound_14 rfl (lv_at hl 0 rfl) ?_
      have hPc := hP.sub (ws' := (wX h0 a1 a2 a3 a4 a5 h6 s0 s1 s2 s3 t1 t2 t3 t4 t5)) [0, 1, 2, 3, 4, 5, 6, 7, 8, 9, 10] rfl
      have hKc := hK.sub (tys' := (tX t1 t2 t3 t4 t5)) [0, 1, 2, 3, 4] rfl
      refine vp_callSi (W.runV (As := []) (rest := []) ⟨hx, hb, hml, hown, hta⟩ (c_X10_areCostsSound l ) (cwV 0 hta (gWV mw41 mw42 mw43 mw10 mw40) rfl rfl rfl (by decide +kernel) ⟨Nat.le_of_ble_eq_true rfl, Nat.le_of_ble_eq_true rfl⟩) ⟨gR_blind, va_recv hKc hPc (ci := 15) (q0 := 0) rfl rfl, fun U hU hW => ⟨rfl, by rw [hU]; exact hPc, va_K.moved hW.alike hKc⟩⟩ rfl rfl hl.1 rfl (lv_room (Nat.le_of_ble_eq_true rfl)) dX10_isSound_15 ⟨Nat.le_of_ble_eq_true rfl, Nat.le_of_ble_eq_true rfl⟩) (fun r7 h8 => ?_)
      obtain rfl : r7 = 1 := h8
      refine lv_if_eq (tgt := 39) hx hb dX10_isSound_18 (by decide) (fun c9 => ?_) (fun c9 => ?_)
      · exact absurd c9 (by decide)
      · skip
        refine lv_aload_n hx hb dX10_isSound_21 rfl (lv_at hl 0 rfl) ?_
        have hPc := hP.sub (ws' := (wX h0 a1 a2 a3 a4 a5 h6 s0 s1 s2 s3 t1 t2 t3 t4 t5)) [0, 1, 2, 3, 4, 5, 6, 7, 8, 9, 10] rfl
        have hKc := hK.sub (tys' := (tX t1 t2 t3 t4 t5)) [0, 1, 2, 3, 4] rfl
        refine vp_callSi (W.runV (As := []) (rest := []) ⟨hx, hb, hml, hown, hta⟩ (c_X10_arePromisesSound l ) (cwV 0 hta (gWV mw45 mw46 mw47 mw10 mw44) rfl rfl rfl (by decide +kernel) ⟨Nat.le_of_ble_eq_true rfl, Nat.le_of_ble_eq_true rfl⟩) ⟨gR_blind, va_recv hKc hPc (ci := 15) (q0 := 0) rfl rfl, fun U hU hW => ⟨rfl, by rw [hU]; exact hPc, va_K.moved hW.alike hKc⟩⟩ rfl rfl hl.1 rfl (lv_room (Nat.le_of_ble_eq_true rfl)) dX10_isSound_22 ⟨Nat.le_of_ble_eq_true rfl, Nat.le_of_ble_eq_true rfl⟩) (fun r10 h11 => ?_)
        obtain rfl : r10 = 1 := h11
        refine lv_if_eq (tgt := 39) hx hb dX10_isSound_25 (by decide) (fun c12 => ?_) (fun c12 => ?_)
        · exact absurd c12 (by decide)
        · skip
          refine lv_aload_n hx hb dX10_isSound_28 rfl (lv_at hl 0 rfl) ?_
          have hPc := hP.sub (ws' := (wX h0 a1 a2 a3 a4 a5 h6 s0 s1 s2 s3 t1 t2 t3 t4 t5)) [0, 1, 2, 3, 4, 5, 6, 7, 8, 9, 10] rfl
          have hKc := hK.sub (tys' := (tX t1 t2 t3 t4 t5)) [0, 1, 2, 3, 4] rfl
          refine vp_callSi (W.runV (As := []) (rest := []) ⟨hx, hb, hml, hown, hta⟩ (c_X10_areTracesSound l ) (cwV 0 hta (gWV mw49 mw50 mw51 mw10 mw48) rfl rfl rfl (by decide +kernel) ⟨Nat.le_of_ble_eq_true rfl, Nat.le_of_ble_eq_true rfl⟩) ⟨gR_blind, va_recv hKc hPc (ci := 15) (q0 := 0) rfl rfl, fun U hU hW => ⟨rfl, by rw [hU]; exact hPc, va_K.moved hW.alike hKc⟩⟩ rfl rfl hl.1 rfl (lv_room (Nat.le_of_ble_eq_true rfl)) dX10_isSound_29 ⟨Nat.le_of_ble_eq_true rfl, Nat.le_of_ble_eq_true rfl⟩) (fun r13 h14 => ?_)
          obtain rfl : r13 = 1 := h14
          refine lv_if_eq (tgt := 39) hx hb dX10_isSound_32 (by decide) (fun c15 => ?_) (fun c15 => ?_)
          · exact absurd c15 (by decide)
          · skip
            refine lv_iconst (v := 1) hx hb dX10_isSound_35 (by decide) ?_
            refine lv_goto (tgt := 40) hx hb dX10_isSound_36 (by decide) ?_
            exact W.zret (v := 1) (ty := .boolean) hx hb hr (by decide) (fun t ht hWm => ⟨_, rfl, rfl, ht⟩) (fun q h => absurd h List.not_mem_nil) dX10_isSound_40
