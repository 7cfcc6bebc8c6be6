/-! the law, piece by piece (made by wip/gen/spec_y.py) -/
section GD
variable {p : Program} {l : Launch} {e : Env} {R : Room} {s : State} {m : MethodId} {args : Array Value} {below : List Frame} {meth : Method} {c : Code} {H : Heap} {locs : List Loc} {cells slots : Nat} {Q : State → Prop}
variable {pc : Nat} {ls : Array Slot} {rest : List Value} {D : va_G} {A : Nat → Prop} {H0 : Heap} {tA : Nat → ClassId} {S : St} {ad : Nat → Nat → Nat} {L : List Nat} {f : Nat → va_E}
variable {y : MethodName} {bytes cc : ByteArray} {maxL nL mc ms n index : Nat} {ret : Option FieldType} {ws : List Cond} {rm : Room} {Ts : List Cond} {own K : String} {b ci N : Nat} {T : u_T} {fs As st0 : List Value}
theorem gro_d {post : UInt64 → Prop} (Sx : CallFix p m c cc nL s args Ts own) (hM : Met l y ws rm (va_Pc (.ref b :: As) (gB D tA L f)) (vp_Sd post) 0 0 (fun _ => False)) (cw : CallW R s args own K index y bytes maxL ret ws rm 0 0 n)
    (hK : va_K D vwCl (gT tA) s) (hP : va_P D vwCl (va_pl L f) H) (hD : va_D A (va_pl L f)) {q : Nat} (hc : vwCl[ci]? = some (K, T, N)) (he : (va_pl L f)[q]? = some (b, .inr (ci, fs)))
    (hn : As.length = n) (hsize : ls.size = nL) (hst : st0 = As.reverse ++ .ref b :: rest) (hW : (rest.map fun v => v.category).sum ≤ 8) (hdg : decode cc pc = .ok (.invokevirtual index, 3)) (hf : cells + 0 ≤ R.cells ∧ slots + 0 ≤ R.slots)
    (kk : ∀ r : UInt64, post r → W p l e R s m args below meth c H locs cells slots Q (F0 m (pc + 3) ls (.double r :: rest))) : W p l e R s m args below meth c H locs cells slots Q (F0 m pc ls st0) :=
  vp_callSd (W.runV (As := As) (rest := rest) Sx hM cw (gPre hK hP hD hc he) rfl hn hsize hst (lv_room hW) hdg hf) kk
end GD
theorem nI_nno {n : Nat} (h : n < 2 ^ 31) : ¬ nI n = -3000000 := fun z => nI_pos h (by rw [z]; decide)
theorem to_nno {S : St} (hI : Inv S) {o : Nat} (ho : o < sN S 3 0) (h : ¬ sI S 63 o = -1) : ¬ sI S 63 o = -3000000 := fun z => by
  have k := (hI.1.2.2.2.2.2.2.1 o ho).2.2.2.2.2.1 h
  rw [z] at k
  exact absurd k (by decide)
set_option maxHeartbeats 8000000 in
set_option maxRecDepth 100000 in
/-- THE CHECKS behind a turn -/
theorem lw_check {p : Program} {e : Env} {s : State} {m : MethodId} {below : List Frame} {meth : Method} {c : Code} (l : Launch) {b Ln : Nat} {xs : Nat → Int32} {A : Nat → Prop} {D : va_G} {tA : Nat → ClassId} (C : LwC p l s m meth c b Ln xs A D tA) {S : St} {ad : Nat → Nat → Nat} {L : List Nat} {f : Nat → va_E} {H : Heap} {locs : List Loc} {ls : Array Slot} {cells slots : Nat} (hI : Inv S) (hR : Rep tA S ad L f) (hP : va_P D vwCl (va_pl L f) H) (hD : va_D A (va_pl L f)) (hS : va_S A s.heap H locs) {tu : Nat} (h1 : 1 ≤ nMc S) (h3 : nMc S ≤ 3) (ht : (sI S 2 0).toInt ≤ 720) (hl : lv_has ls 19 [(0, .ref b), (1, .ref (ad 0 0)), (2, .int (nI (sN S 3 0))), (3, .int (nI (sN S 0 0))), (4, .int (sI S 2 0)), (5, .long (sJ S 1 0)), (7, .int (nI tu))]) (hc : cells + 400 ≤ 621943) (hsl : slots + 2000 ≤ 7227368) (kk : ∀ (H : Heap) (locs : List Loc) (f : Nat → va_E) (ls : Array Slot) (ce sl : Nat), va_P D vwCl (va_pl L f) H → va_D A (va_pl L f) → va_S A s.heap H locs → Rep tA S ad L f → lv_has ls 19 [(0, .ref b), (1, .ref (ad 0 0)), (2, .int (nI (sN S 3 0))), (3, .int (nI (sN S 0 0))), (4, .int (sI S 2 0)), (5, .long (sJ S 1 0)), (7, .int (nI tu))] → ce ≤ cells + 400 → sl ≤ slots + 2000 → W p l e room_1 s m #[Value.ref b] below meth c H locs ce sl (lw_Z below #[Value.ref b] s) (F0 m 1344 ls [])) : W p l e room_1 s m #[Value.ref b] below meth c H locs cells slots (lw_Z below #[Value.ref b] s) (F0 m 1085 ls []) := by
  obtain ⟨C0, hL, hA, hA2, hX, hQ, hK, hl0⟩ := id C
  obtain ⟨hx, hb, hr, hml, hown0, hts, hXs, hbl, hlocks, hgv⟩ := id C0
  have hta : ∀ w ∈ WA, w.before #[Value.ref b] s = true := fun w h => hts w (WA_in w h)
  have hown : s.vm.findClass RL = some m.cls := hown0
  have hbA : ¬ A b := fun h => absurd (hA2 b h) (Nat.not_le.mpr hbl)
  have hW := hI.1.1
  have hz : ¬ nI (sN S 0 0) = 0 := nI_ne0 h1 (by have : sN S 0 0 ≤ 3 := h3; omega)
  have hmb := ck_mb hI h1 h3 ht
  refine lv_lconst (v := 0) hx hb dL_law_1085 (by decide) ?_
  refine lv_lstore (lv' := [(12, .long 0), (0, .ref b), (1, .ref (ad 0 0)), (2, .int (nI (sN S 3 0))), (3, .int (nI (sN S 0 0))), (4, .int (sI S 2 0)), (5, .long (sJ S 1 0)), (7, .int (nI tu))]) hx hb dL_law_1086 hl (by decide) rfl (fun ls hl => ?_)
  refine lv_iconst (v := 0) hx hb dL_law_1088 (by decide) ?_
  refine lv_istore (lv' := [(14, .int 0), (12, .long 0), (0, .ref b), (1, .ref (ad 0 0)), (2, .int (nI (sN S 3 0))), (3, .int (nI (sN S 0 0))), (4, .int (sI S 2 0)), (5, .long (sJ S 1 0)), (7, .int (nI tu))]) hx hb dL_law_1089 hl (by decide) rfl (fun ls hl => ?_)
  refine lv_iconst (v := 0) hx hb dL_law_1091 (by decide) ?_
  refine lv_istore (lv' := [(15, .int 0), (14, .int 0), (12, .long 0), (0, .ref b), (1, .ref (ad 0 0)), (2, .int (nI (sN S 3 0))), (3, .int (nI (sN S 0 0))), (4, .int (sI S 2 0)), (5, .long (sJ S 1 0)), (7, .int (nI tu))]) hx hb dL_law_1092 hl (by decide) rfl (fun ls hl => ?_)
  refine loop_g (σ := Array Slot) (Wg := fun ls => W p l e _ s m _ below meth c _ _ _ _ _ (F0 m 1094 ls [])) (sN S 2 0) (fun j1 ls => lv_has ls 19 [(0, .ref b), (1, .ref (ad 0 0)), (2, .int (nI (sN S 3 0))), (3, .int (nI (sN S 0 0))), (4, .int (sI S 2 0)), (5, .long (sJ S 1 0)), (7, .int (nI tu)), (12, .long (cS S j1)), (14, .int 0), (15, .int (nI j1))]) (fun j1 hj2 ih3 ls hl => ?_) (fun ls hl => ?_) ls (lv_sub hl [3, 4, 5, 6, 7, 8, 9, 2, 1, 0] rfl)
  · skip
    refine lv_iload hx hb dL_law_1094 (lv_at hl 9 rfl) ?_
    refine lv_aload_n hx hb dL_law_1096 rfl (lv_at hl 1 rfl) ?_
    obtain ⟨q4, e5⟩ := cell_0 hR (rfl : (0 : Nat) = 0)
    refine gro_i (ci := 12) (As := []) (rest := [.int (nI j1)]) ⟨hx, hb, hml, hown, hta⟩ (c_X10_lots l hR ) (cwV 0 hta (gWV mw110 mw111 mw112 mw40 mw113) rfl rfl rfl (by decide +kernel) ⟨Nat.le_of_ble_eq_true rfl, Nat.le_of_ble_eq_true rfl⟩) hK hP hD rfl e5 rfl hl.1 rfl (Nat.le_of_ble_eq_true rfl) dL_law_1097 ⟨(by show cells + 0 ≤ 621943; omega), (by show slots + 0 ≤ 7227368; omega)⟩ (fun r6 c7 => ?_)
    obtain rfl := c7
    refine lv_icmp_ge (tgt := 1120) hx hb dL_law_1100 (by decide) (fun c8 => ?_) (fun c8 => ?_)
    · exact absurd c8 (nI_ge (a := j1) (b := sN S 2 0) hj2 (by have := hW.nL; omega))
    · skip
      refine lv_lload hx hb dL_law_1103 (lv_at hl 7 rfl) ?_
      refine lv_aload_n hx hb dL_law_1105 rfl (lv_at hl 1 rfl) ?_
      refine lv_iload hx hb dL_law_1106 (lv_at hl 9 rfl) ?_
      refine vp_callSl (run_of (vx_runSW (g := F0 m 1108 ls [.int (nI j1), .ref (ad 0 0), .long (cS S j1)]) (As := [.ref (ad 0 0), .int (nI j1)]) (rest := [.long (cS S j1)]) ⟨hx, hb, hml, hown, hta⟩ (c_L_costOf l hR hW hj2) (vx_cwSW 2 hta (gWSW mw491 mw492 mw39 mw493) rfl rfl rfl (by decide +kernel) ⟨Nat.le_of_ble_eq_true rfl, Nat.le_of_ble_eq_true rfl⟩) (gPreB hK hP hD) rfl rfl hl.1 rfl (lv_room (Nat.le_of_ble_eq_true rfl)) dL_law_1108 ⟨(by show cells + 0 ≤ 621943; omega), (by show slots + 0 ≤ 7227368; omega)⟩)) (fun r9 c10 => ?_)
      obtain rfl := c10
      refine lv_ladd hx hb dL_law_1111 ?_
      refine lv_lstore (lv' := [(12, .long ((cS S j1) + (sJ S 3 j1))), (0, .ref b), (1, .ref (ad 0 0)), (2, .int (nI (sN S 3 0))), (3, .int (nI (sN S 0 0))), (4, .int (sI S 2 0)), (5, .long (sJ S 1 0)), (7, .int (nI tu)), (14, .int 0), (15, .int (nI j1))]) hx hb dL_law_1112 hl (by decide) rfl (fun ls hl => ?_)
      refine lv_iinc (v := nI (j1 + 1)) (lv' := [(15, .int (nI (j1 + 1))), (12, .long ((cS S j1) + (sJ S 3 j1))), (0, .ref b), (1, .ref (ad 0 0)), (2, .int (nI (sN S 3 0))), (3, .int (nI (sN S 0 0))), (4, .int (sI S 2 0)), (5, .long (sJ S 1 0)), (7, .int (nI tu)), (14, .int 0)]) hx hb dL_law_1114 hl (k := 9) rfl (nI_1 _) (by decide) rfl (fun ls hl => ?_)
      refine lv_goto (tgt := 1094) hx hb dL_law_1117 (by decide) ?_
      refine ih3 _ ?_
      have a8 : cS S ((j1 + 1)) = (cS S j1) + (sJ S 3 j1) := rfl
      rw [a8]
      exact lv_sub hl [2, 3, 4, 5, 6, 7, 8, 1, 9, 0] rfl
  · skip
    refine lv_iload hx hb dL_law_1094 (lv_at hl 9 rfl) ?_
    refine lv_aload_n hx hb dL_law_1096 rfl (lv_at hl 1 rfl) ?_
    obtain ⟨q11, e12⟩ := cell_0 hR (rfl : (0 : Nat) = 0)
    refine gro_i (ci := 12) (As := []) (rest := [.int (nI (sN S 2 0))]) ⟨hx, hb, hml, hown, hta⟩ (c_X10_lots l hR ) (cwV 0 hta (gWV mw110 mw111 mw112 mw40 mw113) rfl rfl rfl (by decide +kernel) ⟨Nat.le_of_ble_eq_true rfl, Nat.le_of_ble_eq_true rfl⟩) hK hP hD rfl e12 rfl hl.1 rfl (Nat.le_of_ble_eq_true rfl) dL_law_1097 ⟨(by show cells + 0 ≤ 621943; omega), (by show slots + 0 ≤ 7227368; omega)⟩ (fun r13 c14 => ?_)
    obtain rfl := c14
    refine lv_icmp_ge (tgt := 1120) hx hb dL_law_1100 (by decide) (fun c15 => ?_) (fun c15 => ?_)
    · skip
      refine lv_iconst (v := 0) hx hb dL_law_1120 (by decide) ?_
      refine lv_istore (lv' := [(15, .int 0), (0, .ref b), (1, .ref (ad 0 0)), (2, .int (nI (sN S 3 0))), (3, .int (nI (sN S 0 0))), (4, .int (sI S 2 0)), (5, .long (sJ S 1 0)), (7, .int (nI tu)), (12, .long (cS S (sN S 2 0))), (14, .int 0)]) hx hb dL_law_1121 hl (by decide) rfl (fun ls hl => ?_)
      refine lv_iconst (v := 0) hx hb dL_law_1123 (by decide) ?_
      refine lv_istore (lv' := [(16, .int 0), (15, .int 0), (0, .ref b), (1, .ref (ad 0 0)), (2, .int (nI (sN S 3 0))), (3, .int (nI (sN S 0 0))), (4, .int (sI S 2 0)), (5, .long (sJ S 1 0)), (7, .int (nI tu)), (12, .long (cS S (sN S 2 0))), (14, .int 0)]) hx hb dL_law_1124 hl (by decide) rfl (fun ls hl => ?_)
      refine lv_iconst (v := 0) hx hb dL_law_1126 (by decide) ?_
      refine lv_istore (lv' := [(17, .int 0), (16, .int 0), (15, .int 0), (0, .ref b), (1, .ref (ad 0 0)), (2, .int (nI (sN S 3 0))), (3, .int (nI (sN S 0 0))), (4, .int (sI S 2 0)), (5, .long (sJ S 1 0)), (7, .int (nI tu)), (12, .long (cS S (sN S 2 0))), (14, .int 0)]) hx hb dL_law_1127 hl (by decide) rfl (fun ls hl => ?_)
      refine loop_g (σ := Heap × List Loc × (Nat → va_E) × Array Slot × Nat × Nat) (Wg := fun z => W p l e _ s m _ below meth c z.1 z.2.1 z.2.2.2.2.1 z.2.2.2.2.2 _ (F0 m 1129 z.2.2.2.1 [])) (sN S 3 0) (fun j16 z => va_P D vwCl (va_pl L z.2.2.1) z.1 ∧ va_D A (va_pl L z.2.2.1) ∧ va_S A s.heap z.1 z.2.1 ∧ Rep tA S ad L z.2.2.1 ∧ z.2.2.2.2.1 ≤ cells + 2 * j16 ∧ z.2.2.2.2.2 ≤ slots + 12 * j16 ∧ lv_has z.2.2.2.1 19 [(0, .ref b), (1, .ref (ad 0 0)), (2, .int (nI (sN S 3 0))), (3, .int (nI (sN S 0 0))), (4, .int (sI S 2 0)), (5, .long (sJ S 1 0)), (7, .int (nI tu)), (12, .long (oS S j16)), (14, .int (unS S j16)), (15, .int (dgS S j16)), (16, .int 0), (17, .int (nI j16))]) (fun j16 hj17 ih18 z hz => ?_) (fun z hz => ?_) (_, _, f, ls, _, _) ⟨hP, hD, hS, hR, (by (try dsimp only); omega), (by (try dsimp only); omega), lv_sub hl [3, 4, 5, 6, 7, 8, 9, 10, 11, 2, 1, 0] rfl⟩
      · skip
        obtain ⟨H, locs, f, ls, ce19, sl20⟩ := z
        obtain ⟨hP, hD, hS, hR, hce21, hsl22, hl⟩ := hz
        dsimp only at hP hD hS hR hl hce21 hsl22 ⊢
        have hn9 := hW.nO
        refine lv_iload hx hb dL_law_1129 (lv_at hl 11 rfl) ?_
        refine lv_iload_n hx hb dL_law_1131 rfl (lv_at hl 2 rfl) ?_
        refine lv_icmp_ge (tgt := 1259) hx hb dL_law_1132 (by decide) (fun c23 => ?_) (fun c23 => ?_)
        · exact absurd c23 (nI_ge (a := j16) (b := sN S 3 0) hj17 (by have := hW.nO; omega))
        · skip
          refine lv_aload_n hx hb dL_law_1135 rfl (lv_at hl 1 rfl) ?_
          refine lv_iload hx hb dL_law_1136 (lv_at hl 11 rfl) ?_
          refine vp_callSi (run_of (vx_runSW (g := F0 m 1138 ls [.int (nI j16), .ref (ad 0 0)]) (As := [.ref (ad 0 0), .int (nI j16)]) (rest := []) ⟨hx, hb, hml, hown, hta⟩ (c_L_stateOf l hR hW hj17 (to_nar hI hj17)) (vx_cwSW 2 hta (gWSW mw627 mw628 mw39 mw629) rfl rfl rfl (by decide +kernel) ⟨Nat.le_of_ble_eq_true rfl, Nat.le_of_ble_eq_true rfl⟩) (gPreB hK hP hD) rfl rfl hl.1 rfl (lv_room (Nat.le_of_ble_eq_true rfl)) dL_law_1138 ⟨(by show ce19 + 0 ≤ 621943; omega), (by show sl20 + 0 ≤ 7227368; omega)⟩)) (fun r24 c25 => ?_)
          obtain rfl := c25
          refine lv_istore (lv' := [(18, .int (sI S 53 j16)), (0, .ref b), (1, .ref (ad 0 0)), (2, .int (nI (sN S 3 0))), (3, .int (nI (sN S 0 0))), (4, .int (sI S 2 0)), (5, .long (sJ S 1 0)), (7, .int (nI tu)), (12, .long (oS S j16)), (14, .int (unS S j16)), (15, .int (dgS S j16)), (16, .int 0), (17, .int (nI j16))]) hx hb dL_law_1141 hl (by decide) rfl (fun ls hl => ?_)
          refine lv_lload hx hb dL_law_1143 (lv_at hl 8 rfl) ?_
          refine lv_iload hx hb dL_law_1145 (lv_at hl 0 rfl) ?_
          refine lv_bipush (v := 100) hx hb dL_law_1147 (by decide) ?_
          refine lv_icmp_ne (tgt := 1161) hx hb dL_law_1149 (by decide) (fun c26 => ?_) (fun c26 => ?_)
          · skip
            refine lv_lconst (v := 0) hx hb dL_law_1161 (by decide) ?_
            refine lv_ladd hx hb dL_law_1162 ?_
            refine lv_lstore (lv' := [(12, .long ((oS S j16) + 0)), (18, .int (sI S 53 j16)), (0, .ref b), (1, .ref (ad 0 0)), (2, .int (nI (sN S 3 0))), (3, .int (nI (sN S 0 0))), (4, .int (sI S 2 0)), (5, .long (sJ S 1 0)), (7, .int (nI tu)), (14, .int (unS S j16)), (15, .int (dgS S j16)), (16, .int 0), (17, .int (nI j16))]) hx hb dL_law_1163 hl (by decide) rfl (fun ls hl => ?_)
            refine lv_iload hx hb dL_law_1165 (lv_at hl 9 rfl) ?_
            refine lv_iload hx hb dL_law_1167 (lv_at hl 1 rfl) ?_
            refine lv_bipush (v := 119) hx hb dL_law_1169 (by decide) ?_
            refine lv_icmp_eq (tgt := 1228) hx hb dL_law_1171 (by decide) (fun c27 => ?_) (fun c27 => ?_)
            · skip
              refine lv_iconst (v := 1) hx hb dL_law_1228 (by decide) ?_
              refine lv_goto (tgt := 1233) hx hb dL_law_1229 (by decide) ?_
              refine lv_ior hx hb dL_law_1233 ?_
              refine lv_istore (lv' := [(14, .int ((unS S j16) ||| 1)), (12, .long ((oS S j16) + 0)), (18, .int (sI S 53 j16)), (0, .ref b), (1, .ref (ad 0 0)), (2, .int (nI (sN S 3 0))), (3, .int (nI (sN S 0 0))), (4, .int (sI S 2 0)), (5, .long (sJ S 1 0)), (7, .int (nI tu)), (15, .int (dgS S j16)), (16, .int 0), (17, .int (nI j16))]) hx hb dL_law_1234 hl (by decide) rfl (fun ls hl => ?_)
              refine lv_iload hx hb dL_law_1236 (lv_at hl 10 rfl) ?_
              refine lv_iload hx hb dL_law_1238 (lv_at hl 2 rfl) ?_
              refine lv_bipush (v := 111) hx hb dL_law_1240 (by decide) ?_
              refine lv_icmp_ne (tgt := 1249) hx hb dL_law_1242 (by decide) (fun c28 => ?_) (fun c28 => ?_)
              · skip
                refine lv_iconst (v := 0) hx hb dL_law_1249 (by decide) ?_
                refine lv_iadd hx hb dL_law_1250 ?_
                refine lv_istore (lv' := [(15, .int ((dgS S j16) + 0)), (14, .int ((unS S j16) ||| 1)), (12, .long ((oS S j16) + 0)), (18, .int (sI S 53 j16)), (0, .ref b), (1, .ref (ad 0 0)), (2, .int (nI (sN S 3 0))), (3, .int (nI (sN S 0 0))), (4, .int (sI S 2 0)), (5, .long (sJ S 1 0)), (7, .int (nI tu)), (16, .int 0), (17, .int (nI j16))]) hx hb dL_law_1251 hl (by decide) rfl (fun ls hl => ?_)
                refine lv_iinc (v := nI (j16 + 1)) (lv' := [(17, .int (nI (j16 + 1))), (15, .int ((dgS S j16) + 0)), (14, .int ((unS S j16) ||| 1)), (12, .long ((oS S j16) + 0)), (18, .int (sI S 53 j16)), (0, .ref b), (1, .ref (ad 0 0)), (2, .int (nI (sN S 3 0))), (3, .int (nI (sN S 0 0))), (4, .int (sI S 2 0)), (5, .long (sJ S 1 0)), (7, .int (nI tu)), (16, .int 0)]) hx hb dL_law_1253 hl (k := 12) rfl (nI_1 _) (by decide) rfl (fun ls hl => ?_)
                refine lv_goto (tgt := 1129) hx hb dL_law_1256 (by decide) ?_
                refine ih18 (_, _, f, ls, _, _) ⟨hP, hD, hS, hR, ?_, ?_, ?_⟩
                · (try dsimp only); omega
                · (try dsimp only); omega
                · skip
                  have a8 : oS S ((j16 + 1)) = (oS S j16) + 0 := (oS_f c26)
                  dsimp only; rw [a8]
                  have a8 : unS S ((j16 + 1)) = (unS S j16) ||| 1 := (un_w c27)
                  rw [a8]
                  have a8 : dgS S ((j16 + 1)) = (dgS S j16) + 0 := (do_f c28)
                  rw [a8]
                  exact lv_sub hl [5, 6, 7, 8, 9, 10, 11, 3, 2, 1, 12, 0] rfl
              · exact absurd c28 (i_ne c27 (by decide))
            · skip
              refine lv_iload hx hb dL_law_1174 (lv_at hl 1 rfl) ?_
              refine lv_bipush (v := 111) hx hb dL_law_1176 (by decide) ?_
              refine lv_icmp_eq (tgt := 1228) hx hb dL_law_1178 (by decide) (fun c29 => ?_) (fun c29 => ?_)
              · skip
                refine lv_iconst (v := 1) hx hb dL_law_1228 (by decide) ?_
                refine lv_goto (tgt := 1233) hx hb dL_law_1229 (by decide) ?_
                refine lv_ior hx hb dL_law_1233 ?_
                refine lv_istore (lv' := [(14, .int ((unS S j16) ||| 1)), (12, .long ((oS S j16) + 0)), (18, .int (sI S 53 j16)), (0, .ref b), (1, .ref (ad 0 0)), (2, .int (nI (sN S 3 0))), (3, .int (nI (sN S 0 0))), (4, .int (sI S 2 0)), (5, .long (sJ S 1 0)), (7, .int (nI tu)), (15, .int (dgS S j16)), (16, .int 0), (17, .int (nI j16))]) hx hb dL_law_1234 hl (by decide) rfl (fun ls hl => ?_)
                refine lv_iload hx hb dL_law_1236 (lv_at hl 10 rfl) ?_
                refine lv_iload hx hb dL_law_1238 (lv_at hl 2 rfl) ?_
                refine lv_bipush (v := 111) hx hb dL_law_1240 (by decide) ?_
                refine lv_icmp_ne (tgt := 1249) hx hb dL_law_1242 (by decide) (fun c30 => ?_) (fun c30 => ?_)
                · exact absurd c30 (fun q => q c29)
                · skip
                  refine lv_iconst (v := 1) hx hb dL_law_1245 (by decide) ?_
                  refine lv_goto (tgt := 1250) hx hb dL_law_1246 (by decide) ?_
                  refine lv_iadd hx hb dL_law_1250 ?_
                  refine lv_istore (lv' := [(15, .int ((dgS S j16) + 1)), (14, .int ((unS S j16) ||| 1)), (12, .long ((oS S j16) + 0)), (18, .int (sI S 53 j16)), (0, .ref b), (1, .ref (ad 0 0)), (2, .int (nI (sN S 3 0))), (3, .int (nI (sN S 0 0))), (4, .int (sI S 2 0)), (5, .long (sJ S 1 0)), (7, .int (nI tu)), (16, .int 0), (17, .int (nI j16))]) hx hb dL_law_1251 hl (by decide) rfl (fun ls hl => ?_)
                  refine lv_iinc (v := nI (j16 + 1)) (lv' := [(17, .int (nI (j16 + 1))), (15, .int ((dgS S j16) + 1)), (14, .int ((unS S j16) ||| 1)), (12, .long ((oS S j16) + 0)), (18, .int (sI S 53 j16)), (0, .ref b), (1, .ref (ad 0 0)), (2, .int (nI (sN S 3 0))), (3, .int (nI (sN S 0 0))), (4, .int (sI S 2 0)), (5, .long (sJ S 1 0)), (7, .int (nI tu)), (16, .int 0)]) hx hb dL_law_1253 hl (k := 12) rfl (nI_1 _) (by decide) rfl (fun ls hl => ?_)
                  refine lv_goto (tgt := 1129) hx hb dL_law_1256 (by decide) ?_
                  refine ih18 (_, _, f, ls, _, _) ⟨hP, hD, hS, hR, ?_, ?_, ?_⟩
                  · (try dsimp only); omega
                  · (try dsimp only); omega
                  · skip
                    have a8 : oS S ((j16 + 1)) = (oS S j16) + 0 := (oS_f c26)
                    dsimp only; rw [a8]
                    have a8 : unS S ((j16 + 1)) = (unS S j16) ||| 1 := (un_o c29)
                    rw [a8]
                    have a8 : dgS S ((j16 + 1)) = (dgS S j16) + 1 := (do_t c29)
                    rw [a8]
                    exact lv_sub hl [5, 6, 7, 8, 9, 10, 11, 3, 2, 1, 12, 0] rfl
              · skip
                refine lv_iload hx hb dL_law_1181 (lv_at hl 1 rfl) ?_
                refine lv_bipush (v := 102) hx hb dL_law_1183 (by decide) ?_
                refine lv_icmp_ne (tgt := 1199) hx hb dL_law_1185 (by decide) (fun c31 => ?_) (fun c31 => ?_)
                · skip
                  refine lv_iload hx hb dL_law_1199 (lv_at hl 1 rfl) ?_
                  refine lv_bipush (v := 100) hx hb dL_law_1201 (by decide) ?_
                  refine lv_icmp_ne (tgt := 1232) hx hb dL_law_1203 (by decide) (fun c32 => ?_) (fun c32 => ?_)
                  · skip
                    refine lv_iconst (v := 0) hx hb dL_law_1232 (by decide) ?_
                    refine lv_ior hx hb dL_law_1233 ?_
                    refine lv_istore (lv' := [(14, .int ((unS S j16) ||| 0)), (12, .long ((oS S j16) + 0)), (18, .int (sI S 53 j16)), (0, .ref b), (1, .ref (ad 0 0)), (2, .int (nI (sN S 3 0))), (3, .int (nI (sN S 0 0))), (4, .int (sI S 2 0)), (5, .long (sJ S 1 0)), (7, .int (nI tu)), (15, .int (dgS S j16)), (16, .int 0), (17, .int (nI j16))]) hx hb dL_law_1234 hl (by decide) rfl (fun ls hl => ?_)
                    refine lv_iload hx hb dL_law_1236 (lv_at hl 10 rfl) ?_
                    refine lv_iload hx hb dL_law_1238 (lv_at hl 2 rfl) ?_
                    refine lv_bipush (v := 111) hx hb dL_law_1240 (by decide) ?_
                    refine lv_icmp_ne (tgt := 1249) hx hb dL_law_1242 (by decide) (fun c33 => ?_) (fun c33 => ?_)
                    · skip
                      refine lv_iconst (v := 0) hx hb dL_law_1249 (by decide) ?_
                      refine lv_iadd hx hb dL_law_1250 ?_
                      refine lv_istore (lv' := [(15, .int ((dgS S j16) + 0)), (14, .int ((unS S j16) ||| 0)), (12, .long ((oS S j16) + 0)), (18, .int (sI S 53 j16)), (0, .ref b), (1, .ref (ad 0 0)), (2, .int (nI (sN S 3 0))), (3, .int (nI (sN S 0 0))), (4, .int (sI S 2 0)), (5, .long (sJ S 1 0)), (7, .int (nI tu)), (16, .int 0), (17, .int (nI j16))]) hx hb dL_law_1251 hl (by decide) rfl (fun ls hl => ?_)
                      refine lv_iinc (v := nI (j16 + 1)) (lv' := [(17, .int (nI (j16 + 1))), (15, .int ((dgS S j16) + 0)), (14, .int ((unS S j16) ||| 0)), (12, .long ((oS S j16) + 0)), (18, .int (sI S 53 j16)), (0, .ref b), (1, .ref (ad 0 0)), (2, .int (nI (sN S 3 0))), (3, .int (nI (sN S 0 0))), (4, .int (sI S 2 0)), (5, .long (sJ S 1 0)), (7, .int (nI tu)), (16, .int 0)]) hx hb dL_law_1253 hl (k := 12) rfl (nI_1 _) (by decide) rfl (fun ls hl => ?_)
                      refine lv_goto (tgt := 1129) hx hb dL_law_1256 (by decide) ?_
                      refine ih18 (_, _, f, ls, _, _) ⟨hP, hD, hS, hR, ?_, ?_, ?_⟩
                      · (try dsimp only); omega
                      · (try dsimp only); omega
                      · skip
                        have a8 : oS S ((j16 + 1)) = (oS S j16) + 0 := (oS_f c26)
                        dsimp only; rw [a8]
                        have a8 : unS S ((j16 + 1)) = (unS S j16) ||| 0 := (un_x c27 c29 c31 c26)
                        rw [a8]
                        have a8 : dgS S ((j16 + 1)) = (dgS S j16) + 0 := (do_f c29)
                        rw [a8]
                        exact lv_sub hl [5, 6, 7, 8, 9, 10, 11, 3, 2, 1, 12, 0] rfl
                    · exact absurd c33 c29
                  · exact absurd c32 c26
                · skip
                  refine lv_aload_n hx hb dL_law_1188 rfl (lv_at hl 3 rfl) ?_
                  refine lv_iload hx hb dL_law_1189 (lv_at hl 12 rfl) ?_
                  rcases h34 : sR S 4 j16 with _ | o35
                  · skip
                    refine gsw_i (vx_runSW (g := F0 m 1191 ls [.int (nI j16), .ref (ad 0 0), .int (unS S j16)]) (As := [.ref (ad 0 0), .int (nI j16)]) (rest := [.int (unS S j16)]) ⟨hx, hb, hml, hown, hta⟩ (c_L_lotOfX l hl0 hR hW hj17 h34) (vx_cwSW 2 hta (gWSW mw634 mw635 mw39 mw636) rfl rfl rfl (by decide +kernel) ⟨Nat.le_of_ble_eq_true rfl, Nat.le_of_ble_eq_true rfl⟩) (gPreW hX hQ hK hP hD hS hA) rfl rfl hl.1 rfl (lv_room (Nat.le_of_ble_eq_true rfl)) dL_law_1191 ⟨(by show ce19 + 1 ≤ 621943; omega), (by show sl20 + 6 ≤ 7227368; omega)⟩) hD hS hA (fun r36 u H locs c37 hR hP hD hS => ?_)
                    obtain ⟨S9, ad9, L9, f⟩ := u
                    obtain ⟨rfl, rfl, rfl, rfl⟩ := c37
                    dsimp only at hR hP hD
                    refine lv_ldc (own := RL) (index := 94) (v := -3000000) hx hb hown (hta _ mw649) dL_law_1194 ?_
                    refine lv_icmp_eq (tgt := 1228) hx hb dL_law_1196 (by decide) (fun c38 => ?_) (fun c38 => ?_)
                    · skip
                      refine lv_iconst (v := 1) hx hb dL_law_1228 (by decide) ?_
                      refine lv_goto (tgt := 1233) hx hb dL_law_1229 (by decide) ?_
                      refine lv_ior hx hb dL_law_1233 ?_
                      refine lv_istore (lv' := [(14, .int ((unS S j16) ||| 1)), (12, .long ((oS S j16) + 0)), (18, .int (sI S 53 j16)), (0, .ref b), (1, .ref (ad 0 0)), (2, .int (nI (sN S 3 0))), (3, .int (nI (sN S 0 0))), (4, .int (sI S 2 0)), (5, .long (sJ S 1 0)), (7, .int (nI tu)), (15, .int (dgS S j16)), (16, .int 0), (17, .int (nI j16))]) hx hb dL_law_1234 hl (by decide) rfl (fun ls hl => ?_)
                      refine lv_iload hx hb dL_law_1236 (lv_at hl 10 rfl) ?_
                      refine lv_iload hx hb dL_law_1238 (lv_at hl 2 rfl) ?_
                      refine lv_bipush (v := 111) hx hb dL_law_1240 (by decide) ?_
                      refine lv_icmp_ne (tgt := 1249) hx hb dL_law_1242 (by decide) (fun c39 => ?_) (fun c39 => ?_)
                      · skip
                        refine lv_iconst (v := 0) hx hb dL_law_1249 (by decide) ?_
                        refine lv_iadd hx hb dL_law_1250 ?_
                        refine lv_istore (lv' := [(15, .int ((dgS S j16) + 0)), (14, .int ((unS S j16) ||| 1)), (12, .long ((oS S j16) + 0)), (18, .int (sI S 53 j16)), (0, .ref b), (1, .ref (ad 0 0)), (2, .int (nI (sN S 3 0))), (3, .int (nI (sN S 0 0))), (4, .int (sI S 2 0)), (5, .long (sJ S 1 0)), (7, .int (nI tu)), (16, .int 0), (17, .int (nI j16))]) hx hb dL_law_1251 hl (by decide) rfl (fun ls hl => ?_)
                        refine lv_iinc (v := nI (j16 + 1)) (lv' := [(17, .int (nI (j16 + 1))), (15, .int ((dgS S j16) + 0)), (14, .int ((unS S j16) ||| 1)), (12, .long ((oS S j16) + 0)), (18, .int (sI S 53 j16)), (0, .ref b), (1, .ref (ad 0 0)), (2, .int (nI (sN S 3 0))), (3, .int (nI (sN S 0 0))), (4, .int (sI S 2 0)), (5, .long (sJ S 1 0)), (7, .int (nI tu)), (16, .int 0)]) hx hb dL_law_1253 hl (k := 12) rfl (nI_1 _) (by decide) rfl (fun ls hl => ?_)
                        refine lv_goto (tgt := 1129) hx hb dL_law_1256 (by decide) ?_
                        refine ih18 (_, _, f, ls, _, _) ⟨hP, hD, hS, hR, ?_, ?_, ?_⟩
                        · (try dsimp only); omega
                        · (try dsimp only); omega
                        · skip
                          have a8 : oS S ((j16 + 1)) = (oS S j16) + 0 := (oS_f c26)
                          dsimp only; rw [a8]
                          have a8 : unS S ((j16 + 1)) = (unS S j16) ||| 1 := (un_fn c31 h34)
                          rw [a8]
                          have a8 : dgS S ((j16 + 1)) = (dgS S j16) + 0 := (do_f c29)
                          rw [a8]
                          exact lv_sub hl [5, 6, 7, 8, 9, 10, 11, 3, 2, 1, 12, 0] rfl
                      · exact absurd c39 c29
                    · exact absurd (by decide) c38
                  · skip
                    refine vp_callSi (run_of (vx_runSW (g := F0 m 1191 ls [.int (nI j16), .ref (ad 0 0), .int (unS S j16)]) (As := [.ref (ad 0 0), .int (nI j16)]) (rest := [.int (unS S j16)]) ⟨hx, hb, hml, hown, hta⟩ (c_L_lotOf l hR hW hj17 h34) (vx_cwSW 2 hta (gWSW mw634 mw635 mw39 mw636) rfl rfl rfl (by decide +kernel) ⟨Nat.le_of_ble_eq_true rfl, Nat.le_of_ble_eq_true rfl⟩) (gPreB hK hP hD) rfl rfl hl.1 rfl (lv_room (Nat.le_of_ble_eq_true rfl)) dL_law_1191 ⟨(by show ce19 + 0 ≤ 621943; omega), (by show sl20 + 0 ≤ 7227368; omega)⟩)) (fun r40 c41 => ?_)
                    obtain rfl := c41
                    refine lv_ldc (own := RL) (index := 94) (v := -3000000) hx hb hown (hta _ mw649) dL_law_1194 ?_
                    refine lv_icmp_eq (tgt := 1228) hx hb dL_law_1196 (by decide) (fun c42 => ?_) (fun c42 => ?_)
                    · exact absurd c42 (nI_nno (by have := hW.jlot hj17 h34; have := hW.nL; omega))
                    · skip
                      refine lv_iload hx hb dL_law_1199 (lv_at hl 1 rfl) ?_
                      refine lv_bipush (v := 100) hx hb dL_law_1201 (by decide) ?_
                      refine lv_icmp_ne (tgt := 1232) hx hb dL_law_1203 (by decide) (fun c43 => ?_) (fun c43 => ?_)
                      · skip
                        refine lv_iconst (v := 0) hx hb dL_law_1232 (by decide) ?_
                        refine lv_ior hx hb dL_law_1233 ?_
                        refine lv_istore (lv' := [(14, .int ((unS S j16) ||| 0)), (12, .long ((oS S j16) + 0)), (18, .int (sI S 53 j16)), (0, .ref b), (1, .ref (ad 0 0)), (2, .int (nI (sN S 3 0))), (3, .int (nI (sN S 0 0))), (4, .int (sI S 2 0)), (5, .long (sJ S 1 0)), (7, .int (nI tu)), (15, .int (dgS S j16)), (16, .int 0), (17, .int (nI j16))]) hx hb dL_law_1234 hl (by decide) rfl (fun ls hl => ?_)
                        refine lv_iload hx hb dL_law_1236 (lv_at hl 10 rfl) ?_
                        refine lv_iload hx hb dL_law_1238 (lv_at hl 2 rfl) ?_
                        refine lv_bipush (v := 111) hx hb dL_law_1240 (by decide) ?_
                        refine lv_icmp_ne (tgt := 1249) hx hb dL_law_1242 (by decide) (fun c44 => ?_) (fun c44 => ?_)
                        · skip
                          refine lv_iconst (v := 0) hx hb dL_law_1249 (by decide) ?_
                          refine lv_iadd hx hb dL_law_1250 ?_
                          refine lv_istore (lv' := [(15, .int ((dgS S j16) + 0)), (14, .int ((unS S j16) ||| 0)), (12, .long ((oS S j16) + 0)), (18, .int (sI S 53 j16)), (0, .ref b), (1, .ref (ad 0 0)), (2, .int (nI (sN S 3 0))), (3, .int (nI (sN S 0 0))), (4, .int (sI S 2 0)), (5, .long (sJ S 1 0)), (7, .int (nI tu)), (16, .int 0), (17, .int (nI j16))]) hx hb dL_law_1251 hl (by decide) rfl (fun ls hl => ?_)
                          refine lv_iinc (v := nI (j16 + 1)) (lv' := [(17, .int (nI (j16 + 1))), (15, .int ((dgS S j16) + 0)), (14, .int ((unS S j16) ||| 0)), (12, .long ((oS S j16) + 0)), (18, .int (sI S 53 j16)), (0, .ref b), (1, .ref (ad 0 0)), (2, .int (nI (sN S 3 0))), (3, .int (nI (sN S 0 0))), (4, .int (sI S 2 0)), (5, .long (sJ S 1 0)), (7, .int (nI tu)), (16, .int 0)]) hx hb dL_law_1253 hl (k := 12) rfl (nI_1 _) (by decide) rfl (fun ls hl => ?_)
                          refine lv_goto (tgt := 1129) hx hb dL_law_1256 (by decide) ?_
                          refine ih18 (_, _, f, ls, _, _) ⟨hP, hD, hS, hR, ?_, ?_, ?_⟩
                          · (try dsimp only); omega
                          · (try dsimp only); omega
                          · skip
                            have a8 : oS S ((j16 + 1)) = (oS S j16) + 0 := (oS_f c26)
                            dsimp only; rw [a8]
                            have a8 : unS S ((j16 + 1)) = (unS S j16) ||| 0 := (un_fs c31 h34)
                            rw [a8]
                            have a8 : dgS S ((j16 + 1)) = (dgS S j16) + 0 := (do_f c29)
                            rw [a8]
                            exact lv_sub hl [5, 6, 7, 8, 9, 10, 11, 3, 2, 1, 12, 0] rfl
                        · exact absurd c44 c29
                      · exact absurd c43 c26
          · skip
            refine lv_aload_n hx hb dL_law_1152 rfl (lv_at hl 2 rfl) ?_
            refine lv_iload hx hb dL_law_1153 (lv_at hl 12 rfl) ?_
            refine vp_callSl (run_of (vx_runSW (g := F0 m 1155 ls [.int (nI j16), .ref (ad 0 0), .long (oS S j16)]) (As := [.ref (ad 0 0), .int (nI j16)]) (rest := [.long (oS S j16)]) ⟨hx, hb, hml, hown, hta⟩ (c_L_deliveredCost l hR hW hj17 c26) (vx_cwSW 2 hta (gWSW mw664 mw665 mw39 mw666) rfl rfl rfl (by decide +kernel) ⟨Nat.le_of_ble_eq_true rfl, Nat.le_of_ble_eq_true rfl⟩) (gPreB hK hP hD) rfl rfl hl.1 rfl (lv_room (Nat.le_of_ble_eq_true rfl)) dL_law_1155 ⟨(by show ce19 + 0 ≤ 621943; omega), (by show sl20 + 0 ≤ 7227368; omega)⟩)) (fun r45 c46 => ?_)
            obtain rfl := c46
            refine lv_goto (tgt := 1162) hx hb dL_law_1158 (by decide) ?_
            refine lv_ladd hx hb dL_law_1162 ?_
            refine lv_lstore (lv' := [(12, .long ((oS S j16) + (sJ S 4 j16))), (18, .int (sI S 53 j16)), (0, .ref b), (1, .ref (ad 0 0)), (2, .int (nI (sN S 3 0))), (3, .int (nI (sN S 0 0))), (4, .int (sI S 2 0)), (5, .long (sJ S 1 0)), (7, .int (nI tu)), (14, .int (unS S j16)), (15, .int (dgS S j16)), (16, .int 0), (17, .int (nI j16))]) hx hb dL_law_1163 hl (by decide) rfl (fun ls hl => ?_)
            refine lv_iload hx hb dL_law_1165 (lv_at hl 9 rfl) ?_
            refine lv_iload hx hb dL_law_1167 (lv_at hl 1 rfl) ?_
            refine lv_bipush (v := 119) hx hb dL_law_1169 (by decide) ?_
            refine lv_icmp_eq (tgt := 1228) hx hb dL_law_1171 (by decide) (fun c47 => ?_) (fun c47 => ?_)
            · exact absurd c47 (i_ne c26 (by decide))
            · skip
              refine lv_iload hx hb dL_law_1174 (lv_at hl 1 rfl) ?_
              refine lv_bipush (v := 111) hx hb dL_law_1176 (by decide) ?_
              refine lv_icmp_eq (tgt := 1228) hx hb dL_law_1178 (by decide) (fun c48 => ?_) (fun c48 => ?_)
              · exact absurd c48 (i_ne c26 (by decide))
              · skip
                refine lv_iload hx hb dL_law_1181 (lv_at hl 1 rfl) ?_
                refine lv_bipush (v := 102) hx hb dL_law_1183 (by decide) ?_
                refine lv_icmp_ne (tgt := 1199) hx hb dL_law_1185 (by decide) (fun c49 => ?_) (fun c49 => ?_)
                · skip
                  refine lv_iload hx hb dL_law_1199 (lv_at hl 1 rfl) ?_
                  refine lv_bipush (v := 100) hx hb dL_law_1201 (by decide) ?_
                  refine lv_icmp_ne (tgt := 1232) hx hb dL_law_1203 (by decide) (fun c50 => ?_) (fun c50 => ?_)
                  · exact absurd c50 (fun q => q c26)
                  · skip
                    refine lv_aload_n hx hb dL_law_1206 rfl (lv_at hl 3 rfl) ?_
                    refine lv_iload hx hb dL_law_1207 (lv_at hl 12 rfl) ?_
                    rcases h51 : sR S 4 j16 with _ | o52
                    · skip
                      refine gsw_i (vx_runSW (g := F0 m 1209 ls [.int (nI j16), .ref (ad 0 0), .int (unS S j16)]) (As := [.ref (ad 0 0), .int (nI j16)]) (rest := [.int (unS S j16)]) ⟨hx, hb, hml, hown, hta⟩ (c_L_lotOfX l hl0 hR hW hj17 h51) (vx_cwSW 2 hta (gWSW mw634 mw635 mw39 mw636) rfl rfl rfl (by decide +kernel) ⟨Nat.le_of_ble_eq_true rfl, Nat.le_of_ble_eq_true rfl⟩) (gPreW hX hQ hK hP hD hS hA) rfl rfl hl.1 rfl (lv_room (Nat.le_of_ble_eq_true rfl)) dL_law_1209 ⟨(by show ce19 + 1 ≤ 621943; omega), (by show sl20 + 6 ≤ 7227368; omega)⟩) hD hS hA (fun r53 u H locs c54 hR hP hD hS => ?_)
                      obtain ⟨S9, ad9, L9, f⟩ := u
                      obtain ⟨rfl, rfl, rfl, rfl⟩ := c54
                      dsimp only at hR hP hD
                      refine lv_ldc (own := RL) (index := 94) (v := -3000000) hx hb hown (hta _ mw649) dL_law_1212 ?_
                      refine lv_icmp_ne (tgt := 1232) hx hb dL_law_1214 (by decide) (fun c55 => ?_) (fun c55 => ?_)
                      · exact absurd c55 (by decide)
                      · skip
                        refine lv_aload_n hx hb dL_law_1217 rfl (lv_at hl 3 rfl) ?_
                        refine lv_iload hx hb dL_law_1218 (lv_at hl 12 rfl) ?_
                        rcases Decidable.em (sI S 63 j16 = -1) with h56 | h56
                        · skip
                          refine gsw_i (vx_runSW (g := F0 m 1220 ls [.int (nI j16), .ref (ad 0 0), .int (unS S j16)]) (As := [.ref (ad 0 0), .int (nI j16)]) (rest := [.int (unS S j16)]) ⟨hx, hb, hml, hown, hta⟩ (c_L_finishedAtX l hl0 hR hW hj17 h56) (vx_cwSW 2 hta (gWSW mw650 mw651 mw39 mw652) rfl rfl rfl (by decide +kernel) ⟨Nat.le_of_ble_eq_true rfl, Nat.le_of_ble_eq_true rfl⟩) (gPreW hX hQ hK hP hD hS hA) rfl rfl hl.1 rfl (lv_room (Nat.le_of_ble_eq_true rfl)) dL_law_1220 ⟨(by show ce19 + 1 + 1 ≤ 621943; omega), (by show sl20 + 6 + 6 ≤ 7227368; omega)⟩) hD hS hA (fun r57 u H locs c58 hR hP hD hS => ?_)
                          obtain ⟨S9, ad9, L9, f⟩ := u
                          obtain ⟨rfl, rfl, rfl, rfl⟩ := c58
                          dsimp only at hR hP hD
                          refine lv_ldc (own := RL) (index := 94) (v := -3000000) hx hb hown (hta _ mw649) dL_law_1223 ?_
                          refine lv_icmp_eq (tgt := 1232) hx hb dL_law_1225 (by decide) (fun c59 => ?_) (fun c59 => ?_)
                          · skip
                            refine lv_iconst (v := 0) hx hb dL_law_1232 (by decide) ?_
                            refine lv_ior hx hb dL_law_1233 ?_
                            refine lv_istore (lv' := [(14, .int ((unS S j16) ||| 0)), (12, .long ((oS S j16) + (sJ S 4 j16))), (18, .int (sI S 53 j16)), (0, .ref b), (1, .ref (ad 0 0)), (2, .int (nI (sN S 3 0))), (3, .int (nI (sN S 0 0))), (4, .int (sI S 2 0)), (5, .long (sJ S 1 0)), (7, .int (nI tu)), (15, .int (dgS S j16)), (16, .int 0), (17, .int (nI j16))]) hx hb dL_law_1234 hl (by decide) rfl (fun ls hl => ?_)
                            refine lv_iload hx hb dL_law_1236 (lv_at hl 10 rfl) ?_
                            refine lv_iload hx hb dL_law_1238 (lv_at hl 2 rfl) ?_
                            refine lv_bipush (v := 111) hx hb dL_law_1240 (by decide) ?_
                            refine lv_icmp_ne (tgt := 1249) hx hb dL_law_1242 (by decide) (fun c60 => ?_) (fun c60 => ?_)
                            · skip
                              refine lv_iconst (v := 0) hx hb dL_law_1249 (by decide) ?_
                              refine lv_iadd hx hb dL_law_1250 ?_
                              refine lv_istore (lv' := [(15, .int ((dgS S j16) + 0)), (14, .int ((unS S j16) ||| 0)), (12, .long ((oS S j16) + (sJ S 4 j16))), (18, .int (sI S 53 j16)), (0, .ref b), (1, .ref (ad 0 0)), (2, .int (nI (sN S 3 0))), (3, .int (nI (sN S 0 0))), (4, .int (sI S 2 0)), (5, .long (sJ S 1 0)), (7, .int (nI tu)), (16, .int 0), (17, .int (nI j16))]) hx hb dL_law_1251 hl (by decide) rfl (fun ls hl => ?_)
                              refine lv_iinc (v := nI (j16 + 1)) (lv' := [(17, .int (nI (j16 + 1))), (15, .int ((dgS S j16) + 0)), (14, .int ((unS S j16) ||| 0)), (12, .long ((oS S j16) + (sJ S 4 j16))), (18, .int (sI S 53 j16)), (0, .ref b), (1, .ref (ad 0 0)), (2, .int (nI (sN S 3 0))), (3, .int (nI (sN S 0 0))), (4, .int (sI S 2 0)), (5, .long (sJ S 1 0)), (7, .int (nI tu)), (16, .int 0)]) hx hb dL_law_1253 hl (k := 12) rfl (nI_1 _) (by decide) rfl (fun ls hl => ?_)
                              refine lv_goto (tgt := 1129) hx hb dL_law_1256 (by decide) ?_
                              refine ih18 (_, _, f, ls, _, _) ⟨hP, hD, hS, hR, ?_, ?_, ?_⟩
                              · (try dsimp only); omega
                              · (try dsimp only); omega
                              · skip
                                have a8 : oS S ((j16 + 1)) = (oS S j16) + (sJ S 4 j16) := (oS_t c26)
                                dsimp only; rw [a8]
                                have a8 : unS S ((j16 + 1)) = (unS S j16) ||| 0 := (un_dk c26 h56)
                                rw [a8]
                                have a8 : dgS S ((j16 + 1)) = (dgS S j16) + 0 := (do_f c48)
                                rw [a8]
                                exact lv_sub hl [5, 6, 7, 8, 9, 10, 11, 3, 2, 1, 12, 0] rfl
                            · exact absurd c60 c48
                          · exact absurd c55 c59
                        · skip
                          refine vp_callSi (run_of (vx_runSW (g := F0 m 1220 ls [.int (nI j16), .ref (ad 0 0), .int (unS S j16)]) (As := [.ref (ad 0 0), .int (nI j16)]) (rest := [.int (unS S j16)]) ⟨hx, hb, hml, hown, hta⟩ (c_L_finishedAt l hR hW hj17 h56) (vx_cwSW 2 hta (gWSW mw650 mw651 mw39 mw652) rfl rfl rfl (by decide +kernel) ⟨Nat.le_of_ble_eq_true rfl, Nat.le_of_ble_eq_true rfl⟩) (gPreB hK hP hD) rfl rfl hl.1 rfl (lv_room (Nat.le_of_ble_eq_true rfl)) dL_law_1220 ⟨(by show ce19 + 1 + 0 ≤ 621943; omega), (by show sl20 + 6 + 0 ≤ 7227368; omega)⟩)) (fun r61 c62 => ?_)
                          obtain rfl := c62
                          refine lv_ldc (own := RL) (index := 94) (v := -3000000) hx hb hown (hta _ mw649) dL_law_1223 ?_
                          refine lv_icmp_eq (tgt := 1232) hx hb dL_law_1225 (by decide) (fun c63 => ?_) (fun c63 => ?_)
                          · exact absurd c63 (to_nno hI hj17 h56)
                          · skip
                            refine lv_iconst (v := 1) hx hb dL_law_1228 (by decide) ?_
                            refine lv_goto (tgt := 1233) hx hb dL_law_1229 (by decide) ?_
                            refine lv_ior hx hb dL_law_1233 ?_
                            refine lv_istore (lv' := [(14, .int ((unS S j16) ||| 1)), (12, .long ((oS S j16) + (sJ S 4 j16))), (18, .int (sI S 53 j16)), (0, .ref b), (1, .ref (ad 0 0)), (2, .int (nI (sN S 3 0))), (3, .int (nI (sN S 0 0))), (4, .int (sI S 2 0)), (5, .long (sJ S 1 0)), (7, .int (nI tu)), (15, .int (dgS S j16)), (16, .int 0), (17, .int (nI j16))]) hx hb dL_law_1234 hl (by decide) rfl (fun ls hl => ?_)
                            refine lv_iload hx hb dL_law_1236 (lv_at hl 10 rfl) ?_
                            refine lv_iload hx hb dL_law_1238 (lv_at hl 2 rfl) ?_
                            refine lv_bipush (v := 111) hx hb dL_law_1240 (by decide) ?_
                            refine lv_icmp_ne (tgt := 1249) hx hb dL_law_1242 (by decide) (fun c64 => ?_) (fun c64 => ?_)
                            · skip
                              refine lv_iconst (v := 0) hx hb dL_law_1249 (by decide) ?_
                              refine lv_iadd hx hb dL_law_1250 ?_
                              refine lv_istore (lv' := [(15, .int ((dgS S j16) + 0)), (14, .int ((unS S j16) ||| 1)), (12, .long ((oS S j16) + (sJ S 4 j16))), (18, .int (sI S 53 j16)), (0, .ref b), (1, .ref (ad 0 0)), (2, .int (nI (sN S 3 0))), (3, .int (nI (sN S 0 0))), (4, .int (sI S 2 0)), (5, .long (sJ S 1 0)), (7, .int (nI tu)), (16, .int 0), (17, .int (nI j16))]) hx hb dL_law_1251 hl (by decide) rfl (fun ls hl => ?_)
                              refine lv_iinc (v := nI (j16 + 1)) (lv' := [(17, .int (nI (j16 + 1))), (15, .int ((dgS S j16) + 0)), (14, .int ((unS S j16) ||| 1)), (12, .long ((oS S j16) + (sJ S 4 j16))), (18, .int (sI S 53 j16)), (0, .ref b), (1, .ref (ad 0 0)), (2, .int (nI (sN S 3 0))), (3, .int (nI (sN S 0 0))), (4, .int (sI S 2 0)), (5, .long (sJ S 1 0)), (7, .int (nI tu)), (16, .int 0)]) hx hb dL_law_1253 hl (k := 12) rfl (nI_1 _) (by decide) rfl (fun ls hl => ?_)
                              refine lv_goto (tgt := 1129) hx hb dL_law_1256 (by decide) ?_
                              refine ih18 (_, _, f, ls, _, _) ⟨hP, hD, hS, hR, ?_, ?_, ?_⟩
                              · (try dsimp only); omega
                              · (try dsimp only); omega
                              · skip
                                have a8 : oS S ((j16 + 1)) = (oS S j16) + (sJ S 4 j16) := (oS_t c26)
                                dsimp only; rw [a8]
                                have a8 : unS S ((j16 + 1)) = (unS S j16) ||| 1 := (un_dn c26 h51 h56)
                                rw [a8]
                                have a8 : dgS S ((j16 + 1)) = (dgS S j16) + 0 := (do_f c48)
                                rw [a8]
                                exact lv_sub hl [5, 6, 7, 8, 9, 10, 11, 3, 2, 1, 12, 0] rfl
                            · exact absurd c64 c48
                    · skip
                      refine vp_callSi (run_of (vx_runSW (g := F0 m 1209 ls [.int (nI j16), .ref (ad 0 0), .int (unS S j16)]) (As := [.ref (ad 0 0), .int (nI j16)]) (rest := [.int (unS S j16)]) ⟨hx, hb, hml, hown, hta⟩ (c_L_lotOf l hR hW hj17 h51) (vx_cwSW 2 hta (gWSW mw634 mw635 mw39 mw636) rfl rfl rfl (by decide +kernel) ⟨Nat.le_of_ble_eq_true rfl, Nat.le_of_ble_eq_true rfl⟩) (gPreB hK hP hD) rfl rfl hl.1 rfl (lv_room (Nat.le_of_ble_eq_true rfl)) dL_law_1209 ⟨(by show ce19 + 0 ≤ 621943; omega), (by show sl20 + 0 ≤ 7227368; omega)⟩)) (fun r65 c66 => ?_)
                      obtain rfl := c66
                      refine lv_ldc (own := RL) (index := 94) (v := -3000000) hx hb hown (hta _ mw649) dL_law_1212 ?_
                      refine lv_icmp_ne (tgt := 1232) hx hb dL_law_1214 (by decide) (fun c67 => ?_) (fun c67 => ?_)
                      · skip
                        refine lv_iconst (v := 0) hx hb dL_law_1232 (by decide) ?_
                        refine lv_ior hx hb dL_law_1233 ?_
                        refine lv_istore (lv' := [(14, .int ((unS S j16) ||| 0)), (12, .long ((oS S j16) + (sJ S 4 j16))), (18, .int (sI S 53 j16)), (0, .ref b), (1, .ref (ad 0 0)), (2, .int (nI (sN S 3 0))), (3, .int (nI (sN S 0 0))), (4, .int (sI S 2 0)), (5, .long (sJ S 1 0)), (7, .int (nI tu)), (15, .int (dgS S j16)), (16, .int 0), (17, .int (nI j16))]) hx hb dL_law_1234 hl (by decide) rfl (fun ls hl => ?_)
                        refine lv_iload hx hb dL_law_1236 (lv_at hl 10 rfl) ?_
                        refine lv_iload hx hb dL_law_1238 (lv_at hl 2 rfl) ?_
                        refine lv_bipush (v := 111) hx hb dL_law_1240 (by decide) ?_
                        refine lv_icmp_ne (tgt := 1249) hx hb dL_law_1242 (by decide) (fun c68 => ?_) (fun c68 => ?_)
                        · skip
                          refine lv_iconst (v := 0) hx hb dL_law_1249 (by decide) ?_
                          refine lv_iadd hx hb dL_law_1250 ?_
                          refine lv_istore (lv' := [(15, .int ((dgS S j16) + 0)), (14, .int ((unS S j16) ||| 0)), (12, .long ((oS S j16) + (sJ S 4 j16))), (18, .int (sI S 53 j16)), (0, .ref b), (1, .ref (ad 0 0)), (2, .int (nI (sN S 3 0))), (3, .int (nI (sN S 0 0))), (4, .int (sI S 2 0)), (5, .long (sJ S 1 0)), (7, .int (nI tu)), (16, .int 0), (17, .int (nI j16))]) hx hb dL_law_1251 hl (by decide) rfl (fun ls hl => ?_)
                          refine lv_iinc (v := nI (j16 + 1)) (lv' := [(17, .int (nI (j16 + 1))), (15, .int ((dgS S j16) + 0)), (14, .int ((unS S j16) ||| 0)), (12, .long ((oS S j16) + (sJ S 4 j16))), (18, .int (sI S 53 j16)), (0, .ref b), (1, .ref (ad 0 0)), (2, .int (nI (sN S 3 0))), (3, .int (nI (sN S 0 0))), (4, .int (sI S 2 0)), (5, .long (sJ S 1 0)), (7, .int (nI tu)), (16, .int 0)]) hx hb dL_law_1253 hl (k := 12) rfl (nI_1 _) (by decide) rfl (fun ls hl => ?_)
                          refine lv_goto (tgt := 1129) hx hb dL_law_1256 (by decide) ?_
                          refine ih18 (_, _, f, ls, _, _) ⟨hP, hD, hS, hR, ?_, ?_, ?_⟩
                          · (try dsimp only); omega
                          · (try dsimp only); omega
                          · skip
                            have a8 : oS S ((j16 + 1)) = (oS S j16) + (sJ S 4 j16) := (oS_t c26)
                            dsimp only; rw [a8]
                            have a8 : unS S ((j16 + 1)) = (unS S j16) ||| 0 := (un_ds c26 h51)
                            rw [a8]
                            have a8 : dgS S ((j16 + 1)) = (dgS S j16) + 0 := (do_f c48)
                            rw [a8]
                            exact lv_sub hl [5, 6, 7, 8, 9, 10, 11, 3, 2, 1, 12, 0] rfl
                        · exact absurd c68 c48
                      · exact absurd c67 (nI_nno (by have := hW.jlot hj17 h51; have := hW.nL; omega))
                · exact absurd c49 (i_ne c26 (by decide))
      · skip
        obtain ⟨H, locs, f, ls, ce19, sl20⟩ := z
        obtain ⟨hP, hD, hS, hR, hce21, hsl22, hl⟩ := hz
        dsimp only at hP hD hS hR hl hce21 hsl22 ⊢
        have hn9 := hW.nO
        refine lv_iload hx hb dL_law_1129 (lv_at hl 11 rfl) ?_
        refine lv_iload_n hx hb dL_law_1131 rfl (lv_at hl 2 rfl) ?_
        refine lv_icmp_ge (tgt := 1259) hx hb dL_law_1132 (by decide) (fun c69 => ?_) (fun c69 => ?_)
        · skip
          refine lv_iconst (v := 0) hx hb dL_law_1259 (by decide) ?_
          refine lv_istore (lv' := [(17, .int 0), (0, .ref b), (1, .ref (ad 0 0)), (2, .int (nI (sN S 3 0))), (3, .int (nI (sN S 0 0))), (4, .int (sI S 2 0)), (5, .long (sJ S 1 0)), (7, .int (nI tu)), (12, .long (oS S (sN S 3 0))), (14, .int (unS S (sN S 3 0))), (15, .int (dgS S (sN S 3 0))), (16, .int 0)]) hx hb dL_law_1260 hl (by decide) rfl (fun ls hl => ?_)
          refine loop_g (σ := Array Slot) (Wg := fun ls => W p l e _ s m _ below meth c _ _ _ _ _ (F0 m 1262 ls [])) (sN S 0 0) (fun j70 ls => lv_has ls 19 [(0, .ref b), (1, .ref (ad 0 0)), (2, .int (nI (sN S 3 0))), (3, .int (nI (sN S 0 0))), (4, .int (sI S 2 0)), (5, .long (sJ S 1 0)), (7, .int (nI tu)), (12, .long (oS S (sN S 3 0))), (14, .int (unS S (sN S 3 0))), (15, .int (dgS S (sN S 3 0))), (16, .int (buS S j70)), (17, .int (nI j70))]) (fun j70 hj71 ih72 ls hl => ?_) (fun ls hl => ?_) ls (lv_sub hl [1, 2, 3, 4, 5, 6, 7, 8, 9, 10, 11, 0] rfl)
          · skip
            refine lv_iload hx hb dL_law_1262 (lv_at hl 11 rfl) ?_
            refine lv_iload_n hx hb dL_law_1264 rfl (lv_at hl 3 rfl) ?_
            refine lv_icmp_ge (tgt := 1295) hx hb dL_law_1265 (by decide) (fun c73 => ?_) (fun c73 => ?_)
            · exact absurd c73 (nI_ge (a := j70) (b := sN S 0 0) hj71 (by have := hW.nM; omega))
            · skip
              refine lv_iload hx hb dL_law_1268 (lv_at hl 10 rfl) ?_
              refine lv_aload_n hx hb dL_law_1270 rfl (lv_at hl 1 rfl) ?_
              refine lv_iload hx hb dL_law_1271 (lv_at hl 11 rfl) ?_
              refine vp_callSi (run_of (vx_runSW (g := F0 m 1273 ls [.int (nI j70), .ref (ad 0 0), .int (buS S j70)]) (As := [.ref (ad 0 0), .int (nI j70)]) (rest := [.int (buS S j70)]) ⟨hx, hb, hml, hown, hta⟩ (c_L_machineIs l hR hW hj71 (tm_nar hI hj71)) (vx_cwSW 2 hta (gWSW mw657 mw658 mw39 mw659) rfl rfl rfl (by decide +kernel) ⟨Nat.le_of_ble_eq_true rfl, Nat.le_of_ble_eq_true rfl⟩) (gPreB hK hP hD) rfl rfl hl.1 rfl (lv_room (Nat.le_of_ble_eq_true rfl)) dL_law_1273 ⟨(by show ce19 + 0 ≤ 621943; omega), (by show sl20 + 0 ≤ 7227368; omega)⟩)) (fun r74 c75 => ?_)
              obtain rfl := c75
              refine lv_bipush (v := 111) hx hb dL_law_1276 (by decide) ?_
              refine lv_icmp_ne (tgt := 1285) hx hb dL_law_1278 (by decide) (fun c76 => ?_) (fun c76 => ?_)
              · skip
                refine lv_iconst (v := 0) hx hb dL_law_1285 (by decide) ?_
                refine lv_iadd hx hb dL_law_1286 ?_
                refine lv_istore (lv' := [(16, .int ((buS S j70) + 0)), (0, .ref b), (1, .ref (ad 0 0)), (2, .int (nI (sN S 3 0))), (3, .int (nI (sN S 0 0))), (4, .int (sI S 2 0)), (5, .long (sJ S 1 0)), (7, .int (nI tu)), (12, .long (oS S (sN S 3 0))), (14, .int (unS S (sN S 3 0))), (15, .int (dgS S (sN S 3 0))), (17, .int (nI j70))]) hx hb dL_law_1287 hl (by decide) rfl (fun ls hl => ?_)
                refine lv_iinc (v := nI (j70 + 1)) (lv' := [(17, .int (nI (j70 + 1))), (16, .int ((buS S j70) + 0)), (0, .ref b), (1, .ref (ad 0 0)), (2, .int (nI (sN S 3 0))), (3, .int (nI (sN S 0 0))), (4, .int (sI S 2 0)), (5, .long (sJ S 1 0)), (7, .int (nI tu)), (12, .long (oS S (sN S 3 0))), (14, .int (unS S (sN S 3 0))), (15, .int (dgS S (sN S 3 0)))]) hx hb dL_law_1289 hl (k := 11) rfl (nI_1 _) (by decide) rfl (fun ls hl => ?_)
                refine lv_goto (tgt := 1262) hx hb dL_law_1292 (by decide) ?_
                refine ih72 _ ?_
                have a8 : buS S ((j70 + 1)) = (buS S j70) + 0 := (bu_f c76)
                rw [a8]
                exact lv_sub hl [2, 3, 4, 5, 6, 7, 8, 9, 10, 11, 1, 0] rfl
              · skip
                refine lv_iconst (v := 1) hx hb dL_law_1281 (by decide) ?_
                refine lv_goto (tgt := 1286) hx hb dL_law_1282 (by decide) ?_
                refine lv_iadd hx hb dL_law_1286 ?_
                refine lv_istore (lv' := [(16, .int ((buS S j70) + 1)), (0, .ref b), (1, .ref (ad 0 0)), (2, .int (nI (sN S 3 0))), (3, .int (nI (sN S 0 0))), (4, .int (sI S 2 0)), (5, .long (sJ S 1 0)), (7, .int (nI tu)), (12, .long (oS S (sN S 3 0))), (14, .int (unS S (sN S 3 0))), (15, .int (dgS S (sN S 3 0))), (17, .int (nI j70))]) hx hb dL_law_1287 hl (by decide) rfl (fun ls hl => ?_)
                refine lv_iinc (v := nI (j70 + 1)) (lv' := [(17, .int (nI (j70 + 1))), (16, .int ((buS S j70) + 1)), (0, .ref b), (1, .ref (ad 0 0)), (2, .int (nI (sN S 3 0))), (3, .int (nI (sN S 0 0))), (4, .int (sI S 2 0)), (5, .long (sJ S 1 0)), (7, .int (nI tu)), (12, .long (oS S (sN S 3 0))), (14, .int (unS S (sN S 3 0))), (15, .int (dgS S (sN S 3 0)))]) hx hb dL_law_1289 hl (k := 11) rfl (nI_1 _) (by decide) rfl (fun ls hl => ?_)
                refine lv_goto (tgt := 1262) hx hb dL_law_1292 (by decide) ?_
                refine ih72 _ ?_
                have a8 : buS S ((j70 + 1)) = (buS S j70) + 1 := (bu_t c76)
                rw [a8]
                exact lv_sub hl [2, 3, 4, 5, 6, 7, 8, 9, 10, 11, 1, 0] rfl
          · skip
            refine lv_iload hx hb dL_law_1262 (lv_at hl 11 rfl) ?_
            refine lv_iload_n hx hb dL_law_1264 rfl (lv_at hl 3 rfl) ?_
            refine lv_icmp_ge (tgt := 1295) hx hb dL_law_1265 (by decide) (fun c77 => ?_) (fun c77 => ?_)
            · skip
              refine lv_iload hx hb dL_law_1295 (lv_at hl 9 rfl) ?_
              refine lv_iload hx hb dL_law_1297 (lv_at hl 10 rfl) ?_
              refine lv_icmp_ne (tgt := 1342) hx hb dL_law_1299 (by decide) (fun c78 => ?_) (fun c78 => ?_)
              · exact absurd c78 (fun q => q (ck_do hI))
              · skip
                refine lv_lload hx hb dL_law_1302 (lv_at hl 7 rfl) ?_
                refine lv_lload hx hb dL_law_1304 (lv_at hl 5 rfl) ?_
                refine W.lcmp hx hb dL_law_1306 ?_
                refine lv_if_gt (tgt := 1342) hx hb dL_law_1307 (by decide) (fun c79 => ?_) (fun c79 => ?_)
                · exact absurd c79 (ck_le hI)
                · skip
                  refine lv_iload hx hb dL_law_1310 (lv_at hl 8 rfl) ?_
                  refine lv_if_ne (tgt := 1323) hx hb dL_law_1312 (by decide) (fun c80 => ?_) (fun c80 => ?_)
                  · skip
                    refine lv_aload_n hx hb dL_law_1323 rfl (lv_at hl 1 rfl) ?_
                    refine lv_iload_n hx hb dL_law_1324 rfl (lv_at hl 2 rfl) ?_
                    refine gsw_i (va_runS (g := F0 m 1325 ls [.int (nI (sN S 3 0)), .ref (ad 0 0)]) (As := [.ref (ad 0 0), .int (nI (sN S 3 0))]) (rest := []) ⟨hx, hb, hml, hown, hta⟩ (c_L_traced l hl0 hR hI hW) (va_cwS 2 hta (gWS mw744 mw745 mw39 mw746) rfl rfl rfl (by decide +kernel) ⟨Nat.le_of_ble_eq_true rfl, Nat.le_of_ble_eq_true rfl⟩) (gPreW hX hQ hK hP hD hS hA) rfl rfl hl.1 rfl (lv_room (Nat.le_of_ble_eq_true rfl)) dL_law_1325 ⟨(by show ce19 + 90 ≤ 621943; omega), (by show sl20 + 540 ≤ 7227368; omega)⟩) hD hS hA (fun r81 u H locs c82 hR hP hD hS => ?_)
                    obtain ⟨S9, ad9, L9, f⟩ := u
                    obtain ⟨rfl, rfl, rfl, rfl⟩ := c82
                    dsimp only at hR hP hD
                    refine lv_if_eq (tgt := 1342) hx hb dL_law_1328 (by decide) (fun c83 => ?_) (fun c83 => ?_)
                    · exact absurd c83 (by decide)
                    · skip
                      refine lv_aload_n hx hb dL_law_1331 rfl (lv_at hl 1 rfl) ?_
                      obtain ⟨q84, e85⟩ := cell_0 hR (rfl : (0 : Nat) = 0)
                      refine gro_d (ci := 12) (As := []) (rest := []) ⟨hx, hb, hml, hown, hta⟩ (c_X10_meanBusy l hR hW hz hmb.1) (cwV 0 hta (gWV mw114 mw115 mw116 mw40 mw117) rfl rfl rfl (by decide +kernel) ⟨Nat.le_of_ble_eq_true rfl, Nat.le_of_ble_eq_true rfl⟩) hK hP hD rfl e85 rfl hl.1 rfl (Nat.le_of_ble_eq_true rfl) dL_law_1332 ⟨(by show ce19 + 90 + 0 ≤ 621943; omega), (by show sl20 + 540 + 0 ≤ 7227368; omega)⟩ (fun r86 c87 => ?_)
                      obtain rfl := c87
                      refine lv_iload hx hb dL_law_1335 (lv_at hl 4 rfl) ?_
                      refine lv_i2d hx hb dL_law_1337 ?_
                      refine lv_dcmp hx hb dL_law_1338 ?_
                      refine lv_if_le (tgt := 1344) hx hb dL_law_1339 (by decide) (fun c88 => ?_) (fun c88 => ?_)
                      · skip
                        exact kk _ _ _ _ _ _ hP hD hS hR (lv_sub hl [0, 1, 2, 3, 4, 5, 6] rfl) (by omega) (by omega)
                      · exact absurd (Int32.not_lt.mp (hmb.2 _)) c88
                  · skip
                    refine lv_lload hx hb dL_law_1315 (lv_at hl 7 rfl) ?_
                    refine lv_lload hx hb dL_law_1317 (lv_at hl 5 rfl) ?_
                    refine W.lcmp hx hb dL_law_1319 ?_
                    refine lv_if_ne (tgt := 1342) hx hb dL_law_1320 (by decide) (fun c89 => ?_) (fun c89 => ?_)
                    · exact absurd c89 (fun q => q (ck_eq hI c80))
                    · skip
                      refine lv_aload_n hx hb dL_law_1323 rfl (lv_at hl 1 rfl) ?_
                      refine lv_iload_n hx hb dL_law_1324 rfl (lv_at hl 2 rfl) ?_
                      refine gsw_i (va_runS (g := F0 m 1325 ls [.int (nI (sN S 3 0)), .ref (ad 0 0)]) (As := [.ref (ad 0 0), .int (nI (sN S 3 0))]) (rest := []) ⟨hx, hb, hml, hown, hta⟩ (c_L_traced l hl0 hR hI hW) (va_cwS 2 hta (gWS mw744 mw745 mw39 mw746) rfl rfl rfl (by decide +kernel) ⟨Nat.le_of_ble_eq_true rfl, Nat.le_of_ble_eq_true rfl⟩) (gPreW hX hQ hK hP hD hS hA) rfl rfl hl.1 rfl (lv_room (Nat.le_of_ble_eq_true rfl)) dL_law_1325 ⟨(by show ce19 + 90 ≤ 621943; omega), (by show sl20 + 540 ≤ 7227368; omega)⟩) hD hS hA (fun r90 u H locs c91 hR hP hD hS => ?_)
                      obtain ⟨S9, ad9, L9, f⟩ := u
                      obtain ⟨rfl, rfl, rfl, rfl⟩ := c91
                      dsimp only at hR hP hD
                      refine lv_if_eq (tgt := 1342) hx hb dL_law_1328 (by decide) (fun c92 => ?_) (fun c92 => ?_)
                      · exact absurd c92 (by decide)
                      · skip
                        refine lv_aload_n hx hb dL_law_1331 rfl (lv_at hl 1 rfl) ?_
                        obtain ⟨q93, e94⟩ := cell_0 hR (rfl : (0 : Nat) = 0)
                        refine gro_d (ci := 12) (As := []) (rest := []) ⟨hx, hb, hml, hown, hta⟩ (c_X10_meanBusy l hR hW hz hmb.1) (cwV 0 hta (gWV mw114 mw115 mw116 mw40 mw117) rfl rfl rfl (by decide +kernel) ⟨Nat.le_of_ble_eq_true rfl, Nat.le_of_ble_eq_true rfl⟩) hK hP hD rfl e94 rfl hl.1 rfl (Nat.le_of_ble_eq_true rfl) dL_law_1332 ⟨(by show ce19 + 90 + 0 ≤ 621943; omega), (by show sl20 + 540 + 0 ≤ 7227368; omega)⟩ (fun r95 c96 => ?_)
                        obtain rfl := c96
                        refine lv_iload hx hb dL_law_1335 (lv_at hl 4 rfl) ?_
                        refine lv_i2d hx hb dL_law_1337 ?_
                        refine lv_dcmp hx hb dL_law_1338 ?_
                        refine lv_if_le (tgt := 1344) hx hb dL_law_1339 (by decide) (fun c97 => ?_) (fun c97 => ?_)
                        · skip
                          exact kk _ _ _ _ _ _ hP hD hS hR (lv_sub hl [0, 1, 2, 3, 4, 5, 6] rfl) (by omega) (by omega)
                        · exact absurd (Int32.not_lt.mp (hmb.2 _)) c97
            · exact absurd (nI_le (a := sN S 0 0) (b := sN S 0 0) (Nat.le_refl _) (by have := hW.nM; omega)) c77
        · exact absurd (nI_le (a := sN S 3 0) (b := sN S 3 0) (Nat.le_refl _) (by have := hW.nO; omega)) c69
    · exact absurd (nI_le (a := sN S 2 0) (b := sN S 2 0) (Nat.le_refl _) (by have := hW.nL; omega)) c15

