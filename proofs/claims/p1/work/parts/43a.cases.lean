set_option maxHeartbeats 4000000 in
set_option maxRecDepth 100000 in
theorem lc_0 {p : Program} {e : Env} {s : State} {m : MethodId} {below : List Frame} {meth : Method} {c : Code} (l : Launch) (hl0 : l.stackTraces = false) {b : Nat} {xs : Nat → Int32} (C0 : lw_At p s m meth c b 6 xs) {A : Nat → Prop} (hA : ∀ q, s.heap.size ≤ q → A q) (hA2 : ∀ q, A q → s.heap.size ≤ q) {D : va_G} {tE : Nat} {h0 a1 a2 a3 a4 a5 h6 s0 s1 s2 s3 : Nat} {t1 t2 t3 t4 t5 : ClassId} {m0 m1 m2 m3 m4 m5 m6 : Nat} {tc : ClassId} {o oD : Nat} {tj td : ClassId} {H : Heap} {locs : List Loc} {ls : Array Slot} (hK : va_K D vwCl (tLw t1 t2 t3 t4 t5 tc tj td) s) (hG : gP tE A s) (hP : va_P D vwCl (wLw tE h0 a1 a2 a3 a4 a5 h6 s0 s1 s2 s3 m0 m1 m2 m3 m4 m5 m6 o oD t1 t2 t3 t4 t5 tc tj td) H) (hD : va_D A (wLw tE h0 a1 a2 a3 a4 a5 h6 s0 s1 s2 s3 m0 m1 m2 m3 m4 m5 m6 o oD t1 t2 t3 t4 t5 tc tj td)) (hS : va_S A s.heap H locs) (hl : lv_has ls 9 [(5, .int 0), (4, .ref oD), (3, .ref o), (2, .ref m0), (1, .ref h0), (0, .ref b)]) : W p l e room_1 s m #[Value.ref b] below meth c H locs 25 221 (lw_Z below #[Value.ref b] s) (F0 m 200 ls []) := by
  obtain ⟨hx, hb, hr, hml, hown0, hts, hX, hbl, hlocks, hgv⟩ := id C0
  have hta : ∀ w ∈ WA, w.before #[Value.ref b] s = true := fun w h => hts w (WA_in w h)
  have hown : s.vm.findClass "FoundrymarkLaw" = some m.cls := hown0
  have hbA : ¬ A b := fun h => absurd (hA2 b h) (Nat.not_le.mpr hbl)
  rcases hf : fitM (xs 1) (xs 2) (xs 3) (xs 4) with _ | _
  · skip
    refine lv_aload_n hx hb dL_law_200 rfl (lv_at hl 4 rfl) ?_
    refine lv_aload_n hx hb dL_law_201 rfl (lv_at hl 5 rfl) ?_
    refine lv_iload hx hb dL_law_202 (lv_at hl 0 rfl) ?_
    refine lv_iconst (v := 1) hx hb dL_law_204 (by decide) ?_
    refine lv_iadd hx hb dL_law_205 ?_
    refine lv_topi (fun x1 ex1 => ?_)
    obtain rfl : x1 = 1 := ex1.trans (by decide)
    refine va_sld hx hb hX hbl hbA hS (i := 1) (by unfold vp_in; decide) dL_law_206 ?_
    refine W.eq (g2 := F0 m 207 ls [.int (xs 1), .ref h0]) rfl ?_
    refine lv_aload_n hx hb dL_law_207 rfl (lv_at hl 5 rfl) ?_
    refine lv_iload hx hb dL_law_208 (lv_at hl 0 rfl) ?_
    refine lv_iconst (v := 2) hx hb dL_law_210 (by decide) ?_
    refine lv_iadd hx hb dL_law_211 ?_
    refine lv_topi (fun x2 ex2 => ?_)
    obtain rfl : x2 = 2 := ex2.trans (by decide)
    refine va_sld hx hb hX hbl hbA hS (i := 2) (by unfold vp_in; decide) dL_law_212 ?_
    refine W.eq (g2 := F0 m 213 ls [.int (xs 2), .int (xs 1), .ref h0]) rfl ?_
    refine lv_aload_n hx hb dL_law_213 rfl (lv_at hl 5 rfl) ?_
    refine lv_iload hx hb dL_law_214 (lv_at hl 0 rfl) ?_
    refine lv_iconst (v := 3) hx hb dL_law_216 (by decide) ?_
    refine lv_iadd hx hb dL_law_217 ?_
    refine lv_topi (fun x3 ex3 => ?_)
    obtain rfl : x3 = 3 := ex3.trans (by decide)
    refine va_sld hx hb hX hbl hbA hS (i := 3) (by unfold vp_in; decide) dL_law_218 ?_
    refine W.eq (g2 := F0 m 219 ls [.int (xs 3), .int (xs 2), .int (xs 1), .ref h0]) rfl ?_
    refine lv_aload_n hx hb dL_law_219 rfl (lv_at hl 5 rfl) ?_
    refine lv_iload hx hb dL_law_220 (lv_at hl 0 rfl) ?_
    refine lv_iconst (v := 4) hx hb dL_law_222 (by decide) ?_
    refine lv_iadd hx hb dL_law_223 ?_
    refine lv_topi (fun x4 ex4 => ?_)
    obtain rfl : x4 = 4 := ex4.trans (by decide)
    refine va_sld hx hb hX hbl hbA hS (i := 4) (by unfold vp_in; decide) dL_law_224 ?_
    refine W.eq (g2 := F0 m 225 ls [.int (xs 4), .int (xs 3), .int (xs 2), .int (xs 1), .ref h0]) rfl ?_
    refine lv_aload_n hx hb dL_law_225 rfl (lv_at hl 2 rfl) ?_
    have hPc := hP.sub (ws' := (wX h0 a1 a2 a3 a4 a5 h6 s0 s1 s2 s3 t1 t2 t3 t4 t5)) [0, 1, 2, 3, 4, 5, 6, 7, 8, 9, 10] rfl
    have hKc := hK.sub (tys' := (tX t1 t2 t3 t4 t5)) [0, 1, 2, 3, 4] rfl
    have hDc := hD.sub (ws' := (wX h0 a1 a2 a3 a4 a5 h6 s0 s1 s2 s3 t1 t2 t3 t4 t5)) [0, 1, 2, 3, 4, 5, 6, 7, 8, 9, 10] (by decide) rfl
    have hFc := va_free (wc := (wX h0 a1 a2 a3 a4 a5 h6 s0 s1 s2 s3 t1 t2 t3 t4 t5)) hD hS hA [0, 1, 2, 3, 4, 5, 6, 7, 8, 9, 10] rfl
    refine gJ_i (isC := [0, 1, 2, 3, 4, 5, 6, 7, 8, 9, 10]) (isR := [11, 12, 13, 14, 15, 16, 17, 18]) (wr := [(m0, .inr (20, [.int 0, .ref m1, .ref m2, .ref m3, .ref m4, .int 0, .ref m5, .ref m6, .int 0])), (m1, .inr (4, [.int 0, .ref tE, .int 0])), (m2, .inr (4, [.int 0, .ref tE, .int 0])), (m3, .inr (4, [.int 0, .ref tE, .int 0])), (m4, .inr (4, [.int 0, .ref tE, .int 0])), (m5, .inl (tc, 4, .inl (upd (upd (upd (upd (fun _ => 0) 0 110) 1 110) 2 110) 3 110))), (o, .inl (tj, 1, .inr (.inl (fun _ => 0)))), (oD, .inl (td, 1, .inr (.inr (.inr (.inl (fun _ => 0))))))]) (vx_runSW (As := [.ref h0, .int (xs 1), .int (xs 2), .int (xs 3), .int (xs 4), .ref o]) (rest := []) ⟨hx, hb, hml, hown, hta⟩ (c_L_addMachine_f l hl0 hf) (vx_cwSW 6 hta (gWSW mw414 mw415 mw416 mw413) rfl rfl rfl (by decide +kernel) ⟨Nat.le_of_ble_eq_true rfl, Nat.le_of_ble_eq_true rfl⟩) ⟨gS_blind, fun U hU hW => ⟨rfl, by rw [hU], by rw [hU]; exact hPc, va_K.moved hW.alike hKc, hDc.weaken (fun _ _ _ _ => trivial), hG.call hS hU hW hFc⟩⟩ rfl rfl hl.1 rfl (lv_room (Nat.le_of_ble_eq_true rfl)) dL_law_226 ⟨Nat.le_of_ble_eq_true rfl, Nat.le_of_ble_eq_true rfl⟩) hP hD hS hK hFc rfl rfl (by decide) (by decide) (fun r5 u6 H locs h7 hP hD hS hK => ?_)
    obtain rfl : r5 = 1 := h7
    have hK : va_K D vwCl (tLw t1 t2 t3 t4 t5 tc tj td) s := hK
    have hP : va_P D vwCl [(m0, .inr (20, [.int 0, .ref m1, .ref m2, .ref m3, .ref m4, .int 0, .ref m5, .ref m6, .int 0])), (m1, .inr (4, [.int 0, .ref tE, .int 0])), (m2, .inr (4, [.int 0, .ref tE, .int 0])), (m3, .inr (4, [.int 0, .ref tE, .int 0])), (m4, .inr (4, [.int 0, .ref tE, .int 0])), (m5, .inl (tc, 4, .inl (upd (upd (upd (upd (fun _ => 0) 0 110) 1 110) 2 110) 3 110))), (o, .inl (tj, 1, .inr (.inl (fun _ => 0)))), (oD, .inl (td, 1, .inr (.inr (.inr (.inl (fun _ => 0))))))] H := hP
    have hD : va_D A [(m0, .inr (20, [.int 0, .ref m1, .ref m2, .ref m3, .ref m4, .int 0, .ref m5, .ref m6, .int 0])), (m1, .inr (4, [.int 0, .ref tE, .int 0])), (m2, .inr (4, [.int 0, .ref tE, .int 0])), (m3, .inr (4, [.int 0, .ref tE, .int 0])), (m4, .inr (4, [.int 0, .ref tE, .int 0])), (m5, .inl (tc, 4, .inl (upd (upd (upd (upd (fun _ => 0) 0 110) 1 110) 2 110) 3 110))), (o, .inl (tj, 1, .inr (.inl (fun _ => 0)))), (oD, .inl (td, 1, .inr (.inr (.inr (.inl (fun _ => 0))))))] := hD
    refine lv_istore (lv' := [(6, .int 1), (5, .int 0), (4, .ref oD), (3, .ref o), (2, .ref m0), (1, .ref h0), (0, .ref b)]) hx hb dL_law_229 hl (by decide) rfl (fun ls hl => ?_)
    refine lv_aload_n hx hb dL_law_231 rfl (lv_at hl 4 rfl) ?_
    refine lv_aload_n hx hb dL_law_232 rfl (lv_at hl 6 rfl) ?_
    refine lv_iload hx hb dL_law_233 (lv_at hl 1 rfl) ?_
    refine lv_iconst (v := 1) hx hb dL_law_235 (by decide) ?_
    refine lv_iadd hx hb dL_law_236 ?_
    refine lv_topi (fun x8 ex8 => ?_)
    obtain rfl : x8 = 1 := ex8.trans (by decide)
    refine va_sld hx hb hX hbl hbA hS (i := 1) (by unfold vp_in; decide) dL_law_237 ?_
    refine W.eq (g2 := F0 m 238 ls [.int (xs 1), .ref m0]) rfl ?_
    refine lv_aload_n hx hb dL_law_238 rfl (lv_at hl 6 rfl) ?_
    refine lv_iload hx hb dL_law_239 (lv_at hl 1 rfl) ?_
    refine lv_iconst (v := 2) hx hb dL_law_241 (by decide) ?_
    refine lv_iadd hx hb dL_law_242 ?_
    refine lv_topi (fun x9 ex9 => ?_)
    obtain rfl : x9 = 2 := ex9.trans (by decide)
    refine va_sld hx hb hX hbl hbA hS (i := 2) (by unfold vp_in; decide) dL_law_243 ?_
    refine W.eq (g2 := F0 m 244 ls [.int (xs 2), .int (xs 1), .ref m0]) rfl ?_
    refine lv_aload_n hx hb dL_law_244 rfl (lv_at hl 6 rfl) ?_
    refine lv_iload hx hb dL_law_245 (lv_at hl 1 rfl) ?_
    refine lv_iconst (v := 3) hx hb dL_law_247 (by decide) ?_
    refine lv_iadd hx hb dL_law_248 ?_
    refine lv_topi (fun x10 ex10 => ?_)
    obtain rfl : x10 = 3 := ex10.trans (by decide)
    refine va_sld hx hb hX hbl hbA hS (i := 3) (by unfold vp_in; decide) dL_law_249 ?_
    refine W.eq (g2 := F0 m 250 ls [.int (xs 3), .int (xs 2), .int (xs 1), .ref m0]) rfl ?_
    refine lv_aload_n hx hb dL_law_250 rfl (lv_at hl 6 rfl) ?_
    refine lv_iload hx hb dL_law_251 (lv_at hl 1 rfl) ?_
    refine lv_iconst (v := 4) hx hb dL_law_253 (by decide) ?_
    refine lv_iadd hx hb dL_law_254 ?_
    refine lv_topi (fun x11 ex11 => ?_)
    obtain rfl : x11 = 4 := ex11.trans (by decide)
    refine va_sld hx hb hX hbl hbA hS (i := 4) (by unfold vp_in; decide) dL_law_255 ?_
    refine W.eq (g2 := F0 m 256 ls [.int (xs 4), .int (xs 3), .int (xs 2), .int (xs 1), .ref m0]) rfl ?_
    have hPc := hP.sub (ws' := (wM tE m0 m1 m2 m3 m4 m5 m6 tc 0 0)) [0, 1, 2, 3, 4, 5] rfl
    have hKc := hK.sub (tys' := [(tc, .char)]) [5] rfl
    have hDc := hD.sub (ws' := (wM tE m0 m1 m2 m3 m4 m5 m6 tc 0 0)) [0, 1, 2, 3, 4, 5] (by decide) rfl
    have hFc := va_free (wc := (wM tE m0 m1 m2 m3 m4 m5 m6 tc 0 0)) hD hS hA [0, 1, 2, 3, 4, 5] rfl
    refine gJ_i (isC := [0, 1, 2, 3, 4, 5]) (isR := [6, 7]) (wr := [(o, .inl (tj, 1, .inr (.inl (fun _ => 0)))), (oD, .inl (td, 1, .inr (.inr (.inr (.inl (fun _ => 0))))))]) (va_runV (As := [.int (xs 1), .int (xs 2), .int (xs 3), .int (xs 4)]) (rest := []) ⟨hx, hb, hml, hown, hta⟩ (c_X15_addMachine_f l hf) (cwV 4 hta (gWV mw418 mw419 mw420 mw176 mw417) rfl rfl rfl (by decide +kernel) ⟨Nat.le_of_ble_eq_true rfl, Nat.le_of_ble_eq_true rfl⟩) ⟨gS_blind, va_recv hKc hPc (ci := 20) (q0 := 0) rfl rfl, fun U hU hW => ⟨rfl, by rw [hU], by rw [hU]; exact hPc, va_K.moved hW.alike hKc, hDc.weaken (fun _ _ _ _ => trivial), hG.call hS hU hW hFc⟩⟩ rfl rfl hl.1 rfl (lv_room (Nat.le_of_ble_eq_true rfl)) dL_law_256 ⟨Nat.le_of_ble_eq_true rfl, Nat.le_of_ble_eq_true rfl⟩) hP hD hS hK hFc rfl rfl (by decide) (by decide) (fun r12 u13 H locs h14 hP hD hS hK => ?_)
    obtain rfl : r12 = 0 := h14
    have hK : va_K D vwCl (tLw t1 t2 t3 t4 t5 tc tj td) s := hK
    have hP : va_P D vwCl [(o, .inl (tj, 1, .inr (.inl (fun _ => 0)))), (oD, .inl (td, 1, .inr (.inr (.inr (.inl (fun _ => 0)))))), (m0, .inr (20, [.int 1, .ref m1, .ref m2, .ref m3, .ref m4, .int 0, .ref m5, .ref m6, .int 0])), (m1, .inr (4, [.int 0, .ref tE, .int 0])), (m2, .inr (4, [.int 0, .ref tE, .int 0])), (m3, .inr (4, [.int 0, .ref tE, .int 0])), (m4, .inr (4, [.int 0, .ref tE, .int 0])), (m5, .inl (tc, 4, .inl (upd (upd (upd (upd (fun _ => 0) 0 110) 1 110) 2 110) 3 110)))] H := hP
    have hD : va_D A [(o, .inl (tj, 1, .inr (.inl (fun _ => 0)))), (oD, .inl (td, 1, .inr (.inr (.inr (.inl (fun _ => 0)))))), (m0, .inr (20, [.int 1, .ref m1, .ref m2, .ref m3, .ref m4, .int 0, .ref m5, .ref m6, .int 0])), (m1, .inr (4, [.int 0, .ref tE, .int 0])), (m2, .inr (4, [.int 0, .ref tE, .int 0])), (m3, .inr (4, [.int 0, .ref tE, .int 0])), (m4, .inr (4, [.int 0, .ref tE, .int 0])), (m5, .inl (tc, 4, .inl (upd (upd (upd (upd (fun _ => 0) 0 110) 1 110) 2 110) 3 110)))] := hD
    refine lv_istore (lv' := [(7, .int 0), (6, .int 1), (5, .int 0), (4, .ref oD), (3, .ref o), (2, .ref m0), (1, .ref h0), (0, .ref b)]) hx hb dL_law_259 hl (by decide) rfl (fun ls hl => ?_)
    refine lv_aload_n hx hb dL_law_261 rfl (lv_at hl 5 rfl) ?_
    have hPc := hP.sub (ws' := [(m0, .inr (20, [.int 1, .ref m1, .ref m2, .ref m3, .ref m4, .int 0, .ref m5, .ref m6, .int 0]))]) [2] rfl
    have hKc := hK.sub (tys' := []) [] rfl
    refine vp_callSi (W.runV (As := []) (rest := []) ⟨hx, hb, hml, hown, hta⟩ (c_X15_thrown l ) (cwV 0 hta (gWV mw422 mw423 mw424 mw176 mw421) rfl rfl rfl (by decide +kernel) ⟨Nat.le_of_ble_eq_true rfl, Nat.le_of_ble_eq_true rfl⟩) ⟨gR_blind, va_recv hKc hPc (ci := 20) (q0 := 0) rfl rfl, fun U hU hW => ⟨rfl, by rw [hU]; exact hPc, va_K.moved hW.alike hKc⟩⟩ rfl rfl hl.1 rfl (lv_room (Nat.le_of_ble_eq_true rfl)) dL_law_262 ⟨Nat.le_of_ble_eq_true rfl, Nat.le_of_ble_eq_true rfl⟩) (fun r15 h16 => ?_)
    obtain rfl : r15 = 1 := h16
    refine lv_iload hx hb dL_law_265 (lv_at hl 1 rfl) ?_
    refine lv_icmp_eq (tgt := 272) hx hb dL_law_267 (by decide) (fun c17 => ?_) (fun c17 => ?_)
    · skip
      refine lv_iload hx hb dL_law_272 (lv_at hl 1 rfl) ?_
      refine lv_if_ne (tgt := 289) hx hb dL_law_274 (by decide) (fun c18 => ?_) (fun c18 => ?_)
      · skip
        refine lv_goto (tgt := 2441) hx hb dL_law_289 (by decide) ?_
        exact law_tail l C0 hA2 hS (lv_sub hl [7, 2] rfl) (Nat.le_of_ble_eq_true rfl) (Nat.le_of_ble_eq_true rfl)
      · exact absurd c18 (by decide)
    · exact absurd (by decide) c17
  · skip
    obtain ⟨g91, g92, g93, g94⟩ := fitM_t hf
    refine lv_aload_n hx hb dL_law_200 rfl (lv_at hl 4 rfl) ?_
    refine lv_aload_n hx hb dL_law_201 rfl (lv_at hl 5 rfl) ?_
    refine lv_iload hx hb dL_law_202 (lv_at hl 0 rfl) ?_
    refine lv_iconst (v := 1) hx hb dL_law_204 (by decide) ?_
    refine lv_iadd hx hb dL_law_205 ?_
    refine lv_topi (fun x19 ex19 => ?_)
    obtain rfl : x19 = 1 := ex19.trans (by decide)
    refine va_sld hx hb hX hbl hbA hS (i := 1) (by unfold vp_in; decide) dL_law_206 ?_
    refine W.eq (g2 := F0 m 207 ls [.int (xs 1), .ref h0]) rfl ?_
    refine lv_aload_n hx hb dL_law_207 rfl (lv_at hl 5 rfl) ?_
    refine lv_iload hx hb dL_law_208 (lv_at hl 0 rfl) ?_
    refine lv_iconst (v := 2) hx hb dL_law_210 (by decide) ?_
    refine lv_iadd hx hb dL_law_211 ?_
    refine lv_topi (fun x20 ex20 => ?_)
    obtain rfl : x20 = 2 := ex20.trans (by decide)
    refine va_sld hx hb hX hbl hbA hS (i := 2) (by unfold vp_in; decide) dL_law_212 ?_
    refine W.eq (g2 := F0 m 213 ls [.int (xs 2), .int (xs 1), .ref h0]) rfl ?_
    refine lv_aload_n hx hb dL_law_213 rfl (lv_at hl 5 rfl) ?_
    refine lv_iload hx hb dL_law_214 (lv_at hl 0 rfl) ?_
    refine lv_iconst (v := 3) hx hb dL_law_216 (by decide) ?_
    refine lv_iadd hx hb dL_law_217 ?_
    refine lv_topi (fun x21 ex21 => ?_)
    obtain rfl : x21 = 3 := ex21.trans (by decide)
    refine va_sld hx hb hX hbl hbA hS (i := 3) (by unfold vp_in; decide) dL_law_218 ?_
    refine W.eq (g2 := F0 m 219 ls [.int (xs 3), .int (xs 2), .int (xs 1), .ref h0]) rfl ?_
    refine lv_aload_n hx hb dL_law_219 rfl (lv_at hl 5 rfl) ?_
    refine lv_iload hx hb dL_law_220 (lv_at hl 0 rfl) ?_
    refine lv_iconst (v := 4) hx hb dL_law_222 (by decide) ?_
    refine lv_iadd hx hb dL_law_223 ?_
    refine lv_topi (fun x22 ex22 => ?_)
    obtain rfl : x22 = 4 := ex22.trans (by decide)
    refine va_sld hx hb hX hbl hbA hS (i := 4) (by unfold vp_in; decide) dL_law_224 ?_
    refine W.eq (g2 := F0 m 225 ls [.int (xs 4), .int (xs 3), .int (xs 2), .int (xs 1), .ref h0]) rfl ?_
    refine lv_aload_n hx hb dL_law_225 rfl (lv_at hl 2 rfl) ?_
    have hPc := hP.sub (ws' := [(h0, .inr (15, [.ref a1, .ref a2, .ref a3, .ref a4, .ref a5, .ref h6, .int 0, .int 0, .int 0, .int 0, .int 0, .int 0, .long 0, .long 0])), (a1, .inl (t1, 5, .inr (.inr (.inr (.inr (fun _ => none)))))), (a2, .inl (t2, 12, .inr (.inr (.inr (.inr (fun _ => none)))))), (a3, .inl (t3, 4, .inr (.inr (.inr (.inr (va_up (va_up (va_up (va_up (fun _ => none) 0 (some s0)) 1 (some s1)) 2 (some s2)) 3 (some s3))))))), (a4, .inl (t4, 90, .inr (.inr (.inr (.inr (fun _ => none)))))), (a5, .inl (t5, 30, .inr (.inr (.inr (.inr (fun _ => none)))))), (h6, .inr (10, [.long 0, .long 0])), (s0, .inr (14, [.int 110, .int 0, .int 0])), (s1, .inr (14, [.int 110, .int 0, .int 0])), (s2, .inr (14, [.int 110, .int 0, .int 0])), (s3, .inr (14, [.int 110, .int 0, .int 0])), (o, .inl (tj, 1, .inr (.inl (fun _ => 0))))]) [0, 1, 2, 3, 4, 5, 6, 7, 8, 9, 10, 17] rfl
    have hKc := hK.sub (tys' := [(t1, .object "Foundrymark$Machine"), (t2, .object "Foundrymark$Part"), (t3, .object "Foundrymark$Supplier"), (t4, .object "Foundrymark$Lot"), (t5, .object "Foundrymark$Order"), (tj, .long)]) [0, 1, 2, 3, 4, 6] rfl
    have hDc := hD.sub (ws' := [(h0, .inr (15, [.ref a1, .ref a2, .ref a3, .ref a4, .ref a5, .ref h6, .int 0, .int 0, .int 0, .int 0, .int 0, .int 0, .long 0, .long 0])), (a1, .inl (t1, 5, .inr (.inr (.inr (.inr (fun _ => none)))))), (a2, .inl (t2, 12, .inr (.inr (.inr (.inr (fun _ => none)))))), (a3, .inl (t3, 4, .inr (.inr (.inr (.inr (va_up (va_up (va_up (va_up (fun _ => none) 0 (some s0)) 1 (some s1)) 2 (some s2)) 3 (some s3))))))), (a4, .inl (t4, 90, .inr (.inr (.inr (.inr (fun _ => none)))))), (a5, .inl (t5, 30, .inr (.inr (.inr (.inr (fun _ => none)))))), (h6, .inr (10, [.long 0, .long 0])), (s0, .inr (14, [.int 110, .int 0, .int 0])), (s1, .inr (14, [.int 110, .int 0, .int 0])), (s2, .inr (14, [.int 110, .int 0, .int 0])), (s3, .inr (14, [.int 110, .int 0, .int 0])), (o, .inl (tj, 1, .inr (.inl (fun _ => 0))))]) [0, 1, 2, 3, 4, 5, 6, 7, 8, 9, 10, 17] (by decide) rfl
    have hFc := va_free (wc := [(h0, .inr (15, [.ref a1, .ref a2, .ref a3, .ref a4, .ref a5, .ref h6, .int 0, .int 0, .int 0, .int 0, .int 0, .int 0, .long 0, .long 0])), (a1, .inl (t1, 5, .inr (.inr (.inr (.inr (fun _ => none)))))), (a2, .inl (t2, 12, .inr (.inr (.inr (.inr (fun _ => none)))))), (a3, .inl (t3, 4, .inr (.inr (.inr (.inr (va_up (va_up (va_up (va_up (fun _ => none) 0 (some s0)) 1 (some s1)) 2 (some s2)) 3 (some s3))))))), (a4, .inl (t4, 90, .inr (.inr (.inr (.inr (fun _ => none)))))), (a5, .inl (t5, 30, .inr (.inr (.inr (.inr (fun _ => none)))))), (h6, .inr (10, [.long 0, .long 0])), (s0, .inr (14, [.int 110, .int 0, .int 0])), (s1, .inr (14, [.int 110, .int 0, .int 0])), (s2, .inr (14, [.int 110, .int 0, .int 0])), (s3, .inr (14, [.int 110, .int 0, .int 0])), (o, .inl (tj, 1, .inr (.inl (fun _ => 0))))]) hD hS hA [0, 1, 2, 3, 4, 5, 6, 7, 8, 9, 10, 17] rfl
    refine gJ_i (isC := [0, 1, 2, 3, 4, 5, 6, 7, 8, 9, 10, 17]) (isR := [11, 12, 13, 14, 15, 16, 18]) (wr := [(m0, .inr (20, [.int 0, .ref m1, .ref m2, .ref m3, .ref m4, .int 0, .ref m5, .ref m6, .int 0])), (m1, .inr (4, [.int 0, .ref tE, .int 0])), (m2, .inr (4, [.int 0, .ref tE, .int 0])), (m3, .inr (4, [.int 0, .ref tE, .int 0])), (m4, .inr (4, [.int 0, .ref tE, .int 0])), (m5, .inl (tc, 4, .inl (upd (upd (upd (upd (fun _ => 0) 0 110) 1 110) 2 110) 3 110))), (oD, .inl (td, 1, .inr (.inr (.inr (.inl (fun _ => 0))))))]) (vx_runSW (As := [.ref h0, .int (xs 1), .int (xs 2), .int (xs 3), .int (xs 4), .ref o]) (rest := []) ⟨hx, hb, hml, hown, hta⟩ (c_L_addMachine_t l hl0 g91 g92 g93 g94) (vx_cwSW 6 hta (gWSW mw414 mw415 mw416 mw413) rfl rfl rfl (by decide +kernel) ⟨Nat.le_of_ble_eq_true rfl, Nat.le_of_ble_eq_true rfl⟩) ⟨gS_blind, fun U hU hW => ⟨rfl, by rw [hU], by rw [hU]; exact hPc, va_K.moved hW.alike hKc, hDc.weaken (fun _ _ _ _ => trivial), hG.call hS hU hW hFc⟩⟩ rfl rfl hl.1 rfl (lv_room (Nat.le_of_ble_eq_true rfl)) dL_law_226 ⟨Nat.le_of_ble_eq_true rfl, Nat.le_of_ble_eq_true rfl⟩) hP hD hS hK hFc rfl rfl (by decide) (by decide) (fun r23 u24 H locs h25 hP hD hS hK => ?_)
    obtain rfl : r23 = 0 := h25
    have hK : va_K D vwCl (tLw t1 t2 t3 t4 t5 tc tj td) s := hK
    have hP : va_P D vwCl [(m0, .inr (20, [.int 0, .ref m1, .ref m2, .ref m3, .ref m4, .int 0, .ref m5, .ref m6, .int 0])), (m1, .inr (4, [.int 0, .ref tE, .int 0])), (m2, .inr (4, [.int 0, .ref tE, .int 0])), (m3, .inr (4, [.int 0, .ref tE, .int 0])), (m4, .inr (4, [.int 0, .ref tE, .int 0])), (m5, .inl (tc, 4, .inl (upd (upd (upd (upd (fun _ => 0) 0 110) 1 110) 2 110) 3 110))), (oD, .inl (td, 1, .inr (.inr (.inr (.inl (fun _ => 0)))))), (o, .inl (tj, 1, .inr (.inl (vp_updL (fun _ => 0) 0 0))))] H := hP
    have hD : va_D A [(m0, .inr (20, [.int 0, .ref m1, .ref m2, .ref m3, .ref m4, .int 0, .ref m5, .ref m6, .int 0])), (m1, .inr (4, [.int 0, .ref tE, .int 0])), (m2, .inr (4, [.int 0, .ref tE, .int 0])), (m3, .inr (4, [.int 0, .ref tE, .int 0])), (m4, .inr (4, [.int 0, .ref tE, .int 0])), (m5, .inl (tc, 4, .inl (upd (upd (upd (upd (fun _ => 0) 0 110) 1 110) 2 110) 3 110))), (oD, .inl (td, 1, .inr (.inr (.inr (.inl (fun _ => 0)))))), (o, .inl (tj, 1, .inr (.inl (vp_updL (fun _ => 0) 0 0))))] := hD
    refine lv_istore (lv' := [(6, .int 0), (5, .int 0), (4, .ref oD), (3, .ref o), (2, .ref m0), (1, .ref h0), (0, .ref b)]) hx hb dL_law_229 hl (by decide) rfl (fun ls hl => ?_)
    refine lv_aload_n hx hb dL_law_231 rfl (lv_at hl 4 rfl) ?_
    refine lv_aload_n hx hb dL_law_232 rfl (lv_at hl 6 rfl) ?_
    refine lv_iload hx hb dL_law_233 (lv_at hl 1 rfl) ?_
    refine lv_iconst (v := 1) hx hb dL_law_235 (by decide) ?_
    refine lv_iadd hx hb dL_law_236 ?_
    refine lv_topi (fun x26 ex26 => ?_)
    obtain rfl : x26 = 1 := ex26.trans (by decide)
    refine va_sld hx hb hX hbl hbA hS (i := 1) (by unfold vp_in; decide) dL_law_237 ?_
    refine W.eq (g2 := F0 m 238 ls [.int (xs 1), .ref m0]) rfl ?_
    refine lv_aload_n hx hb dL_law_238 rfl (lv_at hl 6 rfl) ?_
    refine lv_iload hx hb dL_law_239 (lv_at hl 1 rfl) ?_
    refine lv_iconst (v := 2) hx hb dL_law_241 (by decide) ?_
    refine lv_iadd hx hb dL_law_242 ?_
    refine lv_topi (fun x27 ex27 => ?_)
    obtain rfl : x27 = 2 := ex27.trans (by decide)
    refine va_sld hx hb hX hbl hbA hS (i := 2) (by unfold vp_in; decide) dL_law_243 ?_
    refine W.eq (g2 := F0 m 244 ls [.int (xs 2), .int (xs 1), .ref m0]) rfl ?_
    refine lv_aload_n hx hb dL_law_244 rfl (lv_at hl 6 rfl) ?_
    refine lv_iload hx hb dL_law_245 (lv_at hl 1 rfl) ?_
    refine lv_iconst (v := 3) hx hb dL_law_247 (by decide) ?_
    refine lv_iadd hx hb dL_law_248 ?_
    refine lv_topi (fun x28 ex28 => ?_)
    obtain rfl : x28 = 3 := ex28.trans (by decide)
    refine va_sld hx hb hX hbl hbA hS (i := 3) (by unfold vp_in; decide) dL_law_249 ?_
    refine W.eq (g2 := F0 m 250 ls [.int (xs 3), .int (xs 2), .int (xs 1), .ref m0]) rfl ?_
    refine lv_aload_n hx hb dL_law_250 rfl (lv_at hl 6 rfl) ?_
    refine lv_iload hx hb dL_law_251 (lv_at hl 1 rfl) ?_
    refine lv_iconst (v := 4) hx hb dL_law_253 (by decide) ?_
    refine lv_iadd hx hb dL_law_254 ?_
    refine lv_topi (fun x29 ex29 => ?_)
    obtain rfl : x29 = 4 := ex29.trans (by decide)
    refine va_sld hx hb hX hbl hbA hS (i := 4) (by unfold vp_in; decide) dL_law_255 ?_
    refine W.eq (g2 := F0 m 256 ls [.int (xs 4), .int (xs 3), .int (xs 2), .int (xs 1), .ref m0]) rfl ?_
    have hPc := hP.sub (ws' := (wM tE m0 m1 m2 m3 m4 m5 m6 tc 0 0)) [0, 1, 2, 3, 4, 5] rfl
    have hKc := hK.sub (tys' := [(tc, .char)]) [5] rfl
    have hDc := hD.sub (ws' := (wM tE m0 m1 m2 m3 m4 m5 m6 tc 0 0)) [0, 1, 2, 3, 4, 5] (by decide) rfl
    have hFc := va_free (wc := (wM tE m0 m1 m2 m3 m4 m5 m6 tc 0 0)) hD hS hA [0, 1, 2, 3, 4, 5] rfl
    refine gJ_i (isC := [0, 1, 2, 3, 4, 5]) (isR := [6, 7]) (wr := [(oD, .inl (td, 1, .inr (.inr (.inr (.inl (fun _ => 0)))))), (o, .inl (tj, 1, .inr (.inl (vp_updL (fun _ => 0) 0 0))))]) (va_runV (As := [.int (xs 1), .int (xs 2), .int (xs 3), .int (xs 4)]) (rest := []) ⟨hx, hb, hml, hown, hta⟩ (c_X15_addMachine_t l g91 g92 g93 g94) (cwV 4 hta (gWV mw418 mw419 mw420 mw176 mw417) rfl rfl rfl (by decide +kernel) ⟨Nat.le_of_ble_eq_true rfl, Nat.le_of_ble_eq_true rfl⟩) ⟨gS_blind, va_recv hKc hPc (ci := 20) (q0 := 0) rfl rfl, fun U hU hW => ⟨rfl, by rw [hU], by rw [hU]; exact hPc, va_K.moved hW.alike hKc, hDc.weaken (fun _ _ _ _ => trivial), hG.call hS hU hW hFc⟩⟩ rfl rfl hl.1 rfl (lv_room (Nat.le_of_ble_eq_true rfl)) dL_law_256 ⟨Nat.le_of_ble_eq_true rfl, Nat.le_of_ble_eq_true rfl⟩) hP hD hS hK hFc rfl rfl (by decide) (by decide) (fun r30 u31 H locs h32 hP hD hS hK => ?_)
    obtain rfl : r30 = 0 := h32
    have hK : va_K D vwCl (tLw t1 t2 t3 t4 t5 tc tj td) s := hK
    have hP : va_P D vwCl [(oD, .inl (td, 1, .inr (.inr (.inr (.inl (fun _ => 0)))))), (o, .inl (tj, 1, .inr (.inl (vp_updL (fun _ => 0) 0 0)))), (m0, .inr (20, .int 0 :: u31))] H := hP
    have hD : va_D A [(oD, .inl (td, 1, .inr (.inr (.inr (.inl (fun _ => 0)))))), (o, .inl (tj, 1, .inr (.inl (vp_updL (fun _ => 0) 0 0)))), (m0, .inr (20, .int 0 :: u31))] := hD
    refine lv_istore (lv' := [(7, .int 0), (6, .int 0), (5, .int 0), (4, .ref oD), (3, .ref o), (2, .ref m0), (1, .ref h0), (0, .ref b)]) hx hb dL_law_259 hl (by decide) rfl (fun ls hl => ?_)
    refine lv_aload_n hx hb dL_law_261 rfl (lv_at hl 5 rfl) ?_
    have hPc := hP.sub (ws' := [(m0, .inr (20, .int 0 :: u31))]) [2] rfl
    have hKc := hK.sub (tys' := []) [] rfl
    refine vp_callSi (W.runV (As := []) (rest := []) ⟨hx, hb, hml, hown, hta⟩ (c_X15_thrown l ) (cwV 0 hta (gWV mw422 mw423 mw424 mw176 mw421) rfl rfl rfl (by decide +kernel) ⟨Nat.le_of_ble_eq_true rfl, Nat.le_of_ble_eq_true rfl⟩) ⟨gR_blind, va_recv hKc hPc (ci := 20) (q0 := 0) rfl rfl, fun U hU hW => ⟨rfl, by rw [hU]; exact hPc, va_K.moved hW.alike hKc⟩⟩ rfl rfl hl.1 rfl (lv_room (Nat.le_of_ble_eq_true rfl)) dL_law_262 ⟨Nat.le_of_ble_eq_true rfl, Nat.le_of_ble_eq_true rfl⟩) (fun r33 h34 => ?_)
    obtain rfl : r33 = 0 := h34
    refine lv_iload hx hb dL_law_265 (lv_at hl 1 rfl) ?_
    refine lv_icmp_eq (tgt := 272) hx hb dL_law_267 (by decide) (fun c35 => ?_) (fun c35 => ?_)
    · skip
      refine lv_iload hx hb dL_law_272 (lv_at hl 1 rfl) ?_
      refine lv_if_ne (tgt := 289) hx hb dL_law_274 (by decide) (fun c36 => ?_) (fun c36 => ?_)
      · exact absurd c36 (by decide)
      · skip
        refine lv_aload_n hx hb dL_law_277 rfl (lv_at hl 4 rfl) ?_
        refine lv_iconst (v := 0) hx hb dL_law_278 (by decide) ?_
        refine va_lald hx hb hK hP 1 6 rfl rfl (i := 0) (by unfold vp_in; decide) dL_law_279 ?_
        refine W.eq (g2 := F0 m 280 ls [.long 0]) rfl ?_
        refine lv_iload hx hb dL_law_280 (lv_at hl 0 rfl) ?_
        refine lv_i2l (v := 0) hx hb dL_law_282 (by decide) ?_
        refine W.lcmp hx hb dL_law_283 ?_
        refine lv_if_eq (tgt := 289) hx hb dL_law_284 (by decide) (fun c37 => ?_) (fun c37 => ?_)
        · skip
          refine lv_goto (tgt := 2441) hx hb dL_law_289 (by decide) ?_
          exact law_tail l C0 hA2 hS (lv_sub hl [7, 2] rfl) (Nat.le_of_ble_eq_true rfl) (Nat.le_of_ble_eq_true rfl)
        · exact absurd lgc c37
    · exact absurd (by decide) c35

set_option maxHeartbeats 4000000 in
set_option maxRecDepth 100000 in
theorem lc_1 {p : Program} {e : Env} {s : State} {m : MethodId} {below : List Frame} {meth : Method} {c : Code} (l : Launch) (hl0 : l.stackTraces = false) {b : Nat} {xs : Nat → Int32} (C0 : lw_At p s m meth c b 6 xs) {A : Nat → Prop} (hA : ∀ q, s.heap.size ≤ q → A q) (hA2 : ∀ q, A q → s.heap.size ≤ q) {D : va_G} {tE : Nat} {h0 a1 a2 a3 a4 a5 h6 s0 s1 s2 s3 : Nat} {t1 t2 t3 t4 t5 : ClassId} {m0 m1 m2 m3 m4 m5 m6 : Nat} {tc : ClassId} {o oD : Nat} {tj td : ClassId} {H : Heap} {locs : List Loc} {ls : Array Slot} (hK : va_K D vwCl (tLw t1 t2 t3 t4 t5 tc tj td) s) (hG : gP tE A s) (hP : va_P D vwCl (wLw tE h0 a1 a2 a3 a4 a5 h6 s0 s1 s2 s3 m0 m1 m2 m3 m4 m5 m6 o oD t1 t2 t3 t4 t5 tc tj td) H) (hD : va_D A (wLw tE h0 a1 a2 a3 a4 a5 h6 s0 s1 s2 s3 m0 m1 m2 m3 m4 m5 m6 o oD t1 t2 t3 t4 t5 tc tj td)) (hS : va_S A s.heap H locs) (hl : lv_has ls 9 [(5, .int 0), (4, .ref oD), (3, .ref o), (2, .ref m0), (1, .ref h0), (0, .ref b)]) : W p l e room_1 s m #[Value.ref b] below meth c H locs 25 221 (lw_Z below #[Value.ref b] s) (F0 m 292 ls []) := by
  obtain ⟨hx, hb, hr, hml, hown0, hts, hX, hbl, hlocks, hgv⟩ := id C0
  have hta : ∀ w ∈ WA, w.before #[Value.ref b] s = true := fun w h => hts w (WA_in w h)
  have hown : s.vm.findClass "FoundrymarkLaw" = some m.cls := hown0
  have hbA : ¬ A b := fun h => absurd (hA2 b h) (Nat.not_le.mpr hbl)
  rcases hf : inR (xs 2) 0 3 with _ | _
  · skip
    refine lv_aload_n hx hb dL_law_292 rfl (lv_at hl 4 rfl) ?_
    refine lv_aload_n hx hb dL_law_293 rfl (lv_at hl 5 rfl) ?_
    refine lv_iload hx hb dL_law_294 (lv_at hl 0 rfl) ?_
    refine lv_iconst (v := 1) hx hb dL_law_296 (by decide) ?_
    refine lv_iadd hx hb dL_law_297 ?_
    refine lv_topi (fun x1 ex1 => ?_)
    obtain rfl : x1 = 1 := ex1.trans (by decide)
    refine va_sld hx hb hX hbl hbA hS (i := 1) (by unfold vp_in; decide) dL_law_298 ?_
    refine W.eq (g2 := F0 m 299 ls [.int (xs 1), .ref h0]) rfl ?_
    refine lv_if_eq (tgt := 306) hx hb dL_law_299 (by decide) (fun c2 => ?_) (fun c2 => ?_)
    · skip
      refine lv_iconst (v := 0) hx hb dL_law_306 (by decide) ?_
      refine lv_aload_n hx hb dL_law_307 rfl (lv_at hl 5 rfl) ?_
      refine lv_iload hx hb dL_law_308 (lv_at hl 0 rfl) ?_
      refine lv_iconst (v := 2) hx hb dL_law_310 (by decide) ?_
      refine lv_iadd hx hb dL_law_311 ?_
      refine lv_topi (fun x3 ex3 => ?_)
      obtain rfl : x3 = 2 := ex3.trans (by decide)
      refine va_sld hx hb hX hbl hbA hS (i := 2) (by unfold vp_in; decide) dL_law_312 ?_
      refine W.eq (g2 := F0 m 313 ls [.int (xs 2), .int 0, .ref h0]) rfl ?_
      refine lv_aload_n hx hb dL_law_313 rfl (lv_at hl 2 rfl) ?_
      have hPc := hP.sub (ws' := (wX h0 a1 a2 a3 a4 a5 h6 s0 s1 s2 s3 t1 t2 t3 t4 t5)) [0, 1, 2, 3, 4, 5, 6, 7, 8, 9, 10] rfl
      have hKc := hK.sub (tys' := (tX t1 t2 t3 t4 t5)) [0, 1, 2, 3, 4] rfl
      have hDc := hD.sub (ws' := (wX h0 a1 a2 a3 a4 a5 h6 s0 s1 s2 s3 t1 t2 t3 t4 t5)) [0, 1, 2, 3, 4, 5, 6, 7, 8, 9, 10] (by decide) rfl
      have hFc := va_free (wc := (wX h0 a1 a2 a3 a4 a5 h6 s0 s1 s2 s3 t1 t2 t3 t4 t5)) hD hS hA [0, 1, 2, 3, 4, 5, 6, 7, 8, 9, 10] rfl
      refine gJ_i (isC := [0, 1, 2, 3, 4, 5, 6, 7, 8, 9, 10]) (isR := [11, 12, 13, 14, 15, 16, 17, 18]) (wr := [(m0, .inr (20, [.int 0, .ref m1, .ref m2, .ref m3, .ref m4, .int 0, .ref m5, .ref m6, .int 0])), (m1, .inr (4, [.int 0, .ref tE, .int 0])), (m2, .inr (4, [.int 0, .ref tE, .int 0])), (m3, .inr (4, [.int 0, .ref tE, .int 0])), (m4, .inr (4, [.int 0, .ref tE, .int 0])), (m5, .inl (tc, 4, .inl (upd (upd (upd (upd (fun _ => 0) 0 110) 1 110) 2 110) 3 110))), (o, .inl (tj, 1, .inr (.inl (fun _ => 0)))), (oD, .inl (td, 1, .inr (.inr (.inr (.inl (fun _ => 0))))))]) (vx_runSW (As := [.ref h0, .int 0, .int (xs 2), .ref o]) (rest := []) ⟨hx, hb, hml, hown, hta⟩ (c_L_addPart_f l hl0 hf) (vx_cwSW 4 hta (gWSW mw426 mw427 mw416 mw425) rfl rfl rfl (by decide +kernel) ⟨Nat.le_of_ble_eq_true rfl, Nat.le_of_ble_eq_true rfl⟩) ⟨gS_blind, fun U hU hW => ⟨rfl, by rw [hU], by rw [hU]; exact hPc, va_K.moved hW.alike hKc, hDc.weaken (fun _ _ _ _ => trivial), hG.call hS hU hW hFc⟩⟩ rfl rfl hl.1 rfl (lv_room (Nat.le_of_ble_eq_true rfl)) dL_law_314 ⟨Nat.le_of_ble_eq_true rfl, Nat.le_of_ble_eq_true rfl⟩) hP hD hS hK hFc rfl rfl (by decide) (by decide) (fun r4 u5 H locs h6 hP hD hS hK => ?_)
      obtain rfl : r4 = 1 := h6
      have hK : va_K D vwCl (tLw t1 t2 t3 t4 t5 tc tj td) s := hK
      have hP : va_P D vwCl [(m0, .inr (20, [.int 0, .ref m1, .ref m2, .ref m3, .ref m4, .int 0, .ref m5, .ref m6, .int 0])), (m1, .inr (4, [.int 0, .ref tE, .int 0])), (m2, .inr (4, [.int 0, .ref tE, .int 0])), (m3, .inr (4, [.int 0, .ref tE, .int 0])), (m4, .inr (4, [.int 0, .ref tE, .int 0])), (m5, .inl (tc, 4, .inl (upd (upd (upd (upd (fun _ => 0) 0 110) 1 110) 2 110) 3 110))), (o, .inl (tj, 1, .inr (.inl (fun _ => 0)))), (oD, .inl (td, 1, .inr (.inr (.inr (.inl (fun _ => 0))))))] H := hP
      have hD : va_D A [(m0, .inr (20, [.int 0, .ref m1, .ref m2, .ref m3, .ref m4, .int 0, .ref m5, .ref m6, .int 0])), (m1, .inr (4, [.int 0, .ref tE, .int 0])), (m2, .inr (4, [.int 0, .ref tE, .int 0])), (m3, .inr (4, [.int 0, .ref tE, .int 0])), (m4, .inr (4, [.int 0, .ref tE, .int 0])), (m5, .inl (tc, 4, .inl (upd (upd (upd (upd (fun _ => 0) 0 110) 1 110) 2 110) 3 110))), (o, .inl (tj, 1, .inr (.inl (fun _ => 0)))), (oD, .inl (td, 1, .inr (.inr (.inr (.inl (fun _ => 0))))))] := hD
      refine lv_istore (lv' := [(6, .int 1), (5, .int 0), (4, .ref oD), (3, .ref o), (2, .ref m0), (1, .ref h0), (0, .ref b)]) hx hb dL_law_317 hl (by decide) rfl (fun ls hl => ?_)
      refine lv_aload_n hx hb dL_law_319 rfl (lv_at hl 4 rfl) ?_
      refine lv_aload_n hx hb dL_law_320 rfl (lv_at hl 6 rfl) ?_
      refine lv_iload hx hb dL_law_321 (lv_at hl 1 rfl) ?_
      refine lv_iconst (v := 1) hx hb dL_law_323 (by decide) ?_
      refine lv_iadd hx hb dL_law_324 ?_
      refine lv_topi (fun x7 ex7 => ?_)
      obtain rfl : x7 = 1 := ex7.trans (by decide)
      refine va_sld hx hb hX hbl hbA hS (i := 1) (by unfold vp_in; decide) dL_law_325 ?_
      refine W.eq (g2 := F0 m 326 ls [.int (xs 1), .ref m0]) rfl ?_
      refine lv_if_eq (tgt := 333) hx hb dL_law_326 (by decide) (fun c8 => ?_) (fun c8 => ?_)
      · skip
        refine lv_iconst (v := 0) hx hb dL_law_333 (by decide) ?_
        refine lv_aload_n hx hb dL_law_334 rfl (lv_at hl 6 rfl) ?_
        refine lv_iload hx hb dL_law_335 (lv_at hl 1 rfl) ?_
        refine lv_iconst (v := 2) hx hb dL_law_337 (by decide) ?_
        refine lv_iadd hx hb dL_law_338 ?_
        refine lv_topi (fun x9 ex9 => ?_)
        obtain rfl : x9 = 2 := ex9.trans (by decide)
        refine va_sld hx hb hX hbl hbA hS (i := 2) (by unfold vp_in; decide) dL_law_339 ?_
        refine W.eq (g2 := F0 m 340 ls [.int (xs 2), .int 0, .ref m0]) rfl ?_
        have hPc := hP.sub (ws' := (wM tE m0 m1 m2 m3 m4 m5 m6 tc 0 0)) [0, 1, 2, 3, 4, 5] rfl
        have hKc := hK.sub (tys' := [(tc, .char)]) [5] rfl
        have hDc := hD.sub (ws' := (wM tE m0 m1 m2 m3 m4 m5 m6 tc 0 0)) [0, 1, 2, 3, 4, 5] (by decide) rfl
        have hFc := va_free (wc := (wM tE m0 m1 m2 m3 m4 m5 m6 tc 0 0)) hD hS hA [0, 1, 2, 3, 4, 5] rfl
        refine gJ_i (isC := [0, 1, 2, 3, 4, 5]) (isR := [6, 7]) (wr := [(o, .inl (tj, 1, .inr (.inl (fun _ => 0)))), (oD, .inl (td, 1, .inr (.inr (.inr (.inl (fun _ => 0))))))]) (va_runV (As := [.int 0, .int (xs 2)]) (rest := []) ⟨hx, hb, hml, hown, hta⟩ (c_X15_addPart_f l hf) (cwV 2 hta (gWV mw429 mw430 mw431 mw176 mw428) rfl rfl rfl (by decide +kernel) ⟨Nat.le_of_ble_eq_true rfl, Nat.le_of_ble_eq_true rfl⟩) ⟨gS_blind, va_recv hKc hPc (ci := 20) (q0 := 0) rfl rfl, fun U hU hW => ⟨rfl, by rw [hU], by rw [hU]; exact hPc, va_K.moved hW.alike hKc, hDc.weaken (fun _ _ _ _ => trivial), hG.call hS hU hW hFc⟩⟩ rfl rfl hl.1 rfl (lv_room (Nat.le_of_ble_eq_true rfl)) dL_law_340 ⟨Nat.le_of_ble_eq_true rfl, Nat.le_of_ble_eq_true rfl⟩) hP hD hS hK hFc rfl rfl (by decide) (by decide) (fun r10 u11 H locs h12 hP hD hS hK => ?_)
        obtain rfl : r10 = 0 := h12
        have hK : va_K D vwCl (tLw t1 t2 t3 t4 t5 tc tj td) s := hK
        have hP : va_P D vwCl [(o, .inl (tj, 1, .inr (.inl (fun _ => 0)))), (oD, .inl (td, 1, .inr (.inr (.inr (.inl (fun _ => 0)))))), (m0, .inr (20, [.int 1, .ref m1, .ref m2, .ref m3, .ref m4, .int 0, .ref m5, .ref m6, .int 0])), (m1, .inr (4, [.int 0, .ref tE, .int 0])), (m2, .inr (4, [.int 0, .ref tE, .int 0])), (m3, .inr (4, [.int 0, .ref tE, .int 0])), (m4, .inr (4, [.int 0, .ref tE, .int 0])), (m5, .inl (tc, 4, .inl (upd (upd (upd (upd (fun _ => 0) 0 110) 1 110) 2 110) 3 110)))] H := hP
        have hD : va_D A [(o, .inl (tj, 1, .inr (.inl (fun _ => 0)))), (oD, .inl (td, 1, .inr (.inr (.inr (.inl (fun _ => 0)))))), (m0, .inr (20, [.int 1, .ref m1, .ref m2, .ref m3, .ref m4, .int 0, .ref m5, .ref m6, .int 0])), (m1, .inr (4, [.int 0, .ref tE, .int 0])), (m2, .inr (4, [.int 0, .ref tE, .int 0])), (m3, .inr (4, [.int 0, .ref tE, .int 0])), (m4, .inr (4, [.int 0, .ref tE, .int 0])), (m5, .inl (tc, 4, .inl (upd (upd (upd (upd (fun _ => 0) 0 110) 1 110) 2 110) 3 110)))] := hD
        refine lv_istore (lv' := [(7, .int 0), (6, .int 1), (5, .int 0), (4, .ref oD), (3, .ref o), (2, .ref m0), (1, .ref h0), (0, .ref b)]) hx hb dL_law_343 hl (by decide) rfl (fun ls hl => ?_)
        refine lv_aload_n hx hb dL_law_345 rfl (lv_at hl 5 rfl) ?_
        have hPc := hP.sub (ws' := [(m0, .inr (20, [.int 1, .ref m1, .ref m2, .ref m3, .ref m4, .int 0, .ref m5, .ref m6, .int 0]))]) [2] rfl
        have hKc := hK.sub (tys' := []) [] rfl
        refine vp_callSi (W.runV (As := []) (rest := []) ⟨hx, hb, hml, hown, hta⟩ (c_X15_thrown l ) (cwV 0 hta (gWV mw422 mw423 mw424 mw176 mw421) rfl rfl rfl (by decide +kernel) ⟨Nat.le_of_ble_eq_true rfl, Nat.le_of_ble_eq_true rfl⟩) ⟨gR_blind, va_recv hKc hPc (ci := 20) (q0 := 0) rfl rfl, fun U hU hW => ⟨rfl, by rw [hU]; exact hPc, va_K.moved hW.alike hKc⟩⟩ rfl rfl hl.1 rfl (lv_room (Nat.le_of_ble_eq_true rfl)) dL_law_346 ⟨Nat.le_of_ble_eq_true rfl, Nat.le_of_ble_eq_true rfl⟩) (fun r13 h14 => ?_)
        obtain rfl : r13 = 1 := h14
        refine lv_iload hx hb dL_law_349 (lv_at hl 1 rfl) ?_
        refine lv_icmp_eq (tgt := 356) hx hb dL_law_351 (by decide) (fun c15 => ?_) (fun c15 => ?_)
        · skip
          refine lv_iload hx hb dL_law_356 (lv_at hl 1 rfl) ?_
          refine lv_if_ne (tgt := 373) hx hb dL_law_358 (by decide) (fun c16 => ?_) (fun c16 => ?_)
          · skip
            refine lv_goto (tgt := 2441) hx hb dL_law_373 (by decide) ?_
            exact law_tail l C0 hA2 hS (lv_sub hl [7, 2] rfl) (Nat.le_of_ble_eq_true rfl) (Nat.le_of_ble_eq_true rfl)
          · exact absurd c16 (by decide)
        · exact absurd (by decide) c15
      · skip
        refine lv_iconst (v := 1) hx hb dL_law_329 (by decide) ?_
        refine lv_goto (tgt := 334) hx hb dL_law_330 (by decide) ?_
        refine lv_aload_n hx hb dL_law_334 rfl (lv_at hl 6 rfl) ?_
        refine lv_iload hx hb dL_law_335 (lv_at hl 1 rfl) ?_
        refine lv_iconst (v := 2) hx hb dL_law_337 (by decide) ?_
        refine lv_iadd hx hb dL_law_338 ?_
        refine lv_topi (fun x17 ex17 => ?_)
        obtain rfl : x17 = 2 := ex17.trans (by decide)
        refine va_sld hx hb hX hbl hbA hS (i := 2) (by unfold vp_in; decide) dL_law_339 ?_
        refine W.eq (g2 := F0 m 340 ls [.int (xs 2), .int 1, .ref m0]) rfl ?_
        have hPc := hP.sub (ws' := (wM tE m0 m1 m2 m3 m4 m5 m6 tc 0 0)) [0, 1, 2, 3, 4, 5] rfl
        have hKc := hK.sub (tys' := [(tc, .char)]) [5] rfl
        have hDc := hD.sub (ws' := (wM tE m0 m1 m2 m3 m4 m5 m6 tc 0 0)) [0, 1, 2, 3, 4, 5] (by decide) rfl
        have hFc := va_free (wc := (wM tE m0 m1 m2 m3 m4 m5 m6 tc 0 0)) hD hS hA [0, 1, 2, 3, 4, 5] rfl
        refine gJ_i (isC := [0, 1, 2, 3, 4, 5]) (isR := [6, 7]) (wr := [(o, .inl (tj, 1, .inr (.inl (fun _ => 0)))), (oD, .inl (td, 1, .inr (.inr (.inr (.inl (fun _ => 0))))))]) (va_runV (As := [.int 1, .int (xs 2)]) (rest := []) ⟨hx, hb, hml, hown, hta⟩ (c_X15_addPart_f l hf) (cwV 2 hta (gWV mw429 mw430 mw431 mw176 mw428) rfl rfl rfl (by decide +kernel) ⟨Nat.le_of_ble_eq_true rfl, Nat.le_of_ble_eq_true rfl⟩) ⟨gS_blind, va_recv hKc hPc (ci := 20) (q0 := 0) rfl rfl, fun U hU hW => ⟨rfl, by rw [hU], by rw [hU]; exact hPc, va_K.moved hW.alike hKc, hDc.weaken (fun _ _ _ _ => trivial), hG.call hS hU hW hFc⟩⟩ rfl rfl hl.1 rfl (lv_room (Nat.le_of_ble_eq_true rfl)) dL_law_340 ⟨Nat.le_of_ble_eq_true rfl, Nat.le_of_ble_eq_true rfl⟩) hP hD hS hK hFc rfl rfl (by decide) (by decide) (fun r18 u19 H locs h20 hP hD hS hK => ?_)
        obtain rfl : r18 = 0 := h20
        have hK : va_K D vwCl (tLw t1 t2 t3 t4 t5 tc tj td) s := hK
        have hP : va_P D vwCl [(o, .inl (tj, 1, .inr (.inl (fun _ => 0)))), (oD, .inl (td, 1, .inr (.inr (.inr (.inl (fun _ => 0)))))), (m0, .inr (20, [.int 1, .ref m1, .ref m2, .ref m3, .ref m4, .int 0, .ref m5, .ref m6, .int 0])), (m1, .inr (4, [.int 0, .ref tE, .int 0])), (m2, .inr (4, [.int 0, .ref tE, .int 0])), (m3, .inr (4, [.int 0, .ref tE, .int 0])), (m4, .inr (4, [.int 0, .ref tE, .int 0])), (m5, .inl (tc, 4, .inl (upd (upd (upd (upd (fun _ => 0) 0 110) 1 110) 2 110) 3 110)))] H := hP
        have hD : va_D A [(o, .inl (tj, 1, .inr (.inl (fun _ => 0)))), (oD, .inl (td, 1, .inr (.inr (.inr (.inl (fun _ => 0)))))), (m0, .inr (20, [.int 1, .ref m1, .ref m2, .ref m3, .ref m4, .int 0, .ref m5, .ref m6, .int 0])), (m1, .inr (4, [.int 0, .ref tE, .int 0])), (m2, .inr (4, [.int 0, .ref tE, .int 0])), (m3, .inr (4, [.int 0, .ref tE, .int 0])), (m4, .inr (4, [.int 0, .ref tE, .int 0])), (m5, .inl (tc, 4, .inl (upd (upd (upd (upd (fun _ => 0) 0 110) 1 110) 2 110) 3 110)))] := hD
        refine lv_istore (lv' := [(7, .int 0), (6, .int 1), (5, .int 0), (4, .ref oD), (3, .ref o), (2, .ref m0), (1, .ref h0), (0, .ref b)]) hx hb dL_law_343 hl (by decide) rfl (fun ls hl => ?_)
        refine lv_aload_n hx hb dL_law_345 rfl (lv_at hl 5 rfl) ?_
        have hPc := hP.sub (ws' := [(m0, .inr (20, [.int 1, .ref m1, .ref m2, .ref m3, .ref m4, .int 0, .ref m5, .ref m6, .int 0]))]) [2] rfl
        have hKc := hK.sub (tys' := []) [] rfl
        refine vp_callSi (W.runV (As := []) (rest := []) ⟨hx, hb, hml, hown, hta⟩ (c_X15_thrown l ) (cwV 0 hta (gWV mw422 mw423 mw424 mw176 mw421) rfl rfl rfl (by decide +kernel) ⟨Nat.le_of_ble_eq_true rfl, Nat.le_of_ble_eq_true rfl⟩) ⟨gR_blind, va_recv hKc hPc (ci := 20) (q0 := 0) rfl rfl, fun U hU hW => ⟨rfl, by rw [hU]; exact hPc, va_K.moved hW.alike hKc⟩⟩ rfl rfl hl.1 rfl (lv_room (Nat.le_of_ble_eq_true rfl)) dL_law_346 ⟨Nat.le_of_ble_eq_true rfl, Nat.le_of_ble_eq_true rfl⟩) (fun r21 h22 => ?_)
        obtain rfl : r21 = 1 := h22
        refine lv_iload hx hb dL_law_349 (lv_at hl 1 rfl) ?_
        refine lv_icmp_eq (tgt := 356) hx hb dL_law_351 (by decide) (fun c23 => ?_) (fun c23 => ?_)
        · skip
          refine lv_iload hx hb dL_law_356 (lv_at hl 1 rfl) ?_
          refine lv_if_ne (tgt := 373) hx hb dL_law_358 (by decide) (fun c24 => ?_) (fun c24 => ?_)
          · skip
            refine lv_goto (tgt := 2441) hx hb dL_law_373 (by decide) ?_
            exact law_tail l C0 hA2 hS (lv_sub hl [7, 2] rfl) (Nat.le_of_ble_eq_true rfl) (Nat.le_of_ble_eq_true rfl)
          · exact absurd c24 (by decide)
        · exact absurd (by decide) c23
    · skip
      refine lv_iconst (v := 1) hx hb dL_law_302 (by decide) ?_
      refine lv_goto (tgt := 307) hx hb dL_law_303 (by decide) ?_
      refine lv_aload_n hx hb dL_law_307 rfl (lv_at hl 5 rfl) ?_
      refine lv_iload hx hb dL_law_308 (lv_at hl 0 rfl) ?_
      refine lv_iconst (v := 2) hx hb dL_law_310 (by decide) ?_
      refine lv_iadd hx hb dL_law_311 ?_
      refine lv_topi (fun x25 ex25 => ?_)
      obtain rfl : x25 = 2 := ex25.trans (by decide)
      refine va_sld hx hb hX hbl hbA hS (i := 2) (by unfold vp_in; decide) dL_law_312 ?_
      refine W.eq (g2 := F0 m 313 ls [.int (xs 2), .int 1, .ref h0]) rfl ?_
      refine lv_aload_n hx hb dL_law_313 rfl (lv_at hl 2 rfl) ?_
      have hPc := hP.sub (ws' := (wX h0 a1 a2 a3 a4 a5 h6 s0 s1 s2 s3 t1 t2 t3 t4 t5)) [0, 1, 2, 3, 4, 5, 6, 7, 8, 9, 10] rfl
      have hKc := hK.sub (tys' := (tX t1 t2 t3 t4 t5)) [0, 1, 2, 3, 4] rfl
      have hDc := hD.sub (ws' := (wX h0 a1 a2 a3 a4 a5 h6 s0 s1 s2 s3 t1 t2 t3 t4 t5)) [0, 1, 2, 3, 4, 5, 6, 7, 8, 9, 10] (by decide) rfl
      have hFc := va_free (wc := (wX h0 a1 a2 a3 a4 a5 h6 s0 s1 s2 s3 t1 t2 t3 t4 t5)) hD hS hA [0, 1, 2, 3, 4, 5, 6, 7, 8, 9, 10] rfl
      refine gJ_i (isC := [0, 1, 2, 3, 4, 5, 6, 7, 8, 9, 10]) (isR := [11, 12, 13, 14, 15, 16, 17, 18]) (wr := [(m0, .inr (20, [.int 0, .ref m1, .ref m2, .ref m3, .ref m4, .int 0, .ref m5, .ref m6, .int 0])), (m1, .inr (4, [.int 0, .ref tE, .int 0])), (m2, .inr (4, [.int 0, .ref tE, .int 0])), (m3, .inr (4, [.int 0, .ref tE, .int 0])), (m4, .inr (4, [.int 0, .ref tE, .int 0])), (m5, .inl (tc, 4, .inl (upd (upd (upd (upd (fun _ => 0) 0 110) 1 110) 2 110) 3 110))), (o, .inl (tj, 1, .inr (.inl (fun _ => 0)))), (oD, .inl (td, 1, .inr (.inr (.inr (.inl (fun _ => 0))))))]) (vx_runSW (As := [.ref h0, .int 1, .int (xs 2), .ref o]) (rest := []) ⟨hx, hb, hml, hown, hta⟩ (c_L_addPart_f l hl0 hf) (vx_cwSW 4 hta (gWSW mw426 mw427 mw416 mw425) rfl rfl rfl (by decide +kernel) ⟨Nat.le_of_ble_eq_true rfl, Nat.le_of_ble_eq_true rfl⟩) ⟨gS_blind, fun U hU hW => ⟨rfl, by rw [hU], by rw [hU]; exact hPc, va_K.moved hW.alike hKc, hDc.weaken (fun _ _ _ _ => trivial), hG.call hS hU hW hFc⟩⟩ rfl rfl hl.1 rfl (lv_room (Nat.le_of_ble_eq_true rfl)) dL_law_314 ⟨Nat.le_of_ble_eq_true rfl, Nat.le_of_ble_eq_true rfl⟩) hP hD hS hK hFc rfl rfl (by decide) (by decide) (fun r26 u27 H locs h28 hP hD hS hK => ?_)
      obtain rfl : r26 = 1 := h28
      have hK : va_K D vwCl (tLw t1 t2 t3 t4 t5 tc tj td) s := hK
      have hP : va_P D vwCl [(m0, .inr (20, [.int 0, .ref m1, .ref m2, .ref m3, .ref m4, .int 0, .ref m5, .ref m6, .int 0])), (m1, .inr (4, [.int 0, .ref tE, .int 0])), (m2, .inr (4, [.int 0, .ref tE, .int 0])), (m3, .inr (4, [.int 0, .ref tE, .int 0])), (m4, .inr (4, [.int 0, .ref tE, .int 0])), (m5, .inl (tc, 4, .inl (upd (upd (upd (upd (fun _ => 0) 0 110) 1 110) 2 110) 3 110))), (o, .inl (tj, 1, .inr (.inl (fun _ => 0)))), (oD, .inl (td, 1, .inr (.inr (.inr (.inl (fun _ => 0))))))] H := hP
      have hD : va_D A [(m0, .inr (20, [.int 0, .ref m1, .ref m2, .ref m3, .ref m4, .int 0, .ref m5, .ref m6, .int 0])), (m1, .inr (4, [.int 0, .ref tE, .int 0])), (m2, .inr (4, [.int 0, .ref tE, .int 0])), (m3, .inr (4, [.int 0, .ref tE, .int 0])), (m4, .inr (4, [.int 0, .ref tE, .int 0])), (m5, .inl (tc, 4, .inl (upd (upd (upd (upd (fun _ => 0) 0 110) 1 110) 2 110) 3 110))), (o, .inl (tj, 1, .inr (.inl (fun _ => 0)))), (oD, .inl (td, 1, .inr (.inr (.inr (.inl (fun _ => 0))))))] := hD
      refine lv_istore (lv' := [(6, .int 1), (5, .int 0), (4, .ref oD), (3, .ref o), (2, .ref m0), (1, .ref h0), (0, .ref b)]) hx hb dL_law_317 hl (by decide) rfl (fun ls hl => ?_)
      refine lv_aload_n hx hb dL_law_319 rfl (lv_at hl 4 rfl) ?_
      refine lv_aload_n hx hb dL_law_320 rfl (lv_at hl 6 rfl) ?_
      refine lv_iload hx hb dL_law_321 (lv_at hl 1 rfl) ?_
      refine lv_iconst (v := 1) hx hb dL_law_323 (by decide) ?_
      refine lv_iadd hx hb dL_law_324 ?_
      refine lv_topi (fun x29 ex29 => ?_)
      obtain rfl : x29 = 1 := ex29.trans (by decide)
      refine va_sld hx hb hX hbl hbA hS (i := 1) (by unfold vp_in; decide) dL_law_325 ?_
      refine W.eq (g2 := F0 m 326 ls [.int (xs 1), .ref m0]) rfl ?_
      refine lv_if_eq (tgt := 333) hx hb dL_law_326 (by decide) (fun c30 => ?_) (fun c30 => ?_)
      · skip
        refine lv_iconst (v := 0) hx hb dL_law_333 (by decide) ?_
        refine lv_aload_n hx hb dL_law_334 rfl (lv_at hl 6 rfl) ?_
        refine lv_iload hx hb dL_law_335 (lv_at hl 1 rfl) ?_
        refine lv_iconst (v := 2) hx hb dL_law_337 (by decide) ?_
        refine lv_iadd hx hb dL_law_338 ?_
        refine lv_topi (fun x31 ex31 => ?_)
        obtain rfl : x31 = 2 := ex31.trans (by decide)
        refine va_sld hx hb hX hbl hbA hS (i := 2) (by unfold vp_in; decide) dL_law_339 ?_
        refine W.eq (g2 := F0 m 340 ls [.int (xs 2), .int 0, .ref m0]) rfl ?_
        have hPc := hP.sub (ws' := (wM tE m0 m1 m2 m3 m4 m5 m6 tc 0 0)) [0, 1, 2, 3, 4, 5] rfl
        have hKc := hK.sub (tys' := [(tc, .char)]) [5] rfl
        have hDc := hD.sub (ws' := (wM tE m0 m1 m2 m3 m4 m5 m6 tc 0 0)) [0, 1, 2, 3, 4, 5] (by decide) rfl
        have hFc := va_free (wc := (wM tE m0 m1 m2 m3 m4 m5 m6 tc 0 0)) hD hS hA [0, 1, 2, 3, 4, 5] rfl
        refine gJ_i (isC := [0, 1, 2, 3, 4, 5]) (isR := [6, 7]) (wr := [(o, .inl (tj, 1, .inr (.inl (fun _ => 0)))), (oD, .inl (td, 1, .inr (.inr (.inr (.inl (fun _ => 0))))))]) (va_runV (As := [.int 0, .int (xs 2)]) (rest := []) ⟨hx, hb, hml, hown, hta⟩ (c_X15_addPart_f l hf) (cwV 2 hta (gWV mw429 mw430 mw431 mw176 mw428) rfl rfl rfl (by decide +kernel) ⟨Nat.le_of_ble_eq_true rfl, Nat.le_of_ble_eq_true rfl⟩) ⟨gS_blind, va_recv hKc hPc (ci := 20) (q0 := 0) rfl rfl, fun U hU hW => ⟨rfl, by rw [hU], by rw [hU]; exact hPc, va_K.moved hW.alike hKc, hDc.weaken (fun _ _ _ _ => trivial), hG.call hS hU hW hFc⟩⟩ rfl rfl hl.1 rfl (lv_room (Nat.le_of_ble_eq_true rfl)) dL_law_340 ⟨Nat.le_of_ble_eq_true rfl, Nat.le_of_ble_eq_true rfl⟩) hP hD hS hK hFc rfl rfl (by decide) (by decide) (fun r32 u33 H locs h34 hP hD hS hK => ?_)
        obtain rfl : r32 = 0 := h34
        have hK : va_K D vwCl (tLw t1 t2 t3 t4 t5 tc tj td) s := hK
        have hP : va_P D vwCl [(o, .inl (tj, 1, .inr (.inl (fun _ => 0)))), (oD, .inl (td, 1, .inr (.inr (.inr (.inl (fun _ => 0)))))), (m0, .inr (20, [.int 1, .ref m1, .ref m2, .ref m3, .ref m4, .int 0, .ref m5, .ref m6, .int 0])), (m1, .inr (4, [.int 0, .ref tE, .int 0])), (m2, .inr (4, [.int 0, .ref tE, .int 0])), (m3, .inr (4, [.int 0, .ref tE, .int 0])), (m4, .inr (4, [.int 0, .ref tE, .int 0])), (m5, .inl (tc, 4, .inl (upd (upd (upd (upd (fun _ => 0) 0 110) 1 110) 2 110) 3 110)))] H := hP
        have hD : va_D A [(o, .inl (tj, 1, .inr (.inl (fun _ => 0)))), (oD, .inl (td, 1, .inr (.inr (.inr (.inl (fun _ => 0)))))), (m0, .inr (20, [.int 1, .ref m1, .ref m2, .ref m3, .ref m4, .int 0, .ref m5, .ref m6, .int 0])), (m1, .inr (4, [.int 0, .ref tE, .int 0])), (m2, .inr (4, [.int 0, .ref tE, .int 0])), (m3, .inr (4, [.int 0, .ref tE, .int 0])), (m4, .inr (4, [.int 0, .ref tE, .int 0])), (m5, .inl (tc, 4, .inl (upd (upd (upd (upd (fun _ => 0) 0 110) 1 110) 2 110) 3 110)))] := hD
        refine lv_istore (lv' := [(7, .int 0), (6, .int 1), (5, .int 0), (4, .ref oD), (3, .ref o), (2, .ref m0), (1, .ref h0), (0, .ref b)]) hx hb dL_law_343 hl (by decide) rfl (fun ls hl => ?_)
        refine lv_aload_n hx hb dL_law_345 rfl (lv_at hl 5 rfl) ?_
        have hPc := hP.sub (ws' := [(m0, .inr (20, [.int 1, .ref m1, .ref m2, .ref m3, .ref m4, .int 0, .ref m5, .ref m6, .int 0]))]) [2] rfl
        have hKc := hK.sub (tys' := []) [] rfl
        refine vp_callSi (W.runV (As := []) (rest := []) ⟨hx, hb, hml, hown, hta⟩ (c_X15_thrown l ) (cwV 0 hta (gWV mw422 mw423 mw424 mw176 mw421) rfl rfl rfl (by decide +kernel) ⟨Nat.le_of_ble_eq_true rfl, Nat.le_of_ble_eq_true rfl⟩) ⟨gR_blind, va_recv hKc hPc (ci := 20) (q0 := 0) rfl rfl, fun U hU hW => ⟨rfl, by rw [hU]; exact hPc, va_K.moved hW.alike hKc⟩⟩ rfl rfl hl.1 rfl (lv_room (Nat.le_of_ble_eq_true rfl)) dL_law_346 ⟨Nat.le_of_ble_eq_true rfl, Nat.le_of_ble_eq_true rfl⟩) (fun r35 h36 => ?_)
        obtain rfl : r35 = 1 := h36
        refine lv_iload hx hb dL_law_349 (lv_at hl 1 rfl) ?_
        refine lv_icmp_eq (tgt := 356) hx hb dL_law_351 (by decide) (fun c37 => ?_) (fun c37 => ?_)
        · skip
          refine lv_iload hx hb dL_law_356 (lv_at hl 1 rfl) ?_
          refine lv_if_ne (tgt := 373) hx hb dL_law_358 (by decide) (fun c38 => ?_) (fun c38 => ?_)
          · skip
            refine lv_goto (tgt := 2441) hx hb dL_law_373 (by decide) ?_
            exact law_tail l C0 hA2 hS (lv_sub hl [7, 2] rfl) (Nat.le_of_ble_eq_true rfl) (Nat.le_of_ble_eq_true rfl)
          · exact absurd c38 (by decide)
        · exact absurd (by decide) c37
      · skip
        refine lv_iconst (v := 1) hx hb dL_law_329 (by decide) ?_
        refine lv_goto (tgt := 334) hx hb dL_law_330 (by decide) ?_
        refine lv_aload_n hx hb dL_law_334 rfl (lv_at hl 6 rfl) ?_
        refine lv_iload hx hb dL_law_335 (lv_at hl 1 rfl) ?_
        refine lv_iconst (v := 2) hx hb dL_law_337 (by decide) ?_
        refine lv_iadd hx hb dL_law_338 ?_
        refine lv_topi (fun x39 ex39 => ?_)
        obtain rfl : x39 = 2 := ex39.trans (by decide)
        refine va_sld hx hb hX hbl hbA hS (i := 2) (by unfold vp_in; decide) dL_law_339 ?_
        refine W.eq (g2 := F0 m 340 ls [.int (xs 2), .int 1, .ref m0]) rfl ?_
        have hPc := hP.sub (ws' := (wM tE m0 m1 m2 m3 m4 m5 m6 tc 0 0)) [0, 1, 2, 3, 4, 5] rfl
        have hKc := hK.sub (tys' := [(tc, .char)]) [5] rfl
        have hDc := hD.sub (ws' := (wM tE m0 m1 m2 m3 m4 m5 m6 tc 0 0)) [0, 1, 2, 3, 4, 5] (by decide) rfl
        have hFc := va_free (wc := (wM tE m0 m1 m2 m3 m4 m5 m6 tc 0 0)) hD hS hA [0, 1, 2, 3, 4, 5] rfl
        refine gJ_i (isC := [0, 1, 2, 3, 4, 5]) (isR := [6, 7]) (wr := [(o, .inl (tj, 1, .inr (.inl (fun _ => 0)))), (oD, .inl (td, 1, .inr (.inr (.inr (.inl (fun _ => 0))))))]) (va_runV (As := [.int 1, .int (xs 2)]) (rest := []) ⟨hx, hb, hml, hown, hta⟩ (c_X15_addPart_f l hf) (cwV 2 hta (gWV mw429 mw430 mw431 mw176 mw428) rfl rfl rfl (by decide +kernel) ⟨Nat.le_of_ble_eq_true rfl, Nat.le_of_ble_eq_true rfl⟩) ⟨gS_blind, va_recv hKc hPc (ci := 20) (q0 := 0) rfl rfl, fun U hU hW => ⟨rfl, by rw [hU], by rw [hU]; exact hPc, va_K.moved hW.alike hKc, hDc.weaken (fun _ _ _ _ => trivial), hG.call hS hU hW hFc⟩⟩ rfl rfl hl.1 rfl (lv_room (Nat.le_of_ble_eq_true rfl)) dL_law_340 ⟨Nat.le_of_ble_eq_true rfl, Nat.le_of_ble_eq_true rfl⟩) hP hD hS hK hFc rfl rfl (by decide) (by decide) (fun r40 u41 H locs h42 hP hD hS hK => ?_)
        obtain rfl : r40 = 0 := h42
        have hK : va_K D vwCl (tLw t1 t2 t3 t4 t5 tc tj td) s := hK
        have hP : va_P D vwCl [(o, .inl (tj, 1, .inr (.inl (fun _ => 0)))), (oD, .inl (td, 1, .inr (.inr (.inr (.inl (fun _ => 0)))))), (m0, .inr (20, [.int 1, .ref m1, .ref m2, .ref m3, .ref m4, .int 0, .ref m5, .ref m6, .int 0])), (m1, .inr (4, [.int 0, .ref tE, .int 0])), (m2, .inr (4, [.int 0, .ref tE, .int 0])), (m3, .inr (4, [.int 0, .ref tE, .int 0])), (m4, .inr (4, [.int 0, .ref tE, .int 0])), (m5, .inl (tc, 4, .inl (upd (upd (upd (upd (fun _ => 0) 0 110) 1 110) 2 110) 3 110)))] H := hP
        have hD : va_D A [(o, .inl (tj, 1, .inr (.inl (fun _ => 0)))), (oD, .inl (td, 1, .inr (.inr (.inr (.inl (fun _ => 0)))))), (m0, .inr (20, [.int 1, .ref m1, .ref m2, .ref m3, .ref m4, .int 0, .ref m5, .ref m6, .int 0])), (m1, .inr (4, [.int 0, .ref tE, .int 0])), (m2, .inr (4, [.int 0, .ref tE, .int 0])), (m3, .inr (4, [.int 0, .ref tE, .int 0])), (m4, .inr (4, [.int 0, .ref tE, .int 0])), (m5, .inl (tc, 4, .inl (upd (upd (upd (upd (fun _ => 0) 0 110) 1 110) 2 110) 3 110)))] := hD
        refine lv_istore (lv' := [(7, .int 0), (6, .int 1), (5, .int 0), (4, .ref oD), (3, .ref o), (2, .ref m0), (1, .ref h0), (0, .ref b)]) hx hb dL_law_343 hl (by decide) rfl (fun ls hl => ?_)
        refine lv_aload_n hx hb dL_law_345 rfl (lv_at hl 5 rfl) ?_
        have hPc := hP.sub (ws' := [(m0, .inr (20, [.int 1, .ref m1, .ref m2, .ref m3, .ref m4, .int 0, .ref m5, .ref m6, .int 0]))]) [2] rfl
        have hKc := hK.sub (tys' := []) [] rfl
        refine vp_callSi (W.runV (As := []) (rest := []) ⟨hx, hb, hml, hown, hta⟩ (c_X15_thrown l ) (cwV 0 hta (gWV mw422 mw423 mw424 mw176 mw421) rfl rfl rfl (by decide +kernel) ⟨Nat.le_of_ble_eq_true rfl, Nat.le_of_ble_eq_true rfl⟩) ⟨gR_blind, va_recv hKc hPc (ci := 20) (q0 := 0) rfl rfl, fun U hU hW => ⟨rfl, by rw [hU]; exact hPc, va_K.moved hW.alike hKc⟩⟩ rfl rfl hl.1 rfl (lv_room (Nat.le_of_ble_eq_true rfl)) dL_law_346 ⟨Nat.le_of_ble_eq_true rfl, Nat.le_of_ble_eq_true rfl⟩) (fun r43 h44 => ?_)
        obtain rfl : r43 = 1 := h44
        refine lv_iload hx hb dL_law_349 (lv_at hl 1 rfl) ?_
        refine lv_icmp_eq (tgt := 356) hx hb dL_law_351 (by decide) (fun c45 => ?_) (fun c45 => ?_)
        · skip
          refine lv_iload hx hb dL_law_356 (lv_at hl 1 rfl) ?_
          refine lv_if_ne (tgt := 373) hx hb dL_law_358 (by decide) (fun c46 => ?_) (fun c46 => ?_)
          · skip
            refine lv_goto (tgt := 2441) hx hb dL_law_373 (by decide) ?_
            exact law_tail l C0 hA2 hS (lv_sub hl [7, 2] rfl) (Nat.le_of_ble_eq_true rfl) (Nat.le_of_ble_eq_true rfl)
          · exact absurd c46 (by decide)
        · exact absurd (by decide) c45
  · skip
    refine lv_aload_n hx hb dL_law_292 rfl (lv_at hl 4 rfl) ?_
    refine lv_aload_n hx hb dL_law_293 rfl (lv_at hl 5 rfl) ?_
    refine lv_iload hx hb dL_law_294 (lv_at hl 0 rfl) ?_
    refine lv_iconst (v := 1) hx hb dL_law_296 (by decide) ?_
    refine lv_iadd hx hb dL_law_297 ?_
    refine lv_topi (fun x47 ex47 => ?_)
    obtain rfl : x47 = 1 := ex47.trans (by decide)
    refine va_sld hx hb hX hbl hbA hS (i := 1) (by unfold vp_in; decide) dL_law_298 ?_
    refine W.eq (g2 := F0 m 299 ls [.int (xs 1), .ref h0]) rfl ?_
    refine lv_if_eq (tgt := 306) hx hb dL_law_299 (by decide) (fun c48 => ?_) (fun c48 => ?_)
    · skip
      refine lv_iconst (v := 0) hx hb dL_law_306 (by decide) ?_
      refine lv_aload_n hx hb dL_law_307 rfl (lv_at hl 5 rfl) ?_
      refine lv_iload hx hb dL_law_308 (lv_at hl 0 rfl) ?_
      refine lv_iconst (v := 2) hx hb dL_law_310 (by decide) ?_
      refine lv_iadd hx hb dL_law_311 ?_
      refine lv_topi (fun x49 ex49 => ?_)
      obtain rfl : x49 = 2 := ex49.trans (by decide)
      refine va_sld hx hb hX hbl hbA hS (i := 2) (by unfold vp_in; decide) dL_law_312 ?_
      refine W.eq (g2 := F0 m 313 ls [.int (xs 2), .int 0, .ref h0]) rfl ?_
      refine lv_aload_n hx hb dL_law_313 rfl (lv_at hl 2 rfl) ?_
      have hPc := hP.sub (ws' := [(h0, .inr (15, [.ref a1, .ref a2, .ref a3, .ref a4, .ref a5, .ref h6, .int 0, .int 0, .int 0, .int 0, .int 0, .int 0, .long 0, .long 0])), (a1, .inl (t1, 5, .inr (.inr (.inr (.inr (fun _ => none)))))), (a2, .inl (t2, 12, .inr (.inr (.inr (.inr (fun _ => none)))))), (a3, .inl (t3, 4, .inr (.inr (.inr (.inr (va_up (va_up (va_up (va_up (fun _ => none) 0 (some s0)) 1 (some s1)) 2 (some s2)) 3 (some s3))))))), (a4, .inl (t4, 90, .inr (.inr (.inr (.inr (fun _ => none)))))), (a5, .inl (t5, 30, .inr (.inr (.inr (.inr (fun _ => none)))))), (h6, .inr (10, [.long 0, .long 0])), (s0, .inr (14, [.int 110, .int 0, .int 0])), (s1, .inr (14, [.int 110, .int 0, .int 0])), (s2, .inr (14, [.int 110, .int 0, .int 0])), (s3, .inr (14, [.int 110, .int 0, .int 0])), (o, .inl (tj, 1, .inr (.inl (fun _ => 0))))]) [0, 1, 2, 3, 4, 5, 6, 7, 8, 9, 10, 17] rfl
      have hKc := hK.sub (tys' := [(t1, .object "Foundrymark$Machine"), (t2, .object "Foundrymark$Part"), (t3, .object "Foundrymark$Supplier"), (t4, .object "Foundrymark$Lot"), (t5, .object "Foundrymark$Order"), (tj, .long)]) [0, 1, 2, 3, 4, 6] rfl
      have hDc := hD.sub (ws' := [(h0, .inr (15, [.ref a1, .ref a2, .ref a3, .ref a4, .ref a5, .ref h6, .int 0, .int 0, .int 0, .int 0, .int 0, .int 0, .long 0, .long 0])), (a1, .inl (t1, 5, .inr (.inr (.inr (.inr (fun _ => none)))))), (a2, .inl (t2, 12, .inr (.inr (.inr (.inr (fun _ => none)))))), (a3, .inl (t3, 4, .inr (.inr (.inr (.inr (va_up (va_up (va_up (va_up (fun _ => none) 0 (some s0)) 1 (some s1)) 2 (some s2)) 3 (some s3))))))), (a4, .inl (t4, 90, .inr (.inr (.inr (.inr (fun _ => none)))))), (a5, .inl (t5, 30, .inr (.inr (.inr (.inr (fun _ => none)))))), (h6, .inr (10, [.long 0, .long 0])), (s0, .inr (14, [.int 110, .int 0, .int 0])), (s1, .inr (14, [.int 110, .int 0, .int 0])), (s2, .inr (14, [.int 110, .int 0, .int 0])), (s3, .inr (14, [.int 110, .int 0, .int 0])), (o, .inl (tj, 1, .inr (.inl (fun _ => 0))))]) [0, 1, 2, 3, 4, 5, 6, 7, 8, 9, 10, 17] (by decide) rfl
      have hFc := va_free (wc := [(h0, .inr (15, [.ref a1, .ref a2, .ref a3, .ref a4, .ref a5, .ref h6, .int 0, .int 0, .int 0, .int 0, .int 0, .int 0, .long 0, .long 0])), (a1, .inl (t1, 5, .inr (.inr (.inr (.inr (fun _ => none)))))), (a2, .inl (t2, 12, .inr (.inr (.inr (.inr (fun _ => none)))))), (a3, .inl (t3, 4, .inr (.inr (.inr (.inr (va_up (va_up (va_up (va_up (fun _ => none) 0 (some s0)) 1 (some s1)) 2 (some s2)) 3 (some s3))))))), (a4, .inl (t4, 90, .inr (.inr (.inr (.inr (fun _ => none)))))), (a5, .inl (t5, 30, .inr (.inr (.inr (.inr (fun _ => none)))))), (h6, .inr (10, [.long 0, .long 0])), (s0, .inr (14, [.int 110, .int 0, .int 0])), (s1, .inr (14, [.int 110, .int 0, .int 0])), (s2, .inr (14, [.int 110, .int 0, .int 0])), (s3, .inr (14, [.int 110, .int 0, .int 0])), (o, .inl (tj, 1, .inr (.inl (fun _ => 0))))]) hD hS hA [0, 1, 2, 3, 4, 5, 6, 7, 8, 9, 10, 17] rfl
      refine gJ_i (isC := [0, 1, 2, 3, 4, 5, 6, 7, 8, 9, 10, 17]) (isR := [11, 12, 13, 14, 15, 16, 18]) (wr := [(m0, .inr (20, [.int 0, .ref m1, .ref m2, .ref m3, .ref m4, .int 0, .ref m5, .ref m6, .int 0])), (m1, .inr (4, [.int 0, .ref tE, .int 0])), (m2, .inr (4, [.int 0, .ref tE, .int 0])), (m3, .inr (4, [.int 0, .ref tE, .int 0])), (m4, .inr (4, [.int 0, .ref tE, .int 0])), (m5, .inl (tc, 4, .inl (upd (upd (upd (upd (fun _ => 0) 0 110) 1 110) 2 110) 3 110))), (oD, .inl (td, 1, .inr (.inr (.inr (.inl (fun _ => 0))))))]) (vx_runSW (As := [.ref h0, .int 0, .int (xs 2), .ref o]) (rest := []) ⟨hx, hb, hml, hown, hta⟩ (c_L_addPart_t0 l hl0 hf) (vx_cwSW 4 hta (gWSW mw426 mw427 mw416 mw425) rfl rfl rfl (by decide +kernel) ⟨Nat.le_of_ble_eq_true rfl, Nat.le_of_ble_eq_true rfl⟩) ⟨gS_blind, fun U hU hW => ⟨rfl, by rw [hU], by rw [hU]; exact hPc, va_K.moved hW.alike hKc, hDc.weaken (fun _ _ _ _ => trivial), hG.call hS hU hW hFc⟩⟩ rfl rfl hl.1 rfl (lv_room (Nat.le_of_ble_eq_true rfl)) dL_law_314 ⟨Nat.le_of_ble_eq_true rfl, Nat.le_of_ble_eq_true rfl⟩) hP hD hS hK hFc rfl rfl (by decide) (by decide) (fun r50 u51 H locs h52 hP hD hS hK => ?_)
      obtain rfl : r50 = 0 := h52
      have hK : va_K D vwCl (tLw t1 t2 t3 t4 t5 tc tj td) s := hK
      have hP : va_P D vwCl [(m0, .inr (20, [.int 0, .ref m1, .ref m2, .ref m3, .ref m4, .int 0, .ref m5, .ref m6, .int 0])), (m1, .inr (4, [.int 0, .ref tE, .int 0])), (m2, .inr (4, [.int 0, .ref tE, .int 0])), (m3, .inr (4, [.int 0, .ref tE, .int 0])), (m4, .inr (4, [.int 0, .ref tE, .int 0])), (m5, .inl (tc, 4, .inl (upd (upd (upd (upd (fun _ => 0) 0 110) 1 110) 2 110) 3 110))), (oD, .inl (td, 1, .inr (.inr (.inr (.inl (fun _ => 0)))))), (o, .inl (tj, 1, .inr (.inl (vp_updL (fun _ => 0) 0 0))))] H := hP
      have hD : va_D A [(m0, .inr (20, [.int 0, .ref m1, .ref m2, .ref m3, .ref m4, .int 0, .ref m5, .ref m6, .int 0])), (m1, .inr (4, [.int 0, .ref tE, .int 0])), (m2, .inr (4, [.int 0, .ref tE, .int 0])), (m3, .inr (4, [.int 0, .ref tE, .int 0])), (m4, .inr (4, [.int 0, .ref tE, .int 0])), (m5, .inl (tc, 4, .inl (upd (upd (upd (upd (fun _ => 0) 0 110) 1 110) 2 110) 3 110))), (oD, .inl (td, 1, .inr (.inr (.inr (.inl (fun _ => 0)))))), (o, .inl (tj, 1, .inr (.inl (vp_updL (fun _ => 0) 0 0))))] := hD
      refine lv_istore (lv' := [(6, .int 0), (5, .int 0), (4, .ref oD), (3, .ref o), (2, .ref m0), (1, .ref h0), (0, .ref b)]) hx hb dL_law_317 hl (by decide) rfl (fun ls hl => ?_)
      refine lv_aload_n hx hb dL_law_319 rfl (lv_at hl 4 rfl) ?_
      refine lv_aload_n hx hb dL_law_320 rfl (lv_at hl 6 rfl) ?_
      refine lv_iload hx hb dL_law_321 (lv_at hl 1 rfl) ?_
      refine lv_iconst (v := 1) hx hb dL_law_323 (by decide) ?_
      refine lv_iadd hx hb dL_law_324 ?_
      refine lv_topi (fun x53 ex53 => ?_)
      obtain rfl : x53 = 1 := ex53.trans (by decide)
      refine va_sld hx hb hX hbl hbA hS (i := 1) (by unfold vp_in; decide) dL_law_325 ?_
      refine W.eq (g2 := F0 m 326 ls [.int (xs 1), .ref m0]) rfl ?_
      refine lv_if_eq (tgt := 333) hx hb dL_law_326 (by decide) (fun c54 => ?_) (fun c54 => ?_)
      · skip
        refine lv_iconst (v := 0) hx hb dL_law_333 (by decide) ?_
        refine lv_aload_n hx hb dL_law_334 rfl (lv_at hl 6 rfl) ?_
        refine lv_iload hx hb dL_law_335 (lv_at hl 1 rfl) ?_
        refine lv_iconst (v := 2) hx hb dL_law_337 (by decide) ?_
        refine lv_iadd hx hb dL_law_338 ?_
        refine lv_topi (fun x55 ex55 => ?_)
        obtain rfl : x55 = 2 := ex55.trans (by decide)
        refine va_sld hx hb hX hbl hbA hS (i := 2) (by unfold vp_in; decide) dL_law_339 ?_
        refine W.eq (g2 := F0 m 340 ls [.int (xs 2), .int 0, .ref m0]) rfl ?_
        have hPc := hP.sub (ws' := (wM tE m0 m1 m2 m3 m4 m5 m6 tc 0 0)) [0, 1, 2, 3, 4, 5] rfl
        have hKc := hK.sub (tys' := [(tc, .char)]) [5] rfl
        have hDc := hD.sub (ws' := (wM tE m0 m1 m2 m3 m4 m5 m6 tc 0 0)) [0, 1, 2, 3, 4, 5] (by decide) rfl
        have hFc := va_free (wc := (wM tE m0 m1 m2 m3 m4 m5 m6 tc 0 0)) hD hS hA [0, 1, 2, 3, 4, 5] rfl
        refine gJ_i (isC := [0, 1, 2, 3, 4, 5]) (isR := [6, 7]) (wr := [(oD, .inl (td, 1, .inr (.inr (.inr (.inl (fun _ => 0)))))), (o, .inl (tj, 1, .inr (.inl (vp_updL (fun _ => 0) 0 0))))]) (va_runV (As := [.int 0, .int (xs 2)]) (rest := []) ⟨hx, hb, hml, hown, hta⟩ (c_X15_addPart_t0 l hf) (cwV 2 hta (gWV mw429 mw430 mw431 mw176 mw428) rfl rfl rfl (by decide +kernel) ⟨Nat.le_of_ble_eq_true rfl, Nat.le_of_ble_eq_true rfl⟩) ⟨gS_blind, va_recv hKc hPc (ci := 20) (q0 := 0) rfl rfl, fun U hU hW => ⟨rfl, by rw [hU], by rw [hU]; exact hPc, va_K.moved hW.alike hKc, hDc.weaken (fun _ _ _ _ => trivial), hG.call hS hU hW hFc⟩⟩ rfl rfl hl.1 rfl (lv_room (Nat.le_of_ble_eq_true rfl)) dL_law_340 ⟨Nat.le_of_ble_eq_true rfl, Nat.le_of_ble_eq_true rfl⟩) hP hD hS hK hFc rfl rfl (by decide) (by decide) (fun r56 u57 H locs h58 hP hD hS hK => ?_)
        obtain rfl : r56 = 0 := h58
        have hK : va_K D vwCl (tLw t1 t2 t3 t4 t5 tc tj td) s := hK
        have hP : va_P D vwCl [(oD, .inl (td, 1, .inr (.inr (.inr (.inl (fun _ => 0)))))), (o, .inl (tj, 1, .inr (.inl (vp_updL (fun _ => 0) 0 0)))), (m0, .inr (20, .int 0 :: u57))] H := hP
        have hD : va_D A [(oD, .inl (td, 1, .inr (.inr (.inr (.inl (fun _ => 0)))))), (o, .inl (tj, 1, .inr (.inl (vp_updL (fun _ => 0) 0 0)))), (m0, .inr (20, .int 0 :: u57))] := hD
        refine lv_istore (lv' := [(7, .int 0), (6, .int 0), (5, .int 0), (4, .ref oD), (3, .ref o), (2, .ref m0), (1, .ref h0), (0, .ref b)]) hx hb dL_law_343 hl (by decide) rfl (fun ls hl => ?_)
        refine lv_aload_n hx hb dL_law_345 rfl (lv_at hl 5 rfl) ?_
        have hPc := hP.sub (ws' := [(m0, .inr (20, .int 0 :: u57))]) [2] rfl
        have hKc := hK.sub (tys' := []) [] rfl
        refine vp_callSi (W.runV (As := []) (rest := []) ⟨hx, hb, hml, hown, hta⟩ (c_X15_thrown l ) (cwV 0 hta (gWV mw422 mw423 mw424 mw176 mw421) rfl rfl rfl (by decide +kernel) ⟨Nat.le_of_ble_eq_true rfl, Nat.le_of_ble_eq_true rfl⟩) ⟨gR_blind, va_recv hKc hPc (ci := 20) (q0 := 0) rfl rfl, fun U hU hW => ⟨rfl, by rw [hU]; exact hPc, va_K.moved hW.alike hKc⟩⟩ rfl rfl hl.1 rfl (lv_room (Nat.le_of_ble_eq_true rfl)) dL_law_346 ⟨Nat.le_of_ble_eq_true rfl, Nat.le_of_ble_eq_true rfl⟩) (fun r59 h60 => ?_)
        obtain rfl : r59 = 0 := h60
        refine lv_iload hx hb dL_law_349 (lv_at hl 1 rfl) ?_
        refine lv_icmp_eq (tgt := 356) hx hb dL_law_351 (by decide) (fun c61 => ?_) (fun c61 => ?_)
        · skip
          refine lv_iload hx hb dL_law_356 (lv_at hl 1 rfl) ?_
          refine lv_if_ne (tgt := 373) hx hb dL_law_358 (by decide) (fun c62 => ?_) (fun c62 => ?_)
          · exact absurd c62 (by decide)
          · skip
            refine lv_aload_n hx hb dL_law_361 rfl (lv_at hl 4 rfl) ?_
            refine lv_iconst (v := 0) hx hb dL_law_362 (by decide) ?_
            refine va_lald hx hb hK hP 1 6 rfl rfl (i := 0) (by unfold vp_in; decide) dL_law_363 ?_
            refine W.eq (g2 := F0 m 364 ls [.long 0]) rfl ?_
            refine lv_iload hx hb dL_law_364 (lv_at hl 0 rfl) ?_
            refine lv_i2l (v := 0) hx hb dL_law_366 (by decide) ?_
            refine W.lcmp hx hb dL_law_367 ?_
            refine lv_if_eq (tgt := 373) hx hb dL_law_368 (by decide) (fun c63 => ?_) (fun c63 => ?_)
            · skip
              refine lv_goto (tgt := 2441) hx hb dL_law_373 (by decide) ?_
              exact law_tail l C0 hA2 hS (lv_sub hl [7, 2] rfl) (Nat.le_of_ble_eq_true rfl) (Nat.le_of_ble_eq_true rfl)
            · exact absurd lgc c63
        · exact absurd (by decide) c61
      · skip
        refine lv_iconst (v := 1) hx hb dL_law_329 (by decide) ?_
        refine lv_goto (tgt := 334) hx hb dL_law_330 (by decide) ?_
        refine lv_aload_n hx hb dL_law_334 rfl (lv_at hl 6 rfl) ?_
        refine lv_iload hx hb dL_law_335 (lv_at hl 1 rfl) ?_
        refine lv_iconst (v := 2) hx hb dL_law_337 (by decide) ?_
        refine lv_iadd hx hb dL_law_338 ?_
        refine lv_topi (fun x64 ex64 => ?_)
        obtain rfl : x64 = 2 := ex64.trans (by decide)
        refine va_sld hx hb hX hbl hbA hS (i := 2) (by unfold vp_in; decide) dL_law_339 ?_
        refine W.eq (g2 := F0 m 340 ls [.int (xs 2), .int 1, .ref m0]) rfl ?_
        have hPc := hP.sub (ws' := (wM tE m0 m1 m2 m3 m4 m5 m6 tc 0 0)) [0, 1, 2, 3, 4, 5] rfl
        have hKc := hK.sub (tys' := [(tc, .char)]) [5] rfl
        have hDc := hD.sub (ws' := (wM tE m0 m1 m2 m3 m4 m5 m6 tc 0 0)) [0, 1, 2, 3, 4, 5] (by decide) rfl
        have hFc := va_free (wc := (wM tE m0 m1 m2 m3 m4 m5 m6 tc 0 0)) hD hS hA [0, 1, 2, 3, 4, 5] rfl
        refine gJ_i (isC := [0, 1, 2, 3, 4, 5]) (isR := [6, 7]) (wr := [(oD, .inl (td, 1, .inr (.inr (.inr (.inl (fun _ => 0)))))), (o, .inl (tj, 1, .inr (.inl (vp_updL (fun _ => 0) 0 0))))]) (va_runV (As := [.int 1, .int (xs 2)]) (rest := []) ⟨hx, hb, hml, hown, hta⟩ (c_X15_addPart_t1 l hf) (cwV 2 hta (gWV mw429 mw430 mw431 mw176 mw428) rfl rfl rfl (by decide +kernel) ⟨Nat.le_of_ble_eq_true rfl, Nat.le_of_ble_eq_true rfl⟩) ⟨gS_blind, va_recv hKc hPc (ci := 20) (q0 := 0) rfl rfl, fun U hU hW => ⟨rfl, by rw [hU], by rw [hU]; exact hPc, va_K.moved hW.alike hKc, hDc.weaken (fun _ _ _ _ => trivial), hG.call hS hU hW hFc⟩⟩ rfl rfl hl.1 rfl (lv_room (Nat.le_of_ble_eq_true rfl)) dL_law_340 ⟨Nat.le_of_ble_eq_true rfl, Nat.le_of_ble_eq_true rfl⟩) hP hD hS hK hFc rfl rfl (by decide) (by decide) (fun r65 u66 H locs h67 hP hD hS hK => ?_)
        obtain rfl : r65 = 0 := h67
        have hK : va_K D vwCl (tLw t1 t2 t3 t4 t5 tc tj td) s := hK
        have hP : va_P D vwCl [(oD, .inl (td, 1, .inr (.inr (.inr (.inl (fun _ => 0)))))), (o, .inl (tj, 1, .inr (.inl (vp_updL (fun _ => 0) 0 0)))), (m0, .inr (20, .int 0 :: u66))] H := hP
        have hD : va_D A [(oD, .inl (td, 1, .inr (.inr (.inr (.inl (fun _ => 0)))))), (o, .inl (tj, 1, .inr (.inl (vp_updL (fun _ => 0) 0 0)))), (m0, .inr (20, .int 0 :: u66))] := hD
        refine lv_istore (lv' := [(7, .int 0), (6, .int 0), (5, .int 0), (4, .ref oD), (3, .ref o), (2, .ref m0), (1, .ref h0), (0, .ref b)]) hx hb dL_law_343 hl (by decide) rfl (fun ls hl => ?_)
        refine lv_aload_n hx hb dL_law_345 rfl (lv_at hl 5 rfl) ?_
        have hPc := hP.sub (ws' := [(m0, .inr (20, .int 0 :: u66))]) [2] rfl
        have hKc := hK.sub (tys' := []) [] rfl
        refine vp_callSi (W.runV (As := []) (rest := []) ⟨hx, hb, hml, hown, hta⟩ (c_X15_thrown l ) (cwV 0 hta (gWV mw422 mw423 mw424 mw176 mw421) rfl rfl rfl (by decide +kernel) ⟨Nat.le_of_ble_eq_true rfl, Nat.le_of_ble_eq_true rfl⟩) ⟨gR_blind, va_recv hKc hPc (ci := 20) (q0 := 0) rfl rfl, fun U hU hW => ⟨rfl, by rw [hU]; exact hPc, va_K.moved hW.alike hKc⟩⟩ rfl rfl hl.1 rfl (lv_room (Nat.le_of_ble_eq_true rfl)) dL_law_346 ⟨Nat.le_of_ble_eq_true rfl, Nat.le_of_ble_eq_true rfl⟩) (fun r68 h69 => ?_)
        obtain rfl : r68 = 0 := h69
        refine lv_iload hx hb dL_law_349 (lv_at hl 1 rfl) ?_
        refine lv_icmp_eq (tgt := 356) hx hb dL_law_351 (by decide) (fun c70 => ?_) (fun c70 => ?_)
        · skip
          refine lv_iload hx hb dL_law_356 (lv_at hl 1 rfl) ?_
          refine lv_if_ne (tgt := 373) hx hb dL_law_358 (by decide) (fun c71 => ?_) (fun c71 => ?_)
          · exact absurd c71 (by decide)
          · skip
            refine lv_aload_n hx hb dL_law_361 rfl (lv_at hl 4 rfl) ?_
            refine lv_iconst (v := 0) hx hb dL_law_362 (by decide) ?_
            refine va_lald hx hb hK hP 1 6 rfl rfl (i := 0) (by unfold vp_in; decide) dL_law_363 ?_
            refine W.eq (g2 := F0 m 364 ls [.long 0]) rfl ?_
            refine lv_iload hx hb dL_law_364 (lv_at hl 0 rfl) ?_
            refine lv_i2l (v := 0) hx hb dL_law_366 (by decide) ?_
            refine W.lcmp hx hb dL_law_367 ?_
            refine lv_if_eq (tgt := 373) hx hb dL_law_368 (by decide) (fun c72 => ?_) (fun c72 => ?_)
            · skip
              refine lv_goto (tgt := 2441) hx hb dL_law_373 (by decide) ?_
              exact law_tail l C0 hA2 hS (lv_sub hl [7, 2] rfl) (Nat.le_of_ble_eq_true rfl) (Nat.le_of_ble_eq_true rfl)
            · exact absurd lgc c72
        · exact absurd (by decide) c70
    · skip
      refine lv_iconst (v := 1) hx hb dL_law_302 (by decide) ?_
      refine lv_goto (tgt := 307) hx hb dL_law_303 (by decide) ?_
      refine lv_aload_n hx hb dL_law_307 rfl (lv_at hl 5 rfl) ?_
      refine lv_iload hx hb dL_law_308 (lv_at hl 0 rfl) ?_
      refine lv_iconst (v := 2) hx hb dL_law_310 (by decide) ?_
      refine lv_iadd hx hb dL_law_311 ?_
      refine lv_topi (fun x73 ex73 => ?_)
      obtain rfl : x73 = 2 := ex73.trans (by decide)
      refine va_sld hx hb hX hbl hbA hS (i := 2) (by unfold vp_in; decide) dL_law_312 ?_
      refine W.eq (g2 := F0 m 313 ls [.int (xs 2), .int 1, .ref h0]) rfl ?_
      refine lv_aload_n hx hb dL_law_313 rfl (lv_at hl 2 rfl) ?_
      have hPc := hP.sub (ws' := [(h0, .inr (15, [.ref a1, .ref a2, .ref a3, .ref a4, .ref a5, .ref h6, .int 0, .int 0, .int 0, .int 0, .int 0, .int 0, .long 0, .long 0])), (a1, .inl (t1, 5, .inr (.inr (.inr (.inr (fun _ => none)))))), (a2, .inl (t2, 12, .inr (.inr (.inr (.inr (fun _ => none)))))), (a3, .inl (t3, 4, .inr (.inr (.inr (.inr (va_up (va_up (va_up (va_up (fun _ => none) 0 (some s0)) 1 (some s1)) 2 (some s2)) 3 (some s3))))))), (a4, .inl (t4, 90, .inr (.inr (.inr (.inr (fun _ => none)))))), (a5, .inl (t5, 30, .inr (.inr (.inr (.inr (fun _ => none)))))), (h6, .inr (10, [.long 0, .long 0])), (s0, .inr (14, [.int 110, .int 0, .int 0])), (s1, .inr (14, [.int 110, .int 0, .int 0])), (s2, .inr (14, [.int 110, .int 0, .int 0])), (s3, .inr (14, [.int 110, .int 0, .int 0])), (o, .inl (tj, 1, .inr (.inl (fun _ => 0))))]) [0, 1, 2, 3, 4, 5, 6, 7, 8, 9, 10, 17] rfl
      have hKc := hK.sub (tys' := [(t1, .object "Foundrymark$Machine"), (t2, .object "Foundrymark$Part"), (t3, .object "Foundrymark$Supplier"), (t4, .object "Foundrymark$Lot"), (t5, .object "Foundrymark$Order"), (tj, .long)]) [0, 1, 2, 3, 4, 6] rfl
      have hDc := hD.sub (ws' := [(h0, .inr (15, [.ref a1, .ref a2, .ref a3, .ref a4, .ref a5, .ref h6, .int 0, .int 0, .int 0, .int 0, .int 0, .int 0, .long 0, .long 0])), (a1, .inl (t1, 5, .inr (.inr (.inr (.inr (fun _ => none)))))), (a2, .inl (t2, 12, .inr (.inr (.inr (.inr (fun _ => none)))))), (a3, .inl (t3, 4, .inr (.inr (.inr (.inr (va_up (va_up (va_up (va_up (fun _ => none) 0 (some s0)) 1 (some s1)) 2 (some s2)) 3 (some s3))))))), (a4, .inl (t4, 90, .inr (.inr (.inr (.inr (fun _ => none)))))), (a5, .inl (t5, 30, .inr (.inr (.inr (.inr (fun _ => none)))))), (h6, .inr (10, [.long 0, .long 0])), (s0, .inr (14, [.int 110, .int 0, .int 0])), (s1, .inr (14, [.int 110, .int 0, .int 0])), (s2, .inr (14, [.int 110, .int 0, .int 0])), (s3, .inr (14, [.int 110, .int 0, .int 0])), (o, .inl (tj, 1, .inr (.inl (fun _ => 0))))]) [0, 1, 2, 3, 4, 5, 6, 7, 8, 9, 10, 17] (by decide) rfl
      have hFc := va_free (wc := [(h0, .inr (15, [.ref a1, .ref a2, .ref a3, .ref a4, .ref a5, .ref h6, .int 0, .int 0, .int 0, .int 0, .int 0, .int 0, .long 0, .long 0])), (a1, .inl (t1, 5, .inr (.inr (.inr (.inr (fun _ => none)))))), (a2, .inl (t2, 12, .inr (.inr (.inr (.inr (fun _ => none)))))), (a3, .inl (t3, 4, .inr (.inr (.inr (.inr (va_up (va_up (va_up (va_up (fun _ => none) 0 (some s0)) 1 (some s1)) 2 (some s2)) 3 (some s3))))))), (a4, .inl (t4, 90, .inr (.inr (.inr (.inr (fun _ => none)))))), (a5, .inl (t5, 30, .inr (.inr (.inr (.inr (fun _ => none)))))), (h6, .inr (10, [.long 0, .long 0])), (s0, .inr (14, [.int 110, .int 0, .int 0])), (s1, .inr (14, [.int 110, .int 0, .int 0])), (s2, .inr (14, [.int 110, .int 0, .int 0])), (s3, .inr (14, [.int 110, .int 0, .int 0])), (o, .inl (tj, 1, .inr (.inl (fun _ => 0))))]) hD hS hA [0, 1, 2, 3, 4, 5, 6, 7, 8, 9, 10, 17] rfl
      refine gJ_i (isC := [0, 1, 2, 3, 4, 5, 6, 7, 8, 9, 10, 17]) (isR := [11, 12, 13, 14, 15, 16, 18]) (wr := [(m0, .inr (20, [.int 0, .ref m1, .ref m2, .ref m3, .ref m4, .int 0, .ref m5, .ref m6, .int 0])), (m1, .inr (4, [.int 0, .ref tE, .int 0])), (m2, .inr (4, [.int 0, .ref tE, .int 0])), (m3, .inr (4, [.int 0, .ref tE, .int 0])), (m4, .inr (4, [.int 0, .ref tE, .int 0])), (m5, .inl (tc, 4, .inl (upd (upd (upd (upd (fun _ => 0) 0 110) 1 110) 2 110) 3 110))), (oD, .inl (td, 1, .inr (.inr (.inr (.inl (fun _ => 0))))))]) (vx_runSW (As := [.ref h0, .int 1, .int (xs 2), .ref o]) (rest := []) ⟨hx, hb, hml, hown, hta⟩ (c_L_addPart_t1 l hl0 hf) (vx_cwSW 4 hta (gWSW mw426 mw427 mw416 mw425) rfl rfl rfl (by decide +kernel) ⟨Nat.le_of_ble_eq_true rfl, Nat.le_of_ble_eq_true rfl⟩) ⟨gS_blind, fun U hU hW => ⟨rfl, by rw [hU], by rw [hU]; exact hPc, va_K.moved hW.alike hKc, hDc.weaken (fun _ _ _ _ => trivial), hG.call hS hU hW hFc⟩⟩ rfl rfl hl.1 rfl (lv_room (Nat.le_of_ble_eq_true rfl)) dL_law_314 ⟨Nat.le_of_ble_eq_true rfl, Nat.le_of_ble_eq_true rfl⟩) hP hD hS hK hFc rfl rfl (by decide) (by decide) (fun r74 u75 H locs h76 hP hD hS hK => ?_)
      obtain rfl : r74 = 0 := h76
      have hK : va_K D vwCl (tLw t1 t2 t3 t4 t5 tc tj td) s := hK
      have hP : va_P D vwCl [(m0, .inr (20, [.int 0, .ref m1, .ref m2, .ref m3, .ref m4, .int 0, .ref m5, .ref m6, .int 0])), (m1, .inr (4, [.int 0, .ref tE, .int 0])), (m2, .inr (4, [.int 0, .ref tE, .int 0])), (m3, .inr (4, [.int 0, .ref tE, .int 0])), (m4, .inr (4, [.int 0, .ref tE, .int 0])), (m5, .inl (tc, 4, .inl (upd (upd (upd (upd (fun _ => 0) 0 110) 1 110) 2 110) 3 110))), (oD, .inl (td, 1, .inr (.inr (.inr (.inl (fun _ => 0)))))), (o, .inl (tj, 1, .inr (.inl (vp_updL (fun _ => 0) 0 0))))] H := hP
      have hD : va_D A [(m0, .inr (20, [.int 0, .ref m1, .ref m2, .ref m3, .ref m4, .int 0, .ref m5, .ref m6, .int 0])), (m1, .inr (4, [.int 0, .ref tE, .int 0])), (m2, .inr (4, [.int 0, .ref tE, .int 0])), (m3, .inr (4, [.int 0, .ref tE, .int 0])), (m4, .inr (4, [.int 0, .ref tE, .int 0])), (m5, .inl (tc, 4, .inl (upd (upd (upd (upd (fun _ => 0) 0 110) 1 110) 2 110) 3 110))), (oD, .inl (td, 1, .inr (.inr (.inr (.inl (fun _ => 0)))))), (o, .inl (tj, 1, .inr (.inl (vp_updL (fun _ => 0) 0 0))))] := hD
      refine lv_istore (lv' := [(6, .int 0), (5, .int 0), (4, .ref oD), (3, .ref o), (2, .ref m0), (1, .ref h0), (0, .ref b)]) hx hb dL_law_317 hl (by decide) rfl (fun ls hl => ?_)
      refine lv_aload_n hx hb dL_law_319 rfl (lv_at hl 4 rfl) ?_
      refine lv_aload_n hx hb dL_law_320 rfl (lv_at hl 6 rfl) ?_
      refine lv_iload hx hb dL_law_321 (lv_at hl 1 rfl) ?_
      refine lv_iconst (v := 1) hx hb dL_law_323 (by decide) ?_
      refine lv_iadd hx hb dL_law_324 ?_
      refine lv_topi (fun x77 ex77 => ?_)
      obtain rfl : x77 = 1 := ex77.trans (by decide)
      refine va_sld hx hb hX hbl hbA hS (i := 1) (by unfold vp_in; decide) dL_law_325 ?_
      refine W.eq (g2 := F0 m 326 ls [.int (xs 1), .ref m0]) rfl ?_
      refine lv_if_eq (tgt := 333) hx hb dL_law_326 (by decide) (fun c78 => ?_) (fun c78 => ?_)
      · skip
        refine lv_iconst (v := 0) hx hb dL_law_333 (by decide) ?_
        refine lv_aload_n hx hb dL_law_334 rfl (lv_at hl 6 rfl) ?_
        refine lv_iload hx hb dL_law_335 (lv_at hl 1 rfl) ?_
        refine lv_iconst (v := 2) hx hb dL_law_337 (by decide) ?_
        refine lv_iadd hx hb dL_law_338 ?_
        refine lv_topi (fun x79 ex79 => ?_)
        obtain rfl : x79 = 2 := ex79.trans (by decide)
        refine va_sld hx hb hX hbl hbA hS (i := 2) (by unfold vp_in; decide) dL_law_339 ?_
        refine W.eq (g2 := F0 m 340 ls [.int (xs 2), .int 0, .ref m0]) rfl ?_
        have hPc := hP.sub (ws' := (wM tE m0 m1 m2 m3 m4 m5 m6 tc 0 0)) [0, 1, 2, 3, 4, 5] rfl
        have hKc := hK.sub (tys' := [(tc, .char)]) [5] rfl
        have hDc := hD.sub (ws' := (wM tE m0 m1 m2 m3 m4 m5 m6 tc 0 0)) [0, 1, 2, 3, 4, 5] (by decide) rfl
        have hFc := va_free (wc := (wM tE m0 m1 m2 m3 m4 m5 m6 tc 0 0)) hD hS hA [0, 1, 2, 3, 4, 5] rfl
        refine gJ_i (isC := [0, 1, 2, 3, 4, 5]) (isR := [6, 7]) (wr := [(oD, .inl (td, 1, .inr (.inr (.inr (.inl (fun _ => 0)))))), (o, .inl (tj, 1, .inr (.inl (vp_updL (fun _ => 0) 0 0))))]) (va_runV (As := [.int 0, .int (xs 2)]) (rest := []) ⟨hx, hb, hml, hown, hta⟩ (c_X15_addPart_t0 l hf) (cwV 2 hta (gWV mw429 mw430 mw431 mw176 mw428) rfl rfl rfl (by decide +kernel) ⟨Nat.le_of_ble_eq_true rfl, Nat.le_of_ble_eq_true rfl⟩) ⟨gS_blind, va_recv hKc hPc (ci := 20) (q0 := 0) rfl rfl, fun U hU hW => ⟨rfl, by rw [hU], by rw [hU]; exact hPc, va_K.moved hW.alike hKc, hDc.weaken (fun _ _ _ _ => trivial), hG.call hS hU hW hFc⟩⟩ rfl rfl hl.1 rfl (lv_room (Nat.le_of_ble_eq_true rfl)) dL_law_340 ⟨Nat.le_of_ble_eq_true rfl, Nat.le_of_ble_eq_true rfl⟩) hP hD hS hK hFc rfl rfl (by decide) (by decide) (fun r80 u81 H locs h82 hP hD hS hK => ?_)
        obtain rfl : r80 = 0 := h82
        have hK : va_K D vwCl (tLw t1 t2 t3 t4 t5 tc tj td) s := hK
        have hP : va_P D vwCl [(oD, .inl (td, 1, .inr (.inr (.inr (.inl (fun _ => 0)))))), (o, .inl (tj, 1, .inr (.inl (vp_updL (fun _ => 0) 0 0)))), (m0, .inr (20, .int 0 :: u81))] H := hP
        have hD : va_D A [(oD, .inl (td, 1, .inr (.inr (.inr (.inl (fun _ => 0)))))), (o, .inl (tj, 1, .inr (.inl (vp_updL (fun _ => 0) 0 0)))), (m0, .inr (20, .int 0 :: u81))] := hD
        refine lv_istore (lv' := [(7, .int 0), (6, .int 0), (5, .int 0), (4, .ref oD), (3, .ref o), (2, .ref m0), (1, .ref h0), (0, .ref b)]) hx hb dL_law_343 hl (by decide) rfl (fun ls hl => ?_)
        refine lv_aload_n hx hb dL_law_345 rfl (lv_at hl 5 rfl) ?_
        have hPc := hP.sub (ws' := [(m0, .inr (20, .int 0 :: u81))]) [2] rfl
        have hKc := hK.sub (tys' := []) [] rfl
        refine vp_callSi (W.runV (As := []) (rest := []) ⟨hx, hb, hml, hown, hta⟩ (c_X15_thrown l ) (cwV 0 hta (gWV mw422 mw423 mw424 mw176 mw421) rfl rfl rfl (by decide +kernel) ⟨Nat.le_of_ble_eq_true rfl, Nat.le_of_ble_eq_true rfl⟩) ⟨gR_blind, va_recv hKc hPc (ci := 20) (q0 := 0) rfl rfl, fun U hU hW => ⟨rfl, by rw [hU]; exact hPc, va_K.moved hW.alike hKc⟩⟩ rfl rfl hl.1 rfl (lv_room (Nat.le_of_ble_eq_true rfl)) dL_law_346 ⟨Nat.le_of_ble_eq_true rfl, Nat.le_of_ble_eq_true rfl⟩) (fun r83 h84 => ?_)
        obtain rfl : r83 = 0 := h84
        refine lv_iload hx hb dL_law_349 (lv_at hl 1 rfl) ?_
        refine lv_icmp_eq (tgt := 356) hx hb dL_law_351 (by decide) (fun c85 => ?_) (fun c85 => ?_)
        · skip
          refine lv_iload hx hb dL_law_356 (lv_at hl 1 rfl) ?_
          refine lv_if_ne (tgt := 373) hx hb dL_law_358 (by decide) (fun c86 => ?_) (fun c86 => ?_)
          · exact absurd c86 (by decide)
          · skip
            refine lv_aload_n hx hb dL_law_361 rfl (lv_at hl 4 rfl) ?_
            refine lv_iconst (v := 0) hx hb dL_law_362 (by decide) ?_
            refine va_lald hx hb hK hP 1 6 rfl rfl (i := 0) (by unfold vp_in; decide) dL_law_363 ?_
            refine W.eq (g2 := F0 m 364 ls [.long 0]) rfl ?_
            refine lv_iload hx hb dL_law_364 (lv_at hl 0 rfl) ?_
            refine lv_i2l (v := 0) hx hb dL_law_366 (by decide) ?_
            refine W.lcmp hx hb dL_law_367 ?_
            refine lv_if_eq (tgt := 373) hx hb dL_law_368 (by decide) (fun c87 => ?_) (fun c87 => ?_)
            · skip
              refine lv_goto (tgt := 2441) hx hb dL_law_373 (by decide) ?_
              exact law_tail l C0 hA2 hS (lv_sub hl [7, 2] rfl) (Nat.le_of_ble_eq_true rfl) (Nat.le_of_ble_eq_true rfl)
            · exact absurd lgc c87
        · exact absurd (by decide) c85
      · skip
        refine lv_iconst (v := 1) hx hb dL_law_329 (by decide) ?_
        refine lv_goto (tgt := 334) hx hb dL_law_330 (by decide) ?_
        refine lv_aload_n hx hb dL_law_334 rfl (lv_at hl 6 rfl) ?_
        refine lv_iload hx hb dL_law_335 (lv_at hl 1 rfl) ?_
        refine lv_iconst (v := 2) hx hb dL_law_337 (by decide) ?_
        refine lv_iadd hx hb dL_law_338 ?_
        refine lv_topi (fun x88 ex88 => ?_)
        obtain rfl : x88 = 2 := ex88.trans (by decide)
        refine va_sld hx hb hX hbl hbA hS (i := 2) (by unfold vp_in; decide) dL_law_339 ?_
        refine W.eq (g2 := F0 m 340 ls [.int (xs 2), .int 1, .ref m0]) rfl ?_
        have hPc := hP.sub (ws' := (wM tE m0 m1 m2 m3 m4 m5 m6 tc 0 0)) [0, 1, 2, 3, 4, 5] rfl
        have hKc := hK.sub (tys' := [(tc, .char)]) [5] rfl
        have hDc := hD.sub (ws' := (wM tE m0 m1 m2 m3 m4 m5 m6 tc 0 0)) [0, 1, 2, 3, 4, 5] (by decide) rfl
        have hFc := va_free (wc := (wM tE m0 m1 m2 m3 m4 m5 m6 tc 0 0)) hD hS hA [0, 1, 2, 3, 4, 5] rfl
        refine gJ_i (isC := [0, 1, 2, 3, 4, 5]) (isR := [6, 7]) (wr := [(oD, .inl (td, 1, .inr (.inr (.inr (.inl (fun _ => 0)))))), (o, .inl (tj, 1, .inr (.inl (vp_updL (fun _ => 0) 0 0))))]) (va_runV (As := [.int 1, .int (xs 2)]) (rest := []) ⟨hx, hb, hml, hown, hta⟩ (c_X15_addPart_t1 l hf) (cwV 2 hta (gWV mw429 mw430 mw431 mw176 mw428) rfl rfl rfl (by decide +kernel) ⟨Nat.le_of_ble_eq_true rfl, Nat.le_of_ble_eq_true rfl⟩) ⟨gS_blind, va_recv hKc hPc (ci := 20) (q0 := 0) rfl rfl, fun U hU hW => ⟨rfl, by rw [hU], by rw [hU]; exact hPc, va_K.moved hW.alike hKc, hDc.weaken (fun _ _ _ _ => trivial), hG.call hS hU hW hFc⟩⟩ rfl rfl hl.1 rfl (lv_room (Nat.le_of_ble_eq_true rfl)) dL_law_340 ⟨Nat.le_of_ble_eq_true rfl, Nat.le_of_ble_eq_true rfl⟩) hP hD hS hK hFc rfl rfl (by decide) (by decide) (fun r89 u90 H locs h91 hP hD hS hK => ?_)
        obtain rfl : r89 = 0 := h91
        have hK : va_K D vwCl (tLw t1 t2 t3 t4 t5 tc tj td) s := hK
        have hP : va_P D vwCl [(oD, .inl (td, 1, .inr (.inr (.inr (.inl (fun _ => 0)))))), (o, .inl (tj, 1, .inr (.inl (vp_updL (fun _ => 0) 0 0)))), (m0, .inr (20, .int 0 :: u90))] H := hP
        have hD : va_D A [(oD, .inl (td, 1, .inr (.inr (.inr (.inl (fun _ => 0)))))), (o, .inl (tj, 1, .inr (.inl (vp_updL (fun _ => 0) 0 0)))), (m0, .inr (20, .int 0 :: u90))] := hD
        refine lv_istore (lv' := [(7, .int 0), (6, .int 0), (5, .int 0), (4, .ref oD), (3, .ref o), (2, .ref m0), (1, .ref h0), (0, .ref b)]) hx hb dL_law_343 hl (by decide) rfl (fun ls hl => ?_)
        refine lv_aload_n hx hb dL_law_345 rfl (lv_at hl 5 rfl) ?_
        have hPc := hP.sub (ws' := [(m0, .inr (20, .int 0 :: u90))]) [2] rfl
        have hKc := hK.sub (tys' := []) [] rfl
        refine vp_callSi (W.runV (As := []) (rest := []) ⟨hx, hb, hml, hown, hta⟩ (c_X15_thrown l ) (cwV 0 hta (gWV mw422 mw423 mw424 mw176 mw421) rfl rfl rfl (by decide +kernel) ⟨Nat.le_of_ble_eq_true rfl, Nat.le_of_ble_eq_true rfl⟩) ⟨gR_blind, va_recv hKc hPc (ci := 20) (q0 := 0) rfl rfl, fun U hU hW => ⟨rfl, by rw [hU]; exact hPc, va_K.moved hW.alike hKc⟩⟩ rfl rfl hl.1 rfl (lv_room (Nat.le_of_ble_eq_true rfl)) dL_law_346 ⟨Nat.le_of_ble_eq_true rfl, Nat.le_of_ble_eq_true rfl⟩) (fun r92 h93 => ?_)
        obtain rfl : r92 = 0 := h93
        refine lv_iload hx hb dL_law_349 (lv_at hl 1 rfl) ?_
        refine lv_icmp_eq (tgt := 356) hx hb dL_law_351 (by decide) (fun c94 => ?_) (fun c94 => ?_)
        · skip
          refine lv_iload hx hb dL_law_356 (lv_at hl 1 rfl) ?_
          refine lv_if_ne (tgt := 373) hx hb dL_law_358 (by decide) (fun c95 => ?_) (fun c95 => ?_)
          · exact absurd c95 (by decide)
          · skip
            refine lv_aload_n hx hb dL_law_361 rfl (lv_at hl 4 rfl) ?_
            refine lv_iconst (v := 0) hx hb dL_law_362 (by decide) ?_
            refine va_lald hx hb hK hP 1 6 rfl rfl (i := 0) (by unfold vp_in; decide) dL_law_363 ?_
            refine W.eq (g2 := F0 m 364 ls [.long 0]) rfl ?_
            refine lv_iload hx hb dL_law_364 (lv_at hl 0 rfl) ?_
            refine lv_i2l (v := 0) hx hb dL_law_366 (by decide) ?_
            refine W.lcmp hx hb dL_law_367 ?_
            refine lv_if_eq (tgt := 373) hx hb dL_law_368 (by decide) (fun c96 => ?_) (fun c96 => ?_)
            · skip
              refine lv_goto (tgt := 2441) hx hb dL_law_373 (by decide) ?_
              exact law_tail l C0 hA2 hS (lv_sub hl [7, 2] rfl) (Nat.le_of_ble_eq_true rfl) (Nat.le_of_ble_eq_true rfl)
            · exact absurd lgc c96
        · exact absurd (by decide) c94

set_option maxHeartbeats 4000000 in
set_option maxRecDepth 100000 in
theorem lc_2 {p : Program} {e : Env} {s : State} {m : MethodId} {below : List Frame} {meth : Method} {c : Code} (l : Launch) (hl0 : l.stackTraces = false) {b : Nat} {xs : Nat → Int32} (C0 : lw_At p s m meth c b 6 xs) {A : Nat → Prop} (hA : ∀ q, s.heap.size ≤ q → A q) (hA2 : ∀ q, A q → s.heap.size ≤ q) {D : va_G} {tE : Nat} {h0 a1 a2 a3 a4 a5 h6 s0 s1 s2 s3 : Nat} {t1 t2 t3 t4 t5 : ClassId} {m0 m1 m2 m3 m4 m5 m6 : Nat} {tc : ClassId} {o oD : Nat} {tj td : ClassId} {H : Heap} {locs : List Loc} {ls : Array Slot} (hK : va_K D vwCl (tLw t1 t2 t3 t4 t5 tc tj td) s) (hG : gP tE A s) (hP : va_P D vwCl (wLw tE h0 a1 a2 a3 a4 a5 h6 s0 s1 s2 s3 m0 m1 m2 m3 m4 m5 m6 o oD t1 t2 t3 t4 t5 tc tj td) H) (hD : va_D A (wLw tE h0 a1 a2 a3 a4 a5 h6 s0 s1 s2 s3 m0 m1 m2 m3 m4 m5 m6 o oD t1 t2 t3 t4 t5 tc tj td)) (hS : va_S A s.heap H locs) (hl : lv_has ls 9 [(5, .int 0), (4, .ref oD), (3, .ref o), (2, .ref m0), (1, .ref h0), (0, .ref b)]) : W p l e room_1 s m #[Value.ref b] below meth c H locs 25 221 (lw_Z below #[Value.ref b] s) (F0 m 376 ls []) := by
  obtain ⟨hx, hb, hr, hml, hown0, hts, hX, hbl, hlocks, hgv⟩ := id C0
  have hta : ∀ w ∈ WA, w.before #[Value.ref b] s = true := fun w h => hts w (WA_in w h)
  have hown : s.vm.findClass "FoundrymarkLaw" = some m.cls := hown0
  have hbA : ¬ A b := fun h => absurd (hA2 b h) (Nat.not_le.mpr hbl)
  refine lv_aload_n hx hb dL_law_376 rfl (lv_at hl 4 rfl) ?_
  refine lv_aload_n hx hb dL_law_377 rfl (lv_at hl 5 rfl) ?_
  refine lv_iload hx hb dL_law_378 (lv_at hl 0 rfl) ?_
  refine lv_iconst (v := 1) hx hb dL_law_380 (by decide) ?_
  refine lv_iadd hx hb dL_law_381 ?_
  refine lv_topi (fun x1 ex1 => ?_)
  obtain rfl : x1 = 1 := ex1.trans (by decide)
  refine va_sld hx hb hX hbl hbA hS (i := 1) (by unfold vp_in; decide) dL_law_382 ?_
  refine W.eq (g2 := F0 m 383 ls [.int (xs 1), .ref h0]) rfl ?_
  refine lv_aload_n hx hb dL_law_383 rfl (lv_at hl 5 rfl) ?_
  refine lv_iload hx hb dL_law_384 (lv_at hl 0 rfl) ?_
  refine lv_iconst (v := 2) hx hb dL_law_386 (by decide) ?_
  refine lv_iadd hx hb dL_law_387 ?_
  refine lv_topi (fun x2 ex2 => ?_)
  obtain rfl : x2 = 2 := ex2.trans (by decide)
  refine va_sld hx hb hX hbl hbA hS (i := 2) (by unfold vp_in; decide) dL_law_388 ?_
  refine W.eq (g2 := F0 m 389 ls [.int (xs 2), .int (xs 1), .ref h0]) rfl ?_
  refine lv_aload_n hx hb dL_law_389 rfl (lv_at hl 5 rfl) ?_
  refine lv_iload hx hb dL_law_390 (lv_at hl 0 rfl) ?_
  refine lv_iconst (v := 3) hx hb dL_law_392 (by decide) ?_
  refine lv_iadd hx hb dL_law_393 ?_
  refine lv_topi (fun x3 ex3 => ?_)
  obtain rfl : x3 = 3 := ex3.trans (by decide)
  refine va_sld hx hb hX hbl hbA hS (i := 3) (by unfold vp_in; decide) dL_law_394 ?_
  refine W.eq (g2 := F0 m 395 ls [.int (xs 3), .int (xs 2), .int (xs 1), .ref h0]) rfl ?_
  refine lv_aload_n hx hb dL_law_395 rfl (lv_at hl 5 rfl) ?_
  refine lv_iload hx hb dL_law_396 (lv_at hl 0 rfl) ?_
  refine lv_iconst (v := 4) hx hb dL_law_398 (by decide) ?_
  refine lv_iadd hx hb dL_law_399 ?_
  refine lv_topi (fun x4 ex4 => ?_)
  obtain rfl : x4 = 4 := ex4.trans (by decide)
  refine va_sld hx hb hX hbl hbA hS (i := 4) (by unfold vp_in; decide) dL_law_400 ?_
  refine W.eq (g2 := F0 m 401 ls [.int (xs 4), .int (xs 3), .int (xs 2), .int (xs 1), .ref h0]) rfl ?_
  refine lv_aload_n hx hb dL_law_401 rfl (lv_at hl 2 rfl) ?_
  have hPc := hP.sub (ws' := (wX h0 a1 a2 a3 a4 a5 h6 s0 s1 s2 s3 t1 t2 t3 t4 t5)) [0, 1, 2, 3, 4, 5, 6, 7, 8, 9, 10] rfl
  have hKc := hK.sub (tys' := (tX t1 t2 t3 t4 t5)) [0, 1, 2, 3, 4] rfl
  have hDc := hD.sub (ws' := (wX h0 a1 a2 a3 a4 a5 h6 s0 s1 s2 s3 t1 t2 t3 t4 t5)) [0, 1, 2, 3, 4, 5, 6, 7, 8, 9, 10] (by decide) rfl
  have hFc := va_free (wc := (wX h0 a1 a2 a3 a4 a5 h6 s0 s1 s2 s3 t1 t2 t3 t4 t5)) hD hS hA [0, 1, 2, 3, 4, 5, 6, 7, 8, 9, 10] rfl
  refine gJ_i (isC := [0, 1, 2, 3, 4, 5, 6, 7, 8, 9, 10]) (isR := [11, 12, 13, 14, 15, 16, 17, 18]) (wr := [(m0, .inr (20, [.int 0, .ref m1, .ref m2, .ref m3, .ref m4, .int 0, .ref m5, .ref m6, .int 0])), (m1, .inr (4, [.int 0, .ref tE, .int 0])), (m2, .inr (4, [.int 0, .ref tE, .int 0])), (m3, .inr (4, [.int 0, .ref tE, .int 0])), (m4, .inr (4, [.int 0, .ref tE, .int 0])), (m5, .inl (tc, 4, .inl (upd (upd (upd (upd (fun _ => 0) 0 110) 1 110) 2 110) 3 110))), (o, .inl (tj, 1, .inr (.inl (fun _ => 0)))), (oD, .inl (td, 1, .inr (.inr (.inr (.inl (fun _ => 0))))))]) (vx_runSW (As := [.ref h0, .int (xs 1), .int (xs 2), .int (xs 3), .int (xs 4), .ref o]) (rest := []) ⟨hx, hb, hml, hown, hta⟩ (c_L_addComponent l hl0 ) (vx_cwSW 6 hta (gWSW mw433 mw434 mw416 mw432) rfl rfl rfl (by decide +kernel) ⟨Nat.le_of_ble_eq_true rfl, Nat.le_of_ble_eq_true rfl⟩) ⟨gS_blind, fun U hU hW => ⟨rfl, by rw [hU], by rw [hU]; exact hPc, va_K.moved hW.alike hKc, hDc.weaken (fun _ _ _ _ => trivial), hG.call hS hU hW hFc⟩⟩ rfl rfl hl.1 rfl (lv_room (Nat.le_of_ble_eq_true rfl)) dL_law_402 ⟨Nat.le_of_ble_eq_true rfl, Nat.le_of_ble_eq_true rfl⟩) hP hD hS hK hFc rfl rfl (by decide) (by decide) (fun r5 u6 H locs h7 hP hD hS hK => ?_)
  obtain rfl : r5 = 1 := h7
  have hK : va_K D vwCl (tLw t1 t2 t3 t4 t5 tc tj td) s := hK
  have hP : va_P D vwCl [(m0, .inr (20, [.int 0, .ref m1, .ref m2, .ref m3, .ref m4, .int 0, .ref m5, .ref m6, .int 0])), (m1, .inr (4, [.int 0, .ref tE, .int 0])), (m2, .inr (4, [.int 0, .ref tE, .int 0])), (m3, .inr (4, [.int 0, .ref tE, .int 0])), (m4, .inr (4, [.int 0, .ref tE, .int 0])), (m5, .inl (tc, 4, .inl (upd (upd (upd (upd (fun _ => 0) 0 110) 1 110) 2 110) 3 110))), (o, .inl (tj, 1, .inr (.inl (fun _ => 0)))), (oD, .inl (td, 1, .inr (.inr (.inr (.inl (fun _ => 0))))))] H := hP
  have hD : va_D A [(m0, .inr (20, [.int 0, .ref m1, .ref m2, .ref m3, .ref m4, .int 0, .ref m5, .ref m6, .int 0])), (m1, .inr (4, [.int 0, .ref tE, .int 0])), (m2, .inr (4, [.int 0, .ref tE, .int 0])), (m3, .inr (4, [.int 0, .ref tE, .int 0])), (m4, .inr (4, [.int 0, .ref tE, .int 0])), (m5, .inl (tc, 4, .inl (upd (upd (upd (upd (fun _ => 0) 0 110) 1 110) 2 110) 3 110))), (o, .inl (tj, 1, .inr (.inl (fun _ => 0)))), (oD, .inl (td, 1, .inr (.inr (.inr (.inl (fun _ => 0))))))] := hD
  refine lv_istore (lv' := [(6, .int 1), (5, .int 0), (4, .ref oD), (3, .ref o), (2, .ref m0), (1, .ref h0), (0, .ref b)]) hx hb dL_law_405 hl (by decide) rfl (fun ls hl => ?_)
  refine lv_aload_n hx hb dL_law_407 rfl (lv_at hl 4 rfl) ?_
  refine lv_aload_n hx hb dL_law_408 rfl (lv_at hl 6 rfl) ?_
  refine lv_iload hx hb dL_law_409 (lv_at hl 1 rfl) ?_
  refine lv_iconst (v := 1) hx hb dL_law_411 (by decide) ?_
  refine lv_iadd hx hb dL_law_412 ?_
  refine lv_topi (fun x8 ex8 => ?_)
  obtain rfl : x8 = 1 := ex8.trans (by decide)
  refine va_sld hx hb hX hbl hbA hS (i := 1) (by unfold vp_in; decide) dL_law_413 ?_
  refine W.eq (g2 := F0 m 414 ls [.int (xs 1), .ref m0]) rfl ?_
  refine lv_aload_n hx hb dL_law_414 rfl (lv_at hl 6 rfl) ?_
  refine lv_iload hx hb dL_law_415 (lv_at hl 1 rfl) ?_
  refine lv_iconst (v := 2) hx hb dL_law_417 (by decide) ?_
  refine lv_iadd hx hb dL_law_418 ?_
  refine lv_topi (fun x9 ex9 => ?_)
  obtain rfl : x9 = 2 := ex9.trans (by decide)
  refine va_sld hx hb hX hbl hbA hS (i := 2) (by unfold vp_in; decide) dL_law_419 ?_
  refine W.eq (g2 := F0 m 420 ls [.int (xs 2), .int (xs 1), .ref m0]) rfl ?_
  refine lv_aload_n hx hb dL_law_420 rfl (lv_at hl 6 rfl) ?_
  refine lv_iload hx hb dL_law_421 (lv_at hl 1 rfl) ?_
  refine lv_iconst (v := 3) hx hb dL_law_423 (by decide) ?_
  refine lv_iadd hx hb dL_law_424 ?_
  refine lv_topi (fun x10 ex10 => ?_)
  obtain rfl : x10 = 3 := ex10.trans (by decide)
  refine va_sld hx hb hX hbl hbA hS (i := 3) (by unfold vp_in; decide) dL_law_425 ?_
  refine W.eq (g2 := F0 m 426 ls [.int (xs 3), .int (xs 2), .int (xs 1), .ref m0]) rfl ?_
  refine lv_aload_n hx hb dL_law_426 rfl (lv_at hl 6 rfl) ?_
  refine lv_iload hx hb dL_law_427 (lv_at hl 1 rfl) ?_
  refine lv_iconst (v := 4) hx hb dL_law_429 (by decide) ?_
  refine lv_iadd hx hb dL_law_430 ?_
  refine lv_topi (fun x11 ex11 => ?_)
  obtain rfl : x11 = 4 := ex11.trans (by decide)
  refine va_sld hx hb hX hbl hbA hS (i := 4) (by unfold vp_in; decide) dL_law_431 ?_
  refine W.eq (g2 := F0 m 432 ls [.int (xs 4), .int (xs 3), .int (xs 2), .int (xs 1), .ref m0]) rfl ?_
  have hPc := hP.sub (ws' := (wM tE m0 m1 m2 m3 m4 m5 m6 tc 0 0)) [0, 1, 2, 3, 4, 5] rfl
  have hKc := hK.sub (tys' := [(tc, .char)]) [5] rfl
  have hDc := hD.sub (ws' := (wM tE m0 m1 m2 m3 m4 m5 m6 tc 0 0)) [0, 1, 2, 3, 4, 5] (by decide) rfl
  have hFc := va_free (wc := (wM tE m0 m1 m2 m3 m4 m5 m6 tc 0 0)) hD hS hA [0, 1, 2, 3, 4, 5] rfl
  refine gJ_i (isC := [0, 1, 2, 3, 4, 5]) (isR := [6, 7]) (wr := [(o, .inl (tj, 1, .inr (.inl (fun _ => 0)))), (oD, .inl (td, 1, .inr (.inr (.inr (.inl (fun _ => 0))))))]) (va_runV (As := [.int (xs 1), .int (xs 2), .int (xs 3), .int (xs 4)]) (rest := []) ⟨hx, hb, hml, hown, hta⟩ (c_X15_addComponent l ) (cwV 4 hta (gWV mw436 mw437 mw438 mw176 mw435) rfl rfl rfl (by decide +kernel) ⟨Nat.le_of_ble_eq_true rfl, Nat.le_of_ble_eq_true rfl⟩) ⟨gS_blind, va_recv hKc hPc (ci := 20) (q0 := 0) rfl rfl, fun U hU hW => ⟨rfl, by rw [hU], by rw [hU]; exact hPc, va_K.moved hW.alike hKc, hDc.weaken (fun _ _ _ _ => trivial), hG.call hS hU hW hFc⟩⟩ rfl rfl hl.1 rfl (lv_room (Nat.le_of_ble_eq_true rfl)) dL_law_432 ⟨Nat.le_of_ble_eq_true rfl, Nat.le_of_ble_eq_true rfl⟩) hP hD hS hK hFc rfl rfl (by decide) (by decide) (fun r12 u13 H locs h14 hP hD hS hK => ?_)
  obtain rfl : r12 = 0 := h14
  have hK : va_K D vwCl (tLw t1 t2 t3 t4 t5 tc tj td) s := hK
  have hP : va_P D vwCl [(o, .inl (tj, 1, .inr (.inl (fun _ => 0)))), (oD, .inl (td, 1, .inr (.inr (.inr (.inl (fun _ => 0)))))), (m0, .inr (20, [.int 1, .ref m1, .ref m2, .ref m3, .ref m4, .int 0, .ref m5, .ref m6, .int 0])), (m1, .inr (4, [.int 0, .ref tE, .int 0])), (m2, .inr (4, [.int 0, .ref tE, .int 0])), (m3, .inr (4, [.int 0, .ref tE, .int 0])), (m4, .inr (4, [.int 0, .ref tE, .int 0])), (m5, .inl (tc, 4, .inl (upd (upd (upd (upd (fun _ => 0) 0 110) 1 110) 2 110) 3 110)))] H := hP
  have hD : va_D A [(o, .inl (tj, 1, .inr (.inl (fun _ => 0)))), (oD, .inl (td, 1, .inr (.inr (.inr (.inl (fun _ => 0)))))), (m0, .inr (20, [.int 1, .ref m1, .ref m2, .ref m3, .ref m4, .int 0, .ref m5, .ref m6, .int 0])), (m1, .inr (4, [.int 0, .ref tE, .int 0])), (m2, .inr (4, [.int 0, .ref tE, .int 0])), (m3, .inr (4, [.int 0, .ref tE, .int 0])), (m4, .inr (4, [.int 0, .ref tE, .int 0])), (m5, .inl (tc, 4, .inl (upd (upd (upd (upd (fun _ => 0) 0 110) 1 110) 2 110) 3 110)))] := hD
  refine lv_istore (lv' := [(7, .int 0), (6, .int 1), (5, .int 0), (4, .ref oD), (3, .ref o), (2, .ref m0), (1, .ref h0), (0, .ref b)]) hx hb dL_law_435 hl (by decide) rfl (fun ls hl => ?_)
  refine lv_aload_n hx hb dL_law_437 rfl (lv_at hl 5 rfl) ?_
  have hPc := hP.sub (ws' := [(m0, .inr (20, [.int 1, .ref m1, .ref m2, .ref m3, .ref m4, .int 0, .ref m5, .ref m6, .int 0]))]) [2] rfl
  have hKc := hK.sub (tys' := []) [] rfl
  refine vp_callSi (W.runV (As := []) (rest := []) ⟨hx, hb, hml, hown, hta⟩ (c_X15_thrown l ) (cwV 0 hta (gWV mw422 mw423 mw424 mw176 mw421) rfl rfl rfl (by decide +kernel) ⟨Nat.le_of_ble_eq_true rfl, Nat.le_of_ble_eq_true rfl⟩) ⟨gR_blind, va_recv hKc hPc (ci := 20) (q0 := 0) rfl rfl, fun U hU hW => ⟨rfl, by rw [hU]; exact hPc, va_K.moved hW.alike hKc⟩⟩ rfl rfl hl.1 rfl (lv_room (Nat.le_of_ble_eq_true rfl)) dL_law_438 ⟨Nat.le_of_ble_eq_true rfl, Nat.le_of_ble_eq_true rfl⟩) (fun r15 h16 => ?_)
  obtain rfl : r15 = 1 := h16
  refine lv_iload hx hb dL_law_441 (lv_at hl 1 rfl) ?_
  refine lv_icmp_eq (tgt := 448) hx hb dL_law_443 (by decide) (fun c17 => ?_) (fun c17 => ?_)
  · skip
    refine lv_iload hx hb dL_law_448 (lv_at hl 1 rfl) ?_
    refine lv_if_ne (tgt := 465) hx hb dL_law_450 (by decide) (fun c18 => ?_) (fun c18 => ?_)
    · skip
      refine lv_goto (tgt := 2441) hx hb dL_law_465 (by decide) ?_
      exact law_tail l C0 hA2 hS (lv_sub hl [7, 2] rfl) (Nat.le_of_ble_eq_true rfl) (Nat.le_of_ble_eq_true rfl)
    · exact absurd c18 (by decide)
  · exact absurd (by decide) c17

set_option maxHeartbeats 4000000 in
set_option maxRecDepth 100000 in
theorem lc_3 {p : Program} {e : Env} {s : State} {m : MethodId} {below : List Frame} {meth : Method} {c : Code} (l : Launch) (hl0 : l.stackTraces = false) {b : Nat} {xs : Nat → Int32} (C0 : lw_At p s m meth c b 6 xs) {A : Nat → Prop} (hA : ∀ q, s.heap.size ≤ q → A q) (hA2 : ∀ q, A q → s.heap.size ≤ q) {D : va_G} {tE : Nat} {h0 a1 a2 a3 a4 a5 h6 s0 s1 s2 s3 : Nat} {t1 t2 t3 t4 t5 : ClassId} {m0 m1 m2 m3 m4 m5 m6 : Nat} {tc : ClassId} {o oD : Nat} {tj td : ClassId} {H : Heap} {locs : List Loc} {ls : Array Slot} (hK : va_K D vwCl (tLw t1 t2 t3 t4 t5 tc tj td) s) (hG : gP tE A s) (hP : va_P D vwCl (wLw tE h0 a1 a2 a3 a4 a5 h6 s0 s1 s2 s3 m0 m1 m2 m3 m4 m5 m6 o oD t1 t2 t3 t4 t5 tc tj td) H) (hD : va_D A (wLw tE h0 a1 a2 a3 a4 a5 h6 s0 s1 s2 s3 m0 m1 m2 m3 m4 m5 m6 o oD t1 t2 t3 t4 t5 tc tj td)) (hS : va_S A s.heap H locs) (hl : lv_has ls 9 [(5, .int 0), (4, .ref oD), (3, .ref o), (2, .ref m0), (1, .ref h0), (0, .ref b)]) : W p l e room_1 s m #[Value.ref b] below meth c H locs 25 221 (lw_Z below #[Value.ref b] s) (F0 m 468 ls []) := by
  obtain ⟨hx, hb, hr, hml, hown0, hts, hX, hbl, hlocks, hgv⟩ := id C0
  have hta : ∀ w ∈ WA, w.before #[Value.ref b] s = true := fun w h => hts w (WA_in w h)
  have hown : s.vm.findClass "FoundrymarkLaw" = some m.cls := hown0
  have hbA : ¬ A b := fun h => absurd (hA2 b h) (Nat.not_le.mpr hbl)
  refine lv_aload_n hx hb dL_law_468 rfl (lv_at hl 4 rfl) ?_
  refine lv_aload_n hx hb dL_law_469 rfl (lv_at hl 5 rfl) ?_
  refine lv_iload hx hb dL_law_470 (lv_at hl 0 rfl) ?_
  refine lv_iconst (v := 1) hx hb dL_law_472 (by decide) ?_
  refine lv_iadd hx hb dL_law_473 ?_
  refine lv_topi (fun x1 ex1 => ?_)
  obtain rfl : x1 = 1 := ex1.trans (by decide)
  refine va_sld hx hb hX hbl hbA hS (i := 1) (by unfold vp_in; decide) dL_law_474 ?_
  refine W.eq (g2 := F0 m 475 ls [.int (xs 1), .ref h0]) rfl ?_
  refine lv_aload_n hx hb dL_law_475 rfl (lv_at hl 5 rfl) ?_
  refine lv_iload hx hb dL_law_476 (lv_at hl 0 rfl) ?_
  refine lv_iconst (v := 2) hx hb dL_law_478 (by decide) ?_
  refine lv_iadd hx hb dL_law_479 ?_
  refine lv_topi (fun x2 ex2 => ?_)
  obtain rfl : x2 = 2 := ex2.trans (by decide)
  refine va_sld hx hb hX hbl hbA hS (i := 2) (by unfold vp_in; decide) dL_law_480 ?_
  refine W.eq (g2 := F0 m 481 ls [.int (xs 2), .int (xs 1), .ref h0]) rfl ?_
  refine lv_aload_n hx hb dL_law_481 rfl (lv_at hl 5 rfl) ?_
  refine lv_iload hx hb dL_law_482 (lv_at hl 0 rfl) ?_
  refine lv_iconst (v := 3) hx hb dL_law_484 (by decide) ?_
  refine lv_iadd hx hb dL_law_485 ?_
  refine lv_topi (fun x3 ex3 => ?_)
  obtain rfl : x3 = 3 := ex3.trans (by decide)
  refine va_sld hx hb hX hbl hbA hS (i := 3) (by unfold vp_in; decide) dL_law_486 ?_
  refine W.eq (g2 := F0 m 487 ls [.int (xs 3), .int (xs 2), .int (xs 1), .ref h0]) rfl ?_
  refine lv_aload_n hx hb dL_law_487 rfl (lv_at hl 5 rfl) ?_
  refine lv_iload hx hb dL_law_488 (lv_at hl 0 rfl) ?_
  refine lv_iconst (v := 4) hx hb dL_law_490 (by decide) ?_
  refine lv_iadd hx hb dL_law_491 ?_
  refine lv_topi (fun x4 ex4 => ?_)
  obtain rfl : x4 = 4 := ex4.trans (by decide)
  refine va_sld hx hb hX hbl hbA hS (i := 4) (by unfold vp_in; decide) dL_law_492 ?_
  refine W.eq (g2 := F0 m 493 ls [.int (xs 4), .int (xs 3), .int (xs 2), .int (xs 1), .ref h0]) rfl ?_
  refine lv_aload_n hx hb dL_law_493 rfl (lv_at hl 2 rfl) ?_
  have hPc := hP.sub (ws' := (wX h0 a1 a2 a3 a4 a5 h6 s0 s1 s2 s3 t1 t2 t3 t4 t5)) [0, 1, 2, 3, 4, 5, 6, 7, 8, 9, 10] rfl
  have hKc := hK.sub (tys' := (tX t1 t2 t3 t4 t5)) [0, 1, 2, 3, 4] rfl
  have hDc := hD.sub (ws' := (wX h0 a1 a2 a3 a4 a5 h6 s0 s1 s2 s3 t1 t2 t3 t4 t5)) [0, 1, 2, 3, 4, 5, 6, 7, 8, 9, 10] (by decide) rfl
  have hFc := va_free (wc := (wX h0 a1 a2 a3 a4 a5 h6 s0 s1 s2 s3 t1 t2 t3 t4 t5)) hD hS hA [0, 1, 2, 3, 4, 5, 6, 7, 8, 9, 10] rfl
  refine gJ_i (isC := [0, 1, 2, 3, 4, 5, 6, 7, 8, 9, 10]) (isR := [11, 12, 13, 14, 15, 16, 17, 18]) (wr := [(m0, .inr (20, [.int 0, .ref m1, .ref m2, .ref m3, .ref m4, .int 0, .ref m5, .ref m6, .int 0])), (m1, .inr (4, [.int 0, .ref tE, .int 0])), (m2, .inr (4, [.int 0, .ref tE, .int 0])), (m3, .inr (4, [.int 0, .ref tE, .int 0])), (m4, .inr (4, [.int 0, .ref tE, .int 0])), (m5, .inl (tc, 4, .inl (upd (upd (upd (upd (fun _ => 0) 0 110) 1 110) 2 110) 3 110))), (o, .inl (tj, 1, .inr (.inl (fun _ => 0)))), (oD, .inl (td, 1, .inr (.inr (.inr (.inl (fun _ => 0))))))]) (vx_runSW (As := [.ref h0, .int (xs 1), .int (xs 2), .int (xs 3), .int (xs 4), .ref o]) (rest := []) ⟨hx, hb, hml, hown, hta⟩ (c_L_addOperation l hl0 ) (vx_cwSW 6 hta (gWSW mw440 mw441 mw416 mw439) rfl rfl rfl (by decide +kernel) ⟨Nat.le_of_ble_eq_true rfl, Nat.le_of_ble_eq_true rfl⟩) ⟨gS_blind, fun U hU hW => ⟨rfl, by rw [hU], by rw [hU]; exact hPc, va_K.moved hW.alike hKc, hDc.weaken (fun _ _ _ _ => trivial), hG.call hS hU hW hFc⟩⟩ rfl rfl hl.1 rfl (lv_room (Nat.le_of_ble_eq_true rfl)) dL_law_494 ⟨Nat.le_of_ble_eq_true rfl, Nat.le_of_ble_eq_true rfl⟩) hP hD hS hK hFc rfl rfl (by decide) (by decide) (fun r5 u6 H locs h7 hP hD hS hK => ?_)
  obtain rfl : r5 = 1 := h7
  have hK : va_K D vwCl (tLw t1 t2 t3 t4 t5 tc tj td) s := hK
  have hP : va_P D vwCl [(m0, .inr (20, [.int 0, .ref m1, .ref m2, .ref m3, .ref m4, .int 0, .ref m5, .ref m6, .int 0])), (m1, .inr (4, [.int 0, .ref tE, .int 0])), (m2, .inr (4, [.int 0, .ref tE, .int 0])), (m3, .inr (4, [.int 0, .ref tE, .int 0])), (m4, .inr (4, [.int 0, .ref tE, .int 0])), (m5, .inl (tc, 4, .inl (upd (upd (upd (upd (fun _ => 0) 0 110) 1 110) 2 110) 3 110))), (o, .inl (tj, 1, .inr (.inl (fun _ => 0)))), (oD, .inl (td, 1, .inr (.inr (.inr (.inl (fun _ => 0))))))] H := hP
  have hD : va_D A [(m0, .inr (20, [.int 0, .ref m1, .ref m2, .ref m3, .ref m4, .int 0, .ref m5, .ref m6, .int 0])), (m1, .inr (4, [.int 0, .ref tE, .int 0])), (m2, .inr (4, [.int 0, .ref tE, .int 0])), (m3, .inr (4, [.int 0, .ref tE, .int 0])), (m4, .inr (4, [.int 0, .ref tE, .int 0])), (m5, .inl (tc, 4, .inl (upd (upd (upd (upd (fun _ => 0) 0 110) 1 110) 2 110) 3 110))), (o, .inl (tj, 1, .inr (.inl (fun _ => 0)))), (oD, .inl (td, 1, .inr (.inr (.inr (.inl (fun _ => 0))))))] := hD
  refine lv_istore (lv' := [(6, .int 1), (5, .int 0), (4, .ref oD), (3, .ref o), (2, .ref m0), (1, .ref h0), (0, .ref b)]) hx hb dL_law_497 hl (by decide) rfl (fun ls hl => ?_)
  refine lv_aload_n hx hb dL_law_499 rfl (lv_at hl 4 rfl) ?_
  refine lv_aload_n hx hb dL_law_500 rfl (lv_at hl 6 rfl) ?_
  refine lv_iload hx hb dL_law_501 (lv_at hl 1 rfl) ?_
  refine lv_iconst (v := 1) hx hb dL_law_503 (by decide) ?_
  refine lv_iadd hx hb dL_law_504 ?_
  refine lv_topi (fun x8 ex8 => ?_)
  obtain rfl : x8 = 1 := ex8.trans (by decide)
  refine va_sld hx hb hX hbl hbA hS (i := 1) (by unfold vp_in; decide) dL_law_505 ?_
  refine W.eq (g2 := F0 m 506 ls [.int (xs 1), .ref m0]) rfl ?_
  refine lv_aload_n hx hb dL_law_506 rfl (lv_at hl 6 rfl) ?_
  refine lv_iload hx hb dL_law_507 (lv_at hl 1 rfl) ?_
  refine lv_iconst (v := 2) hx hb dL_law_509 (by decide) ?_
  refine lv_iadd hx hb dL_law_510 ?_
  refine lv_topi (fun x9 ex9 => ?_)
  obtain rfl : x9 = 2 := ex9.trans (by decide)
  refine va_sld hx hb hX hbl hbA hS (i := 2) (by unfold vp_in; decide) dL_law_511 ?_
  refine W.eq (g2 := F0 m 512 ls [.int (xs 2), .int (xs 1), .ref m0]) rfl ?_
  refine lv_aload_n hx hb dL_law_512 rfl (lv_at hl 6 rfl) ?_
  refine lv_iload hx hb dL_law_513 (lv_at hl 1 rfl) ?_
  refine lv_iconst (v := 3) hx hb dL_law_515 (by decide) ?_
  refine lv_iadd hx hb dL_law_516 ?_
  refine lv_topi (fun x10 ex10 => ?_)
  obtain rfl : x10 = 3 := ex10.trans (by decide)
  refine va_sld hx hb hX hbl hbA hS (i := 3) (by unfold vp_in; decide) dL_law_517 ?_
  refine W.eq (g2 := F0 m 518 ls [.int (xs 3), .int (xs 2), .int (xs 1), .ref m0]) rfl ?_
  refine lv_aload_n hx hb dL_law_518 rfl (lv_at hl 6 rfl) ?_
  refine lv_iload hx hb dL_law_519 (lv_at hl 1 rfl) ?_
  refine lv_iconst (v := 4) hx hb dL_law_521 (by decide) ?_
  refine lv_iadd hx hb dL_law_522 ?_
  refine lv_topi (fun x11 ex11 => ?_)
  obtain rfl : x11 = 4 := ex11.trans (by decide)
  refine va_sld hx hb hX hbl hbA hS (i := 4) (by unfold vp_in; decide) dL_law_523 ?_
  refine W.eq (g2 := F0 m 524 ls [.int (xs 4), .int (xs 3), .int (xs 2), .int (xs 1), .ref m0]) rfl ?_
  have hPc := hP.sub (ws' := (wM tE m0 m1 m2 m3 m4 m5 m6 tc 0 0)) [0, 1, 2, 3, 4, 5] rfl
  have hKc := hK.sub (tys' := [(tc, .char)]) [5] rfl
  have hDc := hD.sub (ws' := (wM tE m0 m1 m2 m3 m4 m5 m6 tc 0 0)) [0, 1, 2, 3, 4, 5] (by decide) rfl
  have hFc := va_free (wc := (wM tE m0 m1 m2 m3 m4 m5 m6 tc 0 0)) hD hS hA [0, 1, 2, 3, 4, 5] rfl
  refine gJ_i (isC := [0, 1, 2, 3, 4, 5]) (isR := [6, 7]) (wr := [(o, .inl (tj, 1, .inr (.inl (fun _ => 0)))), (oD, .inl (td, 1, .inr (.inr (.inr (.inl (fun _ => 0))))))]) (va_runV (As := [.int (xs 1), .int (xs 2), .int (xs 3), .int (xs 4)]) (rest := []) ⟨hx, hb, hml, hown, hta⟩ (c_X15_addOperation l ) (cwV 4 hta (gWV mw443 mw444 mw445 mw176 mw442) rfl rfl rfl (by decide +kernel) ⟨Nat.le_of_ble_eq_true rfl, Nat.le_of_ble_eq_true rfl⟩) ⟨gS_blind, va_recv hKc hPc (ci := 20) (q0 := 0) rfl rfl, fun U hU hW => ⟨rfl, by rw [hU], by rw [hU]; exact hPc, va_K.moved hW.alike hKc, hDc.weaken (fun _ _ _ _ => trivial), hG.call hS hU hW hFc⟩⟩ rfl rfl hl.1 rfl (lv_room (Nat.le_of_ble_eq_true rfl)) dL_law_524 ⟨Nat.le_of_ble_eq_true rfl, Nat.le_of_ble_eq_true rfl⟩) hP hD hS hK hFc rfl rfl (by decide) (by decide) (fun r12 u13 H locs h14 hP hD hS hK => ?_)
  obtain rfl : r12 = 0 := h14
  have hK : va_K D vwCl (tLw t1 t2 t3 t4 t5 tc tj td) s := hK
  have hP : va_P D vwCl [(o, .inl (tj, 1, .inr (.inl (fun _ => 0)))), (oD, .inl (td, 1, .inr (.inr (.inr (.inl (fun _ => 0)))))), (m0, .inr (20, [.int 1, .ref m1, .ref m2, .ref m3, .ref m4, .int 0, .ref m5, .ref m6, .int 0])), (m1, .inr (4, [.int 0, .ref tE, .int 0])), (m2, .inr (4, [.int 0, .ref tE, .int 0])), (m3, .inr (4, [.int 0, .ref tE, .int 0])), (m4, .inr (4, [.int 0, .ref tE, .int 0])), (m5, .inl (tc, 4, .inl (upd (upd (upd (upd (fun _ => 0) 0 110) 1 110) 2 110) 3 110)))] H := hP
  have hD : va_D A [(o, .inl (tj, 1, .inr (.inl (fun _ => 0)))), (oD, .inl (td, 1, .inr (.inr (.inr (.inl (fun _ => 0)))))), (m0, .inr (20, [.int 1, .ref m1, .ref m2, .ref m3, .ref m4, .int 0, .ref m5, .ref m6, .int 0])), (m1, .inr (4, [.int 0, .ref tE, .int 0])), (m2, .inr (4, [.int 0, .ref tE, .int 0])), (m3, .inr (4, [.int 0, .ref tE, .int 0])), (m4, .inr (4, [.int 0, .ref tE, .int 0])), (m5, .inl (tc, 4, .inl (upd (upd (upd (upd (fun _ => 0) 0 110) 1 110) 2 110) 3 110)))] := hD
  refine lv_istore (lv' := [(7, .int 0), (6, .int 1), (5, .int 0), (4, .ref oD), (3, .ref o), (2, .ref m0), (1, .ref h0), (0, .ref b)]) hx hb dL_law_527 hl (by decide) rfl (fun ls hl => ?_)
  refine lv_aload_n hx hb dL_law_529 rfl (lv_at hl 5 rfl) ?_
  have hPc := hP.sub (ws' := [(m0, .inr (20, [.int 1, .ref m1, .ref m2, .ref m3, .ref m4, .int 0, .ref m5, .ref m6, .int 0]))]) [2] rfl
  have hKc := hK.sub (tys' := []) [] rfl
  refine vp_callSi (W.runV (As := []) (rest := []) ⟨hx, hb, hml, hown, hta⟩ (c_X15_thrown l ) (cwV 0 hta (gWV mw422 mw423 mw424 mw176 mw421) rfl rfl rfl (by decide +kernel) ⟨Nat.le_of_ble_eq_true rfl, Nat.le_of_ble_eq_true rfl⟩) ⟨gR_blind, va_recv hKc hPc (ci := 20) (q0 := 0) rfl rfl, fun U hU hW => ⟨rfl, by rw [hU]; exact hPc, va_K.moved hW.alike hKc⟩⟩ rfl rfl hl.1 rfl (lv_room (Nat.le_of_ble_eq_true rfl)) dL_law_530 ⟨Nat.le_of_ble_eq_true rfl, Nat.le_of_ble_eq_true rfl⟩) (fun r15 h16 => ?_)
  obtain rfl : r15 = 1 := h16
  refine lv_iload hx hb dL_law_533 (lv_at hl 1 rfl) ?_
  refine lv_icmp_eq (tgt := 540) hx hb dL_law_535 (by decide) (fun c17 => ?_) (fun c17 => ?_)
  · skip
    refine lv_iload hx hb dL_law_540 (lv_at hl 1 rfl) ?_
    refine lv_if_ne (tgt := 557) hx hb dL_law_542 (by decide) (fun c18 => ?_) (fun c18 => ?_)
    · skip
      refine lv_goto (tgt := 2441) hx hb dL_law_557 (by decide) ?_
      exact law_tail l C0 hA2 hS (lv_sub hl [7, 2] rfl) (Nat.le_of_ble_eq_true rfl) (Nat.le_of_ble_eq_true rfl)
    · exact absurd c18 (by decide)
  · exact absurd (by decide) c17

set_option maxHeartbeats 4000000 in
set_option maxRecDepth 100000 in
theorem lc_4 {p : Program} {e : Env} {s : State} {m : MethodId} {below : List Frame} {meth : Method} {c : Code} (l : Launch) (hl0 : l.stackTraces = false) {b : Nat} {xs : Nat → Int32} (C0 : lw_At p s m meth c b 6 xs) {A : Nat → Prop} (hA : ∀ q, s.heap.size ≤ q → A q) (hA2 : ∀ q, A q → s.heap.size ≤ q) {D : va_G} {tE : Nat} {h0 a1 a2 a3 a4 a5 h6 s0 s1 s2 s3 : Nat} {t1 t2 t3 t4 t5 : ClassId} {m0 m1 m2 m3 m4 m5 m6 : Nat} {tc : ClassId} {o oD : Nat} {tj td : ClassId} {H : Heap} {locs : List Loc} {ls : Array Slot} (hK : va_K D vwCl (tLw t1 t2 t3 t4 t5 tc tj td) s) (hG : gP tE A s) (hP : va_P D vwCl (wLw tE h0 a1 a2 a3 a4 a5 h6 s0 s1 s2 s3 m0 m1 m2 m3 m4 m5 m6 o oD t1 t2 t3 t4 t5 tc tj td) H) (hD : va_D A (wLw tE h0 a1 a2 a3 a4 a5 h6 s0 s1 s2 s3 m0 m1 m2 m3 m4 m5 m6 o oD t1 t2 t3 t4 t5 tc tj td)) (hS : va_S A s.heap H locs) (hl : lv_has ls 9 [(5, .int 0), (4, .ref oD), (3, .ref o), (2, .ref m0), (1, .ref h0), (0, .ref b)]) : W p l e room_1 s m #[Value.ref b] below meth c H locs 25 221 (lw_Z below #[Value.ref b] s) (F0 m 560 ls []) := by
  obtain ⟨hx, hb, hr, hml, hown0, hts, hX, hbl, hlocks, hgv⟩ := id C0
  have hta : ∀ w ∈ WA, w.before #[Value.ref b] s = true := fun w h => hts w (WA_in w h)
  have hown : s.vm.findClass "FoundrymarkLaw" = some m.cls := hown0
  have hbA : ¬ A b := fun h => absurd (hA2 b h) (Nat.not_le.mpr hbl)
  refine lv_aload_n hx hb dL_law_560 rfl (lv_at hl 4 rfl) ?_
  refine lv_aload_n hx hb dL_law_561 rfl (lv_at hl 5 rfl) ?_
  refine lv_iload hx hb dL_law_562 (lv_at hl 0 rfl) ?_
  refine lv_iconst (v := 1) hx hb dL_law_564 (by decide) ?_
  refine lv_iadd hx hb dL_law_565 ?_
  refine lv_topi (fun x1 ex1 => ?_)
  obtain rfl : x1 = 1 := ex1.trans (by decide)
  refine va_sld hx hb hX hbl hbA hS (i := 1) (by unfold vp_in; decide) dL_law_566 ?_
  refine W.eq (g2 := F0 m 567 ls [.int (xs 1), .ref h0]) rfl ?_
  refine lv_aload_n hx hb dL_law_567 rfl (lv_at hl 5 rfl) ?_
  refine lv_iload hx hb dL_law_568 (lv_at hl 0 rfl) ?_
  refine lv_iconst (v := 2) hx hb dL_law_570 (by decide) ?_
  refine lv_iadd hx hb dL_law_571 ?_
  refine lv_topi (fun x2 ex2 => ?_)
  obtain rfl : x2 = 2 := ex2.trans (by decide)
  refine va_sld hx hb hX hbl hbA hS (i := 2) (by unfold vp_in; decide) dL_law_572 ?_
  refine W.eq (g2 := F0 m 573 ls [.int (xs 2), .int (xs 1), .ref h0]) rfl ?_
  refine lv_aload_n hx hb dL_law_573 rfl (lv_at hl 5 rfl) ?_
  refine lv_iload hx hb dL_law_574 (lv_at hl 0 rfl) ?_
  refine lv_iconst (v := 3) hx hb dL_law_576 (by decide) ?_
  refine lv_iadd hx hb dL_law_577 ?_
  refine lv_topi (fun x3 ex3 => ?_)
  obtain rfl : x3 = 3 := ex3.trans (by decide)
  refine va_sld hx hb hX hbl hbA hS (i := 3) (by unfold vp_in; decide) dL_law_578 ?_
  refine W.eq (g2 := F0 m 579 ls [.int (xs 3), .int (xs 2), .int (xs 1), .ref h0]) rfl ?_
  refine lv_aload_n hx hb dL_law_579 rfl (lv_at hl 5 rfl) ?_
  refine lv_iload hx hb dL_law_580 (lv_at hl 0 rfl) ?_
  refine lv_iconst (v := 4) hx hb dL_law_582 (by decide) ?_
  refine lv_iadd hx hb dL_law_583 ?_
  refine lv_topi (fun x4 ex4 => ?_)
  obtain rfl : x4 = 4 := ex4.trans (by decide)
  refine va_sld hx hb hX hbl hbA hS (i := 4) (by unfold vp_in; decide) dL_law_584 ?_
  refine W.eq (g2 := F0 m 585 ls [.int (xs 4), .int (xs 3), .int (xs 2), .int (xs 1), .ref h0]) rfl ?_
  refine lv_aload_n hx hb dL_law_585 rfl (lv_at hl 5 rfl) ?_
  refine lv_iload hx hb dL_law_586 (lv_at hl 0 rfl) ?_
  refine lv_iconst (v := 5) hx hb dL_law_588 (by decide) ?_
  refine lv_iadd hx hb dL_law_589 ?_
  refine lv_topi (fun x5 ex5 => ?_)
  obtain rfl : x5 = 5 := ex5.trans (by decide)
  refine va_sld hx hb hX hbl hbA hS (i := 5) (by unfold vp_in; decide) dL_law_590 ?_
  refine W.eq (g2 := F0 m 591 ls [.int (xs 5), .int (xs 4), .int (xs 3), .int (xs 2), .int (xs 1), .ref h0]) rfl ?_
  refine lv_aload_n hx hb dL_law_591 rfl (lv_at hl 2 rfl) ?_
  have hPc := hP.sub (ws' := (wX h0 a1 a2 a3 a4 a5 h6 s0 s1 s2 s3 t1 t2 t3 t4 t5)) [0, 1, 2, 3, 4, 5, 6, 7, 8, 9, 10] rfl
  have hKc := hK.sub (tys' := (tX t1 t2 t3 t4 t5)) [0, 1, 2, 3, 4] rfl
  have hDc := hD.sub (ws' := (wX h0 a1 a2 a3 a4 a5 h6 s0 s1 s2 s3 t1 t2 t3 t4 t5)) [0, 1, 2, 3, 4, 5, 6, 7, 8, 9, 10] (by decide) rfl
  have hFc := va_free (wc := (wX h0 a1 a2 a3 a4 a5 h6 s0 s1 s2 s3 t1 t2 t3 t4 t5)) hD hS hA [0, 1, 2, 3, 4, 5, 6, 7, 8, 9, 10] rfl
  refine gJ_i (isC := [0, 1, 2, 3, 4, 5, 6, 7, 8, 9, 10]) (isR := [11, 12, 13, 14, 15, 16, 17, 18]) (wr := [(m0, .inr (20, [.int 0, .ref m1, .ref m2, .ref m3, .ref m4, .int 0, .ref m5, .ref m6, .int 0])), (m1, .inr (4, [.int 0, .ref tE, .int 0])), (m2, .inr (4, [.int 0, .ref tE, .int 0])), (m3, .inr (4, [.int 0, .ref tE, .int 0])), (m4, .inr (4, [.int 0, .ref tE, .int 0])), (m5, .inl (tc, 4, .inl (upd (upd (upd (upd (fun _ => 0) 0 110) 1 110) 2 110) 3 110))), (o, .inl (tj, 1, .inr (.inl (fun _ => 0)))), (oD, .inl (td, 1, .inr (.inr (.inr (.inl (fun _ => 0))))))]) (vx_runSW (As := [.ref h0, .int (xs 1), .int (xs 2), .int (xs 3), .int (xs 4), .int (xs 5), .ref o]) (rest := []) ⟨hx, hb, hml, hown, hta⟩ (c_L_receive l hl0 ) (vx_cwSW 7 hta (gWSW mw447 mw448 mw416 mw446) rfl rfl rfl (by decide +kernel) ⟨Nat.le_of_ble_eq_true rfl, Nat.le_of_ble_eq_true rfl⟩) ⟨gS_blind, fun U hU hW => ⟨rfl, by rw [hU], by rw [hU]; exact hPc, va_K.moved hW.alike hKc, hDc.weaken (fun _ _ _ _ => trivial), hG.call hS hU hW hFc⟩⟩ rfl rfl hl.1 rfl (lv_room (Nat.le_of_ble_eq_true rfl)) dL_law_592 ⟨Nat.le_of_ble_eq_true rfl, Nat.le_of_ble_eq_true rfl⟩) hP hD hS hK hFc rfl rfl (by decide) (by decide) (fun r6 u7 H locs h8 hP hD hS hK => ?_)
  obtain rfl : r6 = 1 := h8
  have hK : va_K D vwCl (tLw t1 t2 t3 t4 t5 tc tj td) s := hK
  have hP : va_P D vwCl [(m0, .inr (20, [.int 0, .ref m1, .ref m2, .ref m3, .ref m4, .int 0, .ref m5, .ref m6, .int 0])), (m1, .inr (4, [.int 0, .ref tE, .int 0])), (m2, .inr (4, [.int 0, .ref tE, .int 0])), (m3, .inr (4, [.int 0, .ref tE, .int 0])), (m4, .inr (4, [.int 0, .ref tE, .int 0])), (m5, .inl (tc, 4, .inl (upd (upd (upd (upd (fun _ => 0) 0 110) 1 110) 2 110) 3 110))), (o, .inl (tj, 1, .inr (.inl (fun _ => 0)))), (oD, .inl (td, 1, .inr (.inr (.inr (.inl (fun _ => 0))))))] H := hP
  have hD : va_D A [(m0, .inr (20, [.int 0, .ref m1, .ref m2, .ref m3, .ref m4, .int 0, .ref m5, .ref m6, .int 0])), (m1, .inr (4, [.int 0, .ref tE, .int 0])), (m2, .inr (4, [.int 0, .ref tE, .int 0])), (m3, .inr (4, [.int 0, .ref tE, .int 0])), (m4, .inr (4, [.int 0, .ref tE, .int 0])), (m5, .inl (tc, 4, .inl (upd (upd (upd (upd (fun _ => 0) 0 110) 1 110) 2 110) 3 110))), (o, .inl (tj, 1, .inr (.inl (fun _ => 0)))), (oD, .inl (td, 1, .inr (.inr (.inr (.inl (fun _ => 0))))))] := hD
  refine lv_istore (lv' := [(6, .int 1), (5, .int 0), (4, .ref oD), (3, .ref o), (2, .ref m0), (1, .ref h0), (0, .ref b)]) hx hb dL_law_595 hl (by decide) rfl (fun ls hl => ?_)
  refine lv_aload_n hx hb dL_law_597 rfl (lv_at hl 4 rfl) ?_
  refine lv_aload_n hx hb dL_law_598 rfl (lv_at hl 6 rfl) ?_
  refine lv_iload hx hb dL_law_599 (lv_at hl 1 rfl) ?_
  refine lv_iconst (v := 1) hx hb dL_law_601 (by decide) ?_
  refine lv_iadd hx hb dL_law_602 ?_
  refine lv_topi (fun x9 ex9 => ?_)
  obtain rfl : x9 = 1 := ex9.trans (by decide)
  refine va_sld hx hb hX hbl hbA hS (i := 1) (by unfold vp_in; decide) dL_law_603 ?_
  refine W.eq (g2 := F0 m 604 ls [.int (xs 1), .ref m0]) rfl ?_
  refine lv_aload_n hx hb dL_law_604 rfl (lv_at hl 6 rfl) ?_
  refine lv_iload hx hb dL_law_605 (lv_at hl 1 rfl) ?_
  refine lv_iconst (v := 2) hx hb dL_law_607 (by decide) ?_
  refine lv_iadd hx hb dL_law_608 ?_
  refine lv_topi (fun x10 ex10 => ?_)
  obtain rfl : x10 = 2 := ex10.trans (by decide)
  refine va_sld hx hb hX hbl hbA hS (i := 2) (by unfold vp_in; decide) dL_law_609 ?_
  refine W.eq (g2 := F0 m 610 ls [.int (xs 2), .int (xs 1), .ref m0]) rfl ?_
  refine lv_aload_n hx hb dL_law_610 rfl (lv_at hl 6 rfl) ?_
  refine lv_iload hx hb dL_law_611 (lv_at hl 1 rfl) ?_
  refine lv_iconst (v := 3) hx hb dL_law_613 (by decide) ?_
  refine lv_iadd hx hb dL_law_614 ?_
  refine lv_topi (fun x11 ex11 => ?_)
  obtain rfl : x11 = 3 := ex11.trans (by decide)
  refine va_sld hx hb hX hbl hbA hS (i := 3) (by unfold vp_in; decide) dL_law_615 ?_
  refine W.eq (g2 := F0 m 616 ls [.int (xs 3), .int (xs 2), .int (xs 1), .ref m0]) rfl ?_
  refine lv_aload_n hx hb dL_law_616 rfl (lv_at hl 6 rfl) ?_
  refine lv_iload hx hb dL_law_617 (lv_at hl 1 rfl) ?_
  refine lv_iconst (v := 4) hx hb dL_law_619 (by decide) ?_
  refine lv_iadd hx hb dL_law_620 ?_
  refine lv_topi (fun x12 ex12 => ?_)
  obtain rfl : x12 = 4 := ex12.trans (by decide)
  refine va_sld hx hb hX hbl hbA hS (i := 4) (by unfold vp_in; decide) dL_law_621 ?_
  refine W.eq (g2 := F0 m 622 ls [.int (xs 4), .int (xs 3), .int (xs 2), .int (xs 1), .ref m0]) rfl ?_
  refine lv_aload_n hx hb dL_law_622 rfl (lv_at hl 6 rfl) ?_
  refine lv_iload hx hb dL_law_623 (lv_at hl 1 rfl) ?_
  refine lv_iconst (v := 5) hx hb dL_law_625 (by decide) ?_
  refine lv_iadd hx hb dL_law_626 ?_
  refine lv_topi (fun x13 ex13 => ?_)
  obtain rfl : x13 = 5 := ex13.trans (by decide)
  refine va_sld hx hb hX hbl hbA hS (i := 5) (by unfold vp_in; decide) dL_law_627 ?_
  refine W.eq (g2 := F0 m 628 ls [.int (xs 5), .int (xs 4), .int (xs 3), .int (xs 2), .int (xs 1), .ref m0]) rfl ?_
  have hPc := hP.sub (ws' := (wM tE m0 m1 m2 m3 m4 m5 m6 tc 0 0)) [0, 1, 2, 3, 4, 5] rfl
  have hKc := hK.sub (tys' := [(tc, .char)]) [5] rfl
  have hDc := hD.sub (ws' := (wM tE m0 m1 m2 m3 m4 m5 m6 tc 0 0)) [0, 1, 2, 3, 4, 5] (by decide) rfl
  have hFc := va_free (wc := (wM tE m0 m1 m2 m3 m4 m5 m6 tc 0 0)) hD hS hA [0, 1, 2, 3, 4, 5] rfl
  refine gJ_i (isC := [0, 1, 2, 3, 4, 5]) (isR := [6, 7]) (wr := [(o, .inl (tj, 1, .inr (.inl (fun _ => 0)))), (oD, .inl (td, 1, .inr (.inr (.inr (.inl (fun _ => 0))))))]) (va_runV (As := [.int (xs 1), .int (xs 2), .int (xs 3), .int (xs 4), .int (xs 5)]) (rest := []) ⟨hx, hb, hml, hown, hta⟩ (c_X15_receive l ) (cwV 5 hta (gWV mw450 mw451 mw452 mw176 mw449) rfl rfl rfl (by decide +kernel) ⟨Nat.le_of_ble_eq_true rfl, Nat.le_of_ble_eq_true rfl⟩) ⟨gS_blind, va_recv hKc hPc (ci := 20) (q0 := 0) rfl rfl, fun U hU hW => ⟨rfl, by rw [hU], by rw [hU]; exact hPc, va_K.moved hW.alike hKc, hDc.weaken (fun _ _ _ _ => trivial), hG.call hS hU hW hFc⟩⟩ rfl rfl hl.1 rfl (lv_room (Nat.le_of_ble_eq_true rfl)) dL_law_628 ⟨Nat.le_of_ble_eq_true rfl, Nat.le_of_ble_eq_true rfl⟩) hP hD hS hK hFc rfl rfl (by decide) (by decide) (fun r14 u15 H locs h16 hP hD hS hK => ?_)
  obtain rfl : r14 = 0 := h16
  have hK : va_K D vwCl (tLw t1 t2 t3 t4 t5 tc tj td) s := hK
  have hP : va_P D vwCl [(o, .inl (tj, 1, .inr (.inl (fun _ => 0)))), (oD, .inl (td, 1, .inr (.inr (.inr (.inl (fun _ => 0)))))), (m0, .inr (20, [.int 1, .ref m1, .ref m2, .ref m3, .ref m4, .int 0, .ref m5, .ref m6, .int 0])), (m1, .inr (4, [.int 0, .ref tE, .int 0])), (m2, .inr (4, [.int 0, .ref tE, .int 0])), (m3, .inr (4, [.int 0, .ref tE, .int 0])), (m4, .inr (4, [.int 0, .ref tE, .int 0])), (m5, .inl (tc, 4, .inl (upd (upd (upd (upd (fun _ => 0) 0 110) 1 110) 2 110) 3 110)))] H := hP
  have hD : va_D A [(o, .inl (tj, 1, .inr (.inl (fun _ => 0)))), (oD, .inl (td, 1, .inr (.inr (.inr (.inl (fun _ => 0)))))), (m0, .inr (20, [.int 1, .ref m1, .ref m2, .ref m3, .ref m4, .int 0, .ref m5, .ref m6, .int 0])), (m1, .inr (4, [.int 0, .ref tE, .int 0])), (m2, .inr (4, [.int 0, .ref tE, .int 0])), (m3, .inr (4, [.int 0, .ref tE, .int 0])), (m4, .inr (4, [.int 0, .ref tE, .int 0])), (m5, .inl (tc, 4, .inl (upd (upd (upd (upd (fun _ => 0) 0 110) 1 110) 2 110) 3 110)))] := hD
  refine lv_istore (lv' := [(7, .int 0), (6, .int 1), (5, .int 0), (4, .ref oD), (3, .ref o), (2, .ref m0), (1, .ref h0), (0, .ref b)]) hx hb dL_law_631 hl (by decide) rfl (fun ls hl => ?_)
  refine lv_aload_n hx hb dL_law_633 rfl (lv_at hl 5 rfl) ?_
  have hPc := hP.sub (ws' := [(m0, .inr (20, [.int 1, .ref m1, .ref m2, .ref m3, .ref m4, .int 0, .ref m5, .ref m6, .int 0]))]) [2] rfl
  have hKc := hK.sub (tys' := []) [] rfl
  refine vp_callSi (W.runV (As := []) (rest := []) ⟨hx, hb, hml, hown, hta⟩ (c_X15_thrown l ) (cwV 0 hta (gWV mw422 mw423 mw424 mw176 mw421) rfl rfl rfl (by decide +kernel) ⟨Nat.le_of_ble_eq_true rfl, Nat.le_of_ble_eq_true rfl⟩) ⟨gR_blind, va_recv hKc hPc (ci := 20) (q0 := 0) rfl rfl, fun U hU hW => ⟨rfl, by rw [hU]; exact hPc, va_K.moved hW.alike hKc⟩⟩ rfl rfl hl.1 rfl (lv_room (Nat.le_of_ble_eq_true rfl)) dL_law_634 ⟨Nat.le_of_ble_eq_true rfl, Nat.le_of_ble_eq_true rfl⟩) (fun r17 h18 => ?_)
  obtain rfl : r17 = 1 := h18
  refine lv_iload hx hb dL_law_637 (lv_at hl 1 rfl) ?_
  refine lv_icmp_eq (tgt := 644) hx hb dL_law_639 (by decide) (fun c19 => ?_) (fun c19 => ?_)
  · skip
    refine lv_iload hx hb dL_law_644 (lv_at hl 1 rfl) ?_
    refine lv_if_ne (tgt := 661) hx hb dL_law_646 (by decide) (fun c20 => ?_) (fun c20 => ?_)
    · skip
      refine lv_goto (tgt := 2441) hx hb dL_law_661 (by decide) ?_
      exact law_tail l C0 hA2 hS (lv_sub hl [7, 2] rfl) (Nat.le_of_ble_eq_true rfl) (Nat.le_of_ble_eq_true rfl)
    · exact absurd c20 (by decide)
  · exact absurd (by decide) c19

set_option maxHeartbeats 4000000 in
set_option maxRecDepth 100000 in
theorem lc_5 {p : Program} {e : Env} {s : State} {m : MethodId} {below : List Frame} {meth : Method} {c : Code} (l : Launch) (hl0 : l.stackTraces = false) {b : Nat} {xs : Nat → Int32} (C0 : lw_At p s m meth c b 6 xs) {A : Nat → Prop} (hA : ∀ q, s.heap.size ≤ q → A q) (hA2 : ∀ q, A q → s.heap.size ≤ q) {D : va_G} {tE : Nat} {h0 a1 a2 a3 a4 a5 h6 s0 s1 s2 s3 : Nat} {t1 t2 t3 t4 t5 : ClassId} {m0 m1 m2 m3 m4 m5 m6 : Nat} {tc : ClassId} {o oD : Nat} {tj td : ClassId} {H : Heap} {locs : List Loc} {ls : Array Slot} (hK : va_K D vwCl (tLw t1 t2 t3 t4 t5 tc tj td) s) (hG : gP tE A s) (hP : va_P D vwCl (wLw tE h0 a1 a2 a3 a4 a5 h6 s0 s1 s2 s3 m0 m1 m2 m3 m4 m5 m6 o oD t1 t2 t3 t4 t5 tc tj td) H) (hD : va_D A (wLw tE h0 a1 a2 a3 a4 a5 h6 s0 s1 s2 s3 m0 m1 m2 m3 m4 m5 m6 o oD t1 t2 t3 t4 t5 tc tj td)) (hS : va_S A s.heap H locs) (hl : lv_has ls 9 [(5, .int 0), (4, .ref oD), (3, .ref o), (2, .ref m0), (1, .ref h0), (0, .ref b)]) : W p l e room_1 s m #[Value.ref b] below meth c H locs 25 221 (lw_Z below #[Value.ref b] s) (F0 m 664 ls []) := by
  obtain ⟨hx, hb, hr, hml, hown0, hts, hX, hbl, hlocks, hgv⟩ := id C0
  have hta : ∀ w ∈ WA, w.before #[Value.ref b] s = true := fun w h => hts w (WA_in w h)
  have hown : s.vm.findClass "FoundrymarkLaw" = some m.cls := hown0
  have hbA : ¬ A b := fun h => absurd (hA2 b h) (Nat.not_le.mpr hbl)
  rcases hf : inR (xs 1) 0 3 with _ | _
  · skip
    refine lv_aload_n hx hb dL_law_664 rfl (lv_at hl 4 rfl) ?_
    refine lv_aload_n hx hb dL_law_665 rfl (lv_at hl 5 rfl) ?_
    refine lv_iload hx hb dL_law_666 (lv_at hl 0 rfl) ?_
    refine lv_iconst (v := 1) hx hb dL_law_668 (by decide) ?_
    refine lv_iadd hx hb dL_law_669 ?_
    refine lv_topi (fun x1 ex1 => ?_)
    obtain rfl : x1 = 1 := ex1.trans (by decide)
    refine va_sld hx hb hX hbl hbA hS (i := 1) (by unfold vp_in; decide) dL_law_670 ?_
    refine W.eq (g2 := F0 m 671 ls [.int (xs 1), .ref h0]) rfl ?_
    refine lv_aload_n hx hb dL_law_671 rfl (lv_at hl 2 rfl) ?_
    have hPc := hP.sub (ws' := (wX h0 a1 a2 a3 a4 a5 h6 s0 s1 s2 s3 t1 t2 t3 t4 t5)) [0, 1, 2, 3, 4, 5, 6, 7, 8, 9, 10] rfl
    have hKc := hK.sub (tys' := (tX t1 t2 t3 t4 t5)) [0, 1, 2, 3, 4] rfl
    have hDc := hD.sub (ws' := (wX h0 a1 a2 a3 a4 a5 h6 s0 s1 s2 s3 t1 t2 t3 t4 t5)) [0, 1, 2, 3, 4, 5, 6, 7, 8, 9, 10] (by decide) rfl
    have hFc := va_free (wc := (wX h0 a1 a2 a3 a4 a5 h6 s0 s1 s2 s3 t1 t2 t3 t4 t5)) hD hS hA [0, 1, 2, 3, 4, 5, 6, 7, 8, 9, 10] rfl
    refine gJ_i (isC := [0, 1, 2, 3, 4, 5, 6, 7, 8, 9, 10]) (isR := [11, 12, 13, 14, 15, 16, 17, 18]) (wr := [(m0, .inr (20, [.int 0, .ref m1, .ref m2, .ref m3, .ref m4, .int 0, .ref m5, .ref m6, .int 0])), (m1, .inr (4, [.int 0, .ref tE, .int 0])), (m2, .inr (4, [.int 0, .ref tE, .int 0])), (m3, .inr (4, [.int 0, .ref tE, .int 0])), (m4, .inr (4, [.int 0, .ref tE, .int 0])), (m5, .inl (tc, 4, .inl (upd (upd (upd (upd (fun _ => 0) 0 110) 1 110) 2 110) 3 110))), (o, .inl (tj, 1, .inr (.inl (fun _ => 0)))), (oD, .inl (td, 1, .inr (.inr (.inr (.inl (fun _ => 0))))))]) (vx_runSW (As := [.ref h0, .int (xs 1), .ref o]) (rest := []) ⟨hx, hb, hml, hown, hta⟩ (c_L_rule_f l hl0 hf) (vx_cwSW 3 hta (gWSW mw454 mw455 mw416 mw453) rfl rfl rfl (by decide +kernel) ⟨Nat.le_of_ble_eq_true rfl, Nat.le_of_ble_eq_true rfl⟩) ⟨gS_blind, fun U hU hW => ⟨rfl, by rw [hU], by rw [hU]; exact hPc, va_K.moved hW.alike hKc, hDc.weaken (fun _ _ _ _ => trivial), hG.call hS hU hW hFc⟩⟩ rfl rfl hl.1 rfl (lv_room (Nat.le_of_ble_eq_true rfl)) dL_law_672 ⟨Nat.le_of_ble_eq_true rfl, Nat.le_of_ble_eq_true rfl⟩) hP hD hS hK hFc rfl rfl (by decide) (by decide) (fun r2 u3 H locs h4 hP hD hS hK => ?_)
    obtain rfl : r2 = 1 := h4
    have hK : va_K D vwCl (tLw t1 t2 t3 t4 t5 tc tj td) s := hK
    have hP : va_P D vwCl [(m0, .inr (20, [.int 0, .ref m1, .ref m2, .ref m3, .ref m4, .int 0, .ref m5, .ref m6, .int 0])), (m1, .inr (4, [.int 0, .ref tE, .int 0])), (m2, .inr (4, [.int 0, .ref tE, .int 0])), (m3, .inr (4, [.int 0, .ref tE, .int 0])), (m4, .inr (4, [.int 0, .ref tE, .int 0])), (m5, .inl (tc, 4, .inl (upd (upd (upd (upd (fun _ => 0) 0 110) 1 110) 2 110) 3 110))), (o, .inl (tj, 1, .inr (.inl (fun _ => 0)))), (oD, .inl (td, 1, .inr (.inr (.inr (.inl (fun _ => 0))))))] H := hP
    have hD : va_D A [(m0, .inr (20, [.int 0, .ref m1, .ref m2, .ref m3, .ref m4, .int 0, .ref m5, .ref m6, .int 0])), (m1, .inr (4, [.int 0, .ref tE, .int 0])), (m2, .inr (4, [.int 0, .ref tE, .int 0])), (m3, .inr (4, [.int 0, .ref tE, .int 0])), (m4, .inr (4, [.int 0, .ref tE, .int 0])), (m5, .inl (tc, 4, .inl (upd (upd (upd (upd (fun _ => 0) 0 110) 1 110) 2 110) 3 110))), (o, .inl (tj, 1, .inr (.inl (fun _ => 0)))), (oD, .inl (td, 1, .inr (.inr (.inr (.inl (fun _ => 0))))))] := hD
    refine lv_istore (lv' := [(6, .int 1), (5, .int 0), (4, .ref oD), (3, .ref o), (2, .ref m0), (1, .ref h0), (0, .ref b)]) hx hb dL_law_675 hl (by decide) rfl (fun ls hl => ?_)
    refine lv_aload_n hx hb dL_law_677 rfl (lv_at hl 4 rfl) ?_
    refine lv_aload_n hx hb dL_law_678 rfl (lv_at hl 6 rfl) ?_
    refine lv_iload hx hb dL_law_679 (lv_at hl 1 rfl) ?_
    refine lv_iconst (v := 1) hx hb dL_law_681 (by decide) ?_
    refine lv_iadd hx hb dL_law_682 ?_
    refine lv_topi (fun x5 ex5 => ?_)
    obtain rfl : x5 = 1 := ex5.trans (by decide)
    refine va_sld hx hb hX hbl hbA hS (i := 1) (by unfold vp_in; decide) dL_law_683 ?_
    refine W.eq (g2 := F0 m 684 ls [.int (xs 1), .ref m0]) rfl ?_
    have hPc := hP.sub (ws' := (wM tE m0 m1 m2 m3 m4 m5 m6 tc 0 0)) [0, 1, 2, 3, 4, 5] rfl
    have hKc := hK.sub (tys' := [(tc, .char)]) [5] rfl
    have hDc := hD.sub (ws' := (wM tE m0 m1 m2 m3 m4 m5 m6 tc 0 0)) [0, 1, 2, 3, 4, 5] (by decide) rfl
    have hFc := va_free (wc := (wM tE m0 m1 m2 m3 m4 m5 m6 tc 0 0)) hD hS hA [0, 1, 2, 3, 4, 5] rfl
    refine gJ_i (isC := [0, 1, 2, 3, 4, 5]) (isR := [6, 7]) (wr := [(o, .inl (tj, 1, .inr (.inl (fun _ => 0)))), (oD, .inl (td, 1, .inr (.inr (.inr (.inl (fun _ => 0))))))]) (va_runV (As := [.int (xs 1)]) (rest := []) ⟨hx, hb, hml, hown, hta⟩ (c_X15_rule_f l hf) (cwV 1 hta (gWV mw457 mw458 mw459 mw176 mw456) rfl rfl rfl (by decide +kernel) ⟨Nat.le_of_ble_eq_true rfl, Nat.le_of_ble_eq_true rfl⟩) ⟨gS_blind, va_recv hKc hPc (ci := 20) (q0 := 0) rfl rfl, fun U hU hW => ⟨rfl, by rw [hU], by rw [hU]; exact hPc, va_K.moved hW.alike hKc, hDc.weaken (fun _ _ _ _ => trivial), hG.call hS hU hW hFc⟩⟩ rfl rfl hl.1 rfl (lv_room (Nat.le_of_ble_eq_true rfl)) dL_law_684 ⟨Nat.le_of_ble_eq_true rfl, Nat.le_of_ble_eq_true rfl⟩) hP hD hS hK hFc rfl rfl (by decide) (by decide) (fun r6 u7 H locs h8 hP hD hS hK => ?_)
    obtain rfl : r6 = 0 := h8
    have hK : va_K D vwCl (tLw t1 t2 t3 t4 t5 tc tj td) s := hK
    have hP : va_P D vwCl [(o, .inl (tj, 1, .inr (.inl (fun _ => 0)))), (oD, .inl (td, 1, .inr (.inr (.inr (.inl (fun _ => 0)))))), (m0, .inr (20, [.int 1, .ref m1, .ref m2, .ref m3, .ref m4, .int 0, .ref m5, .ref m6, .int 0])), (m1, .inr (4, [.int 0, .ref tE, .int 0])), (m2, .inr (4, [.int 0, .ref tE, .int 0])), (m3, .inr (4, [.int 0, .ref tE, .int 0])), (m4, .inr (4, [.int 0, .ref tE, .int 0])), (m5, .inl (tc, 4, .inl (upd (upd (upd (upd (fun _ => 0) 0 110) 1 110) 2 110) 3 110)))] H := hP
    have hD : va_D A [(o, .inl (tj, 1, .inr (.inl (fun _ => 0)))), (oD, .inl (td, 1, .inr (.inr (.inr (.inl (fun _ => 0)))))), (m0, .inr (20, [.int 1, .ref m1, .ref m2, .ref m3, .ref m4, .int 0, .ref m5, .ref m6, .int 0])), (m1, .inr (4, [.int 0, .ref tE, .int 0])), (m2, .inr (4, [.int 0, .ref tE, .int 0])), (m3, .inr (4, [.int 0, .ref tE, .int 0])), (m4, .inr (4, [.int 0, .ref tE, .int 0])), (m5, .inl (tc, 4, .inl (upd (upd (upd (upd (fun _ => 0) 0 110) 1 110) 2 110) 3 110)))] := hD
    refine lv_istore (lv' := [(7, .int 0), (6, .int 1), (5, .int 0), (4, .ref oD), (3, .ref o), (2, .ref m0), (1, .ref h0), (0, .ref b)]) hx hb dL_law_687 hl (by decide) rfl (fun ls hl => ?_)
    refine lv_aload_n hx hb dL_law_689 rfl (lv_at hl 5 rfl) ?_
    have hPc := hP.sub (ws' := [(m0, .inr (20, [.int 1, .ref m1, .ref m2, .ref m3, .ref m4, .int 0, .ref m5, .ref m6, .int 0]))]) [2] rfl
    have hKc := hK.sub (tys' := []) [] rfl
    refine vp_callSi (W.runV (As := []) (rest := []) ⟨hx, hb, hml, hown, hta⟩ (c_X15_thrown l ) (cwV 0 hta (gWV mw422 mw423 mw424 mw176 mw421) rfl rfl rfl (by decide +kernel) ⟨Nat.le_of_ble_eq_true rfl, Nat.le_of_ble_eq_true rfl⟩) ⟨gR_blind, va_recv hKc hPc (ci := 20) (q0 := 0) rfl rfl, fun U hU hW => ⟨rfl, by rw [hU]; exact hPc, va_K.moved hW.alike hKc⟩⟩ rfl rfl hl.1 rfl (lv_room (Nat.le_of_ble_eq_true rfl)) dL_law_690 ⟨Nat.le_of_ble_eq_true rfl, Nat.le_of_ble_eq_true rfl⟩) (fun r9 h10 => ?_)
    obtain rfl : r9 = 1 := h10
    refine lv_iload hx hb dL_law_693 (lv_at hl 1 rfl) ?_
    refine lv_icmp_eq (tgt := 700) hx hb dL_law_695 (by decide) (fun c11 => ?_) (fun c11 => ?_)
    · skip
      refine lv_iload hx hb dL_law_700 (lv_at hl 1 rfl) ?_
      refine lv_if_ne (tgt := 717) hx hb dL_law_702 (by decide) (fun c12 => ?_) (fun c12 => ?_)
      · skip
        refine lv_goto (tgt := 2441) hx hb dL_law_717 (by decide) ?_
        exact law_tail l C0 hA2 hS (lv_sub hl [7, 2] rfl) (Nat.le_of_ble_eq_true rfl) (Nat.le_of_ble_eq_true rfl)
      · exact absurd c12 (by decide)
    · exact absurd (by decide) c11
  · skip
    rcases inR_4 hf with h9 | h9 | h9 | h9
    · skip
      refine lv_aload_n hx hb dL_law_664 rfl (lv_at hl 4 rfl) ?_
      refine lv_aload_n hx hb dL_law_665 rfl (lv_at hl 5 rfl) ?_
      refine lv_iload hx hb dL_law_666 (lv_at hl 0 rfl) ?_
      refine lv_iconst (v := 1) hx hb dL_law_668 (by decide) ?_
      refine lv_iadd hx hb dL_law_669 ?_
      refine lv_topi (fun x13 ex13 => ?_)
      obtain rfl : x13 = 1 := ex13.trans (by decide)
      refine va_sld hx hb hX hbl hbA hS (i := 1) (by unfold vp_in; decide) dL_law_670 ?_
      refine W.eq (g2 := F0 m 671 ls [.int (xs 1), .ref h0]) rfl ?_
      rw [h9]
      refine lv_aload_n hx hb dL_law_671 rfl (lv_at hl 2 rfl) ?_
      have hPc := hP.sub (ws' := [(h0, .inr (15, [.ref a1, .ref a2, .ref a3, .ref a4, .ref a5, .ref h6, .int 0, .int 0, .int 0, .int 0, .int 0, .int 0, .long 0, .long 0])), (a1, .inl (t1, 5, .inr (.inr (.inr (.inr (fun _ => none)))))), (a2, .inl (t2, 12, .inr (.inr (.inr (.inr (fun _ => none)))))), (a3, .inl (t3, 4, .inr (.inr (.inr (.inr (va_up (va_up (va_up (va_up (fun _ => none) 0 (some s0)) 1 (some s1)) 2 (some s2)) 3 (some s3))))))), (a4, .inl (t4, 90, .inr (.inr (.inr (.inr (fun _ => none)))))), (a5, .inl (t5, 30, .inr (.inr (.inr (.inr (fun _ => none)))))), (h6, .inr (10, [.long 0, .long 0])), (s0, .inr (14, [.int 110, .int 0, .int 0])), (s1, .inr (14, [.int 110, .int 0, .int 0])), (s2, .inr (14, [.int 110, .int 0, .int 0])), (s3, .inr (14, [.int 110, .int 0, .int 0])), (o, .inl (tj, 1, .inr (.inl (fun _ => 0))))]) [0, 1, 2, 3, 4, 5, 6, 7, 8, 9, 10, 17] rfl
      have hKc := hK.sub (tys' := [(t1, .object "Foundrymark$Machine"), (t2, .object "Foundrymark$Part"), (t3, .object "Foundrymark$Supplier"), (t4, .object "Foundrymark$Lot"), (t5, .object "Foundrymark$Order"), (tj, .long)]) [0, 1, 2, 3, 4, 6] rfl
      have hDc := hD.sub (ws' := [(h0, .inr (15, [.ref a1, .ref a2, .ref a3, .ref a4, .ref a5, .ref h6, .int 0, .int 0, .int 0, .int 0, .int 0, .int 0, .long 0, .long 0])), (a1, .inl (t1, 5, .inr (.inr (.inr (.inr (fun _ => none)))))), (a2, .inl (t2, 12, .inr (.inr (.inr (.inr (fun _ => none)))))), (a3, .inl (t3, 4, .inr (.inr (.inr (.inr (va_up (va_up (va_up (va_up (fun _ => none) 0 (some s0)) 1 (some s1)) 2 (some s2)) 3 (some s3))))))), (a4, .inl (t4, 90, .inr (.inr (.inr (.inr (fun _ => none)))))), (a5, .inl (t5, 30, .inr (.inr (.inr (.inr (fun _ => none)))))), (h6, .inr (10, [.long 0, .long 0])), (s0, .inr (14, [.int 110, .int 0, .int 0])), (s1, .inr (14, [.int 110, .int 0, .int 0])), (s2, .inr (14, [.int 110, .int 0, .int 0])), (s3, .inr (14, [.int 110, .int 0, .int 0])), (o, .inl (tj, 1, .inr (.inl (fun _ => 0))))]) [0, 1, 2, 3, 4, 5, 6, 7, 8, 9, 10, 17] (by decide) rfl
      have hFc := va_free (wc := [(h0, .inr (15, [.ref a1, .ref a2, .ref a3, .ref a4, .ref a5, .ref h6, .int 0, .int 0, .int 0, .int 0, .int 0, .int 0, .long 0, .long 0])), (a1, .inl (t1, 5, .inr (.inr (.inr (.inr (fun _ => none)))))), (a2, .inl (t2, 12, .inr (.inr (.inr (.inr (fun _ => none)))))), (a3, .inl (t3, 4, .inr (.inr (.inr (.inr (va_up (va_up (va_up (va_up (fun _ => none) 0 (some s0)) 1 (some s1)) 2 (some s2)) 3 (some s3))))))), (a4, .inl (t4, 90, .inr (.inr (.inr (.inr (fun _ => none)))))), (a5, .inl (t5, 30, .inr (.inr (.inr (.inr (fun _ => none)))))), (h6, .inr (10, [.long 0, .long 0])), (s0, .inr (14, [.int 110, .int 0, .int 0])), (s1, .inr (14, [.int 110, .int 0, .int 0])), (s2, .inr (14, [.int 110, .int 0, .int 0])), (s3, .inr (14, [.int 110, .int 0, .int 0])), (o, .inl (tj, 1, .inr (.inl (fun _ => 0))))]) hD hS hA [0, 1, 2, 3, 4, 5, 6, 7, 8, 9, 10, 17] rfl
      refine gJ_i (isC := [0, 1, 2, 3, 4, 5, 6, 7, 8, 9, 10, 17]) (isR := [11, 12, 13, 14, 15, 16, 18]) (wr := [(m0, .inr (20, [.int 0, .ref m1, .ref m2, .ref m3, .ref m4, .int 0, .ref m5, .ref m6, .int 0])), (m1, .inr (4, [.int 0, .ref tE, .int 0])), (m2, .inr (4, [.int 0, .ref tE, .int 0])), (m3, .inr (4, [.int 0, .ref tE, .int 0])), (m4, .inr (4, [.int 0, .ref tE, .int 0])), (m5, .inl (tc, 4, .inl (upd (upd (upd (upd (fun _ => 0) 0 110) 1 110) 2 110) 3 110))), (oD, .inl (td, 1, .inr (.inr (.inr (.inl (fun _ => 0))))))]) (vx_runSW (As := [.ref h0, .int 0, .ref o]) (rest := []) ⟨hx, hb, hml, hown, hta⟩ (c_L_rule_0 l hl0 ) (vx_cwSW 3 hta (gWSW mw454 mw455 mw416 mw453) rfl rfl rfl (by decide +kernel) ⟨Nat.le_of_ble_eq_true rfl, Nat.le_of_ble_eq_true rfl⟩) ⟨gS_blind, fun U hU hW => ⟨rfl, by rw [hU], by rw [hU]; exact hPc, va_K.moved hW.alike hKc, hDc.weaken (fun _ _ _ _ => trivial), hG.call hS hU hW hFc⟩⟩ rfl rfl hl.1 rfl (lv_room (Nat.le_of_ble_eq_true rfl)) dL_law_672 ⟨Nat.le_of_ble_eq_true rfl, Nat.le_of_ble_eq_true rfl⟩) hP hD hS hK hFc rfl rfl (by decide) (by decide) (fun r14 u15 H locs h16 hP hD hS hK => ?_)
      obtain rfl : r14 = 0 := h16
      have hK : va_K D vwCl (tLw t1 t2 t3 t4 t5 tc tj td) s := hK
      have hP : va_P D vwCl [(m0, .inr (20, [.int 0, .ref m1, .ref m2, .ref m3, .ref m4, .int 0, .ref m5, .ref m6, .int 0])), (m1, .inr (4, [.int 0, .ref tE, .int 0])), (m2, .inr (4, [.int 0, .ref tE, .int 0])), (m3, .inr (4, [.int 0, .ref tE, .int 0])), (m4, .inr (4, [.int 0, .ref tE, .int 0])), (m5, .inl (tc, 4, .inl (upd (upd (upd (upd (fun _ => 0) 0 110) 1 110) 2 110) 3 110))), (oD, .inl (td, 1, .inr (.inr (.inr (.inl (fun _ => 0)))))), (o, .inl (tj, 1, .inr (.inl (vp_updL (fun _ => 0) 0 110))))] H := hP
      have hD : va_D A [(m0, .inr (20, [.int 0, .ref m1, .ref m2, .ref m3, .ref m4, .int 0, .ref m5, .ref m6, .int 0])), (m1, .inr (4, [.int 0, .ref tE, .int 0])), (m2, .inr (4, [.int 0, .ref tE, .int 0])), (m3, .inr (4, [.int 0, .ref tE, .int 0])), (m4, .inr (4, [.int 0, .ref tE, .int 0])), (m5, .inl (tc, 4, .inl (upd (upd (upd (upd (fun _ => 0) 0 110) 1 110) 2 110) 3 110))), (oD, .inl (td, 1, .inr (.inr (.inr (.inl (fun _ => 0)))))), (o, .inl (tj, 1, .inr (.inl (vp_updL (fun _ => 0) 0 110))))] := hD
      refine lv_istore (lv' := [(6, .int 0), (5, .int 0), (4, .ref oD), (3, .ref o), (2, .ref m0), (1, .ref h0), (0, .ref b)]) hx hb dL_law_675 hl (by decide) rfl (fun ls hl => ?_)
      refine lv_aload_n hx hb dL_law_677 rfl (lv_at hl 4 rfl) ?_
      refine lv_aload_n hx hb dL_law_678 rfl (lv_at hl 6 rfl) ?_
      refine lv_iload hx hb dL_law_679 (lv_at hl 1 rfl) ?_
      refine lv_iconst (v := 1) hx hb dL_law_681 (by decide) ?_
      refine lv_iadd hx hb dL_law_682 ?_
      refine lv_topi (fun x17 ex17 => ?_)
      obtain rfl : x17 = 1 := ex17.trans (by decide)
      refine va_sld hx hb hX hbl hbA hS (i := 1) (by unfold vp_in; decide) dL_law_683 ?_
      refine W.eq (g2 := F0 m 684 ls [.int (xs 1), .ref m0]) rfl ?_
      rw [h9]
      have hPc := hP.sub (ws' := (wM tE m0 m1 m2 m3 m4 m5 m6 tc 0 0)) [0, 1, 2, 3, 4, 5] rfl
      have hKc := hK.sub (tys' := [(tc, .char)]) [5] rfl
      have hDc := hD.sub (ws' := (wM tE m0 m1 m2 m3 m4 m5 m6 tc 0 0)) [0, 1, 2, 3, 4, 5] (by decide) rfl
      have hFc := va_free (wc := (wM tE m0 m1 m2 m3 m4 m5 m6 tc 0 0)) hD hS hA [0, 1, 2, 3, 4, 5] rfl
      refine gJ_i (isC := [0, 1, 2, 3, 4, 5]) (isR := [6, 7]) (wr := [(oD, .inl (td, 1, .inr (.inr (.inr (.inl (fun _ => 0)))))), (o, .inl (tj, 1, .inr (.inl (vp_updL (fun _ => 0) 0 110))))]) (va_runV (As := [.int 0]) (rest := []) ⟨hx, hb, hml, hown, hta⟩ (c_X15_rule_0 l ) (cwV 1 hta (gWV mw457 mw458 mw459 mw176 mw456) rfl rfl rfl (by decide +kernel) ⟨Nat.le_of_ble_eq_true rfl, Nat.le_of_ble_eq_true rfl⟩) ⟨gS_blind, va_recv hKc hPc (ci := 20) (q0 := 0) rfl rfl, fun U hU hW => ⟨rfl, by rw [hU], by rw [hU]; exact hPc, va_K.moved hW.alike hKc, hDc.weaken (fun _ _ _ _ => trivial), hG.call hS hU hW hFc⟩⟩ rfl rfl hl.1 rfl (lv_room (Nat.le_of_ble_eq_true rfl)) dL_law_684 ⟨Nat.le_of_ble_eq_true rfl, Nat.le_of_ble_eq_true rfl⟩) hP hD hS hK hFc rfl rfl (by decide) (by decide) (fun r18 u19 H locs h20 hP hD hS hK => ?_)
      obtain rfl : r18 = 110 := h20
      have hK : va_K D vwCl (tLw t1 t2 t3 t4 t5 tc tj td) s := hK
      have hP : va_P D vwCl [(oD, .inl (td, 1, .inr (.inr (.inr (.inl (fun _ => 0)))))), (o, .inl (tj, 1, .inr (.inl (vp_updL (fun _ => 0) 0 110)))), (m0, .inr (20, [.int 0, .ref m1, .ref m2, .ref m3, .ref m4, .int 0, .ref m5, .ref m6, .int 0])), (m1, .inr (4, [.int 0, .ref tE, .int 0])), (m2, .inr (4, [.int 0, .ref tE, .int 0])), (m3, .inr (4, [.int 0, .ref tE, .int 0])), (m4, .inr (4, [.int 0, .ref tE, .int 0])), (m5, .inl (tc, 4, .inl (upd (upd (upd (upd (fun _ => 0) 0 110) 1 110) 2 110) 3 110)))] H := hP
      have hD : va_D A [(oD, .inl (td, 1, .inr (.inr (.inr (.inl (fun _ => 0)))))), (o, .inl (tj, 1, .inr (.inl (vp_updL (fun _ => 0) 0 110)))), (m0, .inr (20, [.int 0, .ref m1, .ref m2, .ref m3, .ref m4, .int 0, .ref m5, .ref m6, .int 0])), (m1, .inr (4, [.int 0, .ref tE, .int 0])), (m2, .inr (4, [.int 0, .ref tE, .int 0])), (m3, .inr (4, [.int 0, .ref tE, .int 0])), (m4, .inr (4, [.int 0, .ref tE, .int 0])), (m5, .inl (tc, 4, .inl (upd (upd (upd (upd (fun _ => 0) 0 110) 1 110) 2 110) 3 110)))] := hD
      refine lv_istore (lv' := [(7, .int 110), (6, .int 0), (5, .int 0), (4, .ref oD), (3, .ref o), (2, .ref m0), (1, .ref h0), (0, .ref b)]) hx hb dL_law_687 hl (by decide) rfl (fun ls hl => ?_)
      refine lv_aload_n hx hb dL_law_689 rfl (lv_at hl 5 rfl) ?_
      have hPc := hP.sub (ws' := [(m0, .inr (20, [.int 0, .ref m1, .ref m2, .ref m3, .ref m4, .int 0, .ref m5, .ref m6, .int 0]))]) [2] rfl
      have hKc := hK.sub (tys' := []) [] rfl
      refine vp_callSi (W.runV (As := []) (rest := []) ⟨hx, hb, hml, hown, hta⟩ (c_X15_thrown l ) (cwV 0 hta (gWV mw422 mw423 mw424 mw176 mw421) rfl rfl rfl (by decide +kernel) ⟨Nat.le_of_ble_eq_true rfl, Nat.le_of_ble_eq_true rfl⟩) ⟨gR_blind, va_recv hKc hPc (ci := 20) (q0 := 0) rfl rfl, fun U hU hW => ⟨rfl, by rw [hU]; exact hPc, va_K.moved hW.alike hKc⟩⟩ rfl rfl hl.1 rfl (lv_room (Nat.le_of_ble_eq_true rfl)) dL_law_690 ⟨Nat.le_of_ble_eq_true rfl, Nat.le_of_ble_eq_true rfl⟩) (fun r21 h22 => ?_)
      obtain rfl : r21 = 0 := h22
      refine lv_iload hx hb dL_law_693 (lv_at hl 1 rfl) ?_
      refine lv_icmp_eq (tgt := 700) hx hb dL_law_695 (by decide) (fun c23 => ?_) (fun c23 => ?_)
      · skip
        refine lv_iload hx hb dL_law_700 (lv_at hl 1 rfl) ?_
        refine lv_if_ne (tgt := 717) hx hb dL_law_702 (by decide) (fun c24 => ?_) (fun c24 => ?_)
        · exact absurd c24 (by decide)
        · skip
          refine lv_aload_n hx hb dL_law_705 rfl (lv_at hl 4 rfl) ?_
          refine lv_iconst (v := 0) hx hb dL_law_706 (by decide) ?_
          refine va_lald hx hb hK hP 1 6 rfl rfl (i := 0) (by unfold vp_in; decide) dL_law_707 ?_
          refine W.eq (g2 := F0 m 708 ls [.long 110]) rfl ?_
          refine lv_iload hx hb dL_law_708 (lv_at hl 0 rfl) ?_
          refine lv_i2l (v := 110) hx hb dL_law_710 (by decide) ?_
          refine W.lcmp hx hb dL_law_711 ?_
          refine lv_if_eq (tgt := 717) hx hb dL_law_712 (by decide) (fun c25 => ?_) (fun c25 => ?_)
          · skip
            refine lv_goto (tgt := 2441) hx hb dL_law_717 (by decide) ?_
            exact law_tail l C0 hA2 hS (lv_sub hl [7, 2] rfl) (Nat.le_of_ble_eq_true rfl) (Nat.le_of_ble_eq_true rfl)
          · exact absurd lgc c25
      · exact absurd (by decide) c23
    · skip
      refine lv_aload_n hx hb dL_law_664 rfl (lv_at hl 4 rfl) ?_
      refine lv_aload_n hx hb dL_law_665 rfl (lv_at hl 5 rfl) ?_
      refine lv_iload hx hb dL_law_666 (lv_at hl 0 rfl) ?_
      refine lv_iconst (v := 1) hx hb dL_law_668 (by decide) ?_
      refine lv_iadd hx hb dL_law_669 ?_
      refine lv_topi (fun x26 ex26 => ?_)
      obtain rfl : x26 = 1 := ex26.trans (by decide)
      refine va_sld hx hb hX hbl hbA hS (i := 1) (by unfold vp_in; decide) dL_law_670 ?_
      refine W.eq (g2 := F0 m 671 ls [.int (xs 1), .ref h0]) rfl ?_
      rw [h9]
      refine lv_aload_n hx hb dL_law_671 rfl (lv_at hl 2 rfl) ?_
      have hPc := hP.sub (ws' := [(h0, .inr (15, [.ref a1, .ref a2, .ref a3, .ref a4, .ref a5, .ref h6, .int 0, .int 0, .int 0, .int 0, .int 0, .int 0, .long 0, .long 0])), (a1, .inl (t1, 5, .inr (.inr (.inr (.inr (fun _ => none)))))), (a2, .inl (t2, 12, .inr (.inr (.inr (.inr (fun _ => none)))))), (a3, .inl (t3, 4, .inr (.inr (.inr (.inr (va_up (va_up (va_up (va_up (fun _ => none) 0 (some s0)) 1 (some s1)) 2 (some s2)) 3 (some s3))))))), (a4, .inl (t4, 90, .inr (.inr (.inr (.inr (fun _ => none)))))), (a5, .inl (t5, 30, .inr (.inr (.inr (.inr (fun _ => none)))))), (h6, .inr (10, [.long 0, .long 0])), (s0, .inr (14, [.int 110, .int 0, .int 0])), (s1, .inr (14, [.int 110, .int 0, .int 0])), (s2, .inr (14, [.int 110, .int 0, .int 0])), (s3, .inr (14, [.int 110, .int 0, .int 0])), (o, .inl (tj, 1, .inr (.inl (fun _ => 0))))]) [0, 1, 2, 3, 4, 5, 6, 7, 8, 9, 10, 17] rfl
      have hKc := hK.sub (tys' := [(t1, .object "Foundrymark$Machine"), (t2, .object "Foundrymark$Part"), (t3, .object "Foundrymark$Supplier"), (t4, .object "Foundrymark$Lot"), (t5, .object "Foundrymark$Order"), (tj, .long)]) [0, 1, 2, 3, 4, 6] rfl
      have hDc := hD.sub (ws' := [(h0, .inr (15, [.ref a1, .ref a2, .ref a3, .ref a4, .ref a5, .ref h6, .int 0, .int 0, .int 0, .int 0, .int 0, .int 0, .long 0, .long 0])), (a1, .inl (t1, 5, .inr (.inr (.inr (.inr (fun _ => none)))))), (a2, .inl (t2, 12, .inr (.inr (.inr (.inr (fun _ => none)))))), (a3, .inl (t3, 4, .inr (.inr (.inr (.inr (va_up (va_up (va_up (va_up (fun _ => none) 0 (some s0)) 1 (some s1)) 2 (some s2)) 3 (some s3))))))), (a4, .inl (t4, 90, .inr (.inr (.inr (.inr (fun _ => none)))))), (a5, .inl (t5, 30, .inr (.inr (.inr (.inr (fun _ => none)))))), (h6, .inr (10, [.long 0, .long 0])), (s0, .inr (14, [.int 110, .int 0, .int 0])), (s1, .inr (14, [.int 110, .int 0, .int 0])), (s2, .inr (14, [.int 110, .int 0, .int 0])), (s3, .inr (14, [.int 110, .int 0, .int 0])), (o, .inl (tj, 1, .inr (.inl (fun _ => 0))))]) [0, 1, 2, 3, 4, 5, 6, 7, 8, 9, 10, 17] (by decide) rfl
      have hFc := va_free (wc := [(h0, .inr (15, [.ref a1, .ref a2, .ref a3, .ref a4, .ref a5, .ref h6, .int 0, .int 0, .int 0, .int 0, .int 0, .int 0, .long 0, .long 0])), (a1, .inl (t1, 5, .inr (.inr (.inr (.inr (fun _ => none)))))), (a2, .inl (t2, 12, .inr (.inr (.inr (.inr (fun _ => none)))))), (a3, .inl (t3, 4, .inr (.inr (.inr (.inr (va_up (va_up (va_up (va_up (fun _ => none) 0 (some s0)) 1 (some s1)) 2 (some s2)) 3 (some s3))))))), (a4, .inl (t4, 90, .inr (.inr (.inr (.inr (fun _ => none)))))), (a5, .inl (t5, 30, .inr (.inr (.inr (.inr (fun _ => none)))))), (h6, .inr (10, [.long 0, .long 0])), (s0, .inr (14, [.int 110, .int 0, .int 0])), (s1, .inr (14, [.int 110, .int 0, .int 0])), (s2, .inr (14, [.int 110, .int 0, .int 0])), (s3, .inr (14, [.int 110, .int 0, .int 0])), (o, .inl (tj, 1, .inr (.inl (fun _ => 0))))]) hD hS hA [0, 1, 2, 3, 4, 5, 6, 7, 8, 9, 10, 17] rfl
      refine gJ_i (isC := [0, 1, 2, 3, 4, 5, 6, 7, 8, 9, 10, 17]) (isR := [11, 12, 13, 14, 15, 16, 18]) (wr := [(m0, .inr (20, [.int 0, .ref m1, .ref m2, .ref m3, .ref m4, .int 0, .ref m5, .ref m6, .int 0])), (m1, .inr (4, [.int 0, .ref tE, .int 0])), (m2, .inr (4, [.int 0, .ref tE, .int 0])), (m3, .inr (4, [.int 0, .ref tE, .int 0])), (m4, .inr (4, [.int 0, .ref tE, .int 0])), (m5, .inl (tc, 4, .inl (upd (upd (upd (upd (fun _ => 0) 0 110) 1 110) 2 110) 3 110))), (oD, .inl (td, 1, .inr (.inr (.inr (.inl (fun _ => 0))))))]) (vx_runSW (As := [.ref h0, .int 1, .ref o]) (rest := []) ⟨hx, hb, hml, hown, hta⟩ (c_L_rule_1 l hl0 ) (vx_cwSW 3 hta (gWSW mw454 mw455 mw416 mw453) rfl rfl rfl (by decide +kernel) ⟨Nat.le_of_ble_eq_true rfl, Nat.le_of_ble_eq_true rfl⟩) ⟨gS_blind, fun U hU hW => ⟨rfl, by rw [hU], by rw [hU]; exact hPc, va_K.moved hW.alike hKc, hDc.weaken (fun _ _ _ _ => trivial), hG.call hS hU hW hFc⟩⟩ rfl rfl hl.1 rfl (lv_room (Nat.le_of_ble_eq_true rfl)) dL_law_672 ⟨Nat.le_of_ble_eq_true rfl, Nat.le_of_ble_eq_true rfl⟩) hP hD hS hK hFc rfl rfl (by decide) (by decide) (fun r27 u28 H locs h29 hP hD hS hK => ?_)
      obtain rfl : r27 = 0 := h29
      have hK : va_K D vwCl (tLw t1 t2 t3 t4 t5 tc tj td) s := hK
      have hP : va_P D vwCl [(m0, .inr (20, [.int 0, .ref m1, .ref m2, .ref m3, .ref m4, .int 0, .ref m5, .ref m6, .int 0])), (m1, .inr (4, [.int 0, .ref tE, .int 0])), (m2, .inr (4, [.int 0, .ref tE, .int 0])), (m3, .inr (4, [.int 0, .ref tE, .int 0])), (m4, .inr (4, [.int 0, .ref tE, .int 0])), (m5, .inl (tc, 4, .inl (upd (upd (upd (upd (fun _ => 0) 0 110) 1 110) 2 110) 3 110))), (oD, .inl (td, 1, .inr (.inr (.inr (.inl (fun _ => 0)))))), (o, .inl (tj, 1, .inr (.inl (vp_updL (fun _ => 0) 0 110))))] H := hP
      have hD : va_D A [(m0, .inr (20, [.int 0, .ref m1, .ref m2, .ref m3, .ref m4, .int 0, .ref m5, .ref m6, .int 0])), (m1, .inr (4, [.int 0, .ref tE, .int 0])), (m2, .inr (4, [.int 0, .ref tE, .int 0])), (m3, .inr (4, [.int 0, .ref tE, .int 0])), (m4, .inr (4, [.int 0, .ref tE, .int 0])), (m5, .inl (tc, 4, .inl (upd (upd (upd (upd (fun _ => 0) 0 110) 1 110) 2 110) 3 110))), (oD, .inl (td, 1, .inr (.inr (.inr (.inl (fun _ => 0)))))), (o, .inl (tj, 1, .inr (.inl (vp_updL (fun _ => 0) 0 110))))] := hD
      refine lv_istore (lv' := [(6, .int 0), (5, .int 0), (4, .ref oD), (3, .ref o), (2, .ref m0), (1, .ref h0), (0, .ref b)]) hx hb dL_law_675 hl (by decide) rfl (fun ls hl => ?_)
      refine lv_aload_n hx hb dL_law_677 rfl (lv_at hl 4 rfl) ?_
      refine lv_aload_n hx hb dL_law_678 rfl (lv_at hl 6 rfl) ?_
      refine lv_iload hx hb dL_law_679 (lv_at hl 1 rfl) ?_
      refine lv_iconst (v := 1) hx hb dL_law_681 (by decide) ?_
      refine lv_iadd hx hb dL_law_682 ?_
      refine lv_topi (fun x30 ex30 => ?_)
      obtain rfl : x30 = 1 := ex30.trans (by decide)
      refine va_sld hx hb hX hbl hbA hS (i := 1) (by unfold vp_in; decide) dL_law_683 ?_
      refine W.eq (g2 := F0 m 684 ls [.int (xs 1), .ref m0]) rfl ?_
      rw [h9]
      have hPc := hP.sub (ws' := (wM tE m0 m1 m2 m3 m4 m5 m6 tc 0 0)) [0, 1, 2, 3, 4, 5] rfl
      have hKc := hK.sub (tys' := [(tc, .char)]) [5] rfl
      have hDc := hD.sub (ws' := (wM tE m0 m1 m2 m3 m4 m5 m6 tc 0 0)) [0, 1, 2, 3, 4, 5] (by decide) rfl
      have hFc := va_free (wc := (wM tE m0 m1 m2 m3 m4 m5 m6 tc 0 0)) hD hS hA [0, 1, 2, 3, 4, 5] rfl
      refine gJ_i (isC := [0, 1, 2, 3, 4, 5]) (isR := [6, 7]) (wr := [(oD, .inl (td, 1, .inr (.inr (.inr (.inl (fun _ => 0)))))), (o, .inl (tj, 1, .inr (.inl (vp_updL (fun _ => 0) 0 110))))]) (va_runV (As := [.int 1]) (rest := []) ⟨hx, hb, hml, hown, hta⟩ (c_X15_rule_1 l ) (cwV 1 hta (gWV mw457 mw458 mw459 mw176 mw456) rfl rfl rfl (by decide +kernel) ⟨Nat.le_of_ble_eq_true rfl, Nat.le_of_ble_eq_true rfl⟩) ⟨gS_blind, va_recv hKc hPc (ci := 20) (q0 := 0) rfl rfl, fun U hU hW => ⟨rfl, by rw [hU], by rw [hU]; exact hPc, va_K.moved hW.alike hKc, hDc.weaken (fun _ _ _ _ => trivial), hG.call hS hU hW hFc⟩⟩ rfl rfl hl.1 rfl (lv_room (Nat.le_of_ble_eq_true rfl)) dL_law_684 ⟨Nat.le_of_ble_eq_true rfl, Nat.le_of_ble_eq_true rfl⟩) hP hD hS hK hFc rfl rfl (by decide) (by decide) (fun r31 u32 H locs h33 hP hD hS hK => ?_)
      obtain rfl : r31 = 110 := h33
      have hK : va_K D vwCl (tLw t1 t2 t3 t4 t5 tc tj td) s := hK
      have hP : va_P D vwCl [(oD, .inl (td, 1, .inr (.inr (.inr (.inl (fun _ => 0)))))), (o, .inl (tj, 1, .inr (.inl (vp_updL (fun _ => 0) 0 110)))), (m0, .inr (20, [.int 0, .ref m1, .ref m2, .ref m3, .ref m4, .int 0, .ref m5, .ref m6, .int 0])), (m1, .inr (4, [.int 0, .ref tE, .int 0])), (m2, .inr (4, [.int 0, .ref tE, .int 0])), (m3, .inr (4, [.int 0, .ref tE, .int 0])), (m4, .inr (4, [.int 0, .ref tE, .int 0])), (m5, .inl (tc, 4, .inl (upd (upd (upd (upd (fun _ => 0) 0 110) 1 110) 2 110) 3 110)))] H := hP
      have hD : va_D A [(oD, .inl (td, 1, .inr (.inr (.inr (.inl (fun _ => 0)))))), (o, .inl (tj, 1, .inr (.inl (vp_updL (fun _ => 0) 0 110)))), (m0, .inr (20, [.int 0, .ref m1, .ref m2, .ref m3, .ref m4, .int 0, .ref m5, .ref m6, .int 0])), (m1, .inr (4, [.int 0, .ref tE, .int 0])), (m2, .inr (4, [.int 0, .ref tE, .int 0])), (m3, .inr (4, [.int 0, .ref tE, .int 0])), (m4, .inr (4, [.int 0, .ref tE, .int 0])), (m5, .inl (tc, 4, .inl (upd (upd (upd (upd (fun _ => 0) 0 110) 1 110) 2 110) 3 110)))] := hD
      refine lv_istore (lv' := [(7, .int 110), (6, .int 0), (5, .int 0), (4, .ref oD), (3, .ref o), (2, .ref m0), (1, .ref h0), (0, .ref b)]) hx hb dL_law_687 hl (by decide) rfl (fun ls hl => ?_)
      refine lv_aload_n hx hb dL_law_689 rfl (lv_at hl 5 rfl) ?_
      have hPc := hP.sub (ws' := [(m0, .inr (20, [.int 0, .ref m1, .ref m2, .ref m3, .ref m4, .int 0, .ref m5, .ref m6, .int 0]))]) [2] rfl
      have hKc := hK.sub (tys' := []) [] rfl
      refine vp_callSi (W.runV (As := []) (rest := []) ⟨hx, hb, hml, hown, hta⟩ (c_X15_thrown l ) (cwV 0 hta (gWV mw422 mw423 mw424 mw176 mw421) rfl rfl rfl (by decide +kernel) ⟨Nat.le_of_ble_eq_true rfl, Nat.le_of_ble_eq_true rfl⟩) ⟨gR_blind, va_recv hKc hPc (ci := 20) (q0 := 0) rfl rfl, fun U hU hW => ⟨rfl, by rw [hU]; exact hPc, va_K.moved hW.alike hKc⟩⟩ rfl rfl hl.1 rfl (lv_room (Nat.le_of_ble_eq_true rfl)) dL_law_690 ⟨Nat.le_of_ble_eq_true rfl, Nat.le_of_ble_eq_true rfl⟩) (fun r34 h35 => ?_)
      obtain rfl : r34 = 0 := h35
      refine lv_iload hx hb dL_law_693 (lv_at hl 1 rfl) ?_
      refine lv_icmp_eq (tgt := 700) hx hb dL_law_695 (by decide) (fun c36 => ?_) (fun c36 => ?_)
      · skip
        refine lv_iload hx hb dL_law_700 (lv_at hl 1 rfl) ?_
        refine lv_if_ne (tgt := 717) hx hb dL_law_702 (by decide) (fun c37 => ?_) (fun c37 => ?_)
        · exact absurd c37 (by decide)
        · skip
          refine lv_aload_n hx hb dL_law_705 rfl (lv_at hl 4 rfl) ?_
          refine lv_iconst (v := 0) hx hb dL_law_706 (by decide) ?_
          refine va_lald hx hb hK hP 1 6 rfl rfl (i := 0) (by unfold vp_in; decide) dL_law_707 ?_
          refine W.eq (g2 := F0 m 708 ls [.long 110]) rfl ?_
          refine lv_iload hx hb dL_law_708 (lv_at hl 0 rfl) ?_
          refine lv_i2l (v := 110) hx hb dL_law_710 (by decide) ?_
          refine W.lcmp hx hb dL_law_711 ?_
          refine lv_if_eq (tgt := 717) hx hb dL_law_712 (by decide) (fun c38 => ?_) (fun c38 => ?_)
          · skip
            refine lv_goto (tgt := 2441) hx hb dL_law_717 (by decide) ?_
            exact law_tail l C0 hA2 hS (lv_sub hl [7, 2] rfl) (Nat.le_of_ble_eq_true rfl) (Nat.le_of_ble_eq_true rfl)
          · exact absurd lgc c38
      · exact absurd (by decide) c36
    · skip
      refine lv_aload_n hx hb dL_law_664 rfl (lv_at hl 4 rfl) ?_
      refine lv_aload_n hx hb dL_law_665 rfl (lv_at hl 5 rfl) ?_
      refine lv_iload hx hb dL_law_666 (lv_at hl 0 rfl) ?_
      refine lv_iconst (v := 1) hx hb dL_law_668 (by decide) ?_
      refine lv_iadd hx hb dL_law_669 ?_
      refine lv_topi (fun x39 ex39 => ?_)
      obtain rfl : x39 = 1 := ex39.trans (by decide)
      refine va_sld hx hb hX hbl hbA hS (i := 1) (by unfold vp_in; decide) dL_law_670 ?_
      refine W.eq (g2 := F0 m 671 ls [.int (xs 1), .ref h0]) rfl ?_
      rw [h9]
      refine lv_aload_n hx hb dL_law_671 rfl (lv_at hl 2 rfl) ?_
      have hPc := hP.sub (ws' := [(h0, .inr (15, [.ref a1, .ref a2, .ref a3, .ref a4, .ref a5, .ref h6, .int 0, .int 0, .int 0, .int 0, .int 0, .int 0, .long 0, .long 0])), (a1, .inl (t1, 5, .inr (.inr (.inr (.inr (fun _ => none)))))), (a2, .inl (t2, 12, .inr (.inr (.inr (.inr (fun _ => none)))))), (a3, .inl (t3, 4, .inr (.inr (.inr (.inr (va_up (va_up (va_up (va_up (fun _ => none) 0 (some s0)) 1 (some s1)) 2 (some s2)) 3 (some s3))))))), (a4, .inl (t4, 90, .inr (.inr (.inr (.inr (fun _ => none)))))), (a5, .inl (t5, 30, .inr (.inr (.inr (.inr (fun _ => none)))))), (h6, .inr (10, [.long 0, .long 0])), (s0, .inr (14, [.int 110, .int 0, .int 0])), (s1, .inr (14, [.int 110, .int 0, .int 0])), (s2, .inr (14, [.int 110, .int 0, .int 0])), (s3, .inr (14, [.int 110, .int 0, .int 0])), (o, .inl (tj, 1, .inr (.inl (fun _ => 0))))]) [0, 1, 2, 3, 4, 5, 6, 7, 8, 9, 10, 17] rfl
      have hKc := hK.sub (tys' := [(t1, .object "Foundrymark$Machine"), (t2, .object "Foundrymark$Part"), (t3, .object "Foundrymark$Supplier"), (t4, .object "Foundrymark$Lot"), (t5, .object "Foundrymark$Order"), (tj, .long)]) [0, 1, 2, 3, 4, 6] rfl
      have hDc := hD.sub (ws' := [(h0, .inr (15, [.ref a1, .ref a2, .ref a3, .ref a4, .ref a5, .ref h6, .int 0, .int 0, .int 0, .int 0, .int 0, .int 0, .long 0, .long 0])), (a1, .inl (t1, 5, .inr (.inr (.inr (.inr (fun _ => none)))))), (a2, .inl (t2, 12, .inr (.inr (.inr (.inr (fun _ => none)))))), (a3, .inl (t3, 4, .inr (.inr (.inr (.inr (va_up (va_up (va_up (va_up (fun _ => none) 0 (some s0)) 1 (some s1)) 2 (some s2)) 3 (some s3))))))), (a4, .inl (t4, 90, .inr (.inr (.inr (.inr (fun _ => none)))))), (a5, .inl (t5, 30, .inr (.inr (.inr (.inr (fun _ => none)))))), (h6, .inr (10, [.long 0, .long 0])), (s0, .inr (14, [.int 110, .int 0, .int 0])), (s1, .inr (14, [.int 110, .int 0, .int 0])), (s2, .inr (14, [.int 110, .int 0, .int 0])), (s3, .inr (14, [.int 110, .int 0, .int 0])), (o, .inl (tj, 1, .inr (.inl (fun _ => 0))))]) [0, 1, 2, 3, 4, 5, 6, 7, 8, 9, 10, 17] (by decide) rfl
      have hFc := va_free (wc := [(h0, .inr (15, [.ref a1, .ref a2, .ref a3, .ref a4, .ref a5, .ref h6, .int 0, .int 0, .int 0, .int 0, .int 0, .int 0, .long 0, .long 0])), (a1, .inl (t1, 5, .inr (.inr (.inr (.inr (fun _ => none)))))), (a2, .inl (t2, 12, .inr (.inr (.inr (.inr (fun _ => none)))))), (a3, .inl (t3, 4, .inr (.inr (.inr (.inr (va_up (va_up (va_up (va_up (fun _ => none) 0 (some s0)) 1 (some s1)) 2 (some s2)) 3 (some s3))))))), (a4, .inl (t4, 90, .inr (.inr (.inr (.inr (fun _ => none)))))), (a5, .inl (t5, 30, .inr (.inr (.inr (.inr (fun _ => none)))))), (h6, .inr (10, [.long 0, .long 0])), (s0, .inr (14, [.int 110, .int 0, .int 0])), (s1, .inr (14, [.int 110, .int 0, .int 0])), (s2, .inr (14, [.int 110, .int 0, .int 0])), (s3, .inr (14, [.int 110, .int 0, .int 0])), (o, .inl (tj, 1, .inr (.inl (fun _ => 0))))]) hD hS hA [0, 1, 2, 3, 4, 5, 6, 7, 8, 9, 10, 17] rfl
      refine gJ_i (isC := [0, 1, 2, 3, 4, 5, 6, 7, 8, 9, 10, 17]) (isR := [11, 12, 13, 14, 15, 16, 18]) (wr := [(m0, .inr (20, [.int 0, .ref m1, .ref m2, .ref m3, .ref m4, .int 0, .ref m5, .ref m6, .int 0])), (m1, .inr (4, [.int 0, .ref tE, .int 0])), (m2, .inr (4, [.int 0, .ref tE, .int 0])), (m3, .inr (4, [.int 0, .ref tE, .int 0])), (m4, .inr (4, [.int 0, .ref tE, .int 0])), (m5, .inl (tc, 4, .inl (upd (upd (upd (upd (fun _ => 0) 0 110) 1 110) 2 110) 3 110))), (oD, .inl (td, 1, .inr (.inr (.inr (.inl (fun _ => 0))))))]) (vx_runSW (As := [.ref h0, .int 2, .ref o]) (rest := []) ⟨hx, hb, hml, hown, hta⟩ (c_L_rule_2 l hl0 ) (vx_cwSW 3 hta (gWSW mw454 mw455 mw416 mw453) rfl rfl rfl (by decide +kernel) ⟨Nat.le_of_ble_eq_true rfl, Nat.le_of_ble_eq_true rfl⟩) ⟨gS_blind, fun U hU hW => ⟨rfl, by rw [hU], by rw [hU]; exact hPc, va_K.moved hW.alike hKc, hDc.weaken (fun _ _ _ _ => trivial), hG.call hS hU hW hFc⟩⟩ rfl rfl hl.1 rfl (lv_room (Nat.le_of_ble_eq_true rfl)) dL_law_672 ⟨Nat.le_of_ble_eq_true rfl, Nat.le_of_ble_eq_true rfl⟩) hP hD hS hK hFc rfl rfl (by decide) (by decide) (fun r40 u41 H locs h42 hP hD hS hK => ?_)
      obtain rfl : r40 = 0 := h42
      have hK : va_K D vwCl (tLw t1 t2 t3 t4 t5 tc tj td) s := hK
      have hP : va_P D vwCl [(m0, .inr (20, [.int 0, .ref m1, .ref m2, .ref m3, .ref m4, .int 0, .ref m5, .ref m6, .int 0])), (m1, .inr (4, [.int 0, .ref tE, .int 0])), (m2, .inr (4, [.int 0, .ref tE, .int 0])), (m3, .inr (4, [.int 0, .ref tE, .int 0])), (m4, .inr (4, [.int 0, .ref tE, .int 0])), (m5, .inl (tc, 4, .inl (upd (upd (upd (upd (fun _ => 0) 0 110) 1 110) 2 110) 3 110))), (oD, .inl (td, 1, .inr (.inr (.inr (.inl (fun _ => 0)))))), (o, .inl (tj, 1, .inr (.inl (vp_updL (fun _ => 0) 0 110))))] H := hP
      have hD : va_D A [(m0, .inr (20, [.int 0, .ref m1, .ref m2, .ref m3, .ref m4, .int 0, .ref m5, .ref m6, .int 0])), (m1, .inr (4, [.int 0, .ref tE, .int 0])), (m2, .inr (4, [.int 0, .ref tE, .int 0])), (m3, .inr (4, [.int 0, .ref tE, .int 0])), (m4, .inr (4, [.int 0, .ref tE, .int 0])), (m5, .inl (tc, 4, .inl (upd (upd (upd (upd (fun _ => 0) 0 110) 1 110) 2 110) 3 110))), (oD, .inl (td, 1, .inr (.inr (.inr (.inl (fun _ => 0)))))), (o, .inl (tj, 1, .inr (.inl (vp_updL (fun _ => 0) 0 110))))] := hD
      refine lv_istore (lv' := [(6, .int 0), (5, .int 0), (4, .ref oD), (3, .ref o), (2, .ref m0), (1, .ref h0), (0, .ref b)]) hx hb dL_law_675 hl (by decide) rfl (fun ls hl => ?_)
      refine lv_aload_n hx hb dL_law_677 rfl (lv_at hl 4 rfl) ?_
      refine lv_aload_n hx hb dL_law_678 rfl (lv_at hl 6 rfl) ?_
      refine lv_iload hx hb dL_law_679 (lv_at hl 1 rfl) ?_
      refine lv_iconst (v := 1) hx hb dL_law_681 (by decide) ?_
      refine lv_iadd hx hb dL_law_682 ?_
      refine lv_topi (fun x43 ex43 => ?_)
      obtain rfl : x43 = 1 := ex43.trans (by decide)
      refine va_sld hx hb hX hbl hbA hS (i := 1) (by unfold vp_in; decide) dL_law_683 ?_
      refine W.eq (g2 := F0 m 684 ls [.int (xs 1), .ref m0]) rfl ?_
      rw [h9]
      have hPc := hP.sub (ws' := (wM tE m0 m1 m2 m3 m4 m5 m6 tc 0 0)) [0, 1, 2, 3, 4, 5] rfl
      have hKc := hK.sub (tys' := [(tc, .char)]) [5] rfl
      have hDc := hD.sub (ws' := (wM tE m0 m1 m2 m3 m4 m5 m6 tc 0 0)) [0, 1, 2, 3, 4, 5] (by decide) rfl
      have hFc := va_free (wc := (wM tE m0 m1 m2 m3 m4 m5 m6 tc 0 0)) hD hS hA [0, 1, 2, 3, 4, 5] rfl
      refine gJ_i (isC := [0, 1, 2, 3, 4, 5]) (isR := [6, 7]) (wr := [(oD, .inl (td, 1, .inr (.inr (.inr (.inl (fun _ => 0)))))), (o, .inl (tj, 1, .inr (.inl (vp_updL (fun _ => 0) 0 110))))]) (va_runV (As := [.int 2]) (rest := []) ⟨hx, hb, hml, hown, hta⟩ (c_X15_rule_2 l ) (cwV 1 hta (gWV mw457 mw458 mw459 mw176 mw456) rfl rfl rfl (by decide +kernel) ⟨Nat.le_of_ble_eq_true rfl, Nat.le_of_ble_eq_true rfl⟩) ⟨gS_blind, va_recv hKc hPc (ci := 20) (q0 := 0) rfl rfl, fun U hU hW => ⟨rfl, by rw [hU], by rw [hU]; exact hPc, va_K.moved hW.alike hKc, hDc.weaken (fun _ _ _ _ => trivial), hG.call hS hU hW hFc⟩⟩ rfl rfl hl.1 rfl (lv_room (Nat.le_of_ble_eq_true rfl)) dL_law_684 ⟨Nat.le_of_ble_eq_true rfl, Nat.le_of_ble_eq_true rfl⟩) hP hD hS hK hFc rfl rfl (by decide) (by decide) (fun r44 u45 H locs h46 hP hD hS hK => ?_)
      obtain rfl : r44 = 110 := h46
      have hK : va_K D vwCl (tLw t1 t2 t3 t4 t5 tc tj td) s := hK
      have hP : va_P D vwCl [(oD, .inl (td, 1, .inr (.inr (.inr (.inl (fun _ => 0)))))), (o, .inl (tj, 1, .inr (.inl (vp_updL (fun _ => 0) 0 110)))), (m0, .inr (20, [.int 0, .ref m1, .ref m2, .ref m3, .ref m4, .int 0, .ref m5, .ref m6, .int 0])), (m1, .inr (4, [.int 0, .ref tE, .int 0])), (m2, .inr (4, [.int 0, .ref tE, .int 0])), (m3, .inr (4, [.int 0, .ref tE, .int 0])), (m4, .inr (4, [.int 0, .ref tE, .int 0])), (m5, .inl (tc, 4, .inl (upd (upd (upd (upd (fun _ => 0) 0 110) 1 110) 2 110) 3 110)))] H := hP
      have hD : va_D A [(oD, .inl (td, 1, .inr (.inr (.inr (.inl (fun _ => 0)))))), (o, .inl (tj, 1, .inr (.inl (vp_updL (fun _ => 0) 0 110)))), (m0, .inr (20, [.int 0, .ref m1, .ref m2, .ref m3, .ref m4, .int 0, .ref m5, .ref m6, .int 0])), (m1, .inr (4, [.int 0, .ref tE, .int 0])), (m2, .inr (4, [.int 0, .ref tE, .int 0])), (m3, .inr (4, [.int 0, .ref tE, .int 0])), (m4, .inr (4, [.int 0, .ref tE, .int 0])), (m5, .inl (tc, 4, .inl (upd (upd (upd (upd (fun _ => 0) 0 110) 1 110) 2 110) 3 110)))] := hD
      refine lv_istore (lv' := [(7, .int 110), (6, .int 0), (5, .int 0), (4, .ref oD), (3, .ref o), (2, .ref m0), (1, .ref h0), (0, .ref b)]) hx hb dL_law_687 hl (by decide) rfl (fun ls hl => ?_)
      refine lv_aload_n hx hb dL_law_689 rfl (lv_at hl 5 rfl) ?_
      have hPc := hP.sub (ws' := [(m0, .inr (20, [.int 0, .ref m1, .ref m2, .ref m3, .ref m4, .int 0, .ref m5, .ref m6, .int 0]))]) [2] rfl
      have hKc := hK.sub (tys' := []) [] rfl
      refine vp_callSi (W.runV (As := []) (rest := []) ⟨hx, hb, hml, hown, hta⟩ (c_X15_thrown l ) (cwV 0 hta (gWV mw422 mw423 mw424 mw176 mw421) rfl rfl rfl (by decide +kernel) ⟨Nat.le_of_ble_eq_true rfl, Nat.le_of_ble_eq_true rfl⟩) ⟨gR_blind, va_recv hKc hPc (ci := 20) (q0 := 0) rfl rfl, fun U hU hW => ⟨rfl, by rw [hU]; exact hPc, va_K.moved hW.alike hKc⟩⟩ rfl rfl hl.1 rfl (lv_room (Nat.le_of_ble_eq_true rfl)) dL_law_690 ⟨Nat.le_of_ble_eq_true rfl, Nat.le_of_ble_eq_true rfl⟩) (fun r47 h48 => ?_)
      obtain rfl : r47 = 0 := h48
      refine lv_iload hx hb dL_law_693 (lv_at hl 1 rfl) ?_
      refine lv_icmp_eq (tgt := 700) hx hb dL_law_695 (by decide) (fun c49 => ?_) (fun c49 => ?_)
      · skip
        refine lv_iload hx hb dL_law_700 (lv_at hl 1 rfl) ?_
        refine lv_if_ne (tgt := 717) hx hb dL_law_702 (by decide) (fun c50 => ?_) (fun c50 => ?_)
        · exact absurd c50 (by decide)
        · skip
          refine lv_aload_n hx hb dL_law_705 rfl (lv_at hl 4 rfl) ?_
          refine lv_iconst (v := 0) hx hb dL_law_706 (by decide) ?_
          refine va_lald hx hb hK hP 1 6 rfl rfl (i := 0) (by unfold vp_in; decide) dL_law_707 ?_
          refine W.eq (g2 := F0 m 708 ls [.long 110]) rfl ?_
          refine lv_iload hx hb dL_law_708 (lv_at hl 0 rfl) ?_
          refine lv_i2l (v := 110) hx hb dL_law_710 (by decide) ?_
          refine W.lcmp hx hb dL_law_711 ?_
          refine lv_if_eq (tgt := 717) hx hb dL_law_712 (by decide) (fun c51 => ?_) (fun c51 => ?_)
          · skip
            refine lv_goto (tgt := 2441) hx hb dL_law_717 (by decide) ?_
            exact law_tail l C0 hA2 hS (lv_sub hl [7, 2] rfl) (Nat.le_of_ble_eq_true rfl) (Nat.le_of_ble_eq_true rfl)
          · exact absurd lgc c51
      · exact absurd (by decide) c49
    · skip
      refine lv_aload_n hx hb dL_law_664 rfl (lv_at hl 4 rfl) ?_
      refine lv_aload_n hx hb dL_law_665 rfl (lv_at hl 5 rfl) ?_
      refine lv_iload hx hb dL_law_666 (lv_at hl 0 rfl) ?_
      refine lv_iconst (v := 1) hx hb dL_law_668 (by decide) ?_
      refine lv_iadd hx hb dL_law_669 ?_
      refine lv_topi (fun x52 ex52 => ?_)
      obtain rfl : x52 = 1 := ex52.trans (by decide)
      refine va_sld hx hb hX hbl hbA hS (i := 1) (by unfold vp_in; decide) dL_law_670 ?_
      refine W.eq (g2 := F0 m 671 ls [.int (xs 1), .ref h0]) rfl ?_
      rw [h9]
      refine lv_aload_n hx hb dL_law_671 rfl (lv_at hl 2 rfl) ?_
      have hPc := hP.sub (ws' := [(h0, .inr (15, [.ref a1, .ref a2, .ref a3, .ref a4, .ref a5, .ref h6, .int 0, .int 0, .int 0, .int 0, .int 0, .int 0, .long 0, .long 0])), (a1, .inl (t1, 5, .inr (.inr (.inr (.inr (fun _ => none)))))), (a2, .inl (t2, 12, .inr (.inr (.inr (.inr (fun _ => none)))))), (a3, .inl (t3, 4, .inr (.inr (.inr (.inr (va_up (va_up (va_up (va_up (fun _ => none) 0 (some s0)) 1 (some s1)) 2 (some s2)) 3 (some s3))))))), (a4, .inl (t4, 90, .inr (.inr (.inr (.inr (fun _ => none)))))), (a5, .inl (t5, 30, .inr (.inr (.inr (.inr (fun _ => none)))))), (h6, .inr (10, [.long 0, .long 0])), (s0, .inr (14, [.int 110, .int 0, .int 0])), (s1, .inr (14, [.int 110, .int 0, .int 0])), (s2, .inr (14, [.int 110, .int 0, .int 0])), (s3, .inr (14, [.int 110, .int 0, .int 0])), (o, .inl (tj, 1, .inr (.inl (fun _ => 0))))]) [0, 1, 2, 3, 4, 5, 6, 7, 8, 9, 10, 17] rfl
      have hKc := hK.sub (tys' := [(t1, .object "Foundrymark$Machine"), (t2, .object "Foundrymark$Part"), (t3, .object "Foundrymark$Supplier"), (t4, .object "Foundrymark$Lot"), (t5, .object "Foundrymark$Order"), (tj, .long)]) [0, 1, 2, 3, 4, 6] rfl
      have hDc := hD.sub (ws' := [(h0, .inr (15, [.ref a1, .ref a2, .ref a3, .ref a4, .ref a5, .ref h6, .int 0, .int 0, .int 0, .int 0, .int 0, .int 0, .long 0, .long 0])), (a1, .inl (t1, 5, .inr (.inr (.inr (.inr (fun _ => none)))))), (a2, .inl (t2, 12, .inr (.inr (.inr (.inr (fun _ => none)))))), (a3, .inl (t3, 4, .inr (.inr (.inr (.inr (va_up (va_up (va_up (va_up (fun _ => none) 0 (some s0)) 1 (some s1)) 2 (some s2)) 3 (some s3))))))), (a4, .inl (t4, 90, .inr (.inr (.inr (.inr (fun _ => none)))))), (a5, .inl (t5, 30, .inr (.inr (.inr (.inr (fun _ => none)))))), (h6, .inr (10, [.long 0, .long 0])), (s0, .inr (14, [.int 110, .int 0, .int 0])), (s1, .inr (14, [.int 110, .int 0, .int 0])), (s2, .inr (14, [.int 110, .int 0, .int 0])), (s3, .inr (14, [.int 110, .int 0, .int 0])), (o, .inl (tj, 1, .inr (.inl (fun _ => 0))))]) [0, 1, 2, 3, 4, 5, 6, 7, 8, 9, 10, 17] (by decide) rfl
      have hFc := va_free (wc := [(h0, .inr (15, [.ref a1, .ref a2, .ref a3, .ref a4, .ref a5, .ref h6, .int 0, .int 0, .int 0, .int 0, .int 0, .int 0, .long 0, .long 0])), (a1, .inl (t1, 5, .inr (.inr (.inr (.inr (fun _ => none)))))), (a2, .inl (t2, 12, .inr (.inr (.inr (.inr (fun _ => none)))))), (a3, .inl (t3, 4, .inr (.inr (.inr (.inr (va_up (va_up (va_up (va_up (fun _ => none) 0 (some s0)) 1 (some s1)) 2 (some s2)) 3 (some s3))))))), (a4, .inl (t4, 90, .inr (.inr (.inr (.inr (fun _ => none)))))), (a5, .inl (t5, 30, .inr (.inr (.inr (.inr (fun _ => none)))))), (h6, .inr (10, [.long 0, .long 0])), (s0, .inr (14, [.int 110, .int 0, .int 0])), (s1, .inr (14, [.int 110, .int 0, .int 0])), (s2, .inr (14, [.int 110, .int 0, .int 0])), (s3, .inr (14, [.int 110, .int 0, .int 0])), (o, .inl (tj, 1, .inr (.inl (fun _ => 0))))]) hD hS hA [0, 1, 2, 3, 4, 5, 6, 7, 8, 9, 10, 17] rfl
      refine gJ_i (isC := [0, 1, 2, 3, 4, 5, 6, 7, 8, 9, 10, 17]) (isR := [11, 12, 13, 14, 15, 16, 18]) (wr := [(m0, .inr (20, [.int 0, .ref m1, .ref m2, .ref m3, .ref m4, .int 0, .ref m5, .ref m6, .int 0])), (m1, .inr (4, [.int 0, .ref tE, .int 0])), (m2, .inr (4, [.int 0, .ref tE, .int 0])), (m3, .inr (4, [.int 0, .ref tE, .int 0])), (m4, .inr (4, [.int 0, .ref tE, .int 0])), (m5, .inl (tc, 4, .inl (upd (upd (upd (upd (fun _ => 0) 0 110) 1 110) 2 110) 3 110))), (oD, .inl (td, 1, .inr (.inr (.inr (.inl (fun _ => 0))))))]) (vx_runSW (As := [.ref h0, .int 3, .ref o]) (rest := []) ⟨hx, hb, hml, hown, hta⟩ (c_L_rule_3 l hl0 ) (vx_cwSW 3 hta (gWSW mw454 mw455 mw416 mw453) rfl rfl rfl (by decide +kernel) ⟨Nat.le_of_ble_eq_true rfl, Nat.le_of_ble_eq_true rfl⟩) ⟨gS_blind, fun U hU hW => ⟨rfl, by rw [hU], by rw [hU]; exact hPc, va_K.moved hW.alike hKc, hDc.weaken (fun _ _ _ _ => trivial), hG.call hS hU hW hFc⟩⟩ rfl rfl hl.1 rfl (lv_room (Nat.le_of_ble_eq_true rfl)) dL_law_672 ⟨Nat.le_of_ble_eq_true rfl, Nat.le_of_ble_eq_true rfl⟩) hP hD hS hK hFc rfl rfl (by decide) (by decide) (fun r53 u54 H locs h55 hP hD hS hK => ?_)
      obtain rfl : r53 = 0 := h55
      have hK : va_K D vwCl (tLw t1 t2 t3 t4 t5 tc tj td) s := hK
      have hP : va_P D vwCl [(m0, .inr (20, [.int 0, .ref m1, .ref m2, .ref m3, .ref m4, .int 0, .ref m5, .ref m6, .int 0])), (m1, .inr (4, [.int 0, .ref tE, .int 0])), (m2, .inr (4, [.int 0, .ref tE, .int 0])), (m3, .inr (4, [.int 0, .ref tE, .int 0])), (m4, .inr (4, [.int 0, .ref tE, .int 0])), (m5, .inl (tc, 4, .inl (upd (upd (upd (upd (fun _ => 0) 0 110) 1 110) 2 110) 3 110))), (oD, .inl (td, 1, .inr (.inr (.inr (.inl (fun _ => 0)))))), (o, .inl (tj, 1, .inr (.inl (vp_updL (fun _ => 0) 0 110))))] H := hP
      have hD : va_D A [(m0, .inr (20, [.int 0, .ref m1, .ref m2, .ref m3, .ref m4, .int 0, .ref m5, .ref m6, .int 0])), (m1, .inr (4, [.int 0, .ref tE, .int 0])), (m2, .inr (4, [.int 0, .ref tE, .int 0])), (m3, .inr (4, [.int 0, .ref tE, .int 0])), (m4, .inr (4, [.int 0, .ref tE, .int 0])), (m5, .inl (tc, 4, .inl (upd (upd (upd (upd (fun _ => 0) 0 110) 1 110) 2 110) 3 110))), (oD, .inl (td, 1, .inr (.inr (.inr (.inl (fun _ => 0)))))), (o, .inl (tj, 1, .inr (.inl (vp_updL (fun _ => 0) 0 110))))] := hD
      refine lv_istore (lv' := [(6, .int 0), (5, .int 0), (4, .ref oD), (3, .ref o), (2, .ref m0), (1, .ref h0), (0, .ref b)]) hx hb dL_law_675 hl (by decide) rfl (fun ls hl => ?_)
      refine lv_aload_n hx hb dL_law_677 rfl (lv_at hl 4 rfl) ?_
      refine lv_aload_n hx hb dL_law_678 rfl (lv_at hl 6 rfl) ?_
      refine lv_iload hx hb dL_law_679 (lv_at hl 1 rfl) ?_
      refine lv_iconst (v := 1) hx hb dL_law_681 (by decide) ?_
      refine lv_iadd hx hb dL_law_682 ?_
      refine lv_topi (fun x56 ex56 => ?_)
      obtain rfl : x56 = 1 := ex56.trans (by decide)
      refine va_sld hx hb hX hbl hbA hS (i := 1) (by unfold vp_in; decide) dL_law_683 ?_
      refine W.eq (g2 := F0 m 684 ls [.int (xs 1), .ref m0]) rfl ?_
      rw [h9]
      have hPc := hP.sub (ws' := (wM tE m0 m1 m2 m3 m4 m5 m6 tc 0 0)) [0, 1, 2, 3, 4, 5] rfl
      have hKc := hK.sub (tys' := [(tc, .char)]) [5] rfl
      have hDc := hD.sub (ws' := (wM tE m0 m1 m2 m3 m4 m5 m6 tc 0 0)) [0, 1, 2, 3, 4, 5] (by decide) rfl
      have hFc := va_free (wc := (wM tE m0 m1 m2 m3 m4 m5 m6 tc 0 0)) hD hS hA [0, 1, 2, 3, 4, 5] rfl
      refine gJ_i (isC := [0, 1, 2, 3, 4, 5]) (isR := [6, 7]) (wr := [(oD, .inl (td, 1, .inr (.inr (.inr (.inl (fun _ => 0)))))), (o, .inl (tj, 1, .inr (.inl (vp_updL (fun _ => 0) 0 110))))]) (va_runV (As := [.int 3]) (rest := []) ⟨hx, hb, hml, hown, hta⟩ (c_X15_rule_3 l ) (cwV 1 hta (gWV mw457 mw458 mw459 mw176 mw456) rfl rfl rfl (by decide +kernel) ⟨Nat.le_of_ble_eq_true rfl, Nat.le_of_ble_eq_true rfl⟩) ⟨gS_blind, va_recv hKc hPc (ci := 20) (q0 := 0) rfl rfl, fun U hU hW => ⟨rfl, by rw [hU], by rw [hU]; exact hPc, va_K.moved hW.alike hKc, hDc.weaken (fun _ _ _ _ => trivial), hG.call hS hU hW hFc⟩⟩ rfl rfl hl.1 rfl (lv_room (Nat.le_of_ble_eq_true rfl)) dL_law_684 ⟨Nat.le_of_ble_eq_true rfl, Nat.le_of_ble_eq_true rfl⟩) hP hD hS hK hFc rfl rfl (by decide) (by decide) (fun r57 u58 H locs h59 hP hD hS hK => ?_)
      obtain rfl : r57 = 110 := h59
      have hK : va_K D vwCl (tLw t1 t2 t3 t4 t5 tc tj td) s := hK
      have hP : va_P D vwCl [(oD, .inl (td, 1, .inr (.inr (.inr (.inl (fun _ => 0)))))), (o, .inl (tj, 1, .inr (.inl (vp_updL (fun _ => 0) 0 110)))), (m0, .inr (20, [.int 0, .ref m1, .ref m2, .ref m3, .ref m4, .int 0, .ref m5, .ref m6, .int 0])), (m1, .inr (4, [.int 0, .ref tE, .int 0])), (m2, .inr (4, [.int 0, .ref tE, .int 0])), (m3, .inr (4, [.int 0, .ref tE, .int 0])), (m4, .inr (4, [.int 0, .ref tE, .int 0])), (m5, .inl (tc, 4, .inl (upd (upd (upd (upd (fun _ => 0) 0 110) 1 110) 2 110) 3 110)))] H := hP
      have hD : va_D A [(oD, .inl (td, 1, .inr (.inr (.inr (.inl (fun _ => 0)))))), (o, .inl (tj, 1, .inr (.inl (vp_updL (fun _ => 0) 0 110)))), (m0, .inr (20, [.int 0, .ref m1, .ref m2, .ref m3, .ref m4, .int 0, .ref m5, .ref m6, .int 0])), (m1, .inr (4, [.int 0, .ref tE, .int 0])), (m2, .inr (4, [.int 0, .ref tE, .int 0])), (m3, .inr (4, [.int 0, .ref tE, .int 0])), (m4, .inr (4, [.int 0, .ref tE, .int 0])), (m5, .inl (tc, 4, .inl (upd (upd (upd (upd (fun _ => 0) 0 110) 1 110) 2 110) 3 110)))] := hD
      refine lv_istore (lv' := [(7, .int 110), (6, .int 0), (5, .int 0), (4, .ref oD), (3, .ref o), (2, .ref m0), (1, .ref h0), (0, .ref b)]) hx hb dL_law_687 hl (by decide) rfl (fun ls hl => ?_)
      refine lv_aload_n hx hb dL_law_689 rfl (lv_at hl 5 rfl) ?_
      have hPc := hP.sub (ws' := [(m0, .inr (20, [.int 0, .ref m1, .ref m2, .ref m3, .ref m4, .int 0, .ref m5, .ref m6, .int 0]))]) [2] rfl
      have hKc := hK.sub (tys' := []) [] rfl
      refine vp_callSi (W.runV (As := []) (rest := []) ⟨hx, hb, hml, hown, hta⟩ (c_X15_thrown l ) (cwV 0 hta (gWV mw422 mw423 mw424 mw176 mw421) rfl rfl rfl (by decide +kernel) ⟨Nat.le_of_ble_eq_true rfl, Nat.le_of_ble_eq_true rfl⟩) ⟨gR_blind, va_recv hKc hPc (ci := 20) (q0 := 0) rfl rfl, fun U hU hW => ⟨rfl, by rw [hU]; exact hPc, va_K.moved hW.alike hKc⟩⟩ rfl rfl hl.1 rfl (lv_room (Nat.le_of_ble_eq_true rfl)) dL_law_690 ⟨Nat.le_of_ble_eq_true rfl, Nat.le_of_ble_eq_true rfl⟩) (fun r60 h61 => ?_)
      obtain rfl : r60 = 0 := h61
      refine lv_iload hx hb dL_law_693 (lv_at hl 1 rfl) ?_
      refine lv_icmp_eq (tgt := 700) hx hb dL_law_695 (by decide) (fun c62 => ?_) (fun c62 => ?_)
      · skip
        refine lv_iload hx hb dL_law_700 (lv_at hl 1 rfl) ?_
        refine lv_if_ne (tgt := 717) hx hb dL_law_702 (by decide) (fun c63 => ?_) (fun c63 => ?_)
        · exact absurd c63 (by decide)
        · skip
          refine lv_aload_n hx hb dL_law_705 rfl (lv_at hl 4 rfl) ?_
          refine lv_iconst (v := 0) hx hb dL_law_706 (by decide) ?_
          refine va_lald hx hb hK hP 1 6 rfl rfl (i := 0) (by unfold vp_in; decide) dL_law_707 ?_
          refine W.eq (g2 := F0 m 708 ls [.long 110]) rfl ?_
          refine lv_iload hx hb dL_law_708 (lv_at hl 0 rfl) ?_
          refine lv_i2l (v := 110) hx hb dL_law_710 (by decide) ?_
          refine W.lcmp hx hb dL_law_711 ?_
          refine lv_if_eq (tgt := 717) hx hb dL_law_712 (by decide) (fun c64 => ?_) (fun c64 => ?_)
          · skip
            refine lv_goto (tgt := 2441) hx hb dL_law_717 (by decide) ?_
            exact law_tail l C0 hA2 hS (lv_sub hl [7, 2] rfl) (Nat.le_of_ble_eq_true rfl) (Nat.le_of_ble_eq_true rfl)
          · exact absurd lgc c64
      · exact absurd (by decide) c62

set_option maxHeartbeats 4000000 in
set_option maxRecDepth 100000 in
theorem lc_6 {p : Program} {e : Env} {s : State} {m : MethodId} {below : List Frame} {meth : Method} {c : Code} (l : Launch) (hl0 : l.stackTraces = false) {b : Nat} {xs : Nat → Int32} (C0 : lw_At p s m meth c b 6 xs) {A : Nat → Prop} (hA : ∀ q, s.heap.size ≤ q → A q) (hA2 : ∀ q, A q → s.heap.size ≤ q) {D : va_G} {tE : Nat} {h0 a1 a2 a3 a4 a5 h6 s0 s1 s2 s3 : Nat} {t1 t2 t3 t4 t5 : ClassId} {m0 m1 m2 m3 m4 m5 m6 : Nat} {tc : ClassId} {o oD : Nat} {tj td : ClassId} {H : Heap} {locs : List Loc} {ls : Array Slot} (hK : va_K D vwCl (tLw t1 t2 t3 t4 t5 tc tj td) s) (hG : gP tE A s) (hP : va_P D vwCl (wLw tE h0 a1 a2 a3 a4 a5 h6 s0 s1 s2 s3 m0 m1 m2 m3 m4 m5 m6 o oD t1 t2 t3 t4 t5 tc tj td) H) (hD : va_D A (wLw tE h0 a1 a2 a3 a4 a5 h6 s0 s1 s2 s3 m0 m1 m2 m3 m4 m5 m6 o oD t1 t2 t3 t4 t5 tc tj td)) (hS : va_S A s.heap H locs) (hl : lv_has ls 9 [(5, .int 0), (4, .ref oD), (3, .ref o), (2, .ref m0), (1, .ref h0), (0, .ref b)]) : W p l e room_1 s m #[Value.ref b] below meth c H locs 25 221 (lw_Z below #[Value.ref b] s) (F0 m 720 ls []) := by
  obtain ⟨hx, hb, hr, hml, hown0, hts, hX, hbl, hlocks, hgv⟩ := id C0
  have hta : ∀ w ∈ WA, w.before #[Value.ref b] s = true := fun w h => hts w (WA_in w h)
  have hown : s.vm.findClass "FoundrymarkLaw" = some m.cls := hown0
  have hbA : ¬ A b := fun h => absurd (hA2 b h) (Nat.not_le.mpr hbl)
  refine lv_aload_n hx hb dL_law_720 rfl (lv_at hl 4 rfl) ?_
  refine lv_aload_n hx hb dL_law_721 rfl (lv_at hl 5 rfl) ?_
  refine lv_iload hx hb dL_law_722 (lv_at hl 0 rfl) ?_
  refine lv_iconst (v := 1) hx hb dL_law_724 (by decide) ?_
  refine lv_iadd hx hb dL_law_725 ?_
  refine lv_topi (fun x1 ex1 => ?_)
  obtain rfl : x1 = 1 := ex1.trans (by decide)
  refine va_sld hx hb hX hbl hbA hS (i := 1) (by unfold vp_in; decide) dL_law_726 ?_
  refine W.eq (g2 := F0 m 727 ls [.int (xs 1), .ref h0]) rfl ?_
  refine lv_aload_n hx hb dL_law_727 rfl (lv_at hl 5 rfl) ?_
  refine lv_iload hx hb dL_law_728 (lv_at hl 0 rfl) ?_
  refine lv_iconst (v := 2) hx hb dL_law_730 (by decide) ?_
  refine lv_iadd hx hb dL_law_731 ?_
  refine lv_topi (fun x2 ex2 => ?_)
  obtain rfl : x2 = 2 := ex2.trans (by decide)
  refine va_sld hx hb hX hbl hbA hS (i := 2) (by unfold vp_in; decide) dL_law_732 ?_
  refine W.eq (g2 := F0 m 733 ls [.int (xs 2), .int (xs 1), .ref h0]) rfl ?_
  refine lv_if_eq (tgt := 740) hx hb dL_law_733 (by decide) (fun c3 => ?_) (fun c3 => ?_)
  · skip
    refine lv_iconst (v := 0) hx hb dL_law_740 (by decide) ?_
    refine lv_aload_n hx hb dL_law_741 rfl (lv_at hl 2 rfl) ?_
    have hPc := hP.sub (ws' := (wX h0 a1 a2 a3 a4 a5 h6 s0 s1 s2 s3 t1 t2 t3 t4 t5)) [0, 1, 2, 3, 4, 5, 6, 7, 8, 9, 10] rfl
    have hKc := hK.sub (tys' := (tX t1 t2 t3 t4 t5)) [0, 1, 2, 3, 4] rfl
    have hDc := hD.sub (ws' := (wX h0 a1 a2 a3 a4 a5 h6 s0 s1 s2 s3 t1 t2 t3 t4 t5)) [0, 1, 2, 3, 4, 5, 6, 7, 8, 9, 10] (by decide) rfl
    have hFc := va_free (wc := (wX h0 a1 a2 a3 a4 a5 h6 s0 s1 s2 s3 t1 t2 t3 t4 t5)) hD hS hA [0, 1, 2, 3, 4, 5, 6, 7, 8, 9, 10] rfl
    refine gJ_i (isC := [0, 1, 2, 3, 4, 5, 6, 7, 8, 9, 10]) (isR := [11, 12, 13, 14, 15, 16, 17, 18]) (wr := [(m0, .inr (20, [.int 0, .ref m1, .ref m2, .ref m3, .ref m4, .int 0, .ref m5, .ref m6, .int 0])), (m1, .inr (4, [.int 0, .ref tE, .int 0])), (m2, .inr (4, [.int 0, .ref tE, .int 0])), (m3, .inr (4, [.int 0, .ref tE, .int 0])), (m4, .inr (4, [.int 0, .ref tE, .int 0])), (m5, .inl (tc, 4, .inl (upd (upd (upd (upd (fun _ => 0) 0 110) 1 110) 2 110) 3 110))), (o, .inl (tj, 1, .inr (.inl (fun _ => 0)))), (oD, .inl (td, 1, .inr (.inr (.inr (.inl (fun _ => 0))))))]) (vx_runSW (As := [.ref h0, .int (xs 1), .int 0, .ref o]) (rest := []) ⟨hx, hb, hml, hown, hta⟩ (c_L_hold l hl0 ) (vx_cwSW 4 hta (gWSW mw461 mw462 mw416 mw460) rfl rfl rfl (by decide +kernel) ⟨Nat.le_of_ble_eq_true rfl, Nat.le_of_ble_eq_true rfl⟩) ⟨gS_blind, fun U hU hW => ⟨rfl, by rw [hU], by rw [hU]; exact hPc, va_K.moved hW.alike hKc, hDc.weaken (fun _ _ _ _ => trivial), hG.call hS hU hW hFc⟩⟩ rfl rfl hl.1 rfl (lv_room (Nat.le_of_ble_eq_true rfl)) dL_law_742 ⟨Nat.le_of_ble_eq_true rfl, Nat.le_of_ble_eq_true rfl⟩) hP hD hS hK hFc rfl rfl (by decide) (by decide) (fun r4 u5 H locs h6 hP hD hS hK => ?_)
    obtain rfl : r4 = 1 := h6
    have hK : va_K D vwCl (tLw t1 t2 t3 t4 t5 tc tj td) s := hK
    have hP : va_P D vwCl [(m0, .inr (20, [.int 0, .ref m1, .ref m2, .ref m3, .ref m4, .int 0, .ref m5, .ref m6, .int 0])), (m1, .inr (4, [.int 0, .ref tE, .int 0])), (m2, .inr (4, [.int 0, .ref tE, .int 0])), (m3, .inr (4, [.int 0, .ref tE, .int 0])), (m4, .inr (4, [.int 0, .ref tE, .int 0])), (m5, .inl (tc, 4, .inl (upd (upd (upd (upd (fun _ => 0) 0 110) 1 110) 2 110) 3 110))), (o, .inl (tj, 1, .inr (.inl (fun _ => 0)))), (oD, .inl (td, 1, .inr (.inr (.inr (.inl (fun _ => 0))))))] H := hP
    have hD : va_D A [(m0, .inr (20, [.int 0, .ref m1, .ref m2, .ref m3, .ref m4, .int 0, .ref m5, .ref m6, .int 0])), (m1, .inr (4, [.int 0, .ref tE, .int 0])), (m2, .inr (4, [.int 0, .ref tE, .int 0])), (m3, .inr (4, [.int 0, .ref tE, .int 0])), (m4, .inr (4, [.int 0, .ref tE, .int 0])), (m5, .inl (tc, 4, .inl (upd (upd (upd (upd (fun _ => 0) 0 110) 1 110) 2 110) 3 110))), (o, .inl (tj, 1, .inr (.inl (fun _ => 0)))), (oD, .inl (td, 1, .inr (.inr (.inr (.inl (fun _ => 0))))))] := hD
    refine lv_istore (lv' := [(6, .int 1), (5, .int 0), (4, .ref oD), (3, .ref o), (2, .ref m0), (1, .ref h0), (0, .ref b)]) hx hb dL_law_745 hl (by decide) rfl (fun ls hl => ?_)
    refine lv_aload_n hx hb dL_law_747 rfl (lv_at hl 4 rfl) ?_
    refine lv_aload_n hx hb dL_law_748 rfl (lv_at hl 6 rfl) ?_
    refine lv_iload hx hb dL_law_749 (lv_at hl 1 rfl) ?_
    refine lv_iconst (v := 1) hx hb dL_law_751 (by decide) ?_
    refine lv_iadd hx hb dL_law_752 ?_
    refine lv_topi (fun x7 ex7 => ?_)
    obtain rfl : x7 = 1 := ex7.trans (by decide)
    refine va_sld hx hb hX hbl hbA hS (i := 1) (by unfold vp_in; decide) dL_law_753 ?_
    refine W.eq (g2 := F0 m 754 ls [.int (xs 1), .ref m0]) rfl ?_
    refine lv_aload_n hx hb dL_law_754 rfl (lv_at hl 6 rfl) ?_
    refine lv_iload hx hb dL_law_755 (lv_at hl 1 rfl) ?_
    refine lv_iconst (v := 2) hx hb dL_law_757 (by decide) ?_
    refine lv_iadd hx hb dL_law_758 ?_
    refine lv_topi (fun x8 ex8 => ?_)
    obtain rfl : x8 = 2 := ex8.trans (by decide)
    refine va_sld hx hb hX hbl hbA hS (i := 2) (by unfold vp_in; decide) dL_law_759 ?_
    refine W.eq (g2 := F0 m 760 ls [.int (xs 2), .int (xs 1), .ref m0]) rfl ?_
    refine lv_if_eq (tgt := 767) hx hb dL_law_760 (by decide) (fun c9 => ?_) (fun c9 => ?_)
    · skip
      refine lv_iconst (v := 0) hx hb dL_law_767 (by decide) ?_
      have hPc := hP.sub (ws' := (wM tE m0 m1 m2 m3 m4 m5 m6 tc 0 0)) [0, 1, 2, 3, 4, 5] rfl
      have hKc := hK.sub (tys' := [(tc, .char)]) [5] rfl
      have hDc := hD.sub (ws' := (wM tE m0 m1 m2 m3 m4 m5 m6 tc 0 0)) [0, 1, 2, 3, 4, 5] (by decide) rfl
      have hFc := va_free (wc := (wM tE m0 m1 m2 m3 m4 m5 m6 tc 0 0)) hD hS hA [0, 1, 2, 3, 4, 5] rfl
      refine gJ_i (isC := [0, 1, 2, 3, 4, 5]) (isR := [6, 7]) (wr := [(o, .inl (tj, 1, .inr (.inl (fun _ => 0)))), (oD, .inl (td, 1, .inr (.inr (.inr (.inl (fun _ => 0))))))]) (va_runV (As := [.int (xs 1), .int 0]) (rest := []) ⟨hx, hb, hml, hown, hta⟩ (c_X15_hold l ) (cwV 2 hta (gWV mw464 mw465 mw466 mw176 mw463) rfl rfl rfl (by decide +kernel) ⟨Nat.le_of_ble_eq_true rfl, Nat.le_of_ble_eq_true rfl⟩) ⟨gS_blind, va_recv hKc hPc (ci := 20) (q0 := 0) rfl rfl, fun U hU hW => ⟨rfl, by rw [hU], by rw [hU]; exact hPc, va_K.moved hW.alike hKc, hDc.weaken (fun _ _ _ _ => trivial), hG.call hS hU hW hFc⟩⟩ rfl rfl hl.1 rfl (lv_room (Nat.le_of_ble_eq_true rfl)) dL_law_768 ⟨Nat.le_of_ble_eq_true rfl, Nat.le_of_ble_eq_true rfl⟩) hP hD hS hK hFc rfl rfl (by decide) (by decide) (fun r10 u11 H locs h12 hP hD hS hK => ?_)
      obtain rfl : r10 = 0 := h12
      have hK : va_K D vwCl (tLw t1 t2 t3 t4 t5 tc tj td) s := hK
      have hP : va_P D vwCl [(o, .inl (tj, 1, .inr (.inl (fun _ => 0)))), (oD, .inl (td, 1, .inr (.inr (.inr (.inl (fun _ => 0)))))), (m0, .inr (20, [.int 1, .ref m1, .ref m2, .ref m3, .ref m4, .int 0, .ref m5, .ref m6, .int 0])), (m1, .inr (4, [.int 0, .ref tE, .int 0])), (m2, .inr (4, [.int 0, .ref tE, .int 0])), (m3, .inr (4, [.int 0, .ref tE, .int 0])), (m4, .inr (4, [.int 0, .ref tE, .int 0])), (m5, .inl (tc, 4, .inl (upd (upd (upd (upd (fun _ => 0) 0 110) 1 110) 2 110) 3 110)))] H := hP
      have hD : va_D A [(o, .inl (tj, 1, .inr (.inl (fun _ => 0)))), (oD, .inl (td, 1, .inr (.inr (.inr (.inl (fun _ => 0)))))), (m0, .inr (20, [.int 1, .ref m1, .ref m2, .ref m3, .ref m4, .int 0, .ref m5, .ref m6, .int 0])), (m1, .inr (4, [.int 0, .ref tE, .int 0])), (m2, .inr (4, [.int 0, .ref tE, .int 0])), (m3, .inr (4, [.int 0, .ref tE, .int 0])), (m4, .inr (4, [.int 0, .ref tE, .int 0])), (m5, .inl (tc, 4, .inl (upd (upd (upd (upd (fun _ => 0) 0 110) 1 110) 2 110) 3 110)))] := hD
      refine lv_istore (lv' := [(7, .int 0), (6, .int 1), (5, .int 0), (4, .ref oD), (3, .ref o), (2, .ref m0), (1, .ref h0), (0, .ref b)]) hx hb dL_law_771 hl (by decide) rfl (fun ls hl => ?_)
      refine lv_aload_n hx hb dL_law_773 rfl (lv_at hl 5 rfl) ?_
      have hPc := hP.sub (ws' := [(m0, .inr (20, [.int 1, .ref m1, .ref m2, .ref m3, .ref m4, .int 0, .ref m5, .ref m6, .int 0]))]) [2] rfl
      have hKc := hK.sub (tys' := []) [] rfl
      refine vp_callSi (W.runV (As := []) (rest := []) ⟨hx, hb, hml, hown, hta⟩ (c_X15_thrown l ) (cwV 0 hta (gWV mw422 mw423 mw424 mw176 mw421) rfl rfl rfl (by decide +kernel) ⟨Nat.le_of_ble_eq_true rfl, Nat.le_of_ble_eq_true rfl⟩) ⟨gR_blind, va_recv hKc hPc (ci := 20) (q0 := 0) rfl rfl, fun U hU hW => ⟨rfl, by rw [hU]; exact hPc, va_K.moved hW.alike hKc⟩⟩ rfl rfl hl.1 rfl (lv_room (Nat.le_of_ble_eq_true rfl)) dL_law_774 ⟨Nat.le_of_ble_eq_true rfl, Nat.le_of_ble_eq_true rfl⟩) (fun r13 h14 => ?_)
      obtain rfl : r13 = 1 := h14
      refine lv_iload hx hb dL_law_777 (lv_at hl 1 rfl) ?_
      refine lv_icmp_eq (tgt := 784) hx hb dL_law_779 (by decide) (fun c15 => ?_) (fun c15 => ?_)
      · skip
        refine lv_iload hx hb dL_law_784 (lv_at hl 1 rfl) ?_
        refine lv_if_ne (tgt := 801) hx hb dL_law_786 (by decide) (fun c16 => ?_) (fun c16 => ?_)
        · skip
          refine lv_goto (tgt := 2441) hx hb dL_law_801 (by decide) ?_
          exact law_tail l C0 hA2 hS (lv_sub hl [7, 2] rfl) (Nat.le_of_ble_eq_true rfl) (Nat.le_of_ble_eq_true rfl)
        · exact absurd c16 (by decide)
      · exact absurd (by decide) c15
    · skip
      refine lv_iconst (v := 1) hx hb dL_law_763 (by decide) ?_
      refine lv_goto (tgt := 768) hx hb dL_law_764 (by decide) ?_
      have hPc := hP.sub (ws' := (wM tE m0 m1 m2 m3 m4 m5 m6 tc 0 0)) [0, 1, 2, 3, 4, 5] rfl
      have hKc := hK.sub (tys' := [(tc, .char)]) [5] rfl
      have hDc := hD.sub (ws' := (wM tE m0 m1 m2 m3 m4 m5 m6 tc 0 0)) [0, 1, 2, 3, 4, 5] (by decide) rfl
      have hFc := va_free (wc := (wM tE m0 m1 m2 m3 m4 m5 m6 tc 0 0)) hD hS hA [0, 1, 2, 3, 4, 5] rfl
      refine gJ_i (isC := [0, 1, 2, 3, 4, 5]) (isR := [6, 7]) (wr := [(o, .inl (tj, 1, .inr (.inl (fun _ => 0)))), (oD, .inl (td, 1, .inr (.inr (.inr (.inl (fun _ => 0))))))]) (va_runV (As := [.int (xs 1), .int 1]) (rest := []) ⟨hx, hb, hml, hown, hta⟩ (c_X15_hold l ) (cwV 2 hta (gWV mw464 mw465 mw466 mw176 mw463) rfl rfl rfl (by decide +kernel) ⟨Nat.le_of_ble_eq_true rfl, Nat.le_of_ble_eq_true rfl⟩) ⟨gS_blind, va_recv hKc hPc (ci := 20) (q0 := 0) rfl rfl, fun U hU hW => ⟨rfl, by rw [hU], by rw [hU]; exact hPc, va_K.moved hW.alike hKc, hDc.weaken (fun _ _ _ _ => trivial), hG.call hS hU hW hFc⟩⟩ rfl rfl hl.1 rfl (lv_room (Nat.le_of_ble_eq_true rfl)) dL_law_768 ⟨Nat.le_of_ble_eq_true rfl, Nat.le_of_ble_eq_true rfl⟩) hP hD hS hK hFc rfl rfl (by decide) (by decide) (fun r17 u18 H locs h19 hP hD hS hK => ?_)
      obtain rfl : r17 = 0 := h19
      have hK : va_K D vwCl (tLw t1 t2 t3 t4 t5 tc tj td) s := hK
      have hP : va_P D vwCl [(o, .inl (tj, 1, .inr (.inl (fun _ => 0)))), (oD, .inl (td, 1, .inr (.inr (.inr (.inl (fun _ => 0)))))), (m0, .inr (20, [.int 1, .ref m1, .ref m2, .ref m3, .ref m4, .int 0, .ref m5, .ref m6, .int 0])), (m1, .inr (4, [.int 0, .ref tE, .int 0])), (m2, .inr (4, [.int 0, .ref tE, .int 0])), (m3, .inr (4, [.int 0, .ref tE, .int 0])), (m4, .inr (4, [.int 0, .ref tE, .int 0])), (m5, .inl (tc, 4, .inl (upd (upd (upd (upd (fun _ => 0) 0 110) 1 110) 2 110) 3 110)))] H := hP
      have hD : va_D A [(o, .inl (tj, 1, .inr (.inl (fun _ => 0)))), (oD, .inl (td, 1, .inr (.inr (.inr (.inl (fun _ => 0)))))), (m0, .inr (20, [.int 1, .ref m1, .ref m2, .ref m3, .ref m4, .int 0, .ref m5, .ref m6, .int 0])), (m1, .inr (4, [.int 0, .ref tE, .int 0])), (m2, .inr (4, [.int 0, .ref tE, .int 0])), (m3, .inr (4, [.int 0, .ref tE, .int 0])), (m4, .inr (4, [.int 0, .ref tE, .int 0])), (m5, .inl (tc, 4, .inl (upd (upd (upd (upd (fun _ => 0) 0 110) 1 110) 2 110) 3 110)))] := hD
      refine lv_istore (lv' := [(7, .int 0), (6, .int 1), (5, .int 0), (4, .ref oD), (3, .ref o), (2, .ref m0), (1, .ref h0), (0, .ref b)]) hx hb dL_law_771 hl (by decide) rfl (fun ls hl => ?_)
      refine lv_aload_n hx hb dL_law_773 rfl (lv_at hl 5 rfl) ?_
      have hPc := hP.sub (ws' := [(m0, .inr (20, [.int 1, .ref m1, .ref m2, .ref m3, .ref m4, .int 0, .ref m5, .ref m6, .int 0]))]) [2] rfl
      have hKc := hK.sub (tys' := []) [] rfl
      refine vp_callSi (W.runV (As := []) (rest := []) ⟨hx, hb, hml, hown, hta⟩ (c_X15_thrown l ) (cwV 0 hta (gWV mw422 mw423 mw424 mw176 mw421) rfl rfl rfl (by decide +kernel) ⟨Nat.le_of_ble_eq_true rfl, Nat.le_of_ble_eq_true rfl⟩) ⟨gR_blind, va_recv hKc hPc (ci := 20) (q0 := 0) rfl rfl, fun U hU hW => ⟨rfl, by rw [hU]; exact hPc, va_K.moved hW.alike hKc⟩⟩ rfl rfl hl.1 rfl (lv_room (Nat.le_of_ble_eq_true rfl)) dL_law_774 ⟨Nat.le_of_ble_eq_true rfl, Nat.le_of_ble_eq_true rfl⟩) (fun r20 h21 => ?_)
      obtain rfl : r20 = 1 := h21
      refine lv_iload hx hb dL_law_777 (lv_at hl 1 rfl) ?_
      refine lv_icmp_eq (tgt := 784) hx hb dL_law_779 (by decide) (fun c22 => ?_) (fun c22 => ?_)
      · skip
        refine lv_iload hx hb dL_law_784 (lv_at hl 1 rfl) ?_
        refine lv_if_ne (tgt := 801) hx hb dL_law_786 (by decide) (fun c23 => ?_) (fun c23 => ?_)
        · skip
          refine lv_goto (tgt := 2441) hx hb dL_law_801 (by decide) ?_
          exact law_tail l C0 hA2 hS (lv_sub hl [7, 2] rfl) (Nat.le_of_ble_eq_true rfl) (Nat.le_of_ble_eq_true rfl)
        · exact absurd c23 (by decide)
      · exact absurd (by decide) c22
  · skip
    refine lv_iconst (v := 1) hx hb dL_law_736 (by decide) ?_
    refine lv_goto (tgt := 741) hx hb dL_law_737 (by decide) ?_
    refine lv_aload_n hx hb dL_law_741 rfl (lv_at hl 2 rfl) ?_
    have hPc := hP.sub (ws' := (wX h0 a1 a2 a3 a4 a5 h6 s0 s1 s2 s3 t1 t2 t3 t4 t5)) [0, 1, 2, 3, 4, 5, 6, 7, 8, 9, 10] rfl
    have hKc := hK.sub (tys' := (tX t1 t2 t3 t4 t5)) [0, 1, 2, 3, 4] rfl
    have hDc := hD.sub (ws' := (wX h0 a1 a2 a3 a4 a5 h6 s0 s1 s2 s3 t1 t2 t3 t4 t5)) [0, 1, 2, 3, 4, 5, 6, 7, 8, 9, 10] (by decide) rfl
    have hFc := va_free (wc := (wX h0 a1 a2 a3 a4 a5 h6 s0 s1 s2 s3 t1 t2 t3 t4 t5)) hD hS hA [0, 1, 2, 3, 4, 5, 6, 7, 8, 9, 10] rfl
    refine gJ_i (isC := [0, 1, 2, 3, 4, 5, 6, 7, 8, 9, 10]) (isR := [11, 12, 13, 14, 15, 16, 17, 18]) (wr := [(m0, .inr (20, [.int 0, .ref m1, .ref m2, .ref m3, .ref m4, .int 0, .ref m5, .ref m6, .int 0])), (m1, .inr (4, [.int 0, .ref tE, .int 0])), (m2, .inr (4, [.int 0, .ref tE, .int 0])), (m3, .inr (4, [.int 0, .ref tE, .int 0])), (m4, .inr (4, [.int 0, .ref tE, .int 0])), (m5, .inl (tc, 4, .inl (upd (upd (upd (upd (fun _ => 0) 0 110) 1 110) 2 110) 3 110))), (o, .inl (tj, 1, .inr (.inl (fun _ => 0)))), (oD, .inl (td, 1, .inr (.inr (.inr (.inl (fun _ => 0))))))]) (vx_runSW (As := [.ref h0, .int (xs 1), .int 1, .ref o]) (rest := []) ⟨hx, hb, hml, hown, hta⟩ (c_L_hold l hl0 ) (vx_cwSW 4 hta (gWSW mw461 mw462 mw416 mw460) rfl rfl rfl (by decide +kernel) ⟨Nat.le_of_ble_eq_true rfl, Nat.le_of_ble_eq_true rfl⟩) ⟨gS_blind, fun U hU hW => ⟨rfl, by rw [hU], by rw [hU]; exact hPc, va_K.moved hW.alike hKc, hDc.weaken (fun _ _ _ _ => trivial), hG.call hS hU hW hFc⟩⟩ rfl rfl hl.1 rfl (lv_room (Nat.le_of_ble_eq_true rfl)) dL_law_742 ⟨Nat.le_of_ble_eq_true rfl, Nat.le_of_ble_eq_true rfl⟩) hP hD hS hK hFc rfl rfl (by decide) (by decide) (fun r24 u25 H locs h26 hP hD hS hK => ?_)
    obtain rfl : r24 = 1 := h26
    have hK : va_K D vwCl (tLw t1 t2 t3 t4 t5 tc tj td) s := hK
    have hP : va_P D vwCl [(m0, .inr (20, [.int 0, .ref m1, .ref m2, .ref m3, .ref m4, .int 0, .ref m5, .ref m6, .int 0])), (m1, .inr (4, [.int 0, .ref tE, .int 0])), (m2, .inr (4, [.int 0, .ref tE, .int 0])), (m3, .inr (4, [.int 0, .ref tE, .int 0])), (m4, .inr (4, [.int 0, .ref tE, .int 0])), (m5, .inl (tc, 4, .inl (upd (upd (upd (upd (fun _ => 0) 0 110) 1 110) 2 110) 3 110))), (o, .inl (tj, 1, .inr (.inl (fun _ => 0)))), (oD, .inl (td, 1, .inr (.inr (.inr (.inl (fun _ => 0))))))] H := hP
    have hD : va_D A [(m0, .inr (20, [.int 0, .ref m1, .ref m2, .ref m3, .ref m4, .int 0, .ref m5, .ref m6, .int 0])), (m1, .inr (4, [.int 0, .ref tE, .int 0])), (m2, .inr (4, [.int 0, .ref tE, .int 0])), (m3, .inr (4, [.int 0, .ref tE, .int 0])), (m4, .inr (4, [.int 0, .ref tE, .int 0])), (m5, .inl (tc, 4, .inl (upd (upd (upd (upd (fun _ => 0) 0 110) 1 110) 2 110) 3 110))), (o, .inl (tj, 1, .inr (.inl (fun _ => 0)))), (oD, .inl (td, 1, .inr (.inr (.inr (.inl (fun _ => 0))))))] := hD
    refine lv_istore (lv' := [(6, .int 1), (5, .int 0), (4, .ref oD), (3, .ref o), (2, .ref m0), (1, .ref h0), (0, .ref b)]) hx hb dL_law_745 hl (by decide) rfl (fun ls hl => ?_)
    refine lv_aload_n hx hb dL_law_747 rfl (lv_at hl 4 rfl) ?_
    refine lv_aload_n hx hb dL_law_748 rfl (lv_at hl 6 rfl) ?_
    refine lv_iload hx hb dL_law_749 (lv_at hl 1 rfl) ?_
    refine lv_iconst (v := 1) hx hb dL_law_751 (by decide) ?_
    refine lv_iadd hx hb dL_law_752 ?_
    refine lv_topi (fun x27 ex27 => ?_)
    obtain rfl : x27 = 1 := ex27.trans (by decide)
    refine va_sld hx hb hX hbl hbA hS (i := 1) (by unfold vp_in; decide) dL_law_753 ?_
    refine W.eq (g2 := F0 m 754 ls [.int (xs 1), .ref m0]) rfl ?_
    refine lv_aload_n hx hb dL_law_754 rfl (lv_at hl 6 rfl) ?_
    refine lv_iload hx hb dL_law_755 (lv_at hl 1 rfl) ?_
    refine lv_iconst (v := 2) hx hb dL_law_757 (by decide) ?_
    refine lv_iadd hx hb dL_law_758 ?_
    refine lv_topi (fun x28 ex28 => ?_)
    obtain rfl : x28 = 2 := ex28.trans (by decide)
    refine va_sld hx hb hX hbl hbA hS (i := 2) (by unfold vp_in; decide) dL_law_759 ?_
    refine W.eq (g2 := F0 m 760 ls [.int (xs 2), .int (xs 1), .ref m0]) rfl ?_
    refine lv_if_eq (tgt := 767) hx hb dL_law_760 (by decide) (fun c29 => ?_) (fun c29 => ?_)
    · skip
      refine lv_iconst (v := 0) hx hb dL_law_767 (by decide) ?_
      have hPc := hP.sub (ws' := (wM tE m0 m1 m2 m3 m4 m5 m6 tc 0 0)) [0, 1, 2, 3, 4, 5] rfl
      have hKc := hK.sub (tys' := [(tc, .char)]) [5] rfl
      have hDc := hD.sub (ws' := (wM tE m0 m1 m2 m3 m4 m5 m6 tc 0 0)) [0, 1, 2, 3, 4, 5] (by decide) rfl
      have hFc := va_free (wc := (wM tE m0 m1 m2 m3 m4 m5 m6 tc 0 0)) hD hS hA [0, 1, 2, 3, 4, 5] rfl
      refine gJ_i (isC := [0, 1, 2, 3, 4, 5]) (isR := [6, 7]) (wr := [(o, .inl (tj, 1, .inr (.inl (fun _ => 0)))), (oD, .inl (td, 1, .inr (.inr (.inr (.inl (fun _ => 0))))))]) (va_runV (As := [.int (xs 1), .int 0]) (rest := []) ⟨hx, hb, hml, hown, hta⟩ (c_X15_hold l ) (cwV 2 hta (gWV mw464 mw465 mw466 mw176 mw463) rfl rfl rfl (by decide +kernel) ⟨Nat.le_of_ble_eq_true rfl, Nat.le_of_ble_eq_true rfl⟩) ⟨gS_blind, va_recv hKc hPc (ci := 20) (q0 := 0) rfl rfl, fun U hU hW => ⟨rfl, by rw [hU], by rw [hU]; exact hPc, va_K.moved hW.alike hKc, hDc.weaken (fun _ _ _ _ => trivial), hG.call hS hU hW hFc⟩⟩ rfl rfl hl.1 rfl (lv_room (Nat.le_of_ble_eq_true rfl)) dL_law_768 ⟨Nat.le_of_ble_eq_true rfl, Nat.le_of_ble_eq_true rfl⟩) hP hD hS hK hFc rfl rfl (by decide) (by decide) (fun r30 u31 H locs h32 hP hD hS hK => ?_)
      obtain rfl : r30 = 0 := h32
      have hK : va_K D vwCl (tLw t1 t2 t3 t4 t5 tc tj td) s := hK
      have hP : va_P D vwCl [(o, .inl (tj, 1, .inr (.inl (fun _ => 0)))), (oD, .inl (td, 1, .inr (.inr (.inr (.inl (fun _ => 0)))))), (m0, .inr (20, [.int 1, .ref m1, .ref m2, .ref m3, .ref m4, .int 0, .ref m5, .ref m6, .int 0])), (m1, .inr (4, [.int 0, .ref tE, .int 0])), (m2, .inr (4, [.int 0, .ref tE, .int 0])), (m3, .inr (4, [.int 0, .ref tE, .int 0])), (m4, .inr (4, [.int 0, .ref tE, .int 0])), (m5, .inl (tc, 4, .inl (upd (upd (upd (upd (fun _ => 0) 0 110) 1 110) 2 110) 3 110)))] H := hP
      have hD : va_D A [(o, .inl (tj, 1, .inr (.inl (fun _ => 0)))), (oD, .inl (td, 1, .inr (.inr (.inr (.inl (fun _ => 0)))))), (m0, .inr (20, [.int 1, .ref m1, .ref m2, .ref m3, .ref m4, .int 0, .ref m5, .ref m6, .int 0])), (m1, .inr (4, [.int 0, .ref tE, .int 0])), (m2, .inr (4, [.int 0, .ref tE, .int 0])), (m3, .inr (4, [.int 0, .ref tE, .int 0])), (m4, .inr (4, [.int 0, .ref tE, .int 0])), (m5, .inl (tc, 4, .inl (upd (upd (upd (upd (fun _ => 0) 0 110) 1 110) 2 110) 3 110)))] := hD
      refine lv_istore (lv' := [(7, .int 0), (6, .int 1), (5, .int 0), (4, .ref oD), (3, .ref o), (2, .ref m0), (1, .ref h0), (0, .ref b)]) hx hb dL_law_771 hl (by decide) rfl (fun ls hl => ?_)
      refine lv_aload_n hx hb dL_law_773 rfl (lv_at hl 5 rfl) ?_
      have hPc := hP.sub (ws' := [(m0, .inr (20, [.int 1, .ref m1, .ref m2, .ref m3, .ref m4, .int 0, .ref m5, .ref m6, .int 0]))]) [2] rfl
      have hKc := hK.sub (tys' := []) [] rfl
      refine vp_callSi (W.runV (As := []) (rest := []) ⟨hx, hb, hml, hown, hta⟩ (c_X15_thrown l ) (cwV 0 hta (gWV mw422 mw423 mw424 mw176 mw421) rfl rfl rfl (by decide +kernel) ⟨Nat.le_of_ble_eq_true rfl, Nat.le_of_ble_eq_true rfl⟩) ⟨gR_blind, va_recv hKc hPc (ci := 20) (q0 := 0) rfl rfl, fun U hU hW => ⟨rfl, by rw [hU]; exact hPc, va_K.moved hW.alike hKc⟩⟩ rfl rfl hl.1 rfl (lv_room (Nat.le_of_ble_eq_true rfl)) dL_law_774 ⟨Nat.le_of_ble_eq_true rfl, Nat.le_of_ble_eq_true rfl⟩) (fun r33 h34 => ?_)
      obtain rfl : r33 = 1 := h34
      refine lv_iload hx hb dL_law_777 (lv_at hl 1 rfl) ?_
      refine lv_icmp_eq (tgt := 784) hx hb dL_law_779 (by decide) (fun c35 => ?_) (fun c35 => ?_)
      · skip
        refine lv_iload hx hb dL_law_784 (lv_at hl 1 rfl) ?_
        refine lv_if_ne (tgt := 801) hx hb dL_law_786 (by decide) (fun c36 => ?_) (fun c36 => ?_)
        · skip
          refine lv_goto (tgt := 2441) hx hb dL_law_801 (by decide) ?_
          exact law_tail l C0 hA2 hS (lv_sub hl [7, 2] rfl) (Nat.le_of_ble_eq_true rfl) (Nat.le_of_ble_eq_true rfl)
        · exact absurd c36 (by decide)
      · exact absurd (by decide) c35
    · skip
      refine lv_iconst (v := 1) hx hb dL_law_763 (by decide) ?_
      refine lv_goto (tgt := 768) hx hb dL_law_764 (by decide) ?_
      have hPc := hP.sub (ws' := (wM tE m0 m1 m2 m3 m4 m5 m6 tc 0 0)) [0, 1, 2, 3, 4, 5] rfl
      have hKc := hK.sub (tys' := [(tc, .char)]) [5] rfl
      have hDc := hD.sub (ws' := (wM tE m0 m1 m2 m3 m4 m5 m6 tc 0 0)) [0, 1, 2, 3, 4, 5] (by decide) rfl
      have hFc := va_free (wc := (wM tE m0 m1 m2 m3 m4 m5 m6 tc 0 0)) hD hS hA [0, 1, 2, 3, 4, 5] rfl
      refine gJ_i (isC := [0, 1, 2, 3, 4, 5]) (isR := [6, 7]) (wr := [(o, .inl (tj, 1, .inr (.inl (fun _ => 0)))), (oD, .inl (td, 1, .inr (.inr (.inr (.inl (fun _ => 0))))))]) (va_runV (As := [.int (xs 1), .int 1]) (rest := []) ⟨hx, hb, hml, hown, hta⟩ (c_X15_hold l ) (cwV 2 hta (gWV mw464 mw465 mw466 mw176 mw463) rfl rfl rfl (by decide +kernel) ⟨Nat.le_of_ble_eq_true rfl, Nat.le_of_ble_eq_true rfl⟩) ⟨gS_blind, va_recv hKc hPc (ci := 20) (q0 := 0) rfl rfl, fun U hU hW => ⟨rfl, by rw [hU], by rw [hU]; exact hPc, va_K.moved hW.alike hKc, hDc.weaken (fun _ _ _ _ => trivial), hG.call hS hU hW hFc⟩⟩ rfl rfl hl.1 rfl (lv_room (Nat.le_of_ble_eq_true rfl)) dL_law_768 ⟨Nat.le_of_ble_eq_true rfl, Nat.le_of_ble_eq_true rfl⟩) hP hD hS hK hFc rfl rfl (by decide) (by decide) (fun r37 u38 H locs h39 hP hD hS hK => ?_)
      obtain rfl : r37 = 0 := h39
      have hK : va_K D vwCl (tLw t1 t2 t3 t4 t5 tc tj td) s := hK
      have hP : va_P D vwCl [(o, .inl (tj, 1, .inr (.inl (fun _ => 0)))), (oD, .inl (td, 1, .inr (.inr (.inr (.inl (fun _ => 0)))))), (m0, .inr (20, [.int 1, .ref m1, .ref m2, .ref m3, .ref m4, .int 0, .ref m5, .ref m6, .int 0])), (m1, .inr (4, [.int 0, .ref tE, .int 0])), (m2, .inr (4, [.int 0, .ref tE, .int 0])), (m3, .inr (4, [.int 0, .ref tE, .int 0])), (m4, .inr (4, [.int 0, .ref tE, .int 0])), (m5, .inl (tc, 4, .inl (upd (upd (upd (upd (fun _ => 0) 0 110) 1 110) 2 110) 3 110)))] H := hP
      have hD : va_D A [(o, .inl (tj, 1, .inr (.inl (fun _ => 0)))), (oD, .inl (td, 1, .inr (.inr (.inr (.inl (fun _ => 0)))))), (m0, .inr (20, [.int 1, .ref m1, .ref m2, .ref m3, .ref m4, .int 0, .ref m5, .ref m6, .int 0])), (m1, .inr (4, [.int 0, .ref tE, .int 0])), (m2, .inr (4, [.int 0, .ref tE, .int 0])), (m3, .inr (4, [.int 0, .ref tE, .int 0])), (m4, .inr (4, [.int 0, .ref tE, .int 0])), (m5, .inl (tc, 4, .inl (upd (upd (upd (upd (fun _ => 0) 0 110) 1 110) 2 110) 3 110)))] := hD
      refine lv_istore (lv' := [(7, .int 0), (6, .int 1), (5, .int 0), (4, .ref oD), (3, .ref o), (2, .ref m0), (1, .ref h0), (0, .ref b)]) hx hb dL_law_771 hl (by decide) rfl (fun ls hl => ?_)
      refine lv_aload_n hx hb dL_law_773 rfl (lv_at hl 5 rfl) ?_
      have hPc := hP.sub (ws' := [(m0, .inr (20, [.int 1, .ref m1, .ref m2, .ref m3, .ref m4, .int 0, .ref m5, .ref m6, .int 0]))]) [2] rfl
      have hKc := hK.sub (tys' := []) [] rfl
      refine vp_callSi (W.runV (As := []) (rest := []) ⟨hx, hb, hml, hown, hta⟩ (c_X15_thrown l ) (cwV 0 hta (gWV mw422 mw423 mw424 mw176 mw421) rfl rfl rfl (by decide +kernel) ⟨Nat.le_of_ble_eq_true rfl, Nat.le_of_ble_eq_true rfl⟩) ⟨gR_blind, va_recv hKc hPc (ci := 20) (q0 := 0) rfl rfl, fun U hU hW => ⟨rfl, by rw [hU]; exact hPc, va_K.moved hW.alike hKc⟩⟩ rfl rfl hl.1 rfl (lv_room (Nat.le_of_ble_eq_true rfl)) dL_law_774 ⟨Nat.le_of_ble_eq_true rfl, Nat.le_of_ble_eq_true rfl⟩) (fun r40 h41 => ?_)
      obtain rfl : r40 = 1 := h41
      refine lv_iload hx hb dL_law_777 (lv_at hl 1 rfl) ?_
      refine lv_icmp_eq (tgt := 784) hx hb dL_law_779 (by decide) (fun c42 => ?_) (fun c42 => ?_)
      · skip
        refine lv_iload hx hb dL_law_784 (lv_at hl 1 rfl) ?_
        refine lv_if_ne (tgt := 801) hx hb dL_law_786 (by decide) (fun c43 => ?_) (fun c43 => ?_)
        · skip
          refine lv_goto (tgt := 2441) hx hb dL_law_801 (by decide) ?_
          exact law_tail l C0 hA2 hS (lv_sub hl [7, 2] rfl) (Nat.le_of_ble_eq_true rfl) (Nat.le_of_ble_eq_true rfl)
        · exact absurd c43 (by decide)
      · exact absurd (by decide) c42
