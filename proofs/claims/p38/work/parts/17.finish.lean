/-! noteSources, finish (made by wip/gen/spec_g.py) -/
def ns1 (S : St) (o i j : Nat) (x : IJP) : IJP := if j < sN S 2 0 then (if sP (sM S x) o j ≤ 0 then x else sA (sAddW (sM S x) 8 i j)) else x
def ns1L (S : St) (o i j : Nat) : IJP := it (ns1 S o i) j (sA S)
theorem ns1L_s (S : St) (o i j : Nat) : ns1L S o i (j + 1) = ns1 S o i j (ns1L S o i j) := rfl
def ns2 (S : St) (i j : Nat) (x : IJP) : IJP := if j < sN S 2 0 then (if nsM (sM S x) 8 i j = true then sA (sAdd (sM S x) 9 j i) else x) else x
def ns2L (S : St) (o i j : Nat) : IJP := it (ns2 S i) j (ns1L S o i 90)
theorem ns2L_s (S : St) (o i j : Nat) : ns2L S o i (j + 1) = ns2 S i j (ns2L S o i j) := rfl
/-- what was taken for an order is noted as what its lot is made of -/
abbrev nsS (S : St) (o i : Nat) : St := sM S (ns2L S o i 90)
set_option maxHeartbeats 4000000 in
set_option maxRecDepth 100000 in
theorem c_X10_noteSources (l : Launch) {D : va_G} {tA : Nat → ClassId} {S : St} {ad : Nat → Nat → Nat} {L : List Nat} {f : Nat → va_E} {sz : Nat} (hR : Rep tA S ad L f) (hW : WT S) {o i : Nat} (ho : o < sN S 3 0) (hi : i < sN S 2 0) : Met l yX10_noteSources (wsC yX10_noteSources cX10_noteSources 7 none) ({ frames := 2, cells := 0, slots := 0, locals := 42 }) (va_Pc [.ref (ad 0 0), .ref (ad 11 o), .ref (ad 7 i)] (gZ D tA L f sz)) (va_Qv (fun (u : gU) => nsS S o i = u.1 ∧ ad = u.2.1 ∧ L = u.2.2.1) (gE D tA (va_A (va_pl L f) sz)) (va_A (va_pl L f) sz)) 0 0 (va_A (va_pl L f) sz) := by
  refine Met.ofW (cc := cX10_noteSources) (maxL := 7) (ret := none) (by decide) rfl ?_
  intro p e s m args below meth c s₁ B hml hv
  obtain ⟨rfl, hsz, hP, hK, hD0⟩ := hv
  have hx := B.exec
  have hb := B.bytes
  have hr := B.returns
  have hts := atoms_spec (ws := wsC yX10_noteSources cX10_noteSources 7 none) B.pre
  have hta : ∀ w ∈ WA, w.before _ s = true := fun w h => hts w (List.mem_cons_of_mem _ h)
  have hown : s.vm.findClass RX10 = some m.cls := findClass_of_methodNamed B.named
  have hlocks := B.notSynchronized
  subst hsz
  have hD : va_D (va_A (va_pl L f) s.heap.size) (va_pl L f) := hD0.self (sz := s.heap.size)
  generalize hAe : va_A (va_pl L f) s.heap.size = A at hD ⊢
  have hA : ∀ q : Nat, s.heap.size ≤ q → A q := fun q h => by rw [← hAe]; exact Or.inr h
  have hS : va_S A s.heap s.heap [] := va_S.rf
  have hP : va_P D vwCl (va_pl L f) s.heap := hP
  have hl := lv_entry ([.ref (ad 0 0), .ref (ad 11 o), .ref (ad 7 i)]) (n := 7) (Nat.le_of_ble_eq_true rfl)
  rw [lg_entry_eq]
  generalize (lg_sl ([.ref (ad 0 0), .ref (ad 11 o), .ref (ad 7 i)]) ++ List.replicate (7 - (lg_sl ([.ref (ad 0 0), .ref (ad 11 o), .ref (ad 7 i)])).length) Slot.unset).toArray = ls at hl ⊢
  have hl : lv_has ls 7 [(0, .ref (ad 0 0)), (1, .ref (ad 11 o)), (2, .ref (ad 7 i))] := hl
  refine lv_aload_n hx hb dX10_noteSources_0 rfl (lv_at hl 0 rfl) ?_
  refine get_lots_0 hx hb hta iwX10 hown hK hP hR (rfl : (0 : Nat) = 0) (hta _ mw99) dX10_noteSources_1 ?_
  refine lv_astore_n (lv' := [(3, .ref (ad 18 0)), (0, .ref (ad 0 0)), (1, .ref (ad 11 o)), (2, .ref (ad 7 i))]) hx hb dX10_noteSources_4 rfl hl (by decide) rfl (fun ls hl => ?_)
  refine lv_aload_n hx hb dX10_noteSources_5 rfl (lv_at hl 0 rfl) ?_
  refine len_lots hx hb hK hP hR (rfl : (0 : Nat) = 0) dX10_noteSources_6 ?_
  refine lv_istore (lv' := [(4, .int 90), (3, .ref (ad 18 0)), (0, .ref (ad 0 0)), (1, .ref (ad 11 o)), (2, .ref (ad 7 i))]) hx hb dX10_noteSources_7 hl (by decide) rfl (fun ls hl => ?_)
  refine lv_iconst (v := 0) hx hb dX10_noteSources_9 (by decide) ?_
  refine lv_istore (lv' := [(5, .int 0), (4, .int 90), (3, .ref (ad 18 0)), (0, .ref (ad 0 0)), (1, .ref (ad 11 o)), (2, .ref (ad 7 i))]) hx hb dX10_noteSources_10 hl (by decide) rfl (fun ls hl => ?_)
  refine loop_g (σ := Heap × List Loc × (Nat → va_E) × Array Slot) (Wg := fun z => W p l e _ s m _ below meth c z.1 z.2.1 _ _ _ (F0 m 12 z.2.2.2 [])) 90 (fun j1 z => va_P D vwCl (va_pl L z.2.2.1) z.1 ∧ va_D A (va_pl L z.2.2.1) ∧ va_S A s.heap z.1 z.2.1 ∧ Rep tA (sM S (ns1L S o i j1)) ad L z.2.2.1 ∧ lv_has z.2.2.2 7 [(0, .ref (ad 0 0)), (1, .ref (ad 11 o)), (2, .ref (ad 7 i)), (3, .ref (ad 18 0)), (4, .int 90), (5, .int (nI j1))]) (fun j1 hj2 ih3 z hz => ?_) (fun z hz => ?_) (_, _, f, ls) ⟨hP, hD, hS, hR, lv_sub hl [3, 4, 5, 2, 1, 0] rfl⟩
  · skip
    obtain ⟨H, locs, f, ls⟩ := z
    obtain ⟨hP, hD, hS, hR, hl⟩ := hz
    dsimp only at hP hD hS hR hl ⊢
    refine lv_iload hx hb dX10_noteSources_12 (lv_at hl 5 rfl) ?_
    refine lv_iload hx hb dX10_noteSources_14 (lv_at hl 4 rfl) ?_
    refine lv_icmp_ge (tgt := 54) hx hb dX10_noteSources_16 (by decide) (fun c4 => ?_) (fun c4 => ?_)
    · exact absurd c4 (nI_ge (a := j1) (b := 90) hj2 (by decide))
    · skip
      refine lv_aload_n hx hb dX10_noteSources_19 rfl (lv_at hl 3 rfl) ?_
      refine lv_iload hx hb dX10_noteSources_20 (lv_at hl 5 rfl) ?_
      refine ldn_lots hx hb hK hP hR (rfl : (0 : Nat) = 0) hj2 dX10_noteSources_22 (fun h5 => ?_) (fun h5 => ?_)
      · skip
        refine lv_astore (lv' := [(6, .ref (ad 7 j1)), (0, .ref (ad 0 0)), (1, .ref (ad 11 o)), (2, .ref (ad 7 i)), (3, .ref (ad 18 0)), (4, .int 90), (5, .int (nI j1))]) hx hb dX10_noteSources_23 hl (by decide) rfl (fun ls hl => ?_)
        refine lv_aload hx hb dX10_noteSources_25 (lv_at hl 0 rfl) ?_
        refine lv_ifnull hx hb dX10_noteSources_27 ?_
        refine lv_aload_n hx hb dX10_noteSources_30 rfl (lv_at hl 2 rfl) ?_
        refine lv_aload hx hb dX10_noteSources_31 (lv_at hl 0 rfl) ?_
        obtain ⟨q6, e7⟩ := cell_11 hR ho
        refine gro_i (ci := 9) (As := [.ref (ad 7 j1)]) (rest := []) ⟨hx, hb, hml, hown, hta⟩ (c_X7_piecesOf l hR hW h5 ho) (cwV 1 hta (gWV mw170 mw171 mw172 mw59 mw173) rfl rfl rfl (by decide +kernel) ⟨Nat.le_of_ble_eq_true rfl, Nat.le_of_ble_eq_true rfl⟩) hK hP hD rfl e7 rfl hl.1 rfl (Nat.le_of_ble_eq_true rfl) dX10_noteSources_33 ⟨Nat.zero_le _, Nat.zero_le _⟩ (fun r8 c9 => ?_)
        obtain rfl := c9
        refine lv_if_le (tgt := 48) hx hb dX10_noteSources_36 (by decide) (fun c10 => ?_) (fun c10 => ?_)
        · skip
          refine lv_iinc (v := nI (j1 + 1)) (lv' := [(5, .int (nI (j1 + 1))), (6, .ref (ad 7 j1)), (0, .ref (ad 0 0)), (1, .ref (ad 11 o)), (2, .ref (ad 7 i)), (3, .ref (ad 18 0)), (4, .int 90)]) hx hb dX10_noteSources_48 hl (k := 6) rfl (nI_1 _) (by decide) rfl (fun ls hl => ?_)
          refine lv_goto (tgt := 12) hx hb dX10_noteSources_51 (by decide) ?_
          refine ih3 (_, _, f, ls) ⟨hP, hD, hS, ?_, ?_⟩
          · have a9 : sM S (ns1L S o i (j1 + 1)) = (sM S (ns1L S o i j1)) := (by rw [ns1L_s]; simp only [ns1, Bool.false_eq_true, if_true, if_false, if_pos h5, if_pos c10]; (try rfl))
            rw [a9]; exact hR
          exact lv_sub hl [2, 3, 4, 5, 6, 0] rfl
        · skip
          refine lv_aload_n hx hb dX10_noteSources_39 rfl (lv_at hl 3 rfl) ?_
          refine get_inside_7 hx hb hta iwX3 hown hK hP hR hi (hta _ mw415) dX10_noteSources_40 ?_
          refine lv_aload hx hb dX10_noteSources_43 (lv_at hl 0 rfl) ?_
          obtain ⟨q11, e12⟩ := cell_8 hR hi
          refine gwr_v (mc := 0) (ms := 0) (ci := 7) (As := [.ref (ad 7 j1)]) (rest := []) ⟨hx, hb, hml, hown, hta⟩ (c_X5_addWith l hR hW (k := 8) (i := i) ⟨rfl, hi⟩ h5) (cwV 1 hta (gWV mw609 mw610 mw611 mw41 mw612) rfl rfl rfl (by decide +kernel) ⟨Nat.le_of_ble_eq_true rfl, Nat.le_of_ble_eq_true rfl⟩) hK hP hD hS hA rfl e12 rfl hl.1 rfl (Nat.le_of_ble_eq_true rfl) dX10_noteSources_45 ⟨Nat.zero_le _, Nat.zero_le _⟩ (fun u H locs hw hR hP hD hS => ?_)
          obtain ⟨S9, ad9, L9, f⟩ := u
          obtain ⟨rfl, rfl, rfl⟩ := hw
          dsimp only at hR hP hD
          refine lv_iinc (v := nI (j1 + 1)) (lv' := [(5, .int (nI (j1 + 1))), (6, .ref (ad 7 j1)), (0, .ref (ad 0 0)), (1, .ref (ad 11 o)), (2, .ref (ad 7 i)), (3, .ref (ad 18 0)), (4, .int 90)]) hx hb dX10_noteSources_48 hl (k := 6) rfl (nI_1 _) (by decide) rfl (fun ls hl => ?_)
          refine lv_goto (tgt := 12) hx hb dX10_noteSources_51 (by decide) ?_
          refine ih3 (_, _, f, ls) ⟨hP, hD, hS, ?_, ?_⟩
          · have a9 : sM S (ns1L S o i (j1 + 1)) = (sAddW ((sM S (ns1L S o i j1))) 8 i j1) := (by rw [ns1L_s]; simp only [ns1, Bool.false_eq_true, if_true, if_false, if_pos h5, if_neg c10]; (try rfl))
            rw [a9]; exact hR
          exact lv_sub hl [2, 3, 4, 5, 6, 0] rfl
      · skip
        refine lv_astoreN (lv' := [(6, .null), (0, .ref (ad 0 0)), (1, .ref (ad 11 o)), (2, .ref (ad 7 i)), (3, .ref (ad 18 0)), (4, .int 90), (5, .int (nI j1))]) hx hb dX10_noteSources_23 hl (by decide) rfl (fun ls hl => ?_)
        refine lv_aloadN hx hb dX10_noteSources_25 (lv_at hl 0 rfl) ?_
        refine lv_ifnullN (tgt := 48) hx hb dX10_noteSources_27 (by decide) ?_
        refine lv_iinc (v := nI (j1 + 1)) (lv' := [(5, .int (nI (j1 + 1))), (6, .null), (0, .ref (ad 0 0)), (1, .ref (ad 11 o)), (2, .ref (ad 7 i)), (3, .ref (ad 18 0)), (4, .int 90)]) hx hb dX10_noteSources_48 hl (k := 6) rfl (nI_1 _) (by decide) rfl (fun ls hl => ?_)
        refine lv_goto (tgt := 12) hx hb dX10_noteSources_51 (by decide) ?_
        refine ih3 (_, _, f, ls) ⟨hP, hD, hS, ?_, ?_⟩
        · have a9 : sM S (ns1L S o i (j1 + 1)) = (sM S (ns1L S o i j1)) := (by rw [ns1L_s]; simp only [ns1, Bool.false_eq_true, if_true, if_false, if_neg h5]; (try rfl))
          rw [a9]; exact hR
        exact lv_sub hl [2, 3, 4, 5, 6, 0] rfl
  · skip
    obtain ⟨H, locs, f, ls⟩ := z
    obtain ⟨hP, hD, hS, hR, hl⟩ := hz
    dsimp only at hP hD hS hR hl ⊢
    refine lv_iload hx hb dX10_noteSources_12 (lv_at hl 5 rfl) ?_
    refine lv_iload hx hb dX10_noteSources_14 (lv_at hl 4 rfl) ?_
    refine lv_icmp_ge (tgt := 54) hx hb dX10_noteSources_16 (by decide) (fun c14 => ?_) (fun c14 => ?_)
    · skip
      refine lv_aload_n hx hb dX10_noteSources_54 rfl (lv_at hl 0 rfl) ?_
      refine get_lots_0 hx hb hta iwX10 hown hK hP hR (rfl : (0 : Nat) = 0) (hta _ mw99) dX10_noteSources_55 ?_
      refine lv_astore_n (lv' := [(3, .ref (ad 18 0)), (0, .ref (ad 0 0)), (1, .ref (ad 11 o)), (2, .ref (ad 7 i)), (4, .int 90), (5, .int (nI 90))]) hx hb dX10_noteSources_58 rfl hl (by decide) rfl (fun ls hl => ?_)
      refine lv_aload_n hx hb dX10_noteSources_59 rfl (lv_at hl 0 rfl) ?_
      refine len_lots hx hb hK hP hR (rfl : (0 : Nat) = 0) dX10_noteSources_60 ?_
      refine lv_istore (lv' := [(4, .int 90), (3, .ref (ad 18 0)), (0, .ref (ad 0 0)), (1, .ref (ad 11 o)), (2, .ref (ad 7 i)), (5, .int (nI 90))]) hx hb dX10_noteSources_61 hl (by decide) rfl (fun ls hl => ?_)
      refine lv_iconst (v := 0) hx hb dX10_noteSources_63 (by decide) ?_
      refine lv_istore (lv' := [(5, .int 0), (4, .int 90), (3, .ref (ad 18 0)), (0, .ref (ad 0 0)), (1, .ref (ad 11 o)), (2, .ref (ad 7 i))]) hx hb dX10_noteSources_64 hl (by decide) rfl (fun ls hl => ?_)
      refine loop_g (σ := Heap × List Loc × (Nat → va_E) × Array Slot) (Wg := fun z => W p l e _ s m _ below meth c z.1 z.2.1 _ _ _ (F0 m 66 z.2.2.2 [])) 90 (fun j15 z => va_P D vwCl (va_pl L z.2.2.1) z.1 ∧ va_D A (va_pl L z.2.2.1) ∧ va_S A s.heap z.1 z.2.1 ∧ Rep tA (sM S (ns2L S o i j15)) ad L z.2.2.1 ∧ lv_has z.2.2.2 7 [(0, .ref (ad 0 0)), (1, .ref (ad 11 o)), (2, .ref (ad 7 i)), (3, .ref (ad 18 0)), (4, .int 90), (5, .int (nI j15))]) (fun j15 hj16 ih17 z hz => ?_) (fun z hz => ?_) (_, _, f, ls) ⟨hP, hD, hS, hR, lv_sub hl [3, 4, 5, 2, 1, 0] rfl⟩
      · skip
        obtain ⟨H, locs, f, ls⟩ := z
        obtain ⟨hP, hD, hS, hR, hl⟩ := hz
        dsimp only at hP hD hS hR hl ⊢
        refine lv_iload hx hb dX10_noteSources_66 (lv_at hl 5 rfl) ?_
        refine lv_iload hx hb dX10_noteSources_68 (lv_at hl 4 rfl) ?_
        refine lv_icmp_ge (tgt := 117) hx hb dX10_noteSources_70 (by decide) (fun c18 => ?_) (fun c18 => ?_)
        · exact absurd c18 (nI_ge (a := j15) (b := 90) hj16 (by decide))
        · skip
          refine lv_aload_n hx hb dX10_noteSources_73 rfl (lv_at hl 3 rfl) ?_
          refine lv_iload hx hb dX10_noteSources_74 (lv_at hl 5 rfl) ?_
          refine ldn_lots hx hb hK hP hR (rfl : (0 : Nat) = 0) hj16 dX10_noteSources_76 (fun h19 => ?_) (fun h19 => ?_)
          · skip
            refine lv_astore (lv' := [(6, .ref (ad 7 j15)), (0, .ref (ad 0 0)), (1, .ref (ad 11 o)), (2, .ref (ad 7 i)), (3, .ref (ad 18 0)), (4, .int 90), (5, .int (nI j15))]) hx hb dX10_noteSources_77 hl (by decide) rfl (fun ls hl => ?_)
            refine lv_aload hx hb dX10_noteSources_79 (lv_at hl 0 rfl) ?_
            refine lv_ifnull hx hb dX10_noteSources_81 ?_
            refine lv_aload_n hx hb dX10_noteSources_84 rfl (lv_at hl 3 rfl) ?_
            refine get_inside_7 hx hb hta iwX3 hown hK hP hR hi (hta _ mw415) dX10_noteSources_85 ?_
            refine lv_aload hx hb dX10_noteSources_88 (lv_at hl 0 rfl) ?_
            refine get_number_7 hx hb hta iwX3 hown hK hP hR h19 (hta _ mw407) dX10_noteSources_90 ?_
            obtain ⟨q20, e21⟩ := cell_8 hR hi
            refine gro_i (ci := 7) (As := [.int (nI j15)]) (rest := []) ⟨hx, hb, hml, hown, hta⟩ (c_X5_has l hR (k := 8) (i := i) ⟨rfl, hi⟩ (j := j15) (Nat.lt_trans hj16 (by decide))) (cwV 1 hta (gWV mw194 mw195 mw196 mw41 mw197) rfl rfl rfl (by decide +kernel) ⟨Nat.le_of_ble_eq_true rfl, Nat.le_of_ble_eq_true rfl⟩) hK hP hD rfl e21 rfl hl.1 rfl (Nat.le_of_ble_eq_true rfl) dX10_noteSources_93 ⟨Nat.zero_le _, Nat.zero_le _⟩ (fun r22 c23 => ?_)
            obtain rfl := c23
            refine lv_if_eq (tgt := 111) hx hb dX10_noteSources_96 (by decide) (fun c24 => ?_) (fun c24 => ?_)
            · skip
              have c24 := bI_f c24
              refine lv_iinc (v := nI (j15 + 1)) (lv' := [(5, .int (nI (j15 + 1))), (6, .ref (ad 7 j15)), (0, .ref (ad 0 0)), (1, .ref (ad 11 o)), (2, .ref (ad 7 i)), (3, .ref (ad 18 0)), (4, .int 90)]) hx hb dX10_noteSources_111 hl (k := 6) rfl (nI_1 _) (by decide) rfl (fun ls hl => ?_)
              refine lv_goto (tgt := 66) hx hb dX10_noteSources_114 (by decide) ?_
              refine ih17 (_, _, f, ls) ⟨hP, hD, hS, ?_, ?_⟩
              · have a9 : sM S (ns2L S o i (j15 + 1)) = (sM S (ns2L S o i j15)) := (by rw [ns2L_s]; simp only [ns2, Bool.false_eq_true, if_true, if_false, if_pos h19, c24]; (try rfl))
                rw [a9]; exact hR
              exact lv_sub hl [2, 3, 4, 5, 6, 0] rfl
            · skip
              have c24 := bI_t c24
              refine lv_aload hx hb dX10_noteSources_99 (lv_at hl 0 rfl) ?_
              refine get_intoLots_7 hx hb hta iwX3 hown hK hP hR h19 (hta _ mw417) dX10_noteSources_101 ?_
              refine lv_aload_n hx hb dX10_noteSources_104 rfl (lv_at hl 3 rfl) ?_
              refine get_number_7 hx hb hta iwX3 hown hK hP hR hi (hta _ mw407) dX10_noteSources_105 ?_
              obtain ⟨q25, e26⟩ := cell_9 hR h19
              refine gwr_v (mc := 0) (ms := 0) (ci := 7) (As := [.int (nI i)]) (rest := []) ⟨hx, hb, hml, hown, hta⟩ (c_X5_add l hR (k := 9) (i := j15) ⟨rfl, h19⟩ (j := i) (Nat.lt_of_lt_of_le hi (Nat.le_trans hW.nL (by decide)))) (cwV 1 hta (gWV mw445 mw446 mw447 mw41 mw448) rfl rfl rfl (by decide +kernel) ⟨Nat.le_of_ble_eq_true rfl, Nat.le_of_ble_eq_true rfl⟩) hK hP hD hS hA rfl e26 rfl hl.1 rfl (Nat.le_of_ble_eq_true rfl) dX10_noteSources_108 ⟨Nat.zero_le _, Nat.zero_le _⟩ (fun u H locs hw hR hP hD hS => ?_)
              obtain ⟨S9, ad9, L9, f⟩ := u
              obtain ⟨rfl, rfl, rfl⟩ := hw
              dsimp only at hR hP hD
              refine lv_iinc (v := nI (j15 + 1)) (lv' := [(5, .int (nI (j15 + 1))), (6, .ref (ad 7 j15)), (0, .ref (ad 0 0)), (1, .ref (ad 11 o)), (2, .ref (ad 7 i)), (3, .ref (ad 18 0)), (4, .int 90)]) hx hb dX10_noteSources_111 hl (k := 6) rfl (nI_1 _) (by decide) rfl (fun ls hl => ?_)
              refine lv_goto (tgt := 66) hx hb dX10_noteSources_114 (by decide) ?_
              refine ih17 (_, _, f, ls) ⟨hP, hD, hS, ?_, ?_⟩
              · have a9 : sM S (ns2L S o i (j15 + 1)) = (sAdd ((sM S (ns2L S o i j15))) 9 j15 i) := (by rw [ns2L_s]; simp only [ns2, Bool.false_eq_true, if_true, if_false, if_pos h19, c24]; (try rfl))
                rw [a9]; exact hR
              exact lv_sub hl [2, 3, 4, 5, 6, 0] rfl
          · skip
            refine lv_astoreN (lv' := [(6, .null), (0, .ref (ad 0 0)), (1, .ref (ad 11 o)), (2, .ref (ad 7 i)), (3, .ref (ad 18 0)), (4, .int 90), (5, .int (nI j15))]) hx hb dX10_noteSources_77 hl (by decide) rfl (fun ls hl => ?_)
            refine lv_aloadN hx hb dX10_noteSources_79 (lv_at hl 0 rfl) ?_
            refine lv_ifnullN (tgt := 111) hx hb dX10_noteSources_81 (by decide) ?_
            refine lv_iinc (v := nI (j15 + 1)) (lv' := [(5, .int (nI (j15 + 1))), (6, .null), (0, .ref (ad 0 0)), (1, .ref (ad 11 o)), (2, .ref (ad 7 i)), (3, .ref (ad 18 0)), (4, .int 90)]) hx hb dX10_noteSources_111 hl (k := 6) rfl (nI_1 _) (by decide) rfl (fun ls hl => ?_)
            refine lv_goto (tgt := 66) hx hb dX10_noteSources_114 (by decide) ?_
            refine ih17 (_, _, f, ls) ⟨hP, hD, hS, ?_, ?_⟩
            · have a9 : sM S (ns2L S o i (j15 + 1)) = (sM S (ns2L S o i j15)) := (by rw [ns2L_s]; simp only [ns2, Bool.false_eq_true, if_true, if_false, if_neg h19]; (try rfl))
              rw [a9]; exact hR
            exact lv_sub hl [2, 3, 4, 5, 6, 0] rfl
      · skip
        obtain ⟨H, locs, f, ls⟩ := z
        obtain ⟨hP, hD, hS, hR, hl⟩ := hz
        dsimp only at hP hD hS hR hl ⊢
        refine lv_iload hx hb dX10_noteSources_66 (lv_at hl 5 rfl) ?_
        refine lv_iload hx hb dX10_noteSources_68 (lv_at hl 4 rfl) ?_
        refine lv_icmp_ge (tgt := 117) hx hb dX10_noteSources_70 (by decide) (fun c28 => ?_) (fun c28 => ?_)
        · skip
          exact W.vret hx hb hr (fun t ht hWm => gend_v (u := ((sM S (ns2L S o i 90)), ad, L, f)) ⟨rfl, rfl, rfl⟩ hR hP hK hD hS ht hWm) hS.2.2 dX10_noteSources_117
        · exact absurd (nI_le (a := 90) (b := 90) (Nat.le_refl _) (by decide)) c28
    · exact absurd (nI_le (a := 90) (b := 90) (Nat.le_refl _) (by decide)) c14

def fiT (S : St) (o : Nat) : St := uI (uI S 53 o 102) 63 o (sI S 2 0)
def fiU (S : St) (o : Nat) : St := uR (nlS (fiT S o) (sN S 7 o) (sI S 60 o) (sJ S 5 o)) 4 o (some (sN S 2 0))
/-- a job is finished: the state behind -/
def fiS (S : St) (o : Nat) : St := if sI S 60 o = 0 then uJ (uJ (fiT S o) 2 0 (sJ S 2 0 + sJ S 5 o)) 5 o 0 else uJ (nsS (fiU S o) o (sN S 2 0)) 5 o 0
set_option maxHeartbeats 4000000 in
set_option maxRecDepth 100000 in
theorem c_X10_finish (l : Launch) {D : va_G} {tA : Nat → ClassId} {S : St} {ad : Nat → Nat → Nat} {L : List Nat} {f : Nat → va_E} {sz : Nat} (hR : Rep tA S ad L f) (hW : WT S) {o : Nat} (ho : o < sN S 3 0) (hn : sN S 2 0 < 90) : Met l yX10_finish (wsC yX10_finish cX10_finish 3 none) ({ frames := 4, cells := 4, slots := 16, locals := 125 }) (va_Pc [.ref (ad 0 0), .ref (ad 11 o)] (gY D tA L f sz)) (va_Qv (fun (u : gU) => fiS S o = u.1 ∧ ∀ k i, V S k i → u.2.1 k i = ad k i) (gE D tA (va_A (va_pl L f) sz)) (va_A (va_pl L f) sz)) 4 16 (va_A (va_pl L f) sz) := by
  refine Met.ofW (cc := cX10_finish) (maxL := 3) (ret := none) (by decide) rfl ?_
  intro p e s m args below meth c s₁ B hml hv
  obtain ⟨rfl, ⟨hsz, hP, hK, hD0⟩, hX⟩ := hv
  have hx := B.exec
  have hb := B.bytes
  have hr := B.returns
  have hts := atoms_spec (ws := wsC yX10_finish cX10_finish 3 none) B.pre
  have hta : ∀ w ∈ WA, w.before _ s = true := fun w h => hts w (List.mem_cons_of_mem _ h)
  have hown : s.vm.findClass RX10 = some m.cls := findClass_of_methodNamed B.named
  have hlocks := B.notSynchronized
  subst hsz
  have hD : va_D (va_A (va_pl L f) s.heap.size) (va_pl L f) := hD0.self (sz := s.heap.size)
  generalize hAe : va_A (va_pl L f) s.heap.size = A at hD ⊢
  have hA : ∀ q : Nat, s.heap.size ≤ q → A q := fun q h => by rw [← hAe]; exact Or.inr h
  have hS : va_S A s.heap s.heap [] := va_S.rf
  have hP : va_P D vwCl (va_pl L f) s.heap := hP
  have hl := lv_entry ([.ref (ad 0 0), .ref (ad 11 o)]) (n := 3) (Nat.le_of_ble_eq_true rfl)
  rw [lg_entry_eq]
  generalize (lg_sl ([.ref (ad 0 0), .ref (ad 11 o)]) ++ List.replicate (3 - (lg_sl ([.ref (ad 0 0), .ref (ad 11 o)])).length) Slot.unset).toArray = ls at hl ⊢
  have hl : lv_has ls 3 [(0, .ref (ad 0 0)), (1, .ref (ad 11 o))] := hl
  refine lv_aload_n hx hb dX10_finish_0 rfl (lv_at hl 1 rfl) ?_
  refine get_job_11 hx hb hta iwX7 hown hK hP hR ho (hta _ mw541) dX10_finish_1 ?_
  refine lv_astore_n (lv' := [(2, .ref (ad 12 o)), (0, .ref (ad 0 0)), (1, .ref (ad 11 o))]) hx hb dX10_finish_4 rfl hl (by decide) rfl (fun ls hl => ?_)
  refine lv_aload_n hx hb dX10_finish_5 rfl (lv_at hl 2 rfl) ?_
  refine lv_bipush (v := 102) hx hb dX10_finish_6 (by decide) ?_
  refine put_state_11 (v := (102 : Int32)) hx hb hta iwX7 hown hK hP hD hS hR ho (hta _ mw546) (by decide) (by decide) dX10_finish_8 (fun H locs f hP hD hS hR => ?_)
  refine lv_aload_n hx hb dX10_finish_11 rfl (lv_at hl 0 rfl) ?_
  refine lv_aload_n hx hb dX10_finish_12 rfl (lv_at hl 1 rfl) ?_
  refine get_now_0 hx hb hta iwX10 hown hK hP hR (rfl : (0 : Nat) = 0) (hta _ mw107) dX10_finish_13 ?_
  refine lv_topi (fun x1 ex1 => ?_)
  obtain rfl := ex1.trans (show sI (uI S 53 o 102) 2 0 = sI S 2 0 from up2_nk (sI S) (k := 53) (i := o) (k' := 2) (i' := 0) 102 (by decide))
  refine put_finishedAt_12 (v := (sI S 2 0 : Int32)) hx hb hta iwX2 hown hK hP hD hS hR ho (hta _ mw523) dX10_finish_16 (fun H locs f hP hD hS hR => ?_)
  refine lv_aload_n hx hb dX10_finish_19 rfl (lv_at hl 0 rfl) ?_
  refine get_pieces_12 hx hb hta iwX2 hown hK hP hR ho (hta _ mw517) dX10_finish_20 ?_
  refine lv_topi (fun x2 ex2 => ?_)
  obtain rfl := ex2.trans ((show sI (uI (uI S 53 o 102) 63 o (sI S 2 0)) 60 o = sI (uI S 53 o 102) 60 o from up2_nk (sI (uI S 53 o 102)) (k := 63) (i := o) (k' := 60) (i' := o) (sI S 2 0) (by decide)).trans (show sI (uI S 53 o 102) 60 o = sI S 60 o from up2_nk (sI S) (k := 53) (i := o) (k' := 60) (i' := o) 102 (by decide)))
  refine lv_if_ne (tgt := 42) hx hb dX10_finish_23 (by decide) (fun c3 => ?_) (fun c3 => ?_)
  · skip
    refine lv_aload_n hx hb dX10_finish_42 rfl (lv_at hl 0 rfl) ?_
    refine lv_aload_n hx hb dX10_finish_43 rfl (lv_at hl 1 rfl) ?_
    refine lv_aload_n hx hb dX10_finish_44 rfl (lv_at hl 2 rfl) ?_
    refine get_part_11 hx hb hta iwX7 hown hK hP hR ho (hta _ mw533) dX10_finish_45 ?_
    refine lv_aload_n hx hb dX10_finish_48 rfl (lv_at hl 0 rfl) ?_
    refine get_pieces_12 hx hb hta iwX2 hown hK hP hR ho (hta _ mw517) dX10_finish_49 ?_
    refine lv_topi (fun x4 ex4 => ?_)
    obtain rfl := ex4.trans ((show sI (uI (uI S 53 o 102) 63 o (sI S 2 0)) 60 o = sI (uI S 53 o 102) 60 o from up2_nk (sI (uI S 53 o 102)) (k := 63) (i := o) (k' := 60) (i' := o) (sI S 2 0) (by decide)).trans (show sI (uI S 53 o 102) 60 o = sI S 60 o from up2_nk (sI S) (k := 53) (i := o) (k' := 60) (i' := o) 102 (by decide)))
    refine lv_aload_n hx hb dX10_finish_52 rfl (lv_at hl 0 rfl) ?_
    refine get_cost_12 hx hb hta iwX2 hown hK hP hR ho (hta _ mw524) dX10_finish_53 ?_
    obtain ⟨q5, e6⟩ := cell_0 hR (rfl : (0 : Nat) = 0)
    refine gwr_qY (ci := 12) (As := [.ref (ad 2 (sN S 7 o)), .int (sI S 60 o), .long (sJ S 5 o)]) (rest := [.ref (ad 12 o)]) ⟨hx, hb, hml, hown, hta⟩ (c_X10_putLot l hR hW ((hW.ordPart ho)) (sI S 60 o) (sJ S 5 o) hn) (cwV 3 hta (gWV mw395 mw396 mw12 mw40 mw397) rfl rfl rfl (by decide +kernel) ⟨Nat.le_of_ble_eq_true rfl, Nat.le_of_ble_eq_true rfl⟩) hX hK hP hD hS hA rfl e6 rfl hl.1 rfl (Nat.le_of_ble_eq_true rfl) dX10_finish_56 ⟨Nat.le_of_ble_eq_true rfl, Nat.le_of_ble_eq_true rfl⟩ (fun r7 u H locs hw hR hP hD hS => ?_)
    obtain ⟨S9, ad9, L10, f⟩ := u
    obtain ⟨rfl, rfl, hx8⟩ := hw
    dsimp only at hR hP hD hx8 ⊢
    rw [← hx8 12 o (ho), ← hx8 0 0 ((rfl : (0 : Nat) = 0)), ← hx8 11 o (ho)] at hl
    rw [← hx8 12 o (ho)]
    have hWn := WT.nl (S := S) (qy := sI S 60 o) (co := sJ S 5 o) hW (hW.ordPart ho) hn
    have hln : sN S 2 0 < sN (nlS S (sN S 7 o) (sI S 60 o) (sJ S 5 o)) 2 0 := by rw [nlS_nL]; omega
    have hon : o < sN (nlS S (sN S 7 o) (sI S 60 o) (sJ S 5 o)) 3 0 := by rw [nlS_n (by decide) (by decide)]; exact ho
    change W _ _ _ _ _ _ _ _ _ _ _ _ _ _ _ (F0 _ _ _ (rf ad9 7 (some (sN S 2 0)) :: [.ref (ad9 12 o)]))
    rw [rf_some]
    refine put_lot_12 (v := (some (sN S 2 0) : Option Nat)) hx hb hta iwX2 hown hK hP hD hS hR hon (hta _ mw527) dX10_finish_59 (fun H locs f hP hD hS hR => ?_)
    have hWn : WT (uR ((nlS (uI (uI S 53 o 102) 63 o (sI S 2 0)) (sN S 7 o) (sI S 60 o) (sJ S 5 o))) 4 o (some (sN S 2 0))) := WT.setR hWn (fun a z => by cases z; exact ⟨fun q => by omega, fun q => by omega, fun q => by omega, fun _ => hln⟩)
    refine lv_aload_n hx hb dX10_finish_62 rfl (lv_at hl 1 rfl) ?_
    refine lv_aload_n hx hb dX10_finish_63 rfl (lv_at hl 2 rfl) ?_
    refine lv_aload_n hx hb dX10_finish_64 rfl (lv_at hl 0 rfl) ?_
    refine get_lot_12 hx hb hta iwX2 hown hK hP hR hon (hta _ mw527) dX10_finish_65 ?_
    rw [show sR (uR ((nlS (uI (uI S 53 o 102) 63 o (sI S 2 0)) (sN S 7 o) (sI S 60 o) (sJ S 5 o))) 4 o (some (sN S 2 0))) 4 o = some (sN S 2 0) from show sR (uR ((nlS (uI (uI S 53 o 102) 63 o (sI S 2 0)) (sN S 7 o) (sI S 60 o) (sJ S 5 o))) 4 o (some (sN S 2 0))) 4 o = some (sN S 2 0) from up2_self (sR ((nlS (uI (uI S 53 o 102) 63 o (sI S 2 0)) (sN S 7 o) (sI S 60 o) (sJ S 5 o)))) 4 o (some (sN S 2 0))]
    rw [rf_some]
    obtain ⟨q11, e12⟩ := cell_0 hR (rfl : (0 : Nat) = 0)
    refine gwr_v (mc := 0) (ms := 0) (ci := 12) (As := [.ref (ad9 11 o), .ref (ad9 7 (sN S 2 0))]) (rest := []) ⟨hx, hb, hml, hown, hta⟩ (c_X10_noteSources l hR hWn hon hln) (cwV 2 hta (gWV mw606 mw607 mw28 mw40 mw608) rfl rfl rfl (by decide +kernel) ⟨Nat.le_of_ble_eq_true rfl, Nat.le_of_ble_eq_true rfl⟩) hK hP hD hS hA rfl e12 rfl hl.1 rfl (Nat.le_of_ble_eq_true rfl) dX10_finish_68 ⟨Nat.le_of_ble_eq_true rfl, Nat.le_of_ble_eq_true rfl⟩ (fun u H locs hw hR hP hD hS => ?_)
    obtain ⟨S9, ad9, L9, f⟩ := u
    obtain ⟨rfl, rfl, rfl⟩ := hw
    dsimp only at hR hP hD
    refine lv_aload_n hx hb dX10_finish_71 rfl (lv_at hl 0 rfl) ?_
    refine lv_lconst (v := 0) hx hb dX10_finish_72 (by decide) ?_
    refine put_cost_12 (v := (0 : Int64)) hx hb hta iwX2 hown hK hP hD hS hR hon (hta _ mw524) dX10_finish_73 (fun H locs f hP hD hS hR => ?_)
    refine W.widen (k := 4) (n := 16) (Nat.le_of_ble_eq_true rfl) (Nat.le_of_ble_eq_true rfl) ?_
    exact W.vret hx hb hr (fun t ht hWm => gend_v (u := (uJ ((nsS (uR ((nlS (uI (uI S 53 o 102) 63 o (sI S 2 0)) (sN S 7 o) (sI S 60 o) (sJ S 5 o))) 4 o (some (sN S 2 0))) o (sN S 2 0))) 5 o 0, ad9, L10, f)) ⟨by simp only [fiS, if_neg c3]; (try rfl), hx8⟩ hR hP hK hD hS ht hWm) hS.2.2 dX10_finish_76
  · skip
    refine lv_aload_n hx hb dX10_finish_26 rfl (lv_at hl 1 rfl) ?_
    refine lv_dup hx hb dX10_finish_27 rfl ?_
    refine get_costLost_0 hx hb hta iwX10 hown hK hP hR (rfl : (0 : Nat) = 0) (hta _ mw109) dX10_finish_28 ?_
    refine lv_aload_n hx hb dX10_finish_31 rfl (lv_at hl 0 rfl) ?_
    refine get_cost_12 hx hb hta iwX2 hown hK hP hR ho (hta _ mw524) dX10_finish_32 ?_
    refine lv_ladd hx hb dX10_finish_35 ?_
    refine put_costLost_0 (v := ((sJ S 2 0) + (sJ S 5 o) : Int64)) hx hb hta iwX10 hown hK hP hD hS hR (rfl : (0 : Nat) = 0) (hta _ mw109) dX10_finish_36 (fun H locs f hP hD hS hR => ?_)
    refine lv_goto (tgt := 71) hx hb dX10_finish_39 (by decide) ?_
    refine lv_aload_n hx hb dX10_finish_71 rfl (lv_at hl 0 rfl) ?_
    refine lv_lconst (v := 0) hx hb dX10_finish_72 (by decide) ?_
    refine put_cost_12 (v := (0 : Int64)) hx hb hta iwX2 hown hK hP hD hS hR ho (hta _ mw524) dX10_finish_73 (fun H locs f hP hD hS hR => ?_)
    refine W.widen (k := 4) (n := 16) (Nat.le_of_ble_eq_true rfl) (Nat.le_of_ble_eq_true rfl) ?_
    exact W.vret hx hb hr (fun t ht hWm => gend_v (u := (uJ (uJ (uI (uI S 53 o 102) 63 o (sI S 2 0)) 2 0 ((sJ S 2 0) + (sJ S 5 o))) 5 o 0, ad, L, f)) ⟨by simp only [fiS, if_pos c3]; (try rfl), fun _ _ _ => rfl⟩ hR hP hK hD hS ht hWm) hS.2.2 dX10_finish_76

