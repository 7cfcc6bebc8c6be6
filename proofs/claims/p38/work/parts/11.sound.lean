/-! what isSound looks at (made by wip/gen/spec_e.py) -/
def pi1 (S : St) (i : Nat) (w : Int32) (j : Nat) (a : Int32) : Int32 := if j < sN S 3 0 then (if sI S 53 j = 112 then (if 1 = w then a + sP S j i else a) else (if 0 = w then a + sP S j i else a)) else a
def piL (S : St) (i : Nat) (w : Int32) (j : Nat) : Int32 := it (pi1 S i w) j 0
theorem piL_s (S : St) (i : Nat) (w : Int32) (j : Nat) : piL S i w (j + 1) = pi1 S i w j (piL S i w j) := rfl
/-- the pieces of a lot that orders hold: reserved (1), or taken (0) -/
def piN (S : St) (i : Nat) (w : Int32) : Int32 := piL S i w 30
set_option maxHeartbeats 4000000 in
set_option maxRecDepth 100000 in
theorem c_X10_piecesIn (l : Launch) {D : va_G} {tA : Nat → ClassId} {S : St} {ad : Nat → Nat → Nat} {L : List Nat} {f : Nat → va_E} (hR : Rep tA S ad L f) (hW : WT S) {i : Nat} (hi : i < sN S 2 0) (w : Int32) : Met l yX10_piecesIn (wsC yX10_piecesIn cX10_piecesIn 8 (some .int)) ({ frames := 1, cells := 0, slots := 0, locals := 22 }) (va_Pc [.ref (ad 0 0), .ref (ad 7 i), .int w] (gB D tA L f)) (vp_Si (fun r => r = piN S i w)) 0 0 (fun _ => False) := by
  refine Met.ofW (cc := cX10_piecesIn) (maxL := 8) (ret := (some .int)) (by decide) rfl ?_
  intro p e s m args below meth c s₁ B hml hv
  obtain ⟨rfl, hP, hK, hD⟩ := hv
  have hx := B.exec
  have hb := B.bytes
  have hr := B.returns
  have hts := atoms_spec (ws := wsC yX10_piecesIn cX10_piecesIn 8 (some .int)) B.pre
  have hta : ∀ w ∈ WA, w.before _ s = true := fun w h => hts w (List.mem_cons_of_mem _ h)
  have hown : s.vm.findClass RX10 = some m.cls := findClass_of_methodNamed B.named
  have hlocks := B.notSynchronized
  have hP : va_P D vwCl (va_pl L f) s.heap := hP
  have hl := lv_entry ([.ref (ad 0 0), .ref (ad 7 i), .int w]) (n := 8) (Nat.le_of_ble_eq_true rfl)
  rw [lg_entry_eq]
  generalize (lg_sl ([.ref (ad 0 0), .ref (ad 7 i), .int w]) ++ List.replicate (8 - (lg_sl ([.ref (ad 0 0), .ref (ad 7 i), .int w])).length) Slot.unset).toArray = ls at hl ⊢
  have hl : lv_has ls 8 [(0, .ref (ad 0 0)), (1, .ref (ad 7 i)), (2, .int w)] := hl
  refine lv_iconst (v := 0) hx hb dX10_piecesIn_0 (by decide) ?_
  refine lv_istore_n (lv' := [(3, .int 0), (0, .ref (ad 0 0)), (1, .ref (ad 7 i)), (2, .int w)]) hx hb dX10_piecesIn_1 rfl hl (by decide) rfl (fun ls hl => ?_)
  refine lv_aload_n hx hb dX10_piecesIn_2 rfl (lv_at hl 1 rfl) ?_
  refine get_orders_0 hx hb hta iwX10 hown hK hP hR (rfl : (0 : Nat) = 0) (hta _ mw100) dX10_piecesIn_3 ?_
  refine lv_astore (lv' := [(4, .ref (ad 19 0)), (3, .int 0), (0, .ref (ad 0 0)), (1, .ref (ad 7 i)), (2, .int w)]) hx hb dX10_piecesIn_6 hl (by decide) rfl (fun ls hl => ?_)
  refine lv_aload hx hb dX10_piecesIn_8 (lv_at hl 0 rfl) ?_
  refine len_orders hx hb hK hP hR (rfl : (0 : Nat) = 0) dX10_piecesIn_10 ?_
  refine lv_istore (lv' := [(5, .int 30), (4, .ref (ad 19 0)), (3, .int 0), (0, .ref (ad 0 0)), (1, .ref (ad 7 i)), (2, .int w)]) hx hb dX10_piecesIn_11 hl (by decide) rfl (fun ls hl => ?_)
  refine lv_iconst (v := 0) hx hb dX10_piecesIn_13 (by decide) ?_
  refine lv_istore (lv' := [(6, .int 0), (5, .int 30), (4, .ref (ad 19 0)), (3, .int 0), (0, .ref (ad 0 0)), (1, .ref (ad 7 i)), (2, .int w)]) hx hb dX10_piecesIn_14 hl (by decide) rfl (fun ls hl => ?_)
  refine loop_g (σ := Array Slot) (Wg := fun ls => W p l e _ s m _ below meth c _ _ _ _ _ (F0 m 16 ls [])) 30 (fun j1 ls => lv_has ls 8 [(0, .ref (ad 0 0)), (1, .ref (ad 7 i)), (2, .int w), (3, .int (piL S i w j1)), (4, .ref (ad 19 0)), (5, .int 30), (6, .int (nI j1))]) (fun j1 hj2 ih3 ls hl => ?_) (fun ls hl => ?_) ls (lv_sub hl [4, 5, 6, 3, 2, 1, 0] rfl)
  · skip
    refine lv_iload hx hb dX10_piecesIn_16 (lv_at hl 6 rfl) ?_
    refine lv_iload hx hb dX10_piecesIn_18 (lv_at hl 5 rfl) ?_
    refine lv_icmp_ge (tgt := 69) hx hb dX10_piecesIn_20 (by decide) (fun c4 => ?_) (fun c4 => ?_)
    · exact absurd c4 (nI_ge (a := j1) (b := 30) hj2 (by decide))
    · skip
      refine lv_aload hx hb dX10_piecesIn_23 (lv_at hl 4 rfl) ?_
      refine lv_iload hx hb dX10_piecesIn_25 (lv_at hl 6 rfl) ?_
      refine ldn_orders hx hb hK hP hR (rfl : (0 : Nat) = 0) hj2 dX10_piecesIn_27 (fun h5 => ?_) (fun h5 => ?_)
      · skip
        refine lv_astore (lv' := [(7, .ref (ad 11 j1)), (0, .ref (ad 0 0)), (1, .ref (ad 7 i)), (2, .int w), (3, .int (piL S i w j1)), (4, .ref (ad 19 0)), (5, .int 30), (6, .int (nI j1))]) hx hb dX10_piecesIn_28 hl (by decide) rfl (fun ls hl => ?_)
        refine lv_aload hx hb dX10_piecesIn_30 (lv_at hl 0 rfl) ?_
        refine lv_ifnull hx hb dX10_piecesIn_32 ?_
        refine lv_aload hx hb dX10_piecesIn_35 (lv_at hl 0 rfl) ?_
        refine get_state_11 hx hb hta iwX7 hown hK hP hR h5 (hta _ mw546) dX10_piecesIn_37 ?_
        refine lv_bipush (v := 112) hx hb dX10_piecesIn_40 (by decide) ?_
        refine lv_icmp_ne (tgt := 49) hx hb dX10_piecesIn_42 (by decide) (fun c6 => ?_) (fun c6 => ?_)
        · skip
          refine lv_iconst (v := 0) hx hb dX10_piecesIn_49 (by decide) ?_
          refine lv_iload_n hx hb dX10_piecesIn_50 rfl (lv_at hl 3 rfl) ?_
          refine lv_icmp_ne (tgt := 63) hx hb dX10_piecesIn_51 (by decide) (fun c7 => ?_) (fun c7 => ?_)
          · skip
            refine lv_iinc (v := nI (j1 + 1)) (lv' := [(6, .int (nI (j1 + 1))), (7, .ref (ad 11 j1)), (0, .ref (ad 0 0)), (1, .ref (ad 7 i)), (2, .int w), (3, .int (piL S i w j1)), (4, .ref (ad 19 0)), (5, .int 30)]) hx hb dX10_piecesIn_63 hl (k := 7) rfl (nI_1 _) (by decide) rfl (fun ls hl => ?_)
            refine lv_goto (tgt := 16) hx hb dX10_piecesIn_66 (by decide) ?_
            refine ih3 _ ?_
            have a8 : piL S i w (j1 + 1) = piL S i w j1 := (by rw [piL_s]; simp only [pi1, Bool.false_eq_true, if_true, if_false, if_pos h5, if_neg c6, if_neg c7]; (try rfl))
            rw [a8]
            exact lv_sub hl [2, 3, 4, 5, 6, 7, 0] rfl
          · skip
            refine lv_iload_n hx hb dX10_piecesIn_54 rfl (lv_at hl 4 rfl) ?_
            refine lv_aload hx hb dX10_piecesIn_55 (lv_at hl 0 rfl) ?_
            refine lv_aload_n hx hb dX10_piecesIn_57 rfl (lv_at hl 2 rfl) ?_
            obtain ⟨q8, e9⟩ := cell_11 hR h5
            refine gro_i (ci := 9) (As := [.ref (ad 7 i)]) (rest := [.int (piL S i w j1)]) ⟨hx, hb, hml, hown, hta⟩ (c_X7_piecesOf l hR hW hi h5) (cwV 1 hta (gWV mw170 mw171 mw172 mw59 mw173) rfl rfl rfl (by decide +kernel) ⟨Nat.le_of_ble_eq_true rfl, Nat.le_of_ble_eq_true rfl⟩) hK hP hD rfl e9 rfl hl.1 rfl (Nat.le_of_ble_eq_true rfl) dX10_piecesIn_58 ⟨Nat.zero_le _, Nat.zero_le _⟩ (fun r10 c11 => ?_)
            obtain rfl := c11
            refine lv_iadd hx hb dX10_piecesIn_61 ?_
            refine lv_istore_n (lv' := [(3, .int ((piL S i w j1) + (sP S j1 i))), (7, .ref (ad 11 j1)), (0, .ref (ad 0 0)), (1, .ref (ad 7 i)), (2, .int w), (4, .ref (ad 19 0)), (5, .int 30), (6, .int (nI j1))]) hx hb dX10_piecesIn_62 rfl hl (by decide) rfl (fun ls hl => ?_)
            refine lv_iinc (v := nI (j1 + 1)) (lv' := [(6, .int (nI (j1 + 1))), (3, .int ((piL S i w j1) + (sP S j1 i))), (7, .ref (ad 11 j1)), (0, .ref (ad 0 0)), (1, .ref (ad 7 i)), (2, .int w), (4, .ref (ad 19 0)), (5, .int 30)]) hx hb dX10_piecesIn_63 hl (k := 7) rfl (nI_1 _) (by decide) rfl (fun ls hl => ?_)
            refine lv_goto (tgt := 16) hx hb dX10_piecesIn_66 (by decide) ?_
            refine ih3 _ ?_
            have a8 : piL S i w (j1 + 1) = (piL S i w j1) + (sP S j1 i) := (by rw [piL_s]; simp only [pi1, Bool.false_eq_true, if_true, if_false, if_pos h5, if_neg c6, if_pos c7]; (try rfl))
            rw [a8]
            exact lv_sub hl [3, 4, 5, 1, 6, 7, 0] rfl
        · skip
          refine lv_iconst (v := 1) hx hb dX10_piecesIn_45 (by decide) ?_
          refine lv_goto (tgt := 50) hx hb dX10_piecesIn_46 (by decide) ?_
          refine lv_iload_n hx hb dX10_piecesIn_50 rfl (lv_at hl 3 rfl) ?_
          refine lv_icmp_ne (tgt := 63) hx hb dX10_piecesIn_51 (by decide) (fun c12 => ?_) (fun c12 => ?_)
          · skip
            refine lv_iinc (v := nI (j1 + 1)) (lv' := [(6, .int (nI (j1 + 1))), (7, .ref (ad 11 j1)), (0, .ref (ad 0 0)), (1, .ref (ad 7 i)), (2, .int w), (3, .int (piL S i w j1)), (4, .ref (ad 19 0)), (5, .int 30)]) hx hb dX10_piecesIn_63 hl (k := 7) rfl (nI_1 _) (by decide) rfl (fun ls hl => ?_)
            refine lv_goto (tgt := 16) hx hb dX10_piecesIn_66 (by decide) ?_
            refine ih3 _ ?_
            have a8 : piL S i w (j1 + 1) = piL S i w j1 := (by rw [piL_s]; simp only [pi1, Bool.false_eq_true, if_true, if_false, if_pos h5, if_pos c6, if_neg c12]; (try rfl))
            rw [a8]
            exact lv_sub hl [2, 3, 4, 5, 6, 7, 0] rfl
          · skip
            refine lv_iload_n hx hb dX10_piecesIn_54 rfl (lv_at hl 4 rfl) ?_
            refine lv_aload hx hb dX10_piecesIn_55 (lv_at hl 0 rfl) ?_
            refine lv_aload_n hx hb dX10_piecesIn_57 rfl (lv_at hl 2 rfl) ?_
            obtain ⟨q13, e14⟩ := cell_11 hR h5
            refine gro_i (ci := 9) (As := [.ref (ad 7 i)]) (rest := [.int (piL S i w j1)]) ⟨hx, hb, hml, hown, hta⟩ (c_X7_piecesOf l hR hW hi h5) (cwV 1 hta (gWV mw170 mw171 mw172 mw59 mw173) rfl rfl rfl (by decide +kernel) ⟨Nat.le_of_ble_eq_true rfl, Nat.le_of_ble_eq_true rfl⟩) hK hP hD rfl e14 rfl hl.1 rfl (Nat.le_of_ble_eq_true rfl) dX10_piecesIn_58 ⟨Nat.zero_le _, Nat.zero_le _⟩ (fun r15 c16 => ?_)
            obtain rfl := c16
            refine lv_iadd hx hb dX10_piecesIn_61 ?_
            refine lv_istore_n (lv' := [(3, .int ((piL S i w j1) + (sP S j1 i))), (7, .ref (ad 11 j1)), (0, .ref (ad 0 0)), (1, .ref (ad 7 i)), (2, .int w), (4, .ref (ad 19 0)), (5, .int 30), (6, .int (nI j1))]) hx hb dX10_piecesIn_62 rfl hl (by decide) rfl (fun ls hl => ?_)
            refine lv_iinc (v := nI (j1 + 1)) (lv' := [(6, .int (nI (j1 + 1))), (3, .int ((piL S i w j1) + (sP S j1 i))), (7, .ref (ad 11 j1)), (0, .ref (ad 0 0)), (1, .ref (ad 7 i)), (2, .int w), (4, .ref (ad 19 0)), (5, .int 30)]) hx hb dX10_piecesIn_63 hl (k := 7) rfl (nI_1 _) (by decide) rfl (fun ls hl => ?_)
            refine lv_goto (tgt := 16) hx hb dX10_piecesIn_66 (by decide) ?_
            refine ih3 _ ?_
            have a8 : piL S i w (j1 + 1) = (piL S i w j1) + (sP S j1 i) := (by rw [piL_s]; simp only [pi1, Bool.false_eq_true, if_true, if_false, if_pos h5, if_pos c6, if_pos c12]; (try rfl))
            rw [a8]
            exact lv_sub hl [3, 4, 5, 1, 6, 7, 0] rfl
      · skip
        refine lv_astoreN (lv' := [(7, .null), (0, .ref (ad 0 0)), (1, .ref (ad 7 i)), (2, .int w), (3, .int (piL S i w j1)), (4, .ref (ad 19 0)), (5, .int 30), (6, .int (nI j1))]) hx hb dX10_piecesIn_28 hl (by decide) rfl (fun ls hl => ?_)
        refine lv_aloadN hx hb dX10_piecesIn_30 (lv_at hl 0 rfl) ?_
        refine lv_ifnullN (tgt := 63) hx hb dX10_piecesIn_32 (by decide) ?_
        refine lv_iinc (v := nI (j1 + 1)) (lv' := [(6, .int (nI (j1 + 1))), (7, .null), (0, .ref (ad 0 0)), (1, .ref (ad 7 i)), (2, .int w), (3, .int (piL S i w j1)), (4, .ref (ad 19 0)), (5, .int 30)]) hx hb dX10_piecesIn_63 hl (k := 7) rfl (nI_1 _) (by decide) rfl (fun ls hl => ?_)
        refine lv_goto (tgt := 16) hx hb dX10_piecesIn_66 (by decide) ?_
        refine ih3 _ ?_
        have a8 : piL S i w (j1 + 1) = piL S i w j1 := (by rw [piL_s]; simp only [pi1, Bool.false_eq_true, if_true, if_false, if_neg h5]; (try rfl))
        rw [a8]
        exact lv_sub hl [2, 3, 4, 5, 6, 7, 0] rfl
  · skip
    refine lv_iload hx hb dX10_piecesIn_16 (lv_at hl 6 rfl) ?_
    refine lv_iload hx hb dX10_piecesIn_18 (lv_at hl 5 rfl) ?_
    refine lv_icmp_ge (tgt := 69) hx hb dX10_piecesIn_20 (by decide) (fun c17 => ?_) (fun c17 => ?_)
    · skip
      refine lv_iload_n hx hb dX10_piecesIn_69 rfl (lv_at hl 3 rfl) ?_
      exact W.iret (v := (piL S i w 30)) hx hb hr (fun t ht hWm => ⟨_, rfl, rfl, ht⟩) (fun q h => absurd h List.not_mem_nil) dX10_piecesIn_70
    · exact absurd (nI_le (a := 30) (b := 30) (Nat.le_refl _) (by decide)) c17

def alB (S : St) (j : Nat) : Bool := if j < sN S 2 0 then (if sI S 40 j = sI S 41 j + piN S j 0 + sI S 43 j then true else false) else true
def alS (S : St) : Bool := allN (alB S) 90
set_option maxHeartbeats 4000000 in
set_option maxRecDepth 100000 in
theorem c_X10_areLotsSound (l : Launch) {D : va_G} {tA : Nat → ClassId} {S : St} {ad : Nat → Nat → Nat} {L : List Nat} {f : Nat → va_E} (hR : Rep tA S ad L f) (hW : WT S) : Met l yX10_areLotsSound (wsC yX10_areLotsSound cX10_areLotsSound 5 (some .boolean)) ({ frames := 2, cells := 0, slots := 0, locals := 49 }) (va_Pc [.ref (ad 0 0)] (gB D tA L f)) (vp_Si (fun r => r = bI (alS S))) 0 0 (fun _ => False) := by
  refine Met.ofW (cc := cX10_areLotsSound) (maxL := 5) (ret := (some .boolean)) (by decide) rfl ?_
  intro p e s m args below meth c s₁ B hml hv
  obtain ⟨rfl, hP, hK, hD⟩ := hv
  have hx := B.exec
  have hb := B.bytes
  have hr := B.returns
  have hts := atoms_spec (ws := wsC yX10_areLotsSound cX10_areLotsSound 5 (some .boolean)) B.pre
  have hta : ∀ w ∈ WA, w.before _ s = true := fun w h => hts w (List.mem_cons_of_mem _ h)
  have hown : s.vm.findClass RX10 = some m.cls := findClass_of_methodNamed B.named
  have hlocks := B.notSynchronized
  have hP : va_P D vwCl (va_pl L f) s.heap := hP
  have hl := lv_entry ([.ref (ad 0 0)]) (n := 5) (Nat.le_of_ble_eq_true rfl)
  rw [lg_entry_eq]
  generalize (lg_sl ([.ref (ad 0 0)]) ++ List.replicate (5 - (lg_sl ([.ref (ad 0 0)])).length) Slot.unset).toArray = ls at hl ⊢
  have hl : lv_has ls 5 [(0, .ref (ad 0 0))] := hl
  refine lv_aload_n hx hb dX10_areLotsSound_0 rfl (lv_at hl 0 rfl) ?_
  refine get_lots_0 hx hb hta iwX10 hown hK hP hR (rfl : (0 : Nat) = 0) (hta _ mw99) dX10_areLotsSound_1 ?_
  refine lv_astore_n (lv' := [(1, .ref (ad 18 0)), (0, .ref (ad 0 0))]) hx hb dX10_areLotsSound_4 rfl hl (by decide) rfl (fun ls hl => ?_)
  refine lv_aload_n hx hb dX10_areLotsSound_5 rfl (lv_at hl 0 rfl) ?_
  refine len_lots hx hb hK hP hR (rfl : (0 : Nat) = 0) dX10_areLotsSound_6 ?_
  refine lv_istore_n (lv' := [(2, .int 90), (1, .ref (ad 18 0)), (0, .ref (ad 0 0))]) hx hb dX10_areLotsSound_7 rfl hl (by decide) rfl (fun ls hl => ?_)
  refine lv_iconst (v := 0) hx hb dX10_areLotsSound_8 (by decide) ?_
  refine lv_istore_n (lv' := [(3, .int 0), (2, .int 90), (1, .ref (ad 18 0)), (0, .ref (ad 0 0))]) hx hb dX10_areLotsSound_9 rfl hl (by decide) rfl (fun ls hl => ?_)
  refine loop_g (σ := Array Slot) (Wg := fun ls => W p l e _ s m _ below meth c _ _ _ _ _ (F0 m 10 ls [])) 90 (fun j9 ls => lv_has ls 5 [(0, .ref (ad 0 0)), (1, .ref (ad 18 0)), (2, .int 90), (3, .int (nI j9))] ∧ (allN (alB S) j9 = true)) (fun j9 hj1 ih2 ls hl => ?_) (fun ls hl => ?_) ls ⟨lv_sub hl [3, 2, 1, 0] rfl, rfl⟩
  · skip
    obtain ⟨hl, hg9⟩ := hl
    refine lv_iload_n hx hb dX10_areLotsSound_10 rfl (lv_at hl 3 rfl) ?_
    refine lv_iload_n hx hb dX10_areLotsSound_11 rfl (lv_at hl 2 rfl) ?_
    refine lv_icmp_ge (tgt := 60) hx hb dX10_areLotsSound_12 (by decide) (fun c3 => ?_) (fun c3 => ?_)
    · exact absurd c3 (nI_ge (a := j9) (b := 90) hj1 (by decide))
    · skip
      refine lv_aload_n hx hb dX10_areLotsSound_15 rfl (lv_at hl 1 rfl) ?_
      refine lv_iload_n hx hb dX10_areLotsSound_16 rfl (lv_at hl 3 rfl) ?_
      refine ldn_lots hx hb hK hP hR (rfl : (0 : Nat) = 0) hj1 dX10_areLotsSound_17 (fun h4 => ?_) (fun h4 => ?_)
      · skip
        refine lv_astore (lv' := [(4, .ref (ad 7 j9)), (0, .ref (ad 0 0)), (1, .ref (ad 18 0)), (2, .int 90), (3, .int (nI j9))]) hx hb dX10_areLotsSound_18 hl (by decide) rfl (fun ls hl => ?_)
        refine lv_aload hx hb dX10_areLotsSound_20 (lv_at hl 0 rfl) ?_
        refine lv_ifnull hx hb dX10_areLotsSound_22 ?_
        refine lv_aload hx hb dX10_areLotsSound_25 (lv_at hl 0 rfl) ?_
        refine get_quantity_7 hx hb hta iwX3 hown hK hP hR h4 (hta _ mw412) dX10_areLotsSound_27 ?_
        refine lv_aload hx hb dX10_areLotsSound_30 (lv_at hl 0 rfl) ?_
        refine get_rest_7 hx hb hta iwX3 hown hK hP hR h4 (hta _ mw421) dX10_areLotsSound_32 ?_
        refine lv_aload_n hx hb dX10_areLotsSound_35 rfl (lv_at hl 1 rfl) ?_
        refine lv_aload hx hb dX10_areLotsSound_36 (lv_at hl 0 rfl) ?_
        refine lv_iconst (v := 0) hx hb dX10_areLotsSound_38 (by decide) ?_
        obtain ⟨q5, e6⟩ := cell_0 hR (rfl : (0 : Nat) = 0)
        refine gro_i (ci := 12) (As := [.ref (ad 7 j9), .int 0]) (rest := [.int (sI S 41 j9), .int (sI S 40 j9)]) ⟨hx, hb, hml, hown, hta⟩ (c_X10_piecesIn l hR hW h4 0) (cwV 2 hta (gWV mw167 mw168 mw2 mw40 mw169) rfl rfl rfl (by decide +kernel) ⟨Nat.le_of_ble_eq_true rfl, Nat.le_of_ble_eq_true rfl⟩) hK hP hD rfl e6 rfl hl.1 rfl (Nat.le_of_ble_eq_true rfl) dX10_areLotsSound_39 ⟨Nat.zero_le _, Nat.zero_le _⟩ (fun r7 c8 => ?_)
        obtain rfl := c8
        refine lv_iadd hx hb dX10_areLotsSound_42 ?_
        refine lv_aload hx hb dX10_areLotsSound_43 (lv_at hl 0 rfl) ?_
        refine get_delivered_7 hx hb hta iwX3 hown hK hP hR h4 (hta _ mw423) dX10_areLotsSound_45 ?_
        refine lv_iadd hx hb dX10_areLotsSound_48 ?_
        refine lv_icmp_eq (tgt := 54) hx hb dX10_areLotsSound_49 (by decide) (fun c9 => ?_) (fun c9 => ?_)
        · skip
          refine lv_iinc (v := nI (j9 + 1)) (lv' := [(3, .int (nI (j9 + 1))), (4, .ref (ad 7 j9)), (0, .ref (ad 0 0)), (1, .ref (ad 18 0)), (2, .int 90)]) hx hb dX10_areLotsSound_54 hl (k := 4) rfl (nI_1 _) (by decide) rfl (fun ls hl => ?_)
          refine lv_goto (tgt := 10) hx hb dX10_areLotsSound_57 (by decide) ?_
          refine ih2 _ ⟨?_, allN_s hg9 (by simp only [alB, Bool.false_eq_true, if_true, if_false, if_pos h4, if_pos c9])⟩
          exact lv_sub hl [2, 3, 4, 0] rfl
        · skip
          refine lv_iconst (v := 0) hx hb dX10_areLotsSound_52 (by decide) ?_
          exact W.zret (v := 0) (ty := .boolean) hx hb hr (by decide) (fun t ht hWm => ⟨_, rfl, (by rw [alS, allN_stop hj1 (by simp only [alB, Bool.false_eq_true, if_true, if_false, if_pos h4, if_neg c9])]; rfl), ht⟩) (fun q h => absurd h List.not_mem_nil) dX10_areLotsSound_53
      · skip
        refine lv_astoreN (lv' := [(4, .null), (0, .ref (ad 0 0)), (1, .ref (ad 18 0)), (2, .int 90), (3, .int (nI j9))]) hx hb dX10_areLotsSound_18 hl (by decide) rfl (fun ls hl => ?_)
        refine lv_aloadN hx hb dX10_areLotsSound_20 (lv_at hl 0 rfl) ?_
        refine lv_ifnullN (tgt := 54) hx hb dX10_areLotsSound_22 (by decide) ?_
        refine lv_iinc (v := nI (j9 + 1)) (lv' := [(3, .int (nI (j9 + 1))), (4, .null), (0, .ref (ad 0 0)), (1, .ref (ad 18 0)), (2, .int 90)]) hx hb dX10_areLotsSound_54 hl (k := 4) rfl (nI_1 _) (by decide) rfl (fun ls hl => ?_)
        refine lv_goto (tgt := 10) hx hb dX10_areLotsSound_57 (by decide) ?_
        refine ih2 _ ⟨?_, allN_s hg9 (by simp only [alB, Bool.false_eq_true, if_true, if_false, if_neg h4])⟩
        exact lv_sub hl [2, 3, 4, 0] rfl
  · skip
    obtain ⟨hl, hg9⟩ := hl
    refine lv_iload_n hx hb dX10_areLotsSound_10 rfl (lv_at hl 3 rfl) ?_
    refine lv_iload_n hx hb dX10_areLotsSound_11 rfl (lv_at hl 2 rfl) ?_
    refine lv_icmp_ge (tgt := 60) hx hb dX10_areLotsSound_12 (by decide) (fun c10 => ?_) (fun c10 => ?_)
    · skip
      refine lv_iconst (v := 1) hx hb dX10_areLotsSound_60 (by decide) ?_
      exact W.zret (v := 1) (ty := .boolean) hx hb hr (by decide) (fun t ht hWm => ⟨_, rfl, (by rw [alS, hg9]; rfl), ht⟩) (fun q h => absurd h List.not_mem_nil) dX10_areLotsSound_61
    · exact absurd (nI_le (a := 90) (b := 90) (Nat.le_refl _) (by decide)) c10

def osRel (S : St) (o : Nat) : Bool := if oInWork S o = true then true else if sI S 63 o = -1 then false else true
def osW (S : St) (o : Nat) (rel : Bool) : Bool := if rel = true then (if sI S 60 o + sI S 61 o = sI S 50 o then true else false) else (if sI S 60 o + sI S 61 o = 0 then true else false)
def osM (S : St) (o : Nat) : Bool := match sR S 4 o with
  | none => true
  | some i => if sI S 40 i = sI S 60 o then true else false
def osD (S : St) (o : Nat) : Bool := if sI S 53 o = 100 then (if sI S 55 o = sI S 50 o then true else false) else (if sI S 55 o = 0 then true else false)
def osB (S : St) (o : Nat) : Bool := osW S o (osRel S o) && osM S o && osD S o
set_option maxHeartbeats 4000000 in
set_option maxRecDepth 100000 in
theorem c_X7_isSoundAlone (l : Launch) {D : va_G} {tA : Nat → ClassId} {S : St} {ad : Nat → Nat → Nat} {L : List Nat} {f : Nat → va_E} (hR : Rep tA S ad L f) (hW : WT S) {o : Nat} (ho : o < sN S 3 0) : Met l yX7_isSoundAlone (wsC yX7_isSoundAlone cX7_isSoundAlone 4 (some .boolean)) ({ frames := 1, cells := 0, slots := 0, locals := 20 }) (va_Pc [.ref (ad 11 o)] (gB D tA L f)) (vp_Si (fun r => r = bI (osB S o))) 0 0 (fun _ => False) := by
  refine Met.ofW (cc := cX7_isSoundAlone) (maxL := 4) (ret := (some .boolean)) (by decide) rfl ?_
  intro p e s m args below meth c s₁ B hml hv
  obtain ⟨rfl, hP, hK, hD⟩ := hv
  have hx := B.exec
  have hb := B.bytes
  have hr := B.returns
  have hts := atoms_spec (ws := wsC yX7_isSoundAlone cX7_isSoundAlone 4 (some .boolean)) B.pre
  have hta : ∀ w ∈ WA, w.before _ s = true := fun w h => hts w (List.mem_cons_of_mem _ h)
  have hown : s.vm.findClass RX7 = some m.cls := findClass_of_methodNamed B.named
  have hlocks := B.notSynchronized
  have hP : va_P D vwCl (va_pl L f) s.heap := hP
  have hl := lv_entry ([.ref (ad 11 o)]) (n := 4) (Nat.le_of_ble_eq_true rfl)
  rw [lg_entry_eq]
  generalize (lg_sl ([.ref (ad 11 o)]) ++ List.replicate (4 - (lg_sl ([.ref (ad 11 o)])).length) Slot.unset).toArray = ls at hl ⊢
  have hl : lv_has ls 4 [(0, .ref (ad 11 o))] := hl
  refine lv_aload_n hx hb dX7_isSoundAlone_0 rfl (lv_at hl 0 rfl) ?_
  obtain ⟨q1, e2⟩ := cell_11 hR ho
  refine gro_i (ci := 9) (As := []) (rest := []) ⟨hx, hb, hml, hown, hta⟩ (c_X7_isInWork l hR ho) (cwV 0 hta (gWV mw181 mw182 mw183 mw59 mw184) rfl rfl rfl (by decide +kernel) ⟨Nat.le_of_ble_eq_true rfl, Nat.le_of_ble_eq_true rfl⟩) hK hP hD rfl e2 rfl hl.1 rfl (Nat.le_of_ble_eq_true rfl) dX7_isSoundAlone_1 ⟨Nat.zero_le _, Nat.zero_le _⟩ (fun r3 c4 => ?_)
  obtain rfl := c4
  refine lv_if_ne (tgt := 18) hx hb dX7_isSoundAlone_4 (by decide) (fun c5 => ?_) (fun c5 => ?_)
  · skip
    have c5 := bI_t c5
    refine lv_iconst (v := 1) hx hb dX7_isSoundAlone_18 (by decide) ?_
    refine lv_goto (tgt := 23) hx hb dX7_isSoundAlone_19 (by decide) ?_
    refine lv_istore_n (lv' := [(1, .int 1), (0, .ref (ad 11 o))]) hx hb dX7_isSoundAlone_23 rfl hl (by decide) rfl (fun ls hl => ?_)
    refine lv_aload_n hx hb dX7_isSoundAlone_24 rfl (lv_at hl 1 rfl) ?_
    refine get_job_11 hx hb hta iwX7 hown hK hP hR ho (hta _ mw540) dX7_isSoundAlone_25 ?_
    refine get_pieces_12 hx hb hta iwX2 hown hK hP hR ho (hta _ mw516) dX7_isSoundAlone_28 ?_
    refine lv_aload_n hx hb dX7_isSoundAlone_31 rfl (lv_at hl 1 rfl) ?_
    refine get_job_11 hx hb hta iwX7 hown hK hP hR ho (hta _ mw540) dX7_isSoundAlone_32 ?_
    refine get_scrapped_12 hx hb hta iwX2 hown hK hP hR ho (hta _ mw518) dX7_isSoundAlone_35 ?_
    refine lv_iadd hx hb dX7_isSoundAlone_38 ?_
    refine lv_iload_n hx hb dX7_isSoundAlone_39 rfl (lv_at hl 0 rfl) ?_
    refine lv_if_eq (tgt := 50) hx hb dX7_isSoundAlone_40 (by decide) (fun c6 => ?_) (fun c6 => ?_)
    · exact absurd c6 (by decide)
    · skip
      refine lv_aload_n hx hb dX7_isSoundAlone_43 rfl (lv_at hl 1 rfl) ?_
      refine get_quantity_11 hx hb hta iwX7 hown hK hP hR ho (hta _ mw534) dX7_isSoundAlone_44 ?_
      refine lv_goto (tgt := 51) hx hb dX7_isSoundAlone_47 (by decide) ?_
      refine lv_icmp_ne (tgt := 58) hx hb dX7_isSoundAlone_51 (by decide) (fun c7 => ?_) (fun c7 => ?_)
      · skip
        refine lv_iconst (v := 0) hx hb dX7_isSoundAlone_58 (by decide) ?_
        refine lv_istore_n (lv' := [(2, .int 0), (1, .int 1), (0, .ref (ad 11 o))]) hx hb dX7_isSoundAlone_59 rfl hl (by decide) rfl (fun ls hl => ?_)
        refine lv_aload_n hx hb dX7_isSoundAlone_60 rfl (lv_at hl 2 rfl) ?_
        refine get_job_11 hx hb hta iwX7 hown hK hP hR ho (hta _ mw540) dX7_isSoundAlone_61 ?_
        refine get_lot_12 hx hb hta iwX2 hown hK hP hR ho (hta _ mw526) dX7_isSoundAlone_64 ?_
        rcases h8 : sR S 4 o with _ | o9
        · rw [rf_none]
          refine lv_ifnullN (tgt := 90) hx hb dX7_isSoundAlone_67 (by decide) ?_
          refine lv_iconst (v := 1) hx hb dX7_isSoundAlone_90 (by decide) ?_
          refine lv_goto (tgt := 95) hx hb dX7_isSoundAlone_91 (by decide) ?_
          refine lv_istore_n (lv' := [(3, .int 1), (2, .int 0), (1, .int 1), (0, .ref (ad 11 o))]) hx hb dX7_isSoundAlone_95 rfl hl (by decide) rfl (fun ls hl => ?_)
          refine lv_iload_n hx hb dX7_isSoundAlone_96 rfl (lv_at hl 1 rfl) ?_
          refine lv_if_eq (tgt := 132) hx hb dX7_isSoundAlone_97 (by decide) (fun c10 => ?_) (fun c10 => ?_)
          · skip
            refine lv_iconst (v := 0) hx hb dX7_isSoundAlone_132 (by decide) ?_
            exact W.zret (v := 0) (ty := .boolean) hx hb hr (by decide) (fun t ht hWm => ⟨_, rfl, (by simp only [osB, osRel, osW, osM, osD, Bool.false_eq_true, if_true, if_false, Bool.true_and, Bool.and_true, Bool.false_and, Bool.and_false, c5, if_neg c7, h8]; (try rfl)), ht⟩) (fun q h => absurd h List.not_mem_nil) dX7_isSoundAlone_133
          · exact absurd (by decide) c10
        · rw [rf_some]
          have v11 := hW.jlot ho h8
          refine lv_ifnull hx hb dX7_isSoundAlone_67 ?_
          refine lv_aload_n hx hb dX7_isSoundAlone_70 rfl (lv_at hl 2 rfl) ?_
          refine get_job_11 hx hb hta iwX7 hown hK hP hR ho (hta _ mw540) dX7_isSoundAlone_71 ?_
          refine get_lot_12 hx hb hta iwX2 hown hK hP hR ho (hta _ mw526) dX7_isSoundAlone_74 ?_
          rw [h8, rf_some]
          refine get_quantity_7 hx hb hta iwX3 hown hK hP hR v11 (hta _ mw411) dX7_isSoundAlone_77 ?_
          refine lv_aload_n hx hb dX7_isSoundAlone_80 rfl (lv_at hl 2 rfl) ?_
          refine get_job_11 hx hb hta iwX7 hown hK hP hR ho (hta _ mw540) dX7_isSoundAlone_81 ?_
          refine get_pieces_12 hx hb hta iwX2 hown hK hP hR ho (hta _ mw516) dX7_isSoundAlone_84 ?_
          refine lv_icmp_ne (tgt := 94) hx hb dX7_isSoundAlone_87 (by decide) (fun c12 => ?_) (fun c12 => ?_)
          · skip
            refine lv_iconst (v := 0) hx hb dX7_isSoundAlone_94 (by decide) ?_
            refine lv_istore_n (lv' := [(3, .int 0), (2, .int 0), (1, .int 1), (0, .ref (ad 11 o))]) hx hb dX7_isSoundAlone_95 rfl hl (by decide) rfl (fun ls hl => ?_)
            refine lv_iload_n hx hb dX7_isSoundAlone_96 rfl (lv_at hl 1 rfl) ?_
            refine lv_if_eq (tgt := 132) hx hb dX7_isSoundAlone_97 (by decide) (fun c13 => ?_) (fun c13 => ?_)
            · skip
              refine lv_iconst (v := 0) hx hb dX7_isSoundAlone_132 (by decide) ?_
              exact W.zret (v := 0) (ty := .boolean) hx hb hr (by decide) (fun t ht hWm => ⟨_, rfl, (by simp only [osB, osRel, osW, osM, osD, Bool.false_eq_true, if_true, if_false, Bool.true_and, Bool.and_true, Bool.false_and, Bool.and_false, c5, if_neg c7, h8, if_neg c12]; (try rfl)), ht⟩) (fun q h => absurd h List.not_mem_nil) dX7_isSoundAlone_133
            · exact absurd (by decide) c13
          · skip
            refine lv_iconst (v := 1) hx hb dX7_isSoundAlone_90 (by decide) ?_
            refine lv_goto (tgt := 95) hx hb dX7_isSoundAlone_91 (by decide) ?_
            refine lv_istore_n (lv' := [(3, .int 1), (2, .int 0), (1, .int 1), (0, .ref (ad 11 o))]) hx hb dX7_isSoundAlone_95 rfl hl (by decide) rfl (fun ls hl => ?_)
            refine lv_iload_n hx hb dX7_isSoundAlone_96 rfl (lv_at hl 1 rfl) ?_
            refine lv_if_eq (tgt := 132) hx hb dX7_isSoundAlone_97 (by decide) (fun c14 => ?_) (fun c14 => ?_)
            · skip
              refine lv_iconst (v := 0) hx hb dX7_isSoundAlone_132 (by decide) ?_
              exact W.zret (v := 0) (ty := .boolean) hx hb hr (by decide) (fun t ht hWm => ⟨_, rfl, (by simp only [osB, osRel, osW, osM, osD, Bool.false_eq_true, if_true, if_false, Bool.true_and, Bool.and_true, Bool.false_and, Bool.and_false, c5, if_neg c7, h8, if_pos c12]; (try rfl)), ht⟩) (fun q h => absurd h List.not_mem_nil) dX7_isSoundAlone_133
            · exact absurd (by decide) c14
      · skip
        refine lv_iconst (v := 1) hx hb dX7_isSoundAlone_54 (by decide) ?_
        refine lv_goto (tgt := 59) hx hb dX7_isSoundAlone_55 (by decide) ?_
        refine lv_istore_n (lv' := [(2, .int 1), (1, .int 1), (0, .ref (ad 11 o))]) hx hb dX7_isSoundAlone_59 rfl hl (by decide) rfl (fun ls hl => ?_)
        refine lv_aload_n hx hb dX7_isSoundAlone_60 rfl (lv_at hl 2 rfl) ?_
        refine get_job_11 hx hb hta iwX7 hown hK hP hR ho (hta _ mw540) dX7_isSoundAlone_61 ?_
        refine get_lot_12 hx hb hta iwX2 hown hK hP hR ho (hta _ mw526) dX7_isSoundAlone_64 ?_
        rcases h15 : sR S 4 o with _ | o16
        · rw [rf_none]
          refine lv_ifnullN (tgt := 90) hx hb dX7_isSoundAlone_67 (by decide) ?_
          refine lv_iconst (v := 1) hx hb dX7_isSoundAlone_90 (by decide) ?_
          refine lv_goto (tgt := 95) hx hb dX7_isSoundAlone_91 (by decide) ?_
          refine lv_istore_n (lv' := [(3, .int 1), (2, .int 1), (1, .int 1), (0, .ref (ad 11 o))]) hx hb dX7_isSoundAlone_95 rfl hl (by decide) rfl (fun ls hl => ?_)
          refine lv_iload_n hx hb dX7_isSoundAlone_96 rfl (lv_at hl 1 rfl) ?_
          refine lv_if_eq (tgt := 132) hx hb dX7_isSoundAlone_97 (by decide) (fun c17 => ?_) (fun c17 => ?_)
          · exact absurd c17 (by decide)
          · skip
            refine lv_iload_n hx hb dX7_isSoundAlone_100 rfl (lv_at hl 0 rfl) ?_
            refine lv_if_eq (tgt := 132) hx hb dX7_isSoundAlone_101 (by decide) (fun c18 => ?_) (fun c18 => ?_)
            · exact absurd c18 (by decide)
            · skip
              refine lv_aload_n hx hb dX7_isSoundAlone_104 rfl (lv_at hl 3 rfl) ?_
              refine get_delivered_11 hx hb hta iwX7 hown hK hP hR ho (hta _ mw548) dX7_isSoundAlone_105 ?_
              refine lv_aload_n hx hb dX7_isSoundAlone_108 rfl (lv_at hl 3 rfl) ?_
              refine get_state_11 hx hb hta iwX7 hown hK hP hR ho (hta _ mw545) dX7_isSoundAlone_109 ?_
              refine lv_bipush (v := 100) hx hb dX7_isSoundAlone_112 (by decide) ?_
              refine lv_icmp_ne (tgt := 124) hx hb dX7_isSoundAlone_114 (by decide) (fun c19 => ?_) (fun c19 => ?_)
              · skip
                refine lv_iconst (v := 0) hx hb dX7_isSoundAlone_124 (by decide) ?_
                refine lv_icmp_ne (tgt := 132) hx hb dX7_isSoundAlone_125 (by decide) (fun c20 => ?_) (fun c20 => ?_)
                · skip
                  refine lv_iconst (v := 0) hx hb dX7_isSoundAlone_132 (by decide) ?_
                  exact W.zret (v := 0) (ty := .boolean) hx hb hr (by decide) (fun t ht hWm => ⟨_, rfl, (by simp only [osB, osRel, osW, osM, osD, Bool.false_eq_true, if_true, if_false, Bool.true_and, Bool.and_true, Bool.false_and, Bool.and_false, c5, if_pos c7, h15, if_neg c19, if_neg c20]; (try rfl)), ht⟩) (fun q h => absurd h List.not_mem_nil) dX7_isSoundAlone_133
                · skip
                  refine lv_iconst (v := 1) hx hb dX7_isSoundAlone_128 (by decide) ?_
                  refine lv_goto (tgt := 133) hx hb dX7_isSoundAlone_129 (by decide) ?_
                  exact W.zret (v := 1) (ty := .boolean) hx hb hr (by decide) (fun t ht hWm => ⟨_, rfl, (by simp only [osB, osRel, osW, osM, osD, Bool.false_eq_true, if_true, if_false, Bool.true_and, Bool.and_true, Bool.false_and, Bool.and_false, c5, if_pos c7, h15, if_neg c19, if_pos c20]; (try rfl)), ht⟩) (fun q h => absurd h List.not_mem_nil) dX7_isSoundAlone_133
              · skip
                refine lv_aload_n hx hb dX7_isSoundAlone_117 rfl (lv_at hl 3 rfl) ?_
                refine get_quantity_11 hx hb hta iwX7 hown hK hP hR ho (hta _ mw534) dX7_isSoundAlone_118 ?_
                refine lv_goto (tgt := 125) hx hb dX7_isSoundAlone_121 (by decide) ?_
                refine lv_icmp_ne (tgt := 132) hx hb dX7_isSoundAlone_125 (by decide) (fun c21 => ?_) (fun c21 => ?_)
                · skip
                  refine lv_iconst (v := 0) hx hb dX7_isSoundAlone_132 (by decide) ?_
                  exact W.zret (v := 0) (ty := .boolean) hx hb hr (by decide) (fun t ht hWm => ⟨_, rfl, (by simp only [osB, osRel, osW, osM, osD, Bool.false_eq_true, if_true, if_false, Bool.true_and, Bool.and_true, Bool.false_and, Bool.and_false, c5, if_pos c7, h15, if_pos c19, if_neg c21]; (try rfl)), ht⟩) (fun q h => absurd h List.not_mem_nil) dX7_isSoundAlone_133
                · skip
                  refine lv_iconst (v := 1) hx hb dX7_isSoundAlone_128 (by decide) ?_
                  refine lv_goto (tgt := 133) hx hb dX7_isSoundAlone_129 (by decide) ?_
                  exact W.zret (v := 1) (ty := .boolean) hx hb hr (by decide) (fun t ht hWm => ⟨_, rfl, (by simp only [osB, osRel, osW, osM, osD, Bool.false_eq_true, if_true, if_false, Bool.true_and, Bool.and_true, Bool.false_and, Bool.and_false, c5, if_pos c7, h15, if_pos c19, if_pos c21]; (try rfl)), ht⟩) (fun q h => absurd h List.not_mem_nil) dX7_isSoundAlone_133
        · rw [rf_some]
          have v22 := hW.jlot ho h15
          refine lv_ifnull hx hb dX7_isSoundAlone_67 ?_
          refine lv_aload_n hx hb dX7_isSoundAlone_70 rfl (lv_at hl 2 rfl) ?_
          refine get_job_11 hx hb hta iwX7 hown hK hP hR ho (hta _ mw540) dX7_isSoundAlone_71 ?_
          refine get_lot_12 hx hb hta iwX2 hown hK hP hR ho (hta _ mw526) dX7_isSoundAlone_74 ?_
          rw [h15, rf_some]
          refine get_quantity_7 hx hb hta iwX3 hown hK hP hR v22 (hta _ mw411) dX7_isSoundAlone_77 ?_
          refine lv_aload_n hx hb dX7_isSoundAlone_80 rfl (lv_at hl 2 rfl) ?_
          refine get_job_11 hx hb hta iwX7 hown hK hP hR ho (hta _ mw540) dX7_isSoundAlone_81 ?_
          refine get_pieces_12 hx hb hta iwX2 hown hK hP hR ho (hta _ mw516) dX7_isSoundAlone_84 ?_
          refine lv_icmp_ne (tgt := 94) hx hb dX7_isSoundAlone_87 (by decide) (fun c23 => ?_) (fun c23 => ?_)
          · skip
            refine lv_iconst (v := 0) hx hb dX7_isSoundAlone_94 (by decide) ?_
            refine lv_istore_n (lv' := [(3, .int 0), (2, .int 1), (1, .int 1), (0, .ref (ad 11 o))]) hx hb dX7_isSoundAlone_95 rfl hl (by decide) rfl (fun ls hl => ?_)
            refine lv_iload_n hx hb dX7_isSoundAlone_96 rfl (lv_at hl 1 rfl) ?_
            refine lv_if_eq (tgt := 132) hx hb dX7_isSoundAlone_97 (by decide) (fun c24 => ?_) (fun c24 => ?_)
            · exact absurd c24 (by decide)
            · skip
              refine lv_iload_n hx hb dX7_isSoundAlone_100 rfl (lv_at hl 0 rfl) ?_
              refine lv_if_eq (tgt := 132) hx hb dX7_isSoundAlone_101 (by decide) (fun c25 => ?_) (fun c25 => ?_)
              · skip
                refine lv_iconst (v := 0) hx hb dX7_isSoundAlone_132 (by decide) ?_
                exact W.zret (v := 0) (ty := .boolean) hx hb hr (by decide) (fun t ht hWm => ⟨_, rfl, (by simp only [osB, osRel, osW, osM, osD, Bool.false_eq_true, if_true, if_false, Bool.true_and, Bool.and_true, Bool.false_and, Bool.and_false, c5, if_pos c7, h15, if_neg c23]; (try rfl)), ht⟩) (fun q h => absurd h List.not_mem_nil) dX7_isSoundAlone_133
              · exact absurd (by decide) c25
          · skip
            refine lv_iconst (v := 1) hx hb dX7_isSoundAlone_90 (by decide) ?_
            refine lv_goto (tgt := 95) hx hb dX7_isSoundAlone_91 (by decide) ?_
            refine lv_istore_n (lv' := [(3, .int 1), (2, .int 1), (1, .int 1), (0, .ref (ad 11 o))]) hx hb dX7_isSoundAlone_95 rfl hl (by decide) rfl (fun ls hl => ?_)
            refine lv_iload_n hx hb dX7_isSoundAlone_96 rfl (lv_at hl 1 rfl) ?_
            refine lv_if_eq (tgt := 132) hx hb dX7_isSoundAlone_97 (by decide) (fun c26 => ?_) (fun c26 => ?_)
            · exact absurd c26 (by decide)
            · skip
              refine lv_iload_n hx hb dX7_isSoundAlone_100 rfl (lv_at hl 0 rfl) ?_
              refine lv_if_eq (tgt := 132) hx hb dX7_isSoundAlone_101 (by decide) (fun c27 => ?_) (fun c27 => ?_)
              · exact absurd c27 (by decide)
              · skip
                refine lv_aload_n hx hb dX7_isSoundAlone_104 rfl (lv_at hl 3 rfl) ?_
                refine get_delivered_11 hx hb hta iwX7 hown hK hP hR ho (hta _ mw548) dX7_isSoundAlone_105 ?_
                refine lv_aload_n hx hb dX7_isSoundAlone_108 rfl (lv_at hl 3 rfl) ?_
                refine get_state_11 hx hb hta iwX7 hown hK hP hR ho (hta _ mw545) dX7_isSoundAlone_109 ?_
                refine lv_bipush (v := 100) hx hb dX7_isSoundAlone_112 (by decide) ?_
                refine lv_icmp_ne (tgt := 124) hx hb dX7_isSoundAlone_114 (by decide) (fun c28 => ?_) (fun c28 => ?_)
                · skip
                  refine lv_iconst (v := 0) hx hb dX7_isSoundAlone_124 (by decide) ?_
                  refine lv_icmp_ne (tgt := 132) hx hb dX7_isSoundAlone_125 (by decide) (fun c29 => ?_) (fun c29 => ?_)
                  · skip
                    refine lv_iconst (v := 0) hx hb dX7_isSoundAlone_132 (by decide) ?_
                    exact W.zret (v := 0) (ty := .boolean) hx hb hr (by decide) (fun t ht hWm => ⟨_, rfl, (by simp only [osB, osRel, osW, osM, osD, Bool.false_eq_true, if_true, if_false, Bool.true_and, Bool.and_true, Bool.false_and, Bool.and_false, c5, if_pos c7, h15, if_pos c23, if_neg c28, if_neg c29]; (try rfl)), ht⟩) (fun q h => absurd h List.not_mem_nil) dX7_isSoundAlone_133
                  · skip
                    refine lv_iconst (v := 1) hx hb dX7_isSoundAlone_128 (by decide) ?_
                    refine lv_goto (tgt := 133) hx hb dX7_isSoundAlone_129 (by decide) ?_
                    exact W.zret (v := 1) (ty := .boolean) hx hb hr (by decide) (fun t ht hWm => ⟨_, rfl, (by simp only [osB, osRel, osW, osM, osD, Bool.false_eq_true, if_true, if_false, Bool.true_and, Bool.and_true, Bool.false_and, Bool.and_false, c5, if_pos c7, h15, if_pos c23, if_neg c28, if_pos c29]; (try rfl)), ht⟩) (fun q h => absurd h List.not_mem_nil) dX7_isSoundAlone_133
                · skip
                  refine lv_aload_n hx hb dX7_isSoundAlone_117 rfl (lv_at hl 3 rfl) ?_
                  refine get_quantity_11 hx hb hta iwX7 hown hK hP hR ho (hta _ mw534) dX7_isSoundAlone_118 ?_
                  refine lv_goto (tgt := 125) hx hb dX7_isSoundAlone_121 (by decide) ?_
                  refine lv_icmp_ne (tgt := 132) hx hb dX7_isSoundAlone_125 (by decide) (fun c30 => ?_) (fun c30 => ?_)
                  · skip
                    refine lv_iconst (v := 0) hx hb dX7_isSoundAlone_132 (by decide) ?_
                    exact W.zret (v := 0) (ty := .boolean) hx hb hr (by decide) (fun t ht hWm => ⟨_, rfl, (by simp only [osB, osRel, osW, osM, osD, Bool.false_eq_true, if_true, if_false, Bool.true_and, Bool.and_true, Bool.false_and, Bool.and_false, c5, if_pos c7, h15, if_pos c23, if_pos c28, if_neg c30]; (try rfl)), ht⟩) (fun q h => absurd h List.not_mem_nil) dX7_isSoundAlone_133
                  · skip
                    refine lv_iconst (v := 1) hx hb dX7_isSoundAlone_128 (by decide) ?_
                    refine lv_goto (tgt := 133) hx hb dX7_isSoundAlone_129 (by decide) ?_
                    exact W.zret (v := 1) (ty := .boolean) hx hb hr (by decide) (fun t ht hWm => ⟨_, rfl, (by simp only [osB, osRel, osW, osM, osD, Bool.false_eq_true, if_true, if_false, Bool.true_and, Bool.and_true, Bool.false_and, Bool.and_false, c5, if_pos c7, h15, if_pos c23, if_pos c28, if_pos c30]; (try rfl)), ht⟩) (fun q h => absurd h List.not_mem_nil) dX7_isSoundAlone_133
  · skip
    have c5 := bI_f c5
    refine lv_aload_n hx hb dX7_isSoundAlone_7 rfl (lv_at hl 0 rfl) ?_
    refine get_job_11 hx hb hta iwX7 hown hK hP hR ho (hta _ mw540) dX7_isSoundAlone_8 ?_
    refine get_finishedAt_12 hx hb hta iwX2 hown hK hP hR ho (hta _ mw522) dX7_isSoundAlone_11 ?_
    refine lv_iconst (v := -1) hx hb dX7_isSoundAlone_14 (by decide) ?_
    refine lv_icmp_eq (tgt := 22) hx hb dX7_isSoundAlone_15 (by decide) (fun c31 => ?_) (fun c31 => ?_)
    · skip
      refine lv_iconst (v := 0) hx hb dX7_isSoundAlone_22 (by decide) ?_
      refine lv_istore_n (lv' := [(1, .int 0), (0, .ref (ad 11 o))]) hx hb dX7_isSoundAlone_23 rfl hl (by decide) rfl (fun ls hl => ?_)
      refine lv_aload_n hx hb dX7_isSoundAlone_24 rfl (lv_at hl 1 rfl) ?_
      refine get_job_11 hx hb hta iwX7 hown hK hP hR ho (hta _ mw540) dX7_isSoundAlone_25 ?_
      refine get_pieces_12 hx hb hta iwX2 hown hK hP hR ho (hta _ mw516) dX7_isSoundAlone_28 ?_
      refine lv_aload_n hx hb dX7_isSoundAlone_31 rfl (lv_at hl 1 rfl) ?_
      refine get_job_11 hx hb hta iwX7 hown hK hP hR ho (hta _ mw540) dX7_isSoundAlone_32 ?_
      refine get_scrapped_12 hx hb hta iwX2 hown hK hP hR ho (hta _ mw518) dX7_isSoundAlone_35 ?_
      refine lv_iadd hx hb dX7_isSoundAlone_38 ?_
      refine lv_iload_n hx hb dX7_isSoundAlone_39 rfl (lv_at hl 0 rfl) ?_
      refine lv_if_eq (tgt := 50) hx hb dX7_isSoundAlone_40 (by decide) (fun c32 => ?_) (fun c32 => ?_)
      · skip
        refine lv_iconst (v := 0) hx hb dX7_isSoundAlone_50 (by decide) ?_
        refine lv_icmp_ne (tgt := 58) hx hb dX7_isSoundAlone_51 (by decide) (fun c33 => ?_) (fun c33 => ?_)
        · skip
          refine lv_iconst (v := 0) hx hb dX7_isSoundAlone_58 (by decide) ?_
          refine lv_istore_n (lv' := [(2, .int 0), (1, .int 0), (0, .ref (ad 11 o))]) hx hb dX7_isSoundAlone_59 rfl hl (by decide) rfl (fun ls hl => ?_)
          refine lv_aload_n hx hb dX7_isSoundAlone_60 rfl (lv_at hl 2 rfl) ?_
          refine get_job_11 hx hb hta iwX7 hown hK hP hR ho (hta _ mw540) dX7_isSoundAlone_61 ?_
          refine get_lot_12 hx hb hta iwX2 hown hK hP hR ho (hta _ mw526) dX7_isSoundAlone_64 ?_
          rcases h34 : sR S 4 o with _ | o35
          · rw [rf_none]
            refine lv_ifnullN (tgt := 90) hx hb dX7_isSoundAlone_67 (by decide) ?_
            refine lv_iconst (v := 1) hx hb dX7_isSoundAlone_90 (by decide) ?_
            refine lv_goto (tgt := 95) hx hb dX7_isSoundAlone_91 (by decide) ?_
            refine lv_istore_n (lv' := [(3, .int 1), (2, .int 0), (1, .int 0), (0, .ref (ad 11 o))]) hx hb dX7_isSoundAlone_95 rfl hl (by decide) rfl (fun ls hl => ?_)
            refine lv_iload_n hx hb dX7_isSoundAlone_96 rfl (lv_at hl 1 rfl) ?_
            refine lv_if_eq (tgt := 132) hx hb dX7_isSoundAlone_97 (by decide) (fun c36 => ?_) (fun c36 => ?_)
            · skip
              refine lv_iconst (v := 0) hx hb dX7_isSoundAlone_132 (by decide) ?_
              exact W.zret (v := 0) (ty := .boolean) hx hb hr (by decide) (fun t ht hWm => ⟨_, rfl, (by simp only [osB, osRel, osW, osM, osD, Bool.false_eq_true, if_true, if_false, Bool.true_and, Bool.and_true, Bool.false_and, Bool.and_false, c5, if_pos c31, if_neg c33, h34]; (try rfl)), ht⟩) (fun q h => absurd h List.not_mem_nil) dX7_isSoundAlone_133
            · exact absurd (by decide) c36
          · rw [rf_some]
            have v37 := hW.jlot ho h34
            refine lv_ifnull hx hb dX7_isSoundAlone_67 ?_
            refine lv_aload_n hx hb dX7_isSoundAlone_70 rfl (lv_at hl 2 rfl) ?_
            refine get_job_11 hx hb hta iwX7 hown hK hP hR ho (hta _ mw540) dX7_isSoundAlone_71 ?_
            refine get_lot_12 hx hb hta iwX2 hown hK hP hR ho (hta _ mw526) dX7_isSoundAlone_74 ?_
            rw [h34, rf_some]
            refine get_quantity_7 hx hb hta iwX3 hown hK hP hR v37 (hta _ mw411) dX7_isSoundAlone_77 ?_
            refine lv_aload_n hx hb dX7_isSoundAlone_80 rfl (lv_at hl 2 rfl) ?_
            refine get_job_11 hx hb hta iwX7 hown hK hP hR ho (hta _ mw540) dX7_isSoundAlone_81 ?_
            refine get_pieces_12 hx hb hta iwX2 hown hK hP hR ho (hta _ mw516) dX7_isSoundAlone_84 ?_
            refine lv_icmp_ne (tgt := 94) hx hb dX7_isSoundAlone_87 (by decide) (fun c38 => ?_) (fun c38 => ?_)
            · skip
              refine lv_iconst (v := 0) hx hb dX7_isSoundAlone_94 (by decide) ?_
              refine lv_istore_n (lv' := [(3, .int 0), (2, .int 0), (1, .int 0), (0, .ref (ad 11 o))]) hx hb dX7_isSoundAlone_95 rfl hl (by decide) rfl (fun ls hl => ?_)
              refine lv_iload_n hx hb dX7_isSoundAlone_96 rfl (lv_at hl 1 rfl) ?_
              refine lv_if_eq (tgt := 132) hx hb dX7_isSoundAlone_97 (by decide) (fun c39 => ?_) (fun c39 => ?_)
              · skip
                refine lv_iconst (v := 0) hx hb dX7_isSoundAlone_132 (by decide) ?_
                exact W.zret (v := 0) (ty := .boolean) hx hb hr (by decide) (fun t ht hWm => ⟨_, rfl, (by simp only [osB, osRel, osW, osM, osD, Bool.false_eq_true, if_true, if_false, Bool.true_and, Bool.and_true, Bool.false_and, Bool.and_false, c5, if_pos c31, if_neg c33, h34, if_neg c38]; (try rfl)), ht⟩) (fun q h => absurd h List.not_mem_nil) dX7_isSoundAlone_133
              · exact absurd (by decide) c39
            · skip
              refine lv_iconst (v := 1) hx hb dX7_isSoundAlone_90 (by decide) ?_
              refine lv_goto (tgt := 95) hx hb dX7_isSoundAlone_91 (by decide) ?_
              refine lv_istore_n (lv' := [(3, .int 1), (2, .int 0), (1, .int 0), (0, .ref (ad 11 o))]) hx hb dX7_isSoundAlone_95 rfl hl (by decide) rfl (fun ls hl => ?_)
              refine lv_iload_n hx hb dX7_isSoundAlone_96 rfl (lv_at hl 1 rfl) ?_
              refine lv_if_eq (tgt := 132) hx hb dX7_isSoundAlone_97 (by decide) (fun c40 => ?_) (fun c40 => ?_)
              · skip
                refine lv_iconst (v := 0) hx hb dX7_isSoundAlone_132 (by decide) ?_
                exact W.zret (v := 0) (ty := .boolean) hx hb hr (by decide) (fun t ht hWm => ⟨_, rfl, (by simp only [osB, osRel, osW, osM, osD, Bool.false_eq_true, if_true, if_false, Bool.true_and, Bool.and_true, Bool.false_and, Bool.and_false, c5, if_pos c31, if_neg c33, h34, if_pos c38]; (try rfl)), ht⟩) (fun q h => absurd h List.not_mem_nil) dX7_isSoundAlone_133
              · exact absurd (by decide) c40
        · skip
          refine lv_iconst (v := 1) hx hb dX7_isSoundAlone_54 (by decide) ?_
          refine lv_goto (tgt := 59) hx hb dX7_isSoundAlone_55 (by decide) ?_
          refine lv_istore_n (lv' := [(2, .int 1), (1, .int 0), (0, .ref (ad 11 o))]) hx hb dX7_isSoundAlone_59 rfl hl (by decide) rfl (fun ls hl => ?_)
          refine lv_aload_n hx hb dX7_isSoundAlone_60 rfl (lv_at hl 2 rfl) ?_
          refine get_job_11 hx hb hta iwX7 hown hK hP hR ho (hta _ mw540) dX7_isSoundAlone_61 ?_
          refine get_lot_12 hx hb hta iwX2 hown hK hP hR ho (hta _ mw526) dX7_isSoundAlone_64 ?_
          rcases h41 : sR S 4 o with _ | o42
          · rw [rf_none]
            refine lv_ifnullN (tgt := 90) hx hb dX7_isSoundAlone_67 (by decide) ?_
            refine lv_iconst (v := 1) hx hb dX7_isSoundAlone_90 (by decide) ?_
            refine lv_goto (tgt := 95) hx hb dX7_isSoundAlone_91 (by decide) ?_
            refine lv_istore_n (lv' := [(3, .int 1), (2, .int 1), (1, .int 0), (0, .ref (ad 11 o))]) hx hb dX7_isSoundAlone_95 rfl hl (by decide) rfl (fun ls hl => ?_)
            refine lv_iload_n hx hb dX7_isSoundAlone_96 rfl (lv_at hl 1 rfl) ?_
            refine lv_if_eq (tgt := 132) hx hb dX7_isSoundAlone_97 (by decide) (fun c43 => ?_) (fun c43 => ?_)
            · exact absurd c43 (by decide)
            · skip
              refine lv_iload_n hx hb dX7_isSoundAlone_100 rfl (lv_at hl 0 rfl) ?_
              refine lv_if_eq (tgt := 132) hx hb dX7_isSoundAlone_101 (by decide) (fun c44 => ?_) (fun c44 => ?_)
              · exact absurd c44 (by decide)
              · skip
                refine lv_aload_n hx hb dX7_isSoundAlone_104 rfl (lv_at hl 3 rfl) ?_
                refine get_delivered_11 hx hb hta iwX7 hown hK hP hR ho (hta _ mw548) dX7_isSoundAlone_105 ?_
                refine lv_aload_n hx hb dX7_isSoundAlone_108 rfl (lv_at hl 3 rfl) ?_
                refine get_state_11 hx hb hta iwX7 hown hK hP hR ho (hta _ mw545) dX7_isSoundAlone_109 ?_
                refine lv_bipush (v := 100) hx hb dX7_isSoundAlone_112 (by decide) ?_
                refine lv_icmp_ne (tgt := 124) hx hb dX7_isSoundAlone_114 (by decide) (fun c45 => ?_) (fun c45 => ?_)
                · skip
                  refine lv_iconst (v := 0) hx hb dX7_isSoundAlone_124 (by decide) ?_
                  refine lv_icmp_ne (tgt := 132) hx hb dX7_isSoundAlone_125 (by decide) (fun c46 => ?_) (fun c46 => ?_)
                  · skip
                    refine lv_iconst (v := 0) hx hb dX7_isSoundAlone_132 (by decide) ?_
                    exact W.zret (v := 0) (ty := .boolean) hx hb hr (by decide) (fun t ht hWm => ⟨_, rfl, (by simp only [osB, osRel, osW, osM, osD, Bool.false_eq_true, if_true, if_false, Bool.true_and, Bool.and_true, Bool.false_and, Bool.and_false, c5, if_pos c31, if_pos c33, h41, if_neg c45, if_neg c46]; (try rfl)), ht⟩) (fun q h => absurd h List.not_mem_nil) dX7_isSoundAlone_133
                  · skip
                    refine lv_iconst (v := 1) hx hb dX7_isSoundAlone_128 (by decide) ?_
                    refine lv_goto (tgt := 133) hx hb dX7_isSoundAlone_129 (by decide) ?_
                    exact W.zret (v := 1) (ty := .boolean) hx hb hr (by decide) (fun t ht hWm => ⟨_, rfl, (by simp only [osB, osRel, osW, osM, osD, Bool.false_eq_true, if_true, if_false, Bool.true_and, Bool.and_true, Bool.false_and, Bool.and_false, c5, if_pos c31, if_pos c33, h41, if_neg c45, if_pos c46]; (try rfl)), ht⟩) (fun q h => absurd h List.not_mem_nil) dX7_isSoundAlone_133
                · skip
                  refine lv_aload_n hx hb dX7_isSoundAlone_117 rfl (lv_at hl 3 rfl) ?_
                  refine get_quantity_11 hx hb hta iwX7 hown hK hP hR ho (hta _ mw534) dX7_isSoundAlone_118 ?_
                  refine lv_goto (tgt := 125) hx hb dX7_isSoundAlone_121 (by decide) ?_
                  refine lv_icmp_ne (tgt := 132) hx hb dX7_isSoundAlone_125 (by decide) (fun c47 => ?_) (fun c47 => ?_)
                  · skip
                    refine lv_iconst (v := 0) hx hb dX7_isSoundAlone_132 (by decide) ?_
                    exact W.zret (v := 0) (ty := .boolean) hx hb hr (by decide) (fun t ht hWm => ⟨_, rfl, (by simp only [osB, osRel, osW, osM, osD, Bool.false_eq_true, if_true, if_false, Bool.true_and, Bool.and_true, Bool.false_and, Bool.and_false, c5, if_pos c31, if_pos c33, h41, if_pos c45, if_neg c47]; (try rfl)), ht⟩) (fun q h => absurd h List.not_mem_nil) dX7_isSoundAlone_133
                  · skip
                    refine lv_iconst (v := 1) hx hb dX7_isSoundAlone_128 (by decide) ?_
                    refine lv_goto (tgt := 133) hx hb dX7_isSoundAlone_129 (by decide) ?_
                    exact W.zret (v := 1) (ty := .boolean) hx hb hr (by decide) (fun t ht hWm => ⟨_, rfl, (by simp only [osB, osRel, osW, osM, osD, Bool.false_eq_true, if_true, if_false, Bool.true_and, Bool.and_true, Bool.false_and, Bool.and_false, c5, if_pos c31, if_pos c33, h41, if_pos c45, if_pos c47]; (try rfl)), ht⟩) (fun q h => absurd h List.not_mem_nil) dX7_isSoundAlone_133
          · rw [rf_some]
            have v48 := hW.jlot ho h41
            refine lv_ifnull hx hb dX7_isSoundAlone_67 ?_
            refine lv_aload_n hx hb dX7_isSoundAlone_70 rfl (lv_at hl 2 rfl) ?_
            refine get_job_11 hx hb hta iwX7 hown hK hP hR ho (hta _ mw540) dX7_isSoundAlone_71 ?_
            refine get_lot_12 hx hb hta iwX2 hown hK hP hR ho (hta _ mw526) dX7_isSoundAlone_74 ?_
            rw [h41, rf_some]
            refine get_quantity_7 hx hb hta iwX3 hown hK hP hR v48 (hta _ mw411) dX7_isSoundAlone_77 ?_
            refine lv_aload_n hx hb dX7_isSoundAlone_80 rfl (lv_at hl 2 rfl) ?_
            refine get_job_11 hx hb hta iwX7 hown hK hP hR ho (hta _ mw540) dX7_isSoundAlone_81 ?_
            refine get_pieces_12 hx hb hta iwX2 hown hK hP hR ho (hta _ mw516) dX7_isSoundAlone_84 ?_
            refine lv_icmp_ne (tgt := 94) hx hb dX7_isSoundAlone_87 (by decide) (fun c49 => ?_) (fun c49 => ?_)
            · skip
              refine lv_iconst (v := 0) hx hb dX7_isSoundAlone_94 (by decide) ?_
              refine lv_istore_n (lv' := [(3, .int 0), (2, .int 1), (1, .int 0), (0, .ref (ad 11 o))]) hx hb dX7_isSoundAlone_95 rfl hl (by decide) rfl (fun ls hl => ?_)
              refine lv_iload_n hx hb dX7_isSoundAlone_96 rfl (lv_at hl 1 rfl) ?_
              refine lv_if_eq (tgt := 132) hx hb dX7_isSoundAlone_97 (by decide) (fun c50 => ?_) (fun c50 => ?_)
              · exact absurd c50 (by decide)
              · skip
                refine lv_iload_n hx hb dX7_isSoundAlone_100 rfl (lv_at hl 0 rfl) ?_
                refine lv_if_eq (tgt := 132) hx hb dX7_isSoundAlone_101 (by decide) (fun c51 => ?_) (fun c51 => ?_)
                · skip
                  refine lv_iconst (v := 0) hx hb dX7_isSoundAlone_132 (by decide) ?_
                  exact W.zret (v := 0) (ty := .boolean) hx hb hr (by decide) (fun t ht hWm => ⟨_, rfl, (by simp only [osB, osRel, osW, osM, osD, Bool.false_eq_true, if_true, if_false, Bool.true_and, Bool.and_true, Bool.false_and, Bool.and_false, c5, if_pos c31, if_pos c33, h41, if_neg c49]; (try rfl)), ht⟩) (fun q h => absurd h List.not_mem_nil) dX7_isSoundAlone_133
                · exact absurd (by decide) c51
            · skip
              refine lv_iconst (v := 1) hx hb dX7_isSoundAlone_90 (by decide) ?_
              refine lv_goto (tgt := 95) hx hb dX7_isSoundAlone_91 (by decide) ?_
              refine lv_istore_n (lv' := [(3, .int 1), (2, .int 1), (1, .int 0), (0, .ref (ad 11 o))]) hx hb dX7_isSoundAlone_95 rfl hl (by decide) rfl (fun ls hl => ?_)
              refine lv_iload_n hx hb dX7_isSoundAlone_96 rfl (lv_at hl 1 rfl) ?_
              refine lv_if_eq (tgt := 132) hx hb dX7_isSoundAlone_97 (by decide) (fun c52 => ?_) (fun c52 => ?_)
              · exact absurd c52 (by decide)
              · skip
                refine lv_iload_n hx hb dX7_isSoundAlone_100 rfl (lv_at hl 0 rfl) ?_
                refine lv_if_eq (tgt := 132) hx hb dX7_isSoundAlone_101 (by decide) (fun c53 => ?_) (fun c53 => ?_)
                · exact absurd c53 (by decide)
                · skip
                  refine lv_aload_n hx hb dX7_isSoundAlone_104 rfl (lv_at hl 3 rfl) ?_
                  refine get_delivered_11 hx hb hta iwX7 hown hK hP hR ho (hta _ mw548) dX7_isSoundAlone_105 ?_
                  refine lv_aload_n hx hb dX7_isSoundAlone_108 rfl (lv_at hl 3 rfl) ?_
                  refine get_state_11 hx hb hta iwX7 hown hK hP hR ho (hta _ mw545) dX7_isSoundAlone_109 ?_
                  refine lv_bipush (v := 100) hx hb dX7_isSoundAlone_112 (by decide) ?_
                  refine lv_icmp_ne (tgt := 124) hx hb dX7_isSoundAlone_114 (by decide) (fun c54 => ?_) (fun c54 => ?_)
                  · skip
                    refine lv_iconst (v := 0) hx hb dX7_isSoundAlone_124 (by decide) ?_
                    refine lv_icmp_ne (tgt := 132) hx hb dX7_isSoundAlone_125 (by decide) (fun c55 => ?_) (fun c55 => ?_)
                    · skip
                      refine lv_iconst (v := 0) hx hb dX7_isSoundAlone_132 (by decide) ?_
                      exact W.zret (v := 0) (ty := .boolean) hx hb hr (by decide) (fun t ht hWm => ⟨_, rfl, (by simp only [osB, osRel, osW, osM, osD, Bool.false_eq_true, if_true, if_false, Bool.true_and, Bool.and_true, Bool.false_and, Bool.and_false, c5, if_pos c31, if_pos c33, h41, if_pos c49, if_neg c54, if_neg c55]; (try rfl)), ht⟩) (fun q h => absurd h List.not_mem_nil) dX7_isSoundAlone_133
                    · skip
                      refine lv_iconst (v := 1) hx hb dX7_isSoundAlone_128 (by decide) ?_
                      refine lv_goto (tgt := 133) hx hb dX7_isSoundAlone_129 (by decide) ?_
                      exact W.zret (v := 1) (ty := .boolean) hx hb hr (by decide) (fun t ht hWm => ⟨_, rfl, (by simp only [osB, osRel, osW, osM, osD, Bool.false_eq_true, if_true, if_false, Bool.true_and, Bool.and_true, Bool.false_and, Bool.and_false, c5, if_pos c31, if_pos c33, h41, if_pos c49, if_neg c54, if_pos c55]; (try rfl)), ht⟩) (fun q h => absurd h List.not_mem_nil) dX7_isSoundAlone_133
                  · skip
                    refine lv_aload_n hx hb dX7_isSoundAlone_117 rfl (lv_at hl 3 rfl) ?_
                    refine get_quantity_11 hx hb hta iwX7 hown hK hP hR ho (hta _ mw534) dX7_isSoundAlone_118 ?_
                    refine lv_goto (tgt := 125) hx hb dX7_isSoundAlone_121 (by decide) ?_
                    refine lv_icmp_ne (tgt := 132) hx hb dX7_isSoundAlone_125 (by decide) (fun c56 => ?_) (fun c56 => ?_)
                    · skip
                      refine lv_iconst (v := 0) hx hb dX7_isSoundAlone_132 (by decide) ?_
                      exact W.zret (v := 0) (ty := .boolean) hx hb hr (by decide) (fun t ht hWm => ⟨_, rfl, (by simp only [osB, osRel, osW, osM, osD, Bool.false_eq_true, if_true, if_false, Bool.true_and, Bool.and_true, Bool.false_and, Bool.and_false, c5, if_pos c31, if_pos c33, h41, if_pos c49, if_pos c54, if_neg c56]; (try rfl)), ht⟩) (fun q h => absurd h List.not_mem_nil) dX7_isSoundAlone_133
                    · skip
                      refine lv_iconst (v := 1) hx hb dX7_isSoundAlone_128 (by decide) ?_
                      refine lv_goto (tgt := 133) hx hb dX7_isSoundAlone_129 (by decide) ?_
                      exact W.zret (v := 1) (ty := .boolean) hx hb hr (by decide) (fun t ht hWm => ⟨_, rfl, (by simp only [osB, osRel, osW, osM, osD, Bool.false_eq_true, if_true, if_false, Bool.true_and, Bool.and_true, Bool.false_and, Bool.and_false, c5, if_pos c31, if_pos c33, h41, if_pos c49, if_pos c54, if_pos c56]; (try rfl)), ht⟩) (fun q h => absurd h List.not_mem_nil) dX7_isSoundAlone_133
      · exact absurd (by decide) c32
    · skip
      refine lv_iconst (v := 1) hx hb dX7_isSoundAlone_18 (by decide) ?_
      refine lv_goto (tgt := 23) hx hb dX7_isSoundAlone_19 (by decide) ?_
      refine lv_istore_n (lv' := [(1, .int 1), (0, .ref (ad 11 o))]) hx hb dX7_isSoundAlone_23 rfl hl (by decide) rfl (fun ls hl => ?_)
      refine lv_aload_n hx hb dX7_isSoundAlone_24 rfl (lv_at hl 1 rfl) ?_
      refine get_job_11 hx hb hta iwX7 hown hK hP hR ho (hta _ mw540) dX7_isSoundAlone_25 ?_
      refine get_pieces_12 hx hb hta iwX2 hown hK hP hR ho (hta _ mw516) dX7_isSoundAlone_28 ?_
      refine lv_aload_n hx hb dX7_isSoundAlone_31 rfl (lv_at hl 1 rfl) ?_
      refine get_job_11 hx hb hta iwX7 hown hK hP hR ho (hta _ mw540) dX7_isSoundAlone_32 ?_
      refine get_scrapped_12 hx hb hta iwX2 hown hK hP hR ho (hta _ mw518) dX7_isSoundAlone_35 ?_
      refine lv_iadd hx hb dX7_isSoundAlone_38 ?_
      refine lv_iload_n hx hb dX7_isSoundAlone_39 rfl (lv_at hl 0 rfl) ?_
      refine lv_if_eq (tgt := 50) hx hb dX7_isSoundAlone_40 (by decide) (fun c57 => ?_) (fun c57 => ?_)
      · exact absurd c57 (by decide)
      · skip
        refine lv_aload_n hx hb dX7_isSoundAlone_43 rfl (lv_at hl 1 rfl) ?_
        refine get_quantity_11 hx hb hta iwX7 hown hK hP hR ho (hta _ mw534) dX7_isSoundAlone_44 ?_
        refine lv_goto (tgt := 51) hx hb dX7_isSoundAlone_47 (by decide) ?_
        refine lv_icmp_ne (tgt := 58) hx hb dX7_isSoundAlone_51 (by decide) (fun c58 => ?_) (fun c58 => ?_)
        · skip
          refine lv_iconst (v := 0) hx hb dX7_isSoundAlone_58 (by decide) ?_
          refine lv_istore_n (lv' := [(2, .int 0), (1, .int 1), (0, .ref (ad 11 o))]) hx hb dX7_isSoundAlone_59 rfl hl (by decide) rfl (fun ls hl => ?_)
          refine lv_aload_n hx hb dX7_isSoundAlone_60 rfl (lv_at hl 2 rfl) ?_
          refine get_job_11 hx hb hta iwX7 hown hK hP hR ho (hta _ mw540) dX7_isSoundAlone_61 ?_
          refine get_lot_12 hx hb hta iwX2 hown hK hP hR ho (hta _ mw526) dX7_isSoundAlone_64 ?_
          rcases h59 : sR S 4 o with _ | o60
          · rw [rf_none]
            refine lv_ifnullN (tgt := 90) hx hb dX7_isSoundAlone_67 (by decide) ?_
            refine lv_iconst (v := 1) hx hb dX7_isSoundAlone_90 (by decide) ?_
            refine lv_goto (tgt := 95) hx hb dX7_isSoundAlone_91 (by decide) ?_
            refine lv_istore_n (lv' := [(3, .int 1), (2, .int 0), (1, .int 1), (0, .ref (ad 11 o))]) hx hb dX7_isSoundAlone_95 rfl hl (by decide) rfl (fun ls hl => ?_)
            refine lv_iload_n hx hb dX7_isSoundAlone_96 rfl (lv_at hl 1 rfl) ?_
            refine lv_if_eq (tgt := 132) hx hb dX7_isSoundAlone_97 (by decide) (fun c61 => ?_) (fun c61 => ?_)
            · skip
              refine lv_iconst (v := 0) hx hb dX7_isSoundAlone_132 (by decide) ?_
              exact W.zret (v := 0) (ty := .boolean) hx hb hr (by decide) (fun t ht hWm => ⟨_, rfl, (by simp only [osB, osRel, osW, osM, osD, Bool.false_eq_true, if_true, if_false, Bool.true_and, Bool.and_true, Bool.false_and, Bool.and_false, c5, if_neg c31, if_neg c58, h59]; (try rfl)), ht⟩) (fun q h => absurd h List.not_mem_nil) dX7_isSoundAlone_133
            · exact absurd (by decide) c61
          · rw [rf_some]
            have v62 := hW.jlot ho h59
            refine lv_ifnull hx hb dX7_isSoundAlone_67 ?_
            refine lv_aload_n hx hb dX7_isSoundAlone_70 rfl (lv_at hl 2 rfl) ?_
            refine get_job_11 hx hb hta iwX7 hown hK hP hR ho (hta _ mw540) dX7_isSoundAlone_71 ?_
            refine get_lot_12 hx hb hta iwX2 hown hK hP hR ho (hta _ mw526) dX7_isSoundAlone_74 ?_
            rw [h59, rf_some]
            refine get_quantity_7 hx hb hta iwX3 hown hK hP hR v62 (hta _ mw411) dX7_isSoundAlone_77 ?_
            refine lv_aload_n hx hb dX7_isSoundAlone_80 rfl (lv_at hl 2 rfl) ?_
            refine get_job_11 hx hb hta iwX7 hown hK hP hR ho (hta _ mw540) dX7_isSoundAlone_81 ?_
            refine get_pieces_12 hx hb hta iwX2 hown hK hP hR ho (hta _ mw516) dX7_isSoundAlone_84 ?_
            refine lv_icmp_ne (tgt := 94) hx hb dX7_isSoundAlone_87 (by decide) (fun c63 => ?_) (fun c63 => ?_)
            · skip
              refine lv_iconst (v := 0) hx hb dX7_isSoundAlone_94 (by decide) ?_
              refine lv_istore_n (lv' := [(3, .int 0), (2, .int 0), (1, .int 1), (0, .ref (ad 11 o))]) hx hb dX7_isSoundAlone_95 rfl hl (by decide) rfl (fun ls hl => ?_)
              refine lv_iload_n hx hb dX7_isSoundAlone_96 rfl (lv_at hl 1 rfl) ?_
              refine lv_if_eq (tgt := 132) hx hb dX7_isSoundAlone_97 (by decide) (fun c64 => ?_) (fun c64 => ?_)
              · skip
                refine lv_iconst (v := 0) hx hb dX7_isSoundAlone_132 (by decide) ?_
                exact W.zret (v := 0) (ty := .boolean) hx hb hr (by decide) (fun t ht hWm => ⟨_, rfl, (by simp only [osB, osRel, osW, osM, osD, Bool.false_eq_true, if_true, if_false, Bool.true_and, Bool.and_true, Bool.false_and, Bool.and_false, c5, if_neg c31, if_neg c58, h59, if_neg c63]; (try rfl)), ht⟩) (fun q h => absurd h List.not_mem_nil) dX7_isSoundAlone_133
              · exact absurd (by decide) c64
            · skip
              refine lv_iconst (v := 1) hx hb dX7_isSoundAlone_90 (by decide) ?_
              refine lv_goto (tgt := 95) hx hb dX7_isSoundAlone_91 (by decide) ?_
              refine lv_istore_n (lv' := [(3, .int 1), (2, .int 0), (1, .int 1), (0, .ref (ad 11 o))]) hx hb dX7_isSoundAlone_95 rfl hl (by decide) rfl (fun ls hl => ?_)
              refine lv_iload_n hx hb dX7_isSoundAlone_96 rfl (lv_at hl 1 rfl) ?_
              refine lv_if_eq (tgt := 132) hx hb dX7_isSoundAlone_97 (by decide) (fun c65 => ?_) (fun c65 => ?_)
              · skip
                refine lv_iconst (v := 0) hx hb dX7_isSoundAlone_132 (by decide) ?_
                exact W.zret (v := 0) (ty := .boolean) hx hb hr (by decide) (fun t ht hWm => ⟨_, rfl, (by simp only [osB, osRel, osW, osM, osD, Bool.false_eq_true, if_true, if_false, Bool.true_and, Bool.and_true, Bool.false_and, Bool.and_false, c5, if_neg c31, if_neg c58, h59, if_pos c63]; (try rfl)), ht⟩) (fun q h => absurd h List.not_mem_nil) dX7_isSoundAlone_133
              · exact absurd (by decide) c65
        · skip
          refine lv_iconst (v := 1) hx hb dX7_isSoundAlone_54 (by decide) ?_
          refine lv_goto (tgt := 59) hx hb dX7_isSoundAlone_55 (by decide) ?_
          refine lv_istore_n (lv' := [(2, .int 1), (1, .int 1), (0, .ref (ad 11 o))]) hx hb dX7_isSoundAlone_59 rfl hl (by decide) rfl (fun ls hl => ?_)
          refine lv_aload_n hx hb dX7_isSoundAlone_60 rfl (lv_at hl 2 rfl) ?_
          refine get_job_11 hx hb hta iwX7 hown hK hP hR ho (hta _ mw540) dX7_isSoundAlone_61 ?_
          refine get_lot_12 hx hb hta iwX2 hown hK hP hR ho (hta _ mw526) dX7_isSoundAlone_64 ?_
          rcases h66 : sR S 4 o with _ | o67
          · rw [rf_none]
            refine lv_ifnullN (tgt := 90) hx hb dX7_isSoundAlone_67 (by decide) ?_
            refine lv_iconst (v := 1) hx hb dX7_isSoundAlone_90 (by decide) ?_
            refine lv_goto (tgt := 95) hx hb dX7_isSoundAlone_91 (by decide) ?_
            refine lv_istore_n (lv' := [(3, .int 1), (2, .int 1), (1, .int 1), (0, .ref (ad 11 o))]) hx hb dX7_isSoundAlone_95 rfl hl (by decide) rfl (fun ls hl => ?_)
            refine lv_iload_n hx hb dX7_isSoundAlone_96 rfl (lv_at hl 1 rfl) ?_
            refine lv_if_eq (tgt := 132) hx hb dX7_isSoundAlone_97 (by decide) (fun c68 => ?_) (fun c68 => ?_)
            · exact absurd c68 (by decide)
            · skip
              refine lv_iload_n hx hb dX7_isSoundAlone_100 rfl (lv_at hl 0 rfl) ?_
              refine lv_if_eq (tgt := 132) hx hb dX7_isSoundAlone_101 (by decide) (fun c69 => ?_) (fun c69 => ?_)
              · exact absurd c69 (by decide)
              · skip
                refine lv_aload_n hx hb dX7_isSoundAlone_104 rfl (lv_at hl 3 rfl) ?_
                refine get_delivered_11 hx hb hta iwX7 hown hK hP hR ho (hta _ mw548) dX7_isSoundAlone_105 ?_
                refine lv_aload_n hx hb dX7_isSoundAlone_108 rfl (lv_at hl 3 rfl) ?_
                refine get_state_11 hx hb hta iwX7 hown hK hP hR ho (hta _ mw545) dX7_isSoundAlone_109 ?_
                refine lv_bipush (v := 100) hx hb dX7_isSoundAlone_112 (by decide) ?_
                refine lv_icmp_ne (tgt := 124) hx hb dX7_isSoundAlone_114 (by decide) (fun c70 => ?_) (fun c70 => ?_)
                · skip
                  refine lv_iconst (v := 0) hx hb dX7_isSoundAlone_124 (by decide) ?_
                  refine lv_icmp_ne (tgt := 132) hx hb dX7_isSoundAlone_125 (by decide) (fun c71 => ?_) (fun c71 => ?_)
                  · skip
                    refine lv_iconst (v := 0) hx hb dX7_isSoundAlone_132 (by decide) ?_
                    exact W.zret (v := 0) (ty := .boolean) hx hb hr (by decide) (fun t ht hWm => ⟨_, rfl, (by simp only [osB, osRel, osW, osM, osD, Bool.false_eq_true, if_true, if_false, Bool.true_and, Bool.and_true, Bool.false_and, Bool.and_false, c5, if_neg c31, if_pos c58, h66, if_neg c70, if_neg c71]; (try rfl)), ht⟩) (fun q h => absurd h List.not_mem_nil) dX7_isSoundAlone_133
                  · skip
                    refine lv_iconst (v := 1) hx hb dX7_isSoundAlone_128 (by decide) ?_
                    refine lv_goto (tgt := 133) hx hb dX7_isSoundAlone_129 (by decide) ?_
                    exact W.zret (v := 1) (ty := .boolean) hx hb hr (by decide) (fun t ht hWm => ⟨_, rfl, (by simp only [osB, osRel, osW, osM, osD, Bool.false_eq_true, if_true, if_false, Bool.true_and, Bool.and_true, Bool.false_and, Bool.and_false, c5, if_neg c31, if_pos c58, h66, if_neg c70, if_pos c71]; (try rfl)), ht⟩) (fun q h => absurd h List.not_mem_nil) dX7_isSoundAlone_133
                · skip
                  refine lv_aload_n hx hb dX7_isSoundAlone_117 rfl (lv_at hl 3 rfl) ?_
                  refine get_quantity_11 hx hb hta iwX7 hown hK hP hR ho (hta _ mw534) dX7_isSoundAlone_118 ?_
                  refine lv_goto (tgt := 125) hx hb dX7_isSoundAlone_121 (by decide) ?_
                  refine lv_icmp_ne (tgt := 132) hx hb dX7_isSoundAlone_125 (by decide) (fun c72 => ?_) (fun c72 => ?_)
                  · skip
                    refine lv_iconst (v := 0) hx hb dX7_isSoundAlone_132 (by decide) ?_
                    exact W.zret (v := 0) (ty := .boolean) hx hb hr (by decide) (fun t ht hWm => ⟨_, rfl, (by simp only [osB, osRel, osW, osM, osD, Bool.false_eq_true, if_true, if_false, Bool.true_and, Bool.and_true, Bool.false_and, Bool.and_false, c5, if_neg c31, if_pos c58, h66, if_pos c70, if_neg c72]; (try rfl)), ht⟩) (fun q h => absurd h List.not_mem_nil) dX7_isSoundAlone_133
                  · skip
                    refine lv_iconst (v := 1) hx hb dX7_isSoundAlone_128 (by decide) ?_
                    refine lv_goto (tgt := 133) hx hb dX7_isSoundAlone_129 (by decide) ?_
                    exact W.zret (v := 1) (ty := .boolean) hx hb hr (by decide) (fun t ht hWm => ⟨_, rfl, (by simp only [osB, osRel, osW, osM, osD, Bool.false_eq_true, if_true, if_false, Bool.true_and, Bool.and_true, Bool.false_and, Bool.and_false, c5, if_neg c31, if_pos c58, h66, if_pos c70, if_pos c72]; (try rfl)), ht⟩) (fun q h => absurd h List.not_mem_nil) dX7_isSoundAlone_133
          · rw [rf_some]
            have v73 := hW.jlot ho h66
            refine lv_ifnull hx hb dX7_isSoundAlone_67 ?_
            refine lv_aload_n hx hb dX7_isSoundAlone_70 rfl (lv_at hl 2 rfl) ?_
            refine get_job_11 hx hb hta iwX7 hown hK hP hR ho (hta _ mw540) dX7_isSoundAlone_71 ?_
            refine get_lot_12 hx hb hta iwX2 hown hK hP hR ho (hta _ mw526) dX7_isSoundAlone_74 ?_
            rw [h66, rf_some]
            refine get_quantity_7 hx hb hta iwX3 hown hK hP hR v73 (hta _ mw411) dX7_isSoundAlone_77 ?_
            refine lv_aload_n hx hb dX7_isSoundAlone_80 rfl (lv_at hl 2 rfl) ?_
            refine get_job_11 hx hb hta iwX7 hown hK hP hR ho (hta _ mw540) dX7_isSoundAlone_81 ?_
            refine get_pieces_12 hx hb hta iwX2 hown hK hP hR ho (hta _ mw516) dX7_isSoundAlone_84 ?_
            refine lv_icmp_ne (tgt := 94) hx hb dX7_isSoundAlone_87 (by decide) (fun c74 => ?_) (fun c74 => ?_)
            · skip
              refine lv_iconst (v := 0) hx hb dX7_isSoundAlone_94 (by decide) ?_
              refine lv_istore_n (lv' := [(3, .int 0), (2, .int 1), (1, .int 1), (0, .ref (ad 11 o))]) hx hb dX7_isSoundAlone_95 rfl hl (by decide) rfl (fun ls hl => ?_)
              refine lv_iload_n hx hb dX7_isSoundAlone_96 rfl (lv_at hl 1 rfl) ?_
              refine lv_if_eq (tgt := 132) hx hb dX7_isSoundAlone_97 (by decide) (fun c75 => ?_) (fun c75 => ?_)
              · exact absurd c75 (by decide)
              · skip
                refine lv_iload_n hx hb dX7_isSoundAlone_100 rfl (lv_at hl 0 rfl) ?_
                refine lv_if_eq (tgt := 132) hx hb dX7_isSoundAlone_101 (by decide) (fun c76 => ?_) (fun c76 => ?_)
                · skip
                  refine lv_iconst (v := 0) hx hb dX7_isSoundAlone_132 (by decide) ?_
                  exact W.zret (v := 0) (ty := .boolean) hx hb hr (by decide) (fun t ht hWm => ⟨_, rfl, (by simp only [osB, osRel, osW, osM, osD, Bool.false_eq_true, if_true, if_false, Bool.true_and, Bool.and_true, Bool.false_and, Bool.and_false, c5, if_neg c31, if_pos c58, h66, if_neg c74]; (try rfl)), ht⟩) (fun q h => absurd h List.not_mem_nil) dX7_isSoundAlone_133
                · exact absurd (by decide) c76
            · skip
              refine lv_iconst (v := 1) hx hb dX7_isSoundAlone_90 (by decide) ?_
              refine lv_goto (tgt := 95) hx hb dX7_isSoundAlone_91 (by decide) ?_
              refine lv_istore_n (lv' := [(3, .int 1), (2, .int 1), (1, .int 1), (0, .ref (ad 11 o))]) hx hb dX7_isSoundAlone_95 rfl hl (by decide) rfl (fun ls hl => ?_)
              refine lv_iload_n hx hb dX7_isSoundAlone_96 rfl (lv_at hl 1 rfl) ?_
              refine lv_if_eq (tgt := 132) hx hb dX7_isSoundAlone_97 (by decide) (fun c77 => ?_) (fun c77 => ?_)
              · exact absurd c77 (by decide)
              · skip
                refine lv_iload_n hx hb dX7_isSoundAlone_100 rfl (lv_at hl 0 rfl) ?_
                refine lv_if_eq (tgt := 132) hx hb dX7_isSoundAlone_101 (by decide) (fun c78 => ?_) (fun c78 => ?_)
                · exact absurd c78 (by decide)
                · skip
                  refine lv_aload_n hx hb dX7_isSoundAlone_104 rfl (lv_at hl 3 rfl) ?_
                  refine get_delivered_11 hx hb hta iwX7 hown hK hP hR ho (hta _ mw548) dX7_isSoundAlone_105 ?_
                  refine lv_aload_n hx hb dX7_isSoundAlone_108 rfl (lv_at hl 3 rfl) ?_
                  refine get_state_11 hx hb hta iwX7 hown hK hP hR ho (hta _ mw545) dX7_isSoundAlone_109 ?_
                  refine lv_bipush (v := 100) hx hb dX7_isSoundAlone_112 (by decide) ?_
                  refine lv_icmp_ne (tgt := 124) hx hb dX7_isSoundAlone_114 (by decide) (fun c79 => ?_) (fun c79 => ?_)
                  · skip
                    refine lv_iconst (v := 0) hx hb dX7_isSoundAlone_124 (by decide) ?_
                    refine lv_icmp_ne (tgt := 132) hx hb dX7_isSoundAlone_125 (by decide) (fun c80 => ?_) (fun c80 => ?_)
                    · skip
                      refine lv_iconst (v := 0) hx hb dX7_isSoundAlone_132 (by decide) ?_
                      exact W.zret (v := 0) (ty := .boolean) hx hb hr (by decide) (fun t ht hWm => ⟨_, rfl, (by simp only [osB, osRel, osW, osM, osD, Bool.false_eq_true, if_true, if_false, Bool.true_and, Bool.and_true, Bool.false_and, Bool.and_false, c5, if_neg c31, if_pos c58, h66, if_pos c74, if_neg c79, if_neg c80]; (try rfl)), ht⟩) (fun q h => absurd h List.not_mem_nil) dX7_isSoundAlone_133
                    · skip
                      refine lv_iconst (v := 1) hx hb dX7_isSoundAlone_128 (by decide) ?_
                      refine lv_goto (tgt := 133) hx hb dX7_isSoundAlone_129 (by decide) ?_
                      exact W.zret (v := 1) (ty := .boolean) hx hb hr (by decide) (fun t ht hWm => ⟨_, rfl, (by simp only [osB, osRel, osW, osM, osD, Bool.false_eq_true, if_true, if_false, Bool.true_and, Bool.and_true, Bool.false_and, Bool.and_false, c5, if_neg c31, if_pos c58, h66, if_pos c74, if_neg c79, if_pos c80]; (try rfl)), ht⟩) (fun q h => absurd h List.not_mem_nil) dX7_isSoundAlone_133
                  · skip
                    refine lv_aload_n hx hb dX7_isSoundAlone_117 rfl (lv_at hl 3 rfl) ?_
                    refine get_quantity_11 hx hb hta iwX7 hown hK hP hR ho (hta _ mw534) dX7_isSoundAlone_118 ?_
                    refine lv_goto (tgt := 125) hx hb dX7_isSoundAlone_121 (by decide) ?_
                    refine lv_icmp_ne (tgt := 132) hx hb dX7_isSoundAlone_125 (by decide) (fun c81 => ?_) (fun c81 => ?_)
                    · skip
                      refine lv_iconst (v := 0) hx hb dX7_isSoundAlone_132 (by decide) ?_
                      exact W.zret (v := 0) (ty := .boolean) hx hb hr (by decide) (fun t ht hWm => ⟨_, rfl, (by simp only [osB, osRel, osW, osM, osD, Bool.false_eq_true, if_true, if_false, Bool.true_and, Bool.and_true, Bool.false_and, Bool.and_false, c5, if_neg c31, if_pos c58, h66, if_pos c74, if_pos c79, if_neg c81]; (try rfl)), ht⟩) (fun q h => absurd h List.not_mem_nil) dX7_isSoundAlone_133
                    · skip
                      refine lv_iconst (v := 1) hx hb dX7_isSoundAlone_128 (by decide) ?_
                      refine lv_goto (tgt := 133) hx hb dX7_isSoundAlone_129 (by decide) ?_
                      exact W.zret (v := 1) (ty := .boolean) hx hb hr (by decide) (fun t ht hWm => ⟨_, rfl, (by simp only [osB, osRel, osW, osM, osD, Bool.false_eq_true, if_true, if_false, Bool.true_and, Bool.and_true, Bool.false_and, Bool.and_false, c5, if_neg c31, if_pos c58, h66, if_pos c74, if_pos c79, if_pos c81]; (try rfl)), ht⟩) (fun q h => absurd h List.not_mem_nil) dX7_isSoundAlone_133

def aj1 (S : St) (j : Nat) (a : Int32) : Int32 := if j < sN S 3 0 then a + sI S 55 j else a
def ajL (S : St) (j : Nat) : Int32 := it (aj1 S) j 0
theorem ajL_s (S : St) (j : Nat) : ajL S (j + 1) = aj1 S j (ajL S j) := rfl
def ajB (S : St) (j : Nat) : Bool := if j < sN S 3 0 then osB S j else true
def aj2 (S : St) (j : Nat) (a : Int32) : Int32 := if j < sN S 2 0 then a - sI S 43 j else a - 0
def ajM (S : St) (j : Nat) : Int32 := it (aj2 S) j (ajL S 30)
theorem ajM_s (S : St) (j : Nat) : ajM S (j + 1) = aj2 S j (ajM S j) := rfl
def ajS (S : St) : Bool := allN (ajB S) 30 && decide (ajM S 90 = 0)
set_option maxHeartbeats 4000000 in
set_option maxRecDepth 100000 in
theorem c_X10_areJobsSound (l : Launch) {D : va_G} {tA : Nat → ClassId} {S : St} {ad : Nat → Nat → Nat} {L : List Nat} {f : Nat → va_E} (hR : Rep tA S ad L f) (hW : WT S) : Met l yX10_areJobsSound (wsC yX10_areJobsSound cX10_areJobsSound 6 (some .boolean)) ({ frames := 2, cells := 0, slots := 0, locals := 43 }) (va_Pc [.ref (ad 0 0)] (gB D tA L f)) (vp_Si (fun r => r = bI (ajS S))) 0 0 (fun _ => False) := by
  refine Met.ofW (cc := cX10_areJobsSound) (maxL := 6) (ret := (some .boolean)) (by decide) rfl ?_
  intro p e s m args below meth c s₁ B hml hv
  obtain ⟨rfl, hP, hK, hD⟩ := hv
  have hx := B.exec
  have hb := B.bytes
  have hr := B.returns
  have hts := atoms_spec (ws := wsC yX10_areJobsSound cX10_areJobsSound 6 (some .boolean)) B.pre
  have hta : ∀ w ∈ WA, w.before _ s = true := fun w h => hts w (List.mem_cons_of_mem _ h)
  have hown : s.vm.findClass RX10 = some m.cls := findClass_of_methodNamed B.named
  have hlocks := B.notSynchronized
  have hP : va_P D vwCl (va_pl L f) s.heap := hP
  have hl := lv_entry ([.ref (ad 0 0)]) (n := 6) (Nat.le_of_ble_eq_true rfl)
  rw [lg_entry_eq]
  generalize (lg_sl ([.ref (ad 0 0)]) ++ List.replicate (6 - (lg_sl ([.ref (ad 0 0)])).length) Slot.unset).toArray = ls at hl ⊢
  have hl : lv_has ls 6 [(0, .ref (ad 0 0))] := hl
  refine lv_iconst (v := 0) hx hb dX10_areJobsSound_0 (by decide) ?_
  refine lv_istore_n (lv' := [(1, .int 0), (0, .ref (ad 0 0))]) hx hb dX10_areJobsSound_1 rfl hl (by decide) rfl (fun ls hl => ?_)
  refine lv_aload_n hx hb dX10_areJobsSound_2 rfl (lv_at hl 1 rfl) ?_
  refine get_orders_0 hx hb hta iwX10 hown hK hP hR (rfl : (0 : Nat) = 0) (hta _ mw100) dX10_areJobsSound_3 ?_
  refine lv_astore_n (lv' := [(2, .ref (ad 19 0)), (1, .int 0), (0, .ref (ad 0 0))]) hx hb dX10_areJobsSound_6 rfl hl (by decide) rfl (fun ls hl => ?_)
  refine lv_aload_n hx hb dX10_areJobsSound_7 rfl (lv_at hl 0 rfl) ?_
  refine len_orders hx hb hK hP hR (rfl : (0 : Nat) = 0) dX10_areJobsSound_8 ?_
  refine lv_istore_n (lv' := [(3, .int 30), (2, .ref (ad 19 0)), (1, .int 0), (0, .ref (ad 0 0))]) hx hb dX10_areJobsSound_9 rfl hl (by decide) rfl (fun ls hl => ?_)
  refine lv_iconst (v := 0) hx hb dX10_areJobsSound_10 (by decide) ?_
  refine lv_istore (lv' := [(4, .int 0), (3, .int 30), (2, .ref (ad 19 0)), (1, .int 0), (0, .ref (ad 0 0))]) hx hb dX10_areJobsSound_11 hl (by decide) rfl (fun ls hl => ?_)
  refine loop_g (σ := Array Slot) (Wg := fun ls => W p l e _ s m _ below meth c _ _ _ _ _ (F0 m 13 ls [])) 30 (fun j9 ls => lv_has ls 6 [(0, .ref (ad 0 0)), (1, .int (ajL S j9)), (2, .ref (ad 19 0)), (3, .int 30), (4, .int (nI j9))] ∧ (allN (ajB S) j9 = true)) (fun j9 hj1 ih2 ls hl => ?_) (fun ls hl => ?_) ls ⟨lv_sub hl [4, 3, 2, 1, 0] rfl, rfl⟩
  · skip
    obtain ⟨hl, hg9⟩ := hl
    refine lv_iload hx hb dX10_areJobsSound_13 (lv_at hl 4 rfl) ?_
    refine lv_iload_n hx hb dX10_areJobsSound_15 rfl (lv_at hl 3 rfl) ?_
    refine lv_icmp_ge (tgt := 54) hx hb dX10_areJobsSound_16 (by decide) (fun c3 => ?_) (fun c3 => ?_)
    · exact absurd c3 (nI_ge (a := j9) (b := 30) hj1 (by decide))
    · skip
      refine lv_aload_n hx hb dX10_areJobsSound_19 rfl (lv_at hl 2 rfl) ?_
      refine lv_iload hx hb dX10_areJobsSound_20 (lv_at hl 4 rfl) ?_
      refine ldn_orders hx hb hK hP hR (rfl : (0 : Nat) = 0) hj1 dX10_areJobsSound_22 (fun h4 => ?_) (fun h4 => ?_)
      · skip
        refine lv_astore (lv' := [(5, .ref (ad 11 j9)), (0, .ref (ad 0 0)), (1, .int (ajL S j9)), (2, .ref (ad 19 0)), (3, .int 30), (4, .int (nI j9))]) hx hb dX10_areJobsSound_23 hl (by decide) rfl (fun ls hl => ?_)
        refine lv_aload hx hb dX10_areJobsSound_25 (lv_at hl 0 rfl) ?_
        refine lv_ifnull hx hb dX10_areJobsSound_27 ?_
        refine lv_iload_n hx hb dX10_areJobsSound_30 rfl (lv_at hl 2 rfl) ?_
        refine lv_aload hx hb dX10_areJobsSound_31 (lv_at hl 0 rfl) ?_
        refine get_delivered_11 hx hb hta iwX7 hown hK hP hR h4 (hta _ mw549) dX10_areJobsSound_33 ?_
        refine lv_iadd hx hb dX10_areJobsSound_36 ?_
        refine lv_istore_n (lv' := [(1, .int ((ajL S j9) + (sI S 55 j9))), (5, .ref (ad 11 j9)), (0, .ref (ad 0 0)), (2, .ref (ad 19 0)), (3, .int 30), (4, .int (nI j9))]) hx hb dX10_areJobsSound_37 rfl hl (by decide) rfl (fun ls hl => ?_)
        refine lv_aload hx hb dX10_areJobsSound_38 (lv_at hl 1 rfl) ?_
        obtain ⟨q5, e6⟩ := cell_11 hR h4
        refine gro_i (ci := 9) (As := []) (rest := []) ⟨hx, hb, hml, hown, hta⟩ (c_X7_isSoundAlone l hR hW h4) (cwV 0 hta (gWV mw177 mw178 mw179 mw59 mw180) rfl rfl rfl (by decide +kernel) ⟨Nat.le_of_ble_eq_true rfl, Nat.le_of_ble_eq_true rfl⟩) hK hP hD rfl e6 rfl hl.1 rfl (Nat.le_of_ble_eq_true rfl) dX10_areJobsSound_40 ⟨Nat.zero_le _, Nat.zero_le _⟩ (fun r7 c8 => ?_)
        obtain rfl := c8
        refine lv_if_ne (tgt := 48) hx hb dX10_areJobsSound_43 (by decide) (fun c9 => ?_) (fun c9 => ?_)
        · skip
          have c9 := bI_t c9
          refine lv_iinc (v := nI (j9 + 1)) (lv' := [(4, .int (nI (j9 + 1))), (1, .int ((ajL S j9) + (sI S 55 j9))), (5, .ref (ad 11 j9)), (0, .ref (ad 0 0)), (2, .ref (ad 19 0)), (3, .int 30)]) hx hb dX10_areJobsSound_48 hl (k := 5) rfl (nI_1 _) (by decide) rfl (fun ls hl => ?_)
          refine lv_goto (tgt := 13) hx hb dX10_areJobsSound_51 (by decide) ?_
          refine ih2 _ ⟨?_, allN_s hg9 (by simp only [ajB, Bool.false_eq_true, if_true, if_false, if_pos h4, c9])⟩
          have a8 : ajL S (j9 + 1) = (ajL S j9) + (sI S 55 j9) := (by rw [ajL_s]; simp only [aj1, Bool.false_eq_true, if_true, if_false, if_pos h4, c9]; (try rfl))
          rw [a8]
          exact lv_sub hl [3, 1, 4, 5, 0] rfl
        · skip
          have c9 := bI_f c9
          refine lv_iconst (v := 0) hx hb dX10_areJobsSound_46 (by decide) ?_
          exact W.zret (v := 0) (ty := .boolean) hx hb hr (by decide) (fun t ht hWm => ⟨_, rfl, (by rw [ajS, allN_stop hj1 (by simp only [ajB, Bool.false_eq_true, if_true, if_false, if_pos h4, c9])]; rfl), ht⟩) (fun q h => absurd h List.not_mem_nil) dX10_areJobsSound_47
      · skip
        refine lv_astoreN (lv' := [(5, .null), (0, .ref (ad 0 0)), (1, .int (ajL S j9)), (2, .ref (ad 19 0)), (3, .int 30), (4, .int (nI j9))]) hx hb dX10_areJobsSound_23 hl (by decide) rfl (fun ls hl => ?_)
        refine lv_aloadN hx hb dX10_areJobsSound_25 (lv_at hl 0 rfl) ?_
        refine lv_ifnullN (tgt := 48) hx hb dX10_areJobsSound_27 (by decide) ?_
        refine lv_iinc (v := nI (j9 + 1)) (lv' := [(4, .int (nI (j9 + 1))), (5, .null), (0, .ref (ad 0 0)), (1, .int (ajL S j9)), (2, .ref (ad 19 0)), (3, .int 30)]) hx hb dX10_areJobsSound_48 hl (k := 5) rfl (nI_1 _) (by decide) rfl (fun ls hl => ?_)
        refine lv_goto (tgt := 13) hx hb dX10_areJobsSound_51 (by decide) ?_
        refine ih2 _ ⟨?_, allN_s hg9 (by simp only [ajB, Bool.false_eq_true, if_true, if_false, if_neg h4])⟩
        have a8 : ajL S (j9 + 1) = ajL S j9 := (by rw [ajL_s]; simp only [aj1, Bool.false_eq_true, if_true, if_false, if_neg h4]; (try rfl))
        rw [a8]
        exact lv_sub hl [2, 3, 4, 5, 0] rfl
  · skip
    obtain ⟨hl, hg9⟩ := hl
    refine lv_iload hx hb dX10_areJobsSound_13 (lv_at hl 4 rfl) ?_
    refine lv_iload_n hx hb dX10_areJobsSound_15 rfl (lv_at hl 3 rfl) ?_
    refine lv_icmp_ge (tgt := 54) hx hb dX10_areJobsSound_16 (by decide) (fun c10 => ?_) (fun c10 => ?_)
    · skip
      refine lv_aload_n hx hb dX10_areJobsSound_54 rfl (lv_at hl 0 rfl) ?_
      refine get_lots_0 hx hb hta iwX10 hown hK hP hR (rfl : (0 : Nat) = 0) (hta _ mw99) dX10_areJobsSound_55 ?_
      refine lv_astore_n (lv' := [(2, .ref (ad 18 0)), (0, .ref (ad 0 0)), (1, .int (ajL S 30)), (3, .int 30), (4, .int (nI 30))]) hx hb dX10_areJobsSound_58 rfl hl (by decide) rfl (fun ls hl => ?_)
      refine lv_aload_n hx hb dX10_areJobsSound_59 rfl (lv_at hl 0 rfl) ?_
      refine len_lots hx hb hK hP hR (rfl : (0 : Nat) = 0) dX10_areJobsSound_60 ?_
      refine lv_istore_n (lv' := [(3, .int 90), (2, .ref (ad 18 0)), (0, .ref (ad 0 0)), (1, .int (ajL S 30)), (4, .int (nI 30))]) hx hb dX10_areJobsSound_61 rfl hl (by decide) rfl (fun ls hl => ?_)
      refine lv_iconst (v := 0) hx hb dX10_areJobsSound_62 (by decide) ?_
      refine lv_istore (lv' := [(4, .int 0), (3, .int 90), (2, .ref (ad 18 0)), (0, .ref (ad 0 0)), (1, .int (ajL S 30))]) hx hb dX10_areJobsSound_63 hl (by decide) rfl (fun ls hl => ?_)
      refine loop_g (σ := Array Slot) (Wg := fun ls => W p l e _ s m _ below meth c _ _ _ _ _ (F0 m 65 ls [])) 90 (fun j8 ls => lv_has ls 6 [(0, .ref (ad 0 0)), (1, .int (ajM S j8)), (2, .ref (ad 18 0)), (3, .int 90), (4, .int (nI j8))]) (fun j8 hj11 ih12 ls hl => ?_) (fun ls hl => ?_) ls (lv_sub hl [3, 4, 2, 1, 0] rfl)
      · skip
        refine lv_iload hx hb dX10_areJobsSound_65 (lv_at hl 4 rfl) ?_
        refine lv_iload_n hx hb dX10_areJobsSound_67 rfl (lv_at hl 3 rfl) ?_
        refine lv_icmp_ge (tgt := 100) hx hb dX10_areJobsSound_68 (by decide) (fun c13 => ?_) (fun c13 => ?_)
        · exact absurd c13 (nI_ge (a := j8) (b := 90) hj11 (by decide))
        · skip
          refine lv_aload_n hx hb dX10_areJobsSound_71 rfl (lv_at hl 2 rfl) ?_
          refine lv_iload hx hb dX10_areJobsSound_72 (lv_at hl 4 rfl) ?_
          refine ldn_lots hx hb hK hP hR (rfl : (0 : Nat) = 0) hj11 dX10_areJobsSound_74 (fun h14 => ?_) (fun h14 => ?_)
          · skip
            refine lv_astore (lv' := [(5, .ref (ad 7 j8)), (0, .ref (ad 0 0)), (1, .int (ajM S j8)), (2, .ref (ad 18 0)), (3, .int 90), (4, .int (nI j8))]) hx hb dX10_areJobsSound_75 hl (by decide) rfl (fun ls hl => ?_)
            refine lv_iload_n hx hb dX10_areJobsSound_77 rfl (lv_at hl 2 rfl) ?_
            refine lv_aload hx hb dX10_areJobsSound_78 (lv_at hl 0 rfl) ?_
            refine lv_ifnull hx hb dX10_areJobsSound_80 ?_
            refine lv_aload hx hb dX10_areJobsSound_83 (lv_at hl 0 rfl) ?_
            refine get_delivered_7 hx hb hta iwX3 hown hK hP hR h14 (hta _ mw423) dX10_areJobsSound_85 ?_
            refine lv_goto (tgt := 92) hx hb dX10_areJobsSound_88 (by decide) ?_
            refine lv_isub hx hb dX10_areJobsSound_92 ?_
            refine lv_istore_n (lv' := [(1, .int ((ajM S j8) - (sI S 43 j8))), (5, .ref (ad 7 j8)), (0, .ref (ad 0 0)), (2, .ref (ad 18 0)), (3, .int 90), (4, .int (nI j8))]) hx hb dX10_areJobsSound_93 rfl hl (by decide) rfl (fun ls hl => ?_)
            refine lv_iinc (v := nI (j8 + 1)) (lv' := [(4, .int (nI (j8 + 1))), (1, .int ((ajM S j8) - (sI S 43 j8))), (5, .ref (ad 7 j8)), (0, .ref (ad 0 0)), (2, .ref (ad 18 0)), (3, .int 90)]) hx hb dX10_areJobsSound_94 hl (k := 5) rfl (nI_1 _) (by decide) rfl (fun ls hl => ?_)
            refine lv_goto (tgt := 65) hx hb dX10_areJobsSound_97 (by decide) ?_
            refine ih12 _ ?_
            have a8 : ajM S (j8 + 1) = (ajM S j8) - (sI S 43 j8) := (by rw [ajM_s]; simp only [aj2, Bool.false_eq_true, if_true, if_false, if_pos h14]; (try rfl))
            rw [a8]
            exact lv_sub hl [3, 1, 4, 5, 0] rfl
          · skip
            refine lv_astoreN (lv' := [(5, .null), (0, .ref (ad 0 0)), (1, .int (ajM S j8)), (2, .ref (ad 18 0)), (3, .int 90), (4, .int (nI j8))]) hx hb dX10_areJobsSound_75 hl (by decide) rfl (fun ls hl => ?_)
            refine lv_iload_n hx hb dX10_areJobsSound_77 rfl (lv_at hl 2 rfl) ?_
            refine lv_aloadN hx hb dX10_areJobsSound_78 (lv_at hl 0 rfl) ?_
            refine lv_ifnullN (tgt := 91) hx hb dX10_areJobsSound_80 (by decide) ?_
            refine lv_iconst (v := 0) hx hb dX10_areJobsSound_91 (by decide) ?_
            refine lv_isub hx hb dX10_areJobsSound_92 ?_
            refine lv_istore_n (lv' := [(1, .int ((ajM S j8) - 0)), (5, .null), (0, .ref (ad 0 0)), (2, .ref (ad 18 0)), (3, .int 90), (4, .int (nI j8))]) hx hb dX10_areJobsSound_93 rfl hl (by decide) rfl (fun ls hl => ?_)
            refine lv_iinc (v := nI (j8 + 1)) (lv' := [(4, .int (nI (j8 + 1))), (1, .int ((ajM S j8) - 0)), (5, .null), (0, .ref (ad 0 0)), (2, .ref (ad 18 0)), (3, .int 90)]) hx hb dX10_areJobsSound_94 hl (k := 5) rfl (nI_1 _) (by decide) rfl (fun ls hl => ?_)
            refine lv_goto (tgt := 65) hx hb dX10_areJobsSound_97 (by decide) ?_
            refine ih12 _ ?_
            have a8 : ajM S (j8 + 1) = (ajM S j8) - 0 := (by rw [ajM_s]; simp only [aj2, Bool.false_eq_true, if_true, if_false, if_neg h14]; (try rfl))
            rw [a8]
            exact lv_sub hl [3, 1, 4, 5, 0] rfl
      · skip
        refine lv_iload hx hb dX10_areJobsSound_65 (lv_at hl 4 rfl) ?_
        refine lv_iload_n hx hb dX10_areJobsSound_67 rfl (lv_at hl 3 rfl) ?_
        refine lv_icmp_ge (tgt := 100) hx hb dX10_areJobsSound_68 (by decide) (fun c15 => ?_) (fun c15 => ?_)
        · skip
          refine lv_iload_n hx hb dX10_areJobsSound_100 rfl (lv_at hl 1 rfl) ?_
          refine lv_if_ne (tgt := 108) hx hb dX10_areJobsSound_101 (by decide) (fun c16 => ?_) (fun c16 => ?_)
          · skip
            refine lv_iconst (v := 0) hx hb dX10_areJobsSound_108 (by decide) ?_
            exact W.zret (v := 0) (ty := .boolean) hx hb hr (by decide) (fun t ht hWm => ⟨_, rfl, (by rw [ajS, hg9, decide_eq_false c16]; rfl), ht⟩) (fun q h => absurd h List.not_mem_nil) dX10_areJobsSound_109
          · skip
            refine lv_iconst (v := 1) hx hb dX10_areJobsSound_104 (by decide) ?_
            refine lv_goto (tgt := 109) hx hb dX10_areJobsSound_105 (by decide) ?_
            exact W.zret (v := 1) (ty := .boolean) hx hb hr (by decide) (fun t ht hWm => ⟨_, rfl, (by rw [ajS, hg9, decide_eq_true c16]; rfl), ht⟩) (fun q h => absurd h List.not_mem_nil) dX10_areJobsSound_109
        · exact absurd (nI_le (a := 90) (b := 90) (Nat.le_refl _) (by decide)) c15
    · exact absurd (nI_le (a := 30) (b := 30) (Nat.le_refl _) (by decide)) c10

def ac1 (S : St) (j : Nat) (a : Int64) : Int64 := if j < sN S 2 0 then a + sJ S 3 j else a + 0
def acL (S : St) (j : Nat) : Int64 := it (ac1 S) j (sJ S 2 0)
theorem acL_s (S : St) (j : Nat) : acL S (j + 1) = ac1 S j (acL S j) := rfl
def ac2 (S : St) (j : Nat) (a : Int64) : Int64 := if j < sN S 3 0 then a + (sJ S 5 j + sJ S 4 j) else a + 0
def acM (S : St) (j : Nat) : Int64 := it (ac2 S) j (acL S 90)
theorem acM_s (S : St) (j : Nat) : acM S (j + 1) = ac2 S j (acM S j) := rfl
def acS (S : St) : Bool := decide (acM S 30 = sJ S 1 0)
set_option maxHeartbeats 4000000 in
set_option maxRecDepth 100000 in
theorem c_X10_areCostsSound (l : Launch) {D : va_G} {tA : Nat → ClassId} {S : St} {ad : Nat → Nat → Nat} {L : List Nat} {f : Nat → va_E} (hR : Rep tA S ad L f) (hW : WT S) : Met l yX10_areCostsSound (wsC yX10_areCostsSound cX10_areCostsSound 7 (some .boolean)) ({ frames := 0, cells := 0, slots := 0, locals := 0 }) (va_Pc [.ref (ad 0 0)] (gB D tA L f)) (vp_Si (fun r => r = bI (acS S))) 0 0 (fun _ => False) := by
  refine Met.ofW (cc := cX10_areCostsSound) (maxL := 7) (ret := (some .boolean)) (by decide) rfl ?_
  intro p e s m args below meth c s₁ B hml hv
  obtain ⟨rfl, hP, hK, hD⟩ := hv
  have hx := B.exec
  have hb := B.bytes
  have hr := B.returns
  have hts := atoms_spec (ws := wsC yX10_areCostsSound cX10_areCostsSound 7 (some .boolean)) B.pre
  have hta : ∀ w ∈ WA, w.before _ s = true := fun w h => hts w (List.mem_cons_of_mem _ h)
  have hown : s.vm.findClass RX10 = some m.cls := findClass_of_methodNamed B.named
  have hlocks := B.notSynchronized
  have hP : va_P D vwCl (va_pl L f) s.heap := hP
  have hl := lv_entry ([.ref (ad 0 0)]) (n := 7) (Nat.le_of_ble_eq_true rfl)
  rw [lg_entry_eq]
  generalize (lg_sl ([.ref (ad 0 0)]) ++ List.replicate (7 - (lg_sl ([.ref (ad 0 0)])).length) Slot.unset).toArray = ls at hl ⊢
  have hl : lv_has ls 7 [(0, .ref (ad 0 0))] := hl
  refine lv_aload_n hx hb dX10_areCostsSound_0 rfl (lv_at hl 0 rfl) ?_
  refine get_costLost_0 hx hb hta iwX10 hown hK hP hR (rfl : (0 : Nat) = 0) (hta _ mw109) dX10_areCostsSound_1 ?_
  refine lv_lstore_n (lv' := [(1, .long (sJ S 2 0)), (0, .ref (ad 0 0))]) hx hb dX10_areCostsSound_4 rfl hl (by decide) rfl (fun ls hl => ?_)
  refine lv_aload_n hx hb dX10_areCostsSound_5 rfl (lv_at hl 1 rfl) ?_
  refine get_lots_0 hx hb hta iwX10 hown hK hP hR (rfl : (0 : Nat) = 0) (hta _ mw99) dX10_areCostsSound_6 ?_
  refine lv_astore_n (lv' := [(3, .ref (ad 18 0)), (1, .long (sJ S 2 0)), (0, .ref (ad 0 0))]) hx hb dX10_areCostsSound_9 rfl hl (by decide) rfl (fun ls hl => ?_)
  refine lv_aload_n hx hb dX10_areCostsSound_10 rfl (lv_at hl 0 rfl) ?_
  refine len_lots hx hb hK hP hR (rfl : (0 : Nat) = 0) dX10_areCostsSound_11 ?_
  refine lv_istore (lv' := [(4, .int 90), (3, .ref (ad 18 0)), (1, .long (sJ S 2 0)), (0, .ref (ad 0 0))]) hx hb dX10_areCostsSound_12 hl (by decide) rfl (fun ls hl => ?_)
  refine lv_iconst (v := 0) hx hb dX10_areCostsSound_14 (by decide) ?_
  refine lv_istore (lv' := [(5, .int 0), (4, .int 90), (3, .ref (ad 18 0)), (1, .long (sJ S 2 0)), (0, .ref (ad 0 0))]) hx hb dX10_areCostsSound_15 hl (by decide) rfl (fun ls hl => ?_)
  refine loop_g (σ := Array Slot) (Wg := fun ls => W p l e _ s m _ below meth c _ _ _ _ _ (F0 m 17 ls [])) 90 (fun j9 ls => lv_has ls 7 [(0, .ref (ad 0 0)), (1, .long (acL S j9)), (3, .ref (ad 18 0)), (4, .int 90), (5, .int (nI j9))]) (fun j9 hj1 ih2 ls hl => ?_) (fun ls hl => ?_) ls (lv_sub hl [4, 3, 2, 1, 0] rfl)
  · skip
    refine lv_iload hx hb dX10_areCostsSound_17 (lv_at hl 4 rfl) ?_
    refine lv_iload hx hb dX10_areCostsSound_19 (lv_at hl 3 rfl) ?_
    refine lv_icmp_ge (tgt := 53) hx hb dX10_areCostsSound_21 (by decide) (fun c3 => ?_) (fun c3 => ?_)
    · exact absurd c3 (nI_ge (a := j9) (b := 90) hj1 (by decide))
    · skip
      refine lv_aload_n hx hb dX10_areCostsSound_24 rfl (lv_at hl 2 rfl) ?_
      refine lv_iload hx hb dX10_areCostsSound_25 (lv_at hl 4 rfl) ?_
      refine ldn_lots hx hb hK hP hR (rfl : (0 : Nat) = 0) hj1 dX10_areCostsSound_27 (fun h4 => ?_) (fun h4 => ?_)
      · skip
        refine lv_astore (lv' := [(6, .ref (ad 7 j9)), (0, .ref (ad 0 0)), (1, .long (acL S j9)), (3, .ref (ad 18 0)), (4, .int 90), (5, .int (nI j9))]) hx hb dX10_areCostsSound_28 hl (by decide) rfl (fun ls hl => ?_)
        refine lv_lload_n hx hb dX10_areCostsSound_30 rfl (lv_at hl 2 rfl) ?_
        refine lv_aload hx hb dX10_areCostsSound_31 (lv_at hl 0 rfl) ?_
        refine lv_ifnull hx hb dX10_areCostsSound_33 ?_
        refine lv_aload hx hb dX10_areCostsSound_36 (lv_at hl 0 rfl) ?_
        refine get_cost_7 hx hb hta iwX3 hown hK hP hR h4 (hta _ mw425) dX10_areCostsSound_38 ?_
        refine lv_goto (tgt := 45) hx hb dX10_areCostsSound_41 (by decide) ?_
        refine lv_ladd hx hb dX10_areCostsSound_45 ?_
        refine lv_lstore_n (lv' := [(1, .long ((acL S j9) + (sJ S 3 j9))), (6, .ref (ad 7 j9)), (0, .ref (ad 0 0)), (3, .ref (ad 18 0)), (4, .int 90), (5, .int (nI j9))]) hx hb dX10_areCostsSound_46 rfl hl (by decide) rfl (fun ls hl => ?_)
        refine lv_iinc (v := nI (j9 + 1)) (lv' := [(5, .int (nI (j9 + 1))), (1, .long ((acL S j9) + (sJ S 3 j9))), (6, .ref (ad 7 j9)), (0, .ref (ad 0 0)), (3, .ref (ad 18 0)), (4, .int 90)]) hx hb dX10_areCostsSound_47 hl (k := 5) rfl (nI_1 _) (by decide) rfl (fun ls hl => ?_)
        refine lv_goto (tgt := 17) hx hb dX10_areCostsSound_50 (by decide) ?_
        refine ih2 _ ?_
        have a8 : acL S (j9 + 1) = (acL S j9) + (sJ S 3 j9) := (by rw [acL_s]; simp only [ac1, Bool.false_eq_true, if_true, if_false, if_pos h4]; (try rfl))
        rw [a8]
        exact lv_sub hl [3, 1, 4, 5, 0] rfl
      · skip
        refine lv_astoreN (lv' := [(6, .null), (0, .ref (ad 0 0)), (1, .long (acL S j9)), (3, .ref (ad 18 0)), (4, .int 90), (5, .int (nI j9))]) hx hb dX10_areCostsSound_28 hl (by decide) rfl (fun ls hl => ?_)
        refine lv_lload_n hx hb dX10_areCostsSound_30 rfl (lv_at hl 2 rfl) ?_
        refine lv_aloadN hx hb dX10_areCostsSound_31 (lv_at hl 0 rfl) ?_
        refine lv_ifnullN (tgt := 44) hx hb dX10_areCostsSound_33 (by decide) ?_
        refine lv_lconst (v := 0) hx hb dX10_areCostsSound_44 (by decide) ?_
        refine lv_ladd hx hb dX10_areCostsSound_45 ?_
        refine lv_lstore_n (lv' := [(1, .long ((acL S j9) + 0)), (6, .null), (0, .ref (ad 0 0)), (3, .ref (ad 18 0)), (4, .int 90), (5, .int (nI j9))]) hx hb dX10_areCostsSound_46 rfl hl (by decide) rfl (fun ls hl => ?_)
        refine lv_iinc (v := nI (j9 + 1)) (lv' := [(5, .int (nI (j9 + 1))), (1, .long ((acL S j9) + 0)), (6, .null), (0, .ref (ad 0 0)), (3, .ref (ad 18 0)), (4, .int 90)]) hx hb dX10_areCostsSound_47 hl (k := 5) rfl (nI_1 _) (by decide) rfl (fun ls hl => ?_)
        refine lv_goto (tgt := 17) hx hb dX10_areCostsSound_50 (by decide) ?_
        refine ih2 _ ?_
        have a8 : acL S (j9 + 1) = (acL S j9) + 0 := (by rw [acL_s]; simp only [ac1, Bool.false_eq_true, if_true, if_false, if_neg h4]; (try rfl))
        rw [a8]
        exact lv_sub hl [3, 1, 4, 5, 0] rfl
  · skip
    refine lv_iload hx hb dX10_areCostsSound_17 (lv_at hl 4 rfl) ?_
    refine lv_iload hx hb dX10_areCostsSound_19 (lv_at hl 3 rfl) ?_
    refine lv_icmp_ge (tgt := 53) hx hb dX10_areCostsSound_21 (by decide) (fun c5 => ?_) (fun c5 => ?_)
    · skip
      refine lv_aload_n hx hb dX10_areCostsSound_53 rfl (lv_at hl 0 rfl) ?_
      refine get_orders_0 hx hb hta iwX10 hown hK hP hR (rfl : (0 : Nat) = 0) (hta _ mw100) dX10_areCostsSound_54 ?_
      refine lv_astore_n (lv' := [(3, .ref (ad 19 0)), (0, .ref (ad 0 0)), (1, .long (acL S 90)), (4, .int 90), (5, .int (nI 90))]) hx hb dX10_areCostsSound_57 rfl hl (by decide) rfl (fun ls hl => ?_)
      refine lv_aload_n hx hb dX10_areCostsSound_58 rfl (lv_at hl 0 rfl) ?_
      refine len_orders hx hb hK hP hR (rfl : (0 : Nat) = 0) dX10_areCostsSound_59 ?_
      refine lv_istore (lv' := [(4, .int 30), (3, .ref (ad 19 0)), (0, .ref (ad 0 0)), (1, .long (acL S 90)), (5, .int (nI 90))]) hx hb dX10_areCostsSound_60 hl (by decide) rfl (fun ls hl => ?_)
      refine lv_iconst (v := 0) hx hb dX10_areCostsSound_62 (by decide) ?_
      refine lv_istore (lv' := [(5, .int 0), (4, .int 30), (3, .ref (ad 19 0)), (0, .ref (ad 0 0)), (1, .long (acL S 90))]) hx hb dX10_areCostsSound_63 hl (by decide) rfl (fun ls hl => ?_)
      refine loop_g (σ := Array Slot) (Wg := fun ls => W p l e _ s m _ below meth c _ _ _ _ _ (F0 m 65 ls [])) 30 (fun j8 ls => lv_has ls 7 [(0, .ref (ad 0 0)), (1, .long (acM S j8)), (3, .ref (ad 19 0)), (4, .int 30), (5, .int (nI j8))]) (fun j8 hj6 ih7 ls hl => ?_) (fun ls hl => ?_) ls (lv_sub hl [3, 4, 2, 1, 0] rfl)
      · skip
        refine lv_iload hx hb dX10_areCostsSound_65 (lv_at hl 4 rfl) ?_
        refine lv_iload hx hb dX10_areCostsSound_67 (lv_at hl 3 rfl) ?_
        refine lv_icmp_ge (tgt := 110) hx hb dX10_areCostsSound_69 (by decide) (fun c8 => ?_) (fun c8 => ?_)
        · exact absurd c8 (nI_ge (a := j8) (b := 30) hj6 (by decide))
        · skip
          refine lv_aload_n hx hb dX10_areCostsSound_72 rfl (lv_at hl 2 rfl) ?_
          refine lv_iload hx hb dX10_areCostsSound_73 (lv_at hl 4 rfl) ?_
          refine ldn_orders hx hb hK hP hR (rfl : (0 : Nat) = 0) hj6 dX10_areCostsSound_75 (fun h9 => ?_) (fun h9 => ?_)
          · skip
            refine lv_astore (lv' := [(6, .ref (ad 11 j8)), (0, .ref (ad 0 0)), (1, .long (acM S j8)), (3, .ref (ad 19 0)), (4, .int 30), (5, .int (nI j8))]) hx hb dX10_areCostsSound_76 hl (by decide) rfl (fun ls hl => ?_)
            refine lv_lload_n hx hb dX10_areCostsSound_78 rfl (lv_at hl 2 rfl) ?_
            refine lv_aload hx hb dX10_areCostsSound_79 (lv_at hl 0 rfl) ?_
            refine lv_ifnull hx hb dX10_areCostsSound_81 ?_
            refine lv_aload hx hb dX10_areCostsSound_84 (lv_at hl 0 rfl) ?_
            refine get_job_11 hx hb hta iwX7 hown hK hP hR h9 (hta _ mw541) dX10_areCostsSound_86 ?_
            refine get_cost_12 hx hb hta iwX2 hown hK hP hR h9 (hta _ mw524) dX10_areCostsSound_89 ?_
            refine lv_aload hx hb dX10_areCostsSound_92 (lv_at hl 0 rfl) ?_
            refine get_deliveredCost_11 hx hb hta iwX7 hown hK hP hR h9 (hta _ mw550) dX10_areCostsSound_94 ?_
            refine lv_ladd hx hb dX10_areCostsSound_97 ?_
            refine lv_goto (tgt := 102) hx hb dX10_areCostsSound_98 (by decide) ?_
            refine lv_ladd hx hb dX10_areCostsSound_102 ?_
            refine lv_lstore_n (lv' := [(1, .long ((acM S j8) + ((sJ S 5 j8) + (sJ S 4 j8)))), (6, .ref (ad 11 j8)), (0, .ref (ad 0 0)), (3, .ref (ad 19 0)), (4, .int 30), (5, .int (nI j8))]) hx hb dX10_areCostsSound_103 rfl hl (by decide) rfl (fun ls hl => ?_)
            refine lv_iinc (v := nI (j8 + 1)) (lv' := [(5, .int (nI (j8 + 1))), (1, .long ((acM S j8) + ((sJ S 5 j8) + (sJ S 4 j8)))), (6, .ref (ad 11 j8)), (0, .ref (ad 0 0)), (3, .ref (ad 19 0)), (4, .int 30)]) hx hb dX10_areCostsSound_104 hl (k := 5) rfl (nI_1 _) (by decide) rfl (fun ls hl => ?_)
            refine lv_goto (tgt := 65) hx hb dX10_areCostsSound_107 (by decide) ?_
            refine ih7 _ ?_
            have a8 : acM S (j8 + 1) = (acM S j8) + ((sJ S 5 j8) + (sJ S 4 j8)) := (by rw [acM_s]; simp only [ac2, Bool.false_eq_true, if_true, if_false, if_pos h9]; (try rfl))
            rw [a8]
            exact lv_sub hl [3, 1, 4, 5, 0] rfl
          · skip
            refine lv_astoreN (lv' := [(6, .null), (0, .ref (ad 0 0)), (1, .long (acM S j8)), (3, .ref (ad 19 0)), (4, .int 30), (5, .int (nI j8))]) hx hb dX10_areCostsSound_76 hl (by decide) rfl (fun ls hl => ?_)
            refine lv_lload_n hx hb dX10_areCostsSound_78 rfl (lv_at hl 2 rfl) ?_
            refine lv_aloadN hx hb dX10_areCostsSound_79 (lv_at hl 0 rfl) ?_
            refine lv_ifnullN (tgt := 101) hx hb dX10_areCostsSound_81 (by decide) ?_
            refine lv_lconst (v := 0) hx hb dX10_areCostsSound_101 (by decide) ?_
            refine lv_ladd hx hb dX10_areCostsSound_102 ?_
            refine lv_lstore_n (lv' := [(1, .long ((acM S j8) + 0)), (6, .null), (0, .ref (ad 0 0)), (3, .ref (ad 19 0)), (4, .int 30), (5, .int (nI j8))]) hx hb dX10_areCostsSound_103 rfl hl (by decide) rfl (fun ls hl => ?_)
            refine lv_iinc (v := nI (j8 + 1)) (lv' := [(5, .int (nI (j8 + 1))), (1, .long ((acM S j8) + 0)), (6, .null), (0, .ref (ad 0 0)), (3, .ref (ad 19 0)), (4, .int 30)]) hx hb dX10_areCostsSound_104 hl (k := 5) rfl (nI_1 _) (by decide) rfl (fun ls hl => ?_)
            refine lv_goto (tgt := 65) hx hb dX10_areCostsSound_107 (by decide) ?_
            refine ih7 _ ?_
            have a8 : acM S (j8 + 1) = (acM S j8) + 0 := (by rw [acM_s]; simp only [ac2, Bool.false_eq_true, if_true, if_false, if_neg h9]; (try rfl))
            rw [a8]
            exact lv_sub hl [3, 1, 4, 5, 0] rfl
      · skip
        refine lv_iload hx hb dX10_areCostsSound_65 (lv_at hl 4 rfl) ?_
        refine lv_iload hx hb dX10_areCostsSound_67 (lv_at hl 3 rfl) ?_
        refine lv_icmp_ge (tgt := 110) hx hb dX10_areCostsSound_69 (by decide) (fun c10 => ?_) (fun c10 => ?_)
        · skip
          refine lv_lload_n hx hb dX10_areCostsSound_110 rfl (lv_at hl 1 rfl) ?_
          refine lv_aload_n hx hb dX10_areCostsSound_111 rfl (lv_at hl 0 rfl) ?_
          refine get_costIn_0 hx hb hta iwX10 hown hK hP hR (rfl : (0 : Nat) = 0) (hta _ mw108) dX10_areCostsSound_112 ?_
          refine W.lcmp hx hb dX10_areCostsSound_115 ?_
          refine lv_if_ne (tgt := 123) hx hb dX10_areCostsSound_116 (by decide) (fun c11 => ?_) (fun c11 => ?_)
          · skip
            refine lv_iconst (v := 0) hx hb dX10_areCostsSound_123 (by decide) ?_
            exact W.zret (v := 0) (ty := .boolean) hx hb hr (by decide) (fun t ht hWm => ⟨_, rfl, (by rw [acS, decide_eq_false (fun q => c11 ((lg_cmp_eq _ _).mpr q))]; rfl), ht⟩) (fun q h => absurd h List.not_mem_nil) dX10_areCostsSound_124
          · skip
            refine lv_iconst (v := 1) hx hb dX10_areCostsSound_119 (by decide) ?_
            refine lv_goto (tgt := 124) hx hb dX10_areCostsSound_120 (by decide) ?_
            exact W.zret (v := 1) (ty := .boolean) hx hb hr (by decide) (fun t ht hWm => ⟨_, rfl, (by rw [acS, decide_eq_true ((lg_cmp_eq _ _).mp c11)]; rfl), ht⟩) (fun q h => absurd h List.not_mem_nil) dX10_areCostsSound_124
        · exact absurd (nI_le (a := 30) (b := 30) (Nat.le_refl _) (by decide)) c10
    · exact absurd (nI_le (a := 90) (b := 90) (Nat.le_refl _) (by decide)) c5

def apB (S : St) (j : Nat) : Bool := if j < sN S 2 0 then (if sI S 42 j = piN S j 1 then (if sI S 41 j < sI S 42 j then false else (if sI S 42 j ≤ 0 then true else (if barred S j = true then false else true))) else false) else true
def apS (S : St) : Bool := allN (apB S) 90
set_option maxHeartbeats 4000000 in
set_option maxRecDepth 100000 in
theorem c_X10_arePromisesSound (l : Launch) {D : va_G} {tA : Nat → ClassId} {S : St} {ad : Nat → Nat → Nat} {L : List Nat} {f : Nat → va_E} (hR : Rep tA S ad L f) (hW : WT S) : Met l yX10_arePromisesSound (wsC yX10_arePromisesSound cX10_arePromisesSound 5 (some .boolean)) ({ frames := 2, cells := 0, slots := 0, locals := 49 }) (va_Pc [.ref (ad 0 0)] (gB D tA L f)) (vp_Si (fun r => r = bI (apS S))) 0 0 (fun _ => False) := by
  refine Met.ofW (cc := cX10_arePromisesSound) (maxL := 5) (ret := (some .boolean)) (by decide) rfl ?_
  intro p e s m args below meth c s₁ B hml hv
  obtain ⟨rfl, hP, hK, hD⟩ := hv
  have hx := B.exec
  have hb := B.bytes
  have hr := B.returns
  have hts := atoms_spec (ws := wsC yX10_arePromisesSound cX10_arePromisesSound 5 (some .boolean)) B.pre
  have hta : ∀ w ∈ WA, w.before _ s = true := fun w h => hts w (List.mem_cons_of_mem _ h)
  have hown : s.vm.findClass RX10 = some m.cls := findClass_of_methodNamed B.named
  have hlocks := B.notSynchronized
  have hP : va_P D vwCl (va_pl L f) s.heap := hP
  have hl := lv_entry ([.ref (ad 0 0)]) (n := 5) (Nat.le_of_ble_eq_true rfl)
  rw [lg_entry_eq]
  generalize (lg_sl ([.ref (ad 0 0)]) ++ List.replicate (5 - (lg_sl ([.ref (ad 0 0)])).length) Slot.unset).toArray = ls at hl ⊢
  have hl : lv_has ls 5 [(0, .ref (ad 0 0))] := hl
  refine lv_aload_n hx hb dX10_arePromisesSound_0 rfl (lv_at hl 0 rfl) ?_
  refine get_lots_0 hx hb hta iwX10 hown hK hP hR (rfl : (0 : Nat) = 0) (hta _ mw99) dX10_arePromisesSound_1 ?_
  refine lv_astore_n (lv' := [(1, .ref (ad 18 0)), (0, .ref (ad 0 0))]) hx hb dX10_arePromisesSound_4 rfl hl (by decide) rfl (fun ls hl => ?_)
  refine lv_aload_n hx hb dX10_arePromisesSound_5 rfl (lv_at hl 0 rfl) ?_
  refine len_lots hx hb hK hP hR (rfl : (0 : Nat) = 0) dX10_arePromisesSound_6 ?_
  refine lv_istore_n (lv' := [(2, .int 90), (1, .ref (ad 18 0)), (0, .ref (ad 0 0))]) hx hb dX10_arePromisesSound_7 rfl hl (by decide) rfl (fun ls hl => ?_)
  refine lv_iconst (v := 0) hx hb dX10_arePromisesSound_8 (by decide) ?_
  refine lv_istore_n (lv' := [(3, .int 0), (2, .int 90), (1, .ref (ad 18 0)), (0, .ref (ad 0 0))]) hx hb dX10_arePromisesSound_9 rfl hl (by decide) rfl (fun ls hl => ?_)
  refine loop_g (σ := Array Slot) (Wg := fun ls => W p l e _ s m _ below meth c _ _ _ _ _ (F0 m 10 ls [])) 90 (fun j9 ls => lv_has ls 5 [(0, .ref (ad 0 0)), (1, .ref (ad 18 0)), (2, .int 90), (3, .int (nI j9))] ∧ (allN (apB S) j9 = true)) (fun j9 hj1 ih2 ls hl => ?_) (fun ls hl => ?_) ls ⟨lv_sub hl [3, 2, 1, 0] rfl, rfl⟩
  · skip
    obtain ⟨hl, hg9⟩ := hl
    refine lv_iload_n hx hb dX10_arePromisesSound_10 rfl (lv_at hl 3 rfl) ?_
    refine lv_iload_n hx hb dX10_arePromisesSound_11 rfl (lv_at hl 2 rfl) ?_
    refine lv_icmp_ge (tgt := 78) hx hb dX10_arePromisesSound_12 (by decide) (fun c3 => ?_) (fun c3 => ?_)
    · exact absurd c3 (nI_ge (a := j9) (b := 90) hj1 (by decide))
    · skip
      refine lv_aload_n hx hb dX10_arePromisesSound_15 rfl (lv_at hl 1 rfl) ?_
      refine lv_iload_n hx hb dX10_arePromisesSound_16 rfl (lv_at hl 3 rfl) ?_
      refine ldn_lots hx hb hK hP hR (rfl : (0 : Nat) = 0) hj1 dX10_arePromisesSound_17 (fun h4 => ?_) (fun h4 => ?_)
      · skip
        refine lv_astore (lv' := [(4, .ref (ad 7 j9)), (0, .ref (ad 0 0)), (1, .ref (ad 18 0)), (2, .int 90), (3, .int (nI j9))]) hx hb dX10_arePromisesSound_18 hl (by decide) rfl (fun ls hl => ?_)
        refine lv_aload hx hb dX10_arePromisesSound_20 (lv_at hl 0 rfl) ?_
        refine lv_ifnull hx hb dX10_arePromisesSound_22 ?_
        refine lv_aload hx hb dX10_arePromisesSound_25 (lv_at hl 0 rfl) ?_
        refine get_reserved_7 hx hb hta iwX3 hown hK hP hR h4 (hta _ mw422) dX10_arePromisesSound_27 ?_
        refine lv_aload_n hx hb dX10_arePromisesSound_30 rfl (lv_at hl 1 rfl) ?_
        refine lv_aload hx hb dX10_arePromisesSound_31 (lv_at hl 0 rfl) ?_
        refine lv_iconst (v := 1) hx hb dX10_arePromisesSound_33 (by decide) ?_
        obtain ⟨q5, e6⟩ := cell_0 hR (rfl : (0 : Nat) = 0)
        refine gro_i (ci := 12) (As := [.ref (ad 7 j9), .int 1]) (rest := [.int (sI S 42 j9)]) ⟨hx, hb, hml, hown, hta⟩ (c_X10_piecesIn l hR hW h4 1) (cwV 2 hta (gWV mw167 mw168 mw2 mw40 mw169) rfl rfl rfl (by decide +kernel) ⟨Nat.le_of_ble_eq_true rfl, Nat.le_of_ble_eq_true rfl⟩) hK hP hD rfl e6 rfl hl.1 rfl (Nat.le_of_ble_eq_true rfl) dX10_arePromisesSound_34 ⟨Nat.zero_le _, Nat.zero_le _⟩ (fun r7 c8 => ?_)
        obtain rfl := c8
        refine lv_icmp_ne (tgt := 70) hx hb dX10_arePromisesSound_37 (by decide) (fun c9 => ?_) (fun c9 => ?_)
        · skip
          refine lv_iconst (v := 0) hx hb dX10_arePromisesSound_70 (by decide) ?_
          exact W.zret (v := 0) (ty := .boolean) hx hb hr (by decide) (fun t ht hWm => ⟨_, rfl, (by rw [apS, allN_stop hj1 (by simp only [apB, Bool.false_eq_true, if_true, if_false, if_pos h4, if_neg c9])]; rfl), ht⟩) (fun q h => absurd h List.not_mem_nil) dX10_arePromisesSound_71
        · skip
          refine lv_aload hx hb dX10_arePromisesSound_40 (lv_at hl 0 rfl) ?_
          refine get_reserved_7 hx hb hta iwX3 hown hK hP hR h4 (hta _ mw422) dX10_arePromisesSound_42 ?_
          refine lv_aload hx hb dX10_arePromisesSound_45 (lv_at hl 0 rfl) ?_
          refine get_rest_7 hx hb hta iwX3 hown hK hP hR h4 (hta _ mw421) dX10_arePromisesSound_47 ?_
          refine lv_icmp_gt (tgt := 70) hx hb dX10_arePromisesSound_50 (by decide) (fun c10 => ?_) (fun c10 => ?_)
          · skip
            refine lv_iconst (v := 0) hx hb dX10_arePromisesSound_70 (by decide) ?_
            exact W.zret (v := 0) (ty := .boolean) hx hb hr (by decide) (fun t ht hWm => ⟨_, rfl, (by rw [apS, allN_stop hj1 (by simp only [apB, Bool.false_eq_true, if_true, if_false, if_pos h4, if_pos c9, if_pos c10])]; rfl), ht⟩) (fun q h => absurd h List.not_mem_nil) dX10_arePromisesSound_71
          · skip
            refine lv_aload hx hb dX10_arePromisesSound_53 (lv_at hl 0 rfl) ?_
            refine get_reserved_7 hx hb hta iwX3 hown hK hP hR h4 (hta _ mw422) dX10_arePromisesSound_55 ?_
            refine lv_if_le (tgt := 72) hx hb dX10_arePromisesSound_58 (by decide) (fun c11 => ?_) (fun c11 => ?_)
            · skip
              refine lv_iinc (v := nI (j9 + 1)) (lv' := [(3, .int (nI (j9 + 1))), (4, .ref (ad 7 j9)), (0, .ref (ad 0 0)), (1, .ref (ad 18 0)), (2, .int 90)]) hx hb dX10_arePromisesSound_72 hl (k := 4) rfl (nI_1 _) (by decide) rfl (fun ls hl => ?_)
              refine lv_goto (tgt := 10) hx hb dX10_arePromisesSound_75 (by decide) ?_
              refine ih2 _ ⟨?_, allN_s hg9 (by simp only [apB, Bool.false_eq_true, if_true, if_false, if_pos h4, if_pos c9, if_neg c10, if_pos c11])⟩
              exact lv_sub hl [2, 3, 4, 0] rfl
            · skip
              refine lv_aload_n hx hb dX10_arePromisesSound_61 rfl (lv_at hl 1 rfl) ?_
              refine lv_aload hx hb dX10_arePromisesSound_62 (lv_at hl 0 rfl) ?_
              obtain ⟨q12, e13⟩ := cell_0 hR (rfl : (0 : Nat) = 0)
              refine gro_i (ci := 12) (As := [.ref (ad 7 j9)]) (rest := []) ⟨hx, hb, hml, hown, hta⟩ (c_X10_isBarred l hR hW h4) (cwV 1 hta (gWV mw191 mw192 mw6 mw40 mw193) rfl rfl rfl (by decide +kernel) ⟨Nat.le_of_ble_eq_true rfl, Nat.le_of_ble_eq_true rfl⟩) hK hP hD rfl e13 rfl hl.1 rfl (Nat.le_of_ble_eq_true rfl) dX10_arePromisesSound_64 ⟨Nat.zero_le _, Nat.zero_le _⟩ (fun r14 c15 => ?_)
              obtain rfl := c15
              refine lv_if_eq (tgt := 72) hx hb dX10_arePromisesSound_67 (by decide) (fun c16 => ?_) (fun c16 => ?_)
              · skip
                have c16 := bI_f c16
                refine lv_iinc (v := nI (j9 + 1)) (lv' := [(3, .int (nI (j9 + 1))), (4, .ref (ad 7 j9)), (0, .ref (ad 0 0)), (1, .ref (ad 18 0)), (2, .int 90)]) hx hb dX10_arePromisesSound_72 hl (k := 4) rfl (nI_1 _) (by decide) rfl (fun ls hl => ?_)
                refine lv_goto (tgt := 10) hx hb dX10_arePromisesSound_75 (by decide) ?_
                refine ih2 _ ⟨?_, allN_s hg9 (by simp only [apB, Bool.false_eq_true, if_true, if_false, if_pos h4, if_pos c9, if_neg c10, if_neg c11, c16])⟩
                exact lv_sub hl [2, 3, 4, 0] rfl
              · skip
                have c16 := bI_t c16
                refine lv_iconst (v := 0) hx hb dX10_arePromisesSound_70 (by decide) ?_
                exact W.zret (v := 0) (ty := .boolean) hx hb hr (by decide) (fun t ht hWm => ⟨_, rfl, (by rw [apS, allN_stop hj1 (by simp only [apB, Bool.false_eq_true, if_true, if_false, if_pos h4, if_pos c9, if_neg c10, if_neg c11, c16])]; rfl), ht⟩) (fun q h => absurd h List.not_mem_nil) dX10_arePromisesSound_71
      · skip
        refine lv_astoreN (lv' := [(4, .null), (0, .ref (ad 0 0)), (1, .ref (ad 18 0)), (2, .int 90), (3, .int (nI j9))]) hx hb dX10_arePromisesSound_18 hl (by decide) rfl (fun ls hl => ?_)
        refine lv_aloadN hx hb dX10_arePromisesSound_20 (lv_at hl 0 rfl) ?_
        refine lv_ifnullN (tgt := 72) hx hb dX10_arePromisesSound_22 (by decide) ?_
        refine lv_iinc (v := nI (j9 + 1)) (lv' := [(3, .int (nI (j9 + 1))), (4, .null), (0, .ref (ad 0 0)), (1, .ref (ad 18 0)), (2, .int 90)]) hx hb dX10_arePromisesSound_72 hl (k := 4) rfl (nI_1 _) (by decide) rfl (fun ls hl => ?_)
        refine lv_goto (tgt := 10) hx hb dX10_arePromisesSound_75 (by decide) ?_
        refine ih2 _ ⟨?_, allN_s hg9 (by simp only [apB, Bool.false_eq_true, if_true, if_false, if_neg h4])⟩
        exact lv_sub hl [2, 3, 4, 0] rfl
  · skip
    obtain ⟨hl, hg9⟩ := hl
    refine lv_iload_n hx hb dX10_arePromisesSound_10 rfl (lv_at hl 3 rfl) ?_
    refine lv_iload_n hx hb dX10_arePromisesSound_11 rfl (lv_at hl 2 rfl) ?_
    refine lv_icmp_ge (tgt := 78) hx hb dX10_arePromisesSound_12 (by decide) (fun c17 => ?_) (fun c17 => ?_)
    · skip
      refine lv_iconst (v := 1) hx hb dX10_arePromisesSound_78 (by decide) ?_
      exact W.zret (v := 1) (ty := .boolean) hx hb hr (by decide) (fun t ht hWm => ⟨_, rfl, (by rw [apS, hg9]; rfl), ht⟩) (fun q h => absurd h List.not_mem_nil) dX10_arePromisesSound_79
    · exact absurd (nI_le (a := 90) (b := 90) (Nat.le_refl _) (by decide)) c17

def tB1 (S : St) (i j : Nat) : Bool := if j < sN S 2 0 then (if bI (nsM S 9 i j) = bI (nsM S 8 j i) then true else false) else true
def tB2 (S : St) (i j : Nat) : Bool := if j < sN S 3 0 then (if bI (nsM S 10 i j) = bI (nsM S 13 j i) then true else false) else true
def tS (S : St) (i : Nat) : Bool := allN (tB1 S i) 90 && allN (tB2 S i) 30
def atB (S : St) (j : Nat) : Bool := if j < sN S 2 0 then tS S j else true
def atS (S : St) : Bool := allN (atB S) 90
set_option maxHeartbeats 4000000 in
set_option maxRecDepth 100000 in
theorem c_X10_isTraceSound (l : Launch) {D : va_G} {tA : Nat → ClassId} {S : St} {ad : Nat → Nat → Nat} {L : List Nat} {f : Nat → va_E} (hR : Rep tA S ad L f) (hW : WT S) {i : Nat} (hi : i < sN S 2 0) : Met l yX10_isTraceSound (wsC yX10_isTraceSound cX10_isTraceSound 6 (some .boolean)) ({ frames := 1, cells := 0, slots := 0, locals := 21 }) (va_Pc [.ref (ad 0 0), .ref (ad 7 i)] (gB D tA L f)) (vp_Si (fun r => r = bI (tS S i))) 0 0 (fun _ => False) := by
  refine Met.ofW (cc := cX10_isTraceSound) (maxL := 6) (ret := (some .boolean)) (by decide) rfl ?_
  intro p e s m args below meth c s₁ B hml hv
  obtain ⟨rfl, hP, hK, hD⟩ := hv
  have hx := B.exec
  have hb := B.bytes
  have hr := B.returns
  have hts := atoms_spec (ws := wsC yX10_isTraceSound cX10_isTraceSound 6 (some .boolean)) B.pre
  have hta : ∀ w ∈ WA, w.before _ s = true := fun w h => hts w (List.mem_cons_of_mem _ h)
  have hown : s.vm.findClass RX10 = some m.cls := findClass_of_methodNamed B.named
  have hlocks := B.notSynchronized
  have hP : va_P D vwCl (va_pl L f) s.heap := hP
  have hl := lv_entry ([.ref (ad 0 0), .ref (ad 7 i)]) (n := 6) (Nat.le_of_ble_eq_true rfl)
  rw [lg_entry_eq]
  generalize (lg_sl ([.ref (ad 0 0), .ref (ad 7 i)]) ++ List.replicate (6 - (lg_sl ([.ref (ad 0 0), .ref (ad 7 i)])).length) Slot.unset).toArray = ls at hl ⊢
  have hl : lv_has ls 6 [(0, .ref (ad 0 0)), (1, .ref (ad 7 i))] := hl
  refine lv_aload_n hx hb dX10_isTraceSound_0 rfl (lv_at hl 0 rfl) ?_
  refine get_lots_0 hx hb hta iwX10 hown hK hP hR (rfl : (0 : Nat) = 0) (hta _ mw99) dX10_isTraceSound_1 ?_
  refine lv_astore_n (lv' := [(2, .ref (ad 18 0)), (0, .ref (ad 0 0)), (1, .ref (ad 7 i))]) hx hb dX10_isTraceSound_4 rfl hl (by decide) rfl (fun ls hl => ?_)
  refine lv_aload_n hx hb dX10_isTraceSound_5 rfl (lv_at hl 0 rfl) ?_
  refine len_lots hx hb hK hP hR (rfl : (0 : Nat) = 0) dX10_isTraceSound_6 ?_
  refine lv_istore_n (lv' := [(3, .int 90), (2, .ref (ad 18 0)), (0, .ref (ad 0 0)), (1, .ref (ad 7 i))]) hx hb dX10_isTraceSound_7 rfl hl (by decide) rfl (fun ls hl => ?_)
  refine lv_iconst (v := 0) hx hb dX10_isTraceSound_8 (by decide) ?_
  refine lv_istore (lv' := [(4, .int 0), (3, .int 90), (2, .ref (ad 18 0)), (0, .ref (ad 0 0)), (1, .ref (ad 7 i))]) hx hb dX10_isTraceSound_9 hl (by decide) rfl (fun ls hl => ?_)
  refine loop_g (σ := Array Slot) (Wg := fun ls => W p l e _ s m _ below meth c _ _ _ _ _ (F0 m 11 ls [])) 90 (fun j9 ls => lv_has ls 6 [(0, .ref (ad 0 0)), (1, .ref (ad 7 i)), (2, .ref (ad 18 0)), (3, .int 90), (4, .int (nI j9))] ∧ (allN (tB1 S i) j9 = true)) (fun j9 hj1 ih2 ls hl => ?_) (fun ls hl => ?_) ls ⟨lv_sub hl [3, 4, 2, 1, 0] rfl, rfl⟩
  · skip
    obtain ⟨hl, hg9⟩ := hl
    refine lv_iload hx hb dX10_isTraceSound_11 (lv_at hl 4 rfl) ?_
    refine lv_iload_n hx hb dX10_isTraceSound_13 rfl (lv_at hl 3 rfl) ?_
    refine lv_icmp_ge (tgt := 63) hx hb dX10_isTraceSound_14 (by decide) (fun c3 => ?_) (fun c3 => ?_)
    · exact absurd c3 (nI_ge (a := j9) (b := 90) hj1 (by decide))
    · skip
      refine lv_aload_n hx hb dX10_isTraceSound_17 rfl (lv_at hl 2 rfl) ?_
      refine lv_iload hx hb dX10_isTraceSound_18 (lv_at hl 4 rfl) ?_
      refine ldn_lots hx hb hK hP hR (rfl : (0 : Nat) = 0) hj1 dX10_isTraceSound_20 (fun h4 => ?_) (fun h4 => ?_)
      · skip
        refine lv_astore (lv' := [(5, .ref (ad 7 j9)), (0, .ref (ad 0 0)), (1, .ref (ad 7 i)), (2, .ref (ad 18 0)), (3, .int 90), (4, .int (nI j9))]) hx hb dX10_isTraceSound_21 hl (by decide) rfl (fun ls hl => ?_)
        refine lv_aload hx hb dX10_isTraceSound_23 (lv_at hl 0 rfl) ?_
        refine lv_ifnull hx hb dX10_isTraceSound_25 ?_
        refine lv_aload_n hx hb dX10_isTraceSound_28 rfl (lv_at hl 2 rfl) ?_
        refine get_intoLots_7 hx hb hta iwX3 hown hK hP hR hi (hta _ mw417) dX10_isTraceSound_29 ?_
        refine lv_aload hx hb dX10_isTraceSound_32 (lv_at hl 0 rfl) ?_
        refine get_number_7 hx hb hta iwX3 hown hK hP hR h4 (hta _ mw407) dX10_isTraceSound_34 ?_
        obtain ⟨q5, e6⟩ := cell_9 hR hi
        refine gro_i (ci := 7) (As := [.int (nI j9)]) (rest := []) ⟨hx, hb, hml, hown, hta⟩ (c_X5_has l hR (k := 9) (i := i) ⟨rfl, hi⟩ (j := j9) (Nat.lt_trans hj1 (by decide))) (cwV 1 hta (gWV mw194 mw195 mw196 mw41 mw197) rfl rfl rfl (by decide +kernel) ⟨Nat.le_of_ble_eq_true rfl, Nat.le_of_ble_eq_true rfl⟩) hK hP hD rfl e6 rfl hl.1 rfl (Nat.le_of_ble_eq_true rfl) dX10_isTraceSound_37 ⟨Nat.zero_le _, Nat.zero_le _⟩ (fun r7 c8 => ?_)
        obtain rfl := c8
        refine lv_aload hx hb dX10_isTraceSound_40 (lv_at hl 0 rfl) ?_
        refine get_inside_7 hx hb hta iwX3 hown hK hP hR h4 (hta _ mw415) dX10_isTraceSound_42 ?_
        refine lv_aload_n hx hb dX10_isTraceSound_45 rfl (lv_at hl 2 rfl) ?_
        refine get_number_7 hx hb hta iwX3 hown hK hP hR hi (hta _ mw407) dX10_isTraceSound_46 ?_
        obtain ⟨q9, e10⟩ := cell_8 hR h4
        refine gro_i (ci := 7) (As := [.int (nI i)]) (rest := [.int (bI (nsM S 9 i j9))]) ⟨hx, hb, hml, hown, hta⟩ (c_X5_has l hR (k := 8) (i := j9) ⟨rfl, h4⟩ (j := i) (Nat.lt_of_lt_of_le hi (Nat.le_trans hW.nL (by decide)))) (cwV 1 hta (gWV mw194 mw195 mw196 mw41 mw197) rfl rfl rfl (by decide +kernel) ⟨Nat.le_of_ble_eq_true rfl, Nat.le_of_ble_eq_true rfl⟩) hK hP hD rfl e10 rfl hl.1 rfl (Nat.le_of_ble_eq_true rfl) dX10_isTraceSound_49 ⟨Nat.zero_le _, Nat.zero_le _⟩ (fun r11 c12 => ?_)
        obtain rfl := c12
        refine lv_icmp_eq (tgt := 57) hx hb dX10_isTraceSound_52 (by decide) (fun c13 => ?_) (fun c13 => ?_)
        · skip
          refine lv_iinc (v := nI (j9 + 1)) (lv' := [(4, .int (nI (j9 + 1))), (5, .ref (ad 7 j9)), (0, .ref (ad 0 0)), (1, .ref (ad 7 i)), (2, .ref (ad 18 0)), (3, .int 90)]) hx hb dX10_isTraceSound_57 hl (k := 5) rfl (nI_1 _) (by decide) rfl (fun ls hl => ?_)
          refine lv_goto (tgt := 11) hx hb dX10_isTraceSound_60 (by decide) ?_
          refine ih2 _ ⟨?_, allN_s hg9 (by simp only [tB1, Bool.false_eq_true, if_true, if_false, if_pos h4, if_pos c13])⟩
          exact lv_sub hl [2, 3, 4, 5, 0] rfl
        · skip
          refine lv_iconst (v := 0) hx hb dX10_isTraceSound_55 (by decide) ?_
          exact W.zret (v := 0) (ty := .boolean) hx hb hr (by decide) (fun t ht hWm => ⟨_, rfl, (by rw [tS, allN_stop hj1 (by simp only [tB1, Bool.false_eq_true, if_true, if_false, if_pos h4, if_neg c13])]; rfl), ht⟩) (fun q h => absurd h List.not_mem_nil) dX10_isTraceSound_56
      · skip
        refine lv_astoreN (lv' := [(5, .null), (0, .ref (ad 0 0)), (1, .ref (ad 7 i)), (2, .ref (ad 18 0)), (3, .int 90), (4, .int (nI j9))]) hx hb dX10_isTraceSound_21 hl (by decide) rfl (fun ls hl => ?_)
        refine lv_aloadN hx hb dX10_isTraceSound_23 (lv_at hl 0 rfl) ?_
        refine lv_ifnullN (tgt := 57) hx hb dX10_isTraceSound_25 (by decide) ?_
        refine lv_iinc (v := nI (j9 + 1)) (lv' := [(4, .int (nI (j9 + 1))), (5, .null), (0, .ref (ad 0 0)), (1, .ref (ad 7 i)), (2, .ref (ad 18 0)), (3, .int 90)]) hx hb dX10_isTraceSound_57 hl (k := 5) rfl (nI_1 _) (by decide) rfl (fun ls hl => ?_)
        refine lv_goto (tgt := 11) hx hb dX10_isTraceSound_60 (by decide) ?_
        refine ih2 _ ⟨?_, allN_s hg9 (by simp only [tB1, Bool.false_eq_true, if_true, if_false, if_neg h4])⟩
        exact lv_sub hl [2, 3, 4, 5, 0] rfl
  · skip
    obtain ⟨hl, hg9⟩ := hl
    refine lv_iload hx hb dX10_isTraceSound_11 (lv_at hl 4 rfl) ?_
    refine lv_iload_n hx hb dX10_isTraceSound_13 rfl (lv_at hl 3 rfl) ?_
    refine lv_icmp_ge (tgt := 63) hx hb dX10_isTraceSound_14 (by decide) (fun c14 => ?_) (fun c14 => ?_)
    · skip
      refine lv_aload_n hx hb dX10_isTraceSound_63 rfl (lv_at hl 0 rfl) ?_
      refine get_orders_0 hx hb hta iwX10 hown hK hP hR (rfl : (0 : Nat) = 0) (hta _ mw100) dX10_isTraceSound_64 ?_
      refine lv_astore_n (lv' := [(2, .ref (ad 19 0)), (0, .ref (ad 0 0)), (1, .ref (ad 7 i)), (3, .int 90), (4, .int (nI 90))]) hx hb dX10_isTraceSound_67 rfl hl (by decide) rfl (fun ls hl => ?_)
      refine lv_aload_n hx hb dX10_isTraceSound_68 rfl (lv_at hl 0 rfl) ?_
      refine len_orders hx hb hK hP hR (rfl : (0 : Nat) = 0) dX10_isTraceSound_69 ?_
      refine lv_istore_n (lv' := [(3, .int 30), (2, .ref (ad 19 0)), (0, .ref (ad 0 0)), (1, .ref (ad 7 i)), (4, .int (nI 90))]) hx hb dX10_isTraceSound_70 rfl hl (by decide) rfl (fun ls hl => ?_)
      refine lv_iconst (v := 0) hx hb dX10_isTraceSound_71 (by decide) ?_
      refine lv_istore (lv' := [(4, .int 0), (3, .int 30), (2, .ref (ad 19 0)), (0, .ref (ad 0 0)), (1, .ref (ad 7 i))]) hx hb dX10_isTraceSound_72 hl (by decide) rfl (fun ls hl => ?_)
      refine loop_g (σ := Array Slot) (Wg := fun ls => W p l e _ s m _ below meth c _ _ _ _ _ (F0 m 74 ls [])) 30 (fun j8 ls => lv_has ls 6 [(0, .ref (ad 0 0)), (1, .ref (ad 7 i)), (2, .ref (ad 19 0)), (3, .int 30), (4, .int (nI j8))] ∧ (allN (tB2 S i) j8 = true)) (fun j8 hj15 ih16 ls hl => ?_) (fun ls hl => ?_) ls ⟨lv_sub hl [3, 4, 2, 1, 0] rfl, rfl⟩
      · skip
        obtain ⟨hl, hg8⟩ := hl
        refine lv_iload hx hb dX10_isTraceSound_74 (lv_at hl 4 rfl) ?_
        refine lv_iload_n hx hb dX10_isTraceSound_76 rfl (lv_at hl 3 rfl) ?_
        refine lv_icmp_ge (tgt := 126) hx hb dX10_isTraceSound_77 (by decide) (fun c17 => ?_) (fun c17 => ?_)
        · exact absurd c17 (nI_ge (a := j8) (b := 30) hj15 (by decide))
        · skip
          refine lv_aload_n hx hb dX10_isTraceSound_80 rfl (lv_at hl 2 rfl) ?_
          refine lv_iload hx hb dX10_isTraceSound_81 (lv_at hl 4 rfl) ?_
          refine ldn_orders hx hb hK hP hR (rfl : (0 : Nat) = 0) hj15 dX10_isTraceSound_83 (fun h18 => ?_) (fun h18 => ?_)
          · skip
            refine lv_astore (lv' := [(5, .ref (ad 11 j8)), (0, .ref (ad 0 0)), (1, .ref (ad 7 i)), (2, .ref (ad 19 0)), (3, .int 30), (4, .int (nI j8))]) hx hb dX10_isTraceSound_84 hl (by decide) rfl (fun ls hl => ?_)
            refine lv_aload hx hb dX10_isTraceSound_86 (lv_at hl 0 rfl) ?_
            refine lv_ifnull hx hb dX10_isTraceSound_88 ?_
            refine lv_aload_n hx hb dX10_isTraceSound_91 rfl (lv_at hl 2 rfl) ?_
            refine get_intoOrders_7 hx hb hta iwX3 hown hK hP hR hi (hta _ mw419) dX10_isTraceSound_92 ?_
            refine lv_aload hx hb dX10_isTraceSound_95 (lv_at hl 0 rfl) ?_
            refine get_number_11 hx hb hta iwX7 hown hK hP hR h18 (hta _ mw530) dX10_isTraceSound_97 ?_
            obtain ⟨q19, e20⟩ := cell_10 hR hi
            refine gro_i (ci := 7) (As := [.int (nI j8)]) (rest := []) ⟨hx, hb, hml, hown, hta⟩ (c_X5_has l hR (k := 10) (i := i) ⟨rfl, hi⟩ (j := j8) (Nat.lt_trans hj15 (by decide))) (cwV 1 hta (gWV mw194 mw195 mw196 mw41 mw197) rfl rfl rfl (by decide +kernel) ⟨Nat.le_of_ble_eq_true rfl, Nat.le_of_ble_eq_true rfl⟩) hK hP hD rfl e20 rfl hl.1 rfl (Nat.le_of_ble_eq_true rfl) dX10_isTraceSound_100 ⟨Nat.zero_le _, Nat.zero_le _⟩ (fun r21 c22 => ?_)
            obtain rfl := c22
            refine lv_aload hx hb dX10_isTraceSound_103 (lv_at hl 0 rfl) ?_
            refine get_inside_11 hx hb hta iwX7 hown hK hP hR h18 (hta _ mw543) dX10_isTraceSound_105 ?_
            refine lv_aload_n hx hb dX10_isTraceSound_108 rfl (lv_at hl 2 rfl) ?_
            refine get_number_7 hx hb hta iwX3 hown hK hP hR hi (hta _ mw407) dX10_isTraceSound_109 ?_
            obtain ⟨q23, e24⟩ := cell_13 hR h18
            refine gro_i (ci := 7) (As := [.int (nI i)]) (rest := [.int (bI (nsM S 10 i j8))]) ⟨hx, hb, hml, hown, hta⟩ (c_X5_has l hR (k := 13) (i := j8) ⟨rfl, h18⟩ (j := i) (Nat.lt_of_lt_of_le hi (Nat.le_trans hW.nL (by decide)))) (cwV 1 hta (gWV mw194 mw195 mw196 mw41 mw197) rfl rfl rfl (by decide +kernel) ⟨Nat.le_of_ble_eq_true rfl, Nat.le_of_ble_eq_true rfl⟩) hK hP hD rfl e24 rfl hl.1 rfl (Nat.le_of_ble_eq_true rfl) dX10_isTraceSound_112 ⟨Nat.zero_le _, Nat.zero_le _⟩ (fun r25 c26 => ?_)
            obtain rfl := c26
            refine lv_icmp_eq (tgt := 120) hx hb dX10_isTraceSound_115 (by decide) (fun c27 => ?_) (fun c27 => ?_)
            · skip
              refine lv_iinc (v := nI (j8 + 1)) (lv' := [(4, .int (nI (j8 + 1))), (5, .ref (ad 11 j8)), (0, .ref (ad 0 0)), (1, .ref (ad 7 i)), (2, .ref (ad 19 0)), (3, .int 30)]) hx hb dX10_isTraceSound_120 hl (k := 5) rfl (nI_1 _) (by decide) rfl (fun ls hl => ?_)
              refine lv_goto (tgt := 74) hx hb dX10_isTraceSound_123 (by decide) ?_
              refine ih16 _ ⟨?_, allN_s hg8 (by simp only [tB2, Bool.false_eq_true, if_true, if_false, if_pos h18, if_pos c27])⟩
              exact lv_sub hl [2, 3, 4, 5, 0] rfl
            · skip
              refine lv_iconst (v := 0) hx hb dX10_isTraceSound_118 (by decide) ?_
              exact W.zret (v := 0) (ty := .boolean) hx hb hr (by decide) (fun t ht hWm => ⟨_, rfl, (by rw [tS, hg9, allN_stop hj15 (by simp only [tB2, Bool.false_eq_true, if_true, if_false, if_pos h18, if_neg c27])]; rfl), ht⟩) (fun q h => absurd h List.not_mem_nil) dX10_isTraceSound_119
          · skip
            refine lv_astoreN (lv' := [(5, .null), (0, .ref (ad 0 0)), (1, .ref (ad 7 i)), (2, .ref (ad 19 0)), (3, .int 30), (4, .int (nI j8))]) hx hb dX10_isTraceSound_84 hl (by decide) rfl (fun ls hl => ?_)
            refine lv_aloadN hx hb dX10_isTraceSound_86 (lv_at hl 0 rfl) ?_
            refine lv_ifnullN (tgt := 120) hx hb dX10_isTraceSound_88 (by decide) ?_
            refine lv_iinc (v := nI (j8 + 1)) (lv' := [(4, .int (nI (j8 + 1))), (5, .null), (0, .ref (ad 0 0)), (1, .ref (ad 7 i)), (2, .ref (ad 19 0)), (3, .int 30)]) hx hb dX10_isTraceSound_120 hl (k := 5) rfl (nI_1 _) (by decide) rfl (fun ls hl => ?_)
            refine lv_goto (tgt := 74) hx hb dX10_isTraceSound_123 (by decide) ?_
            refine ih16 _ ⟨?_, allN_s hg8 (by simp only [tB2, Bool.false_eq_true, if_true, if_false, if_neg h18])⟩
            exact lv_sub hl [2, 3, 4, 5, 0] rfl
      · skip
        obtain ⟨hl, hg8⟩ := hl
        refine lv_iload hx hb dX10_isTraceSound_74 (lv_at hl 4 rfl) ?_
        refine lv_iload_n hx hb dX10_isTraceSound_76 rfl (lv_at hl 3 rfl) ?_
        refine lv_icmp_ge (tgt := 126) hx hb dX10_isTraceSound_77 (by decide) (fun c28 => ?_) (fun c28 => ?_)
        · skip
          refine lv_iconst (v := 1) hx hb dX10_isTraceSound_126 (by decide) ?_
          exact W.zret (v := 1) (ty := .boolean) hx hb hr (by decide) (fun t ht hWm => ⟨_, rfl, (by rw [tS, hg9, hg8]; rfl), ht⟩) (fun q h => absurd h List.not_mem_nil) dX10_isTraceSound_127
        · exact absurd (nI_le (a := 30) (b := 30) (Nat.le_refl _) (by decide)) c28
    · exact absurd (nI_le (a := 90) (b := 90) (Nat.le_refl _) (by decide)) c14

set_option maxHeartbeats 4000000 in
set_option maxRecDepth 100000 in
theorem c_X10_areTracesSound (l : Launch) {D : va_G} {tA : Nat → ClassId} {S : St} {ad : Nat → Nat → Nat} {L : List Nat} {f : Nat → va_E} (hR : Rep tA S ad L f) (hW : WT S) : Met l yX10_areTracesSound (wsC yX10_areTracesSound cX10_areTracesSound 5 (some .boolean)) ({ frames := 2, cells := 0, slots := 0, locals := 46 }) (va_Pc [.ref (ad 0 0)] (gB D tA L f)) (vp_Si (fun r => r = bI (atS S))) 0 0 (fun _ => False) := by
  refine Met.ofW (cc := cX10_areTracesSound) (maxL := 5) (ret := (some .boolean)) (by decide) rfl ?_
  intro p e s m args below meth c s₁ B hml hv
  obtain ⟨rfl, hP, hK, hD⟩ := hv
  have hx := B.exec
  have hb := B.bytes
  have hr := B.returns
  have hts := atoms_spec (ws := wsC yX10_areTracesSound cX10_areTracesSound 5 (some .boolean)) B.pre
  have hta : ∀ w ∈ WA, w.before _ s = true := fun w h => hts w (List.mem_cons_of_mem _ h)
  have hown : s.vm.findClass RX10 = some m.cls := findClass_of_methodNamed B.named
  have hlocks := B.notSynchronized
  have hP : va_P D vwCl (va_pl L f) s.heap := hP
  have hl := lv_entry ([.ref (ad 0 0)]) (n := 5) (Nat.le_of_ble_eq_true rfl)
  rw [lg_entry_eq]
  generalize (lg_sl ([.ref (ad 0 0)]) ++ List.replicate (5 - (lg_sl ([.ref (ad 0 0)])).length) Slot.unset).toArray = ls at hl ⊢
  have hl : lv_has ls 5 [(0, .ref (ad 0 0))] := hl
  refine lv_aload_n hx hb dX10_areTracesSound_0 rfl (lv_at hl 0 rfl) ?_
  refine get_lots_0 hx hb hta iwX10 hown hK hP hR (rfl : (0 : Nat) = 0) (hta _ mw99) dX10_areTracesSound_1 ?_
  refine lv_astore_n (lv' := [(1, .ref (ad 18 0)), (0, .ref (ad 0 0))]) hx hb dX10_areTracesSound_4 rfl hl (by decide) rfl (fun ls hl => ?_)
  refine lv_aload_n hx hb dX10_areTracesSound_5 rfl (lv_at hl 0 rfl) ?_
  refine len_lots hx hb hK hP hR (rfl : (0 : Nat) = 0) dX10_areTracesSound_6 ?_
  refine lv_istore_n (lv' := [(2, .int 90), (1, .ref (ad 18 0)), (0, .ref (ad 0 0))]) hx hb dX10_areTracesSound_7 rfl hl (by decide) rfl (fun ls hl => ?_)
  refine lv_iconst (v := 0) hx hb dX10_areTracesSound_8 (by decide) ?_
  refine lv_istore_n (lv' := [(3, .int 0), (2, .int 90), (1, .ref (ad 18 0)), (0, .ref (ad 0 0))]) hx hb dX10_areTracesSound_9 rfl hl (by decide) rfl (fun ls hl => ?_)
  refine loop_g (σ := Array Slot) (Wg := fun ls => W p l e _ s m _ below meth c _ _ _ _ _ (F0 m 10 ls [])) 90 (fun j9 ls => lv_has ls 5 [(0, .ref (ad 0 0)), (1, .ref (ad 18 0)), (2, .int 90), (3, .int (nI j9))] ∧ (allN (atB S) j9 = true)) (fun j9 hj1 ih2 ls hl => ?_) (fun ls hl => ?_) ls ⟨lv_sub hl [3, 2, 1, 0] rfl, rfl⟩
  · skip
    obtain ⟨hl, hg9⟩ := hl
    refine lv_iload_n hx hb dX10_areTracesSound_10 rfl (lv_at hl 3 rfl) ?_
    refine lv_iload_n hx hb dX10_areTracesSound_11 rfl (lv_at hl 2 rfl) ?_
    refine lv_icmp_ge (tgt := 42) hx hb dX10_areTracesSound_12 (by decide) (fun c3 => ?_) (fun c3 => ?_)
    · exact absurd c3 (nI_ge (a := j9) (b := 90) hj1 (by decide))
    · skip
      refine lv_aload_n hx hb dX10_areTracesSound_15 rfl (lv_at hl 1 rfl) ?_
      refine lv_iload_n hx hb dX10_areTracesSound_16 rfl (lv_at hl 3 rfl) ?_
      refine ldn_lots hx hb hK hP hR (rfl : (0 : Nat) = 0) hj1 dX10_areTracesSound_17 (fun h4 => ?_) (fun h4 => ?_)
      · skip
        refine lv_astore (lv' := [(4, .ref (ad 7 j9)), (0, .ref (ad 0 0)), (1, .ref (ad 18 0)), (2, .int 90), (3, .int (nI j9))]) hx hb dX10_areTracesSound_18 hl (by decide) rfl (fun ls hl => ?_)
        refine lv_aload hx hb dX10_areTracesSound_20 (lv_at hl 0 rfl) ?_
        refine lv_ifnull hx hb dX10_areTracesSound_22 ?_
        refine lv_aload_n hx hb dX10_areTracesSound_25 rfl (lv_at hl 1 rfl) ?_
        refine lv_aload hx hb dX10_areTracesSound_26 (lv_at hl 0 rfl) ?_
        obtain ⟨q5, e6⟩ := cell_0 hR (rfl : (0 : Nat) = 0)
        refine gro_i (ci := 12) (As := [.ref (ad 7 j9)]) (rest := []) ⟨hx, hb, hml, hown, hta⟩ (c_X10_isTraceSound l hR hW h4) (cwV 1 hta (gWV mw205 mw206 mw8 mw40 mw207) rfl rfl rfl (by decide +kernel) ⟨Nat.le_of_ble_eq_true rfl, Nat.le_of_ble_eq_true rfl⟩) hK hP hD rfl e6 rfl hl.1 rfl (Nat.le_of_ble_eq_true rfl) dX10_areTracesSound_28 ⟨Nat.zero_le _, Nat.zero_le _⟩ (fun r7 c8 => ?_)
        obtain rfl := c8
        refine lv_if_ne (tgt := 36) hx hb dX10_areTracesSound_31 (by decide) (fun c9 => ?_) (fun c9 => ?_)
        · skip
          have c9 := bI_t c9
          refine lv_iinc (v := nI (j9 + 1)) (lv' := [(3, .int (nI (j9 + 1))), (4, .ref (ad 7 j9)), (0, .ref (ad 0 0)), (1, .ref (ad 18 0)), (2, .int 90)]) hx hb dX10_areTracesSound_36 hl (k := 4) rfl (nI_1 _) (by decide) rfl (fun ls hl => ?_)
          refine lv_goto (tgt := 10) hx hb dX10_areTracesSound_39 (by decide) ?_
          refine ih2 _ ⟨?_, allN_s hg9 (by simp only [atB, Bool.false_eq_true, if_true, if_false, if_pos h4, c9])⟩
          exact lv_sub hl [2, 3, 4, 0] rfl
        · skip
          have c9 := bI_f c9
          refine lv_iconst (v := 0) hx hb dX10_areTracesSound_34 (by decide) ?_
          exact W.zret (v := 0) (ty := .boolean) hx hb hr (by decide) (fun t ht hWm => ⟨_, rfl, (by rw [atS, allN_stop hj1 (by simp only [atB, Bool.false_eq_true, if_true, if_false, if_pos h4, c9])]; rfl), ht⟩) (fun q h => absurd h List.not_mem_nil) dX10_areTracesSound_35
      · skip
        refine lv_astoreN (lv' := [(4, .null), (0, .ref (ad 0 0)), (1, .ref (ad 18 0)), (2, .int 90), (3, .int (nI j9))]) hx hb dX10_areTracesSound_18 hl (by decide) rfl (fun ls hl => ?_)
        refine lv_aloadN hx hb dX10_areTracesSound_20 (lv_at hl 0 rfl) ?_
        refine lv_ifnullN (tgt := 36) hx hb dX10_areTracesSound_22 (by decide) ?_
        refine lv_iinc (v := nI (j9 + 1)) (lv' := [(3, .int (nI (j9 + 1))), (4, .null), (0, .ref (ad 0 0)), (1, .ref (ad 18 0)), (2, .int 90)]) hx hb dX10_areTracesSound_36 hl (k := 4) rfl (nI_1 _) (by decide) rfl (fun ls hl => ?_)
        refine lv_goto (tgt := 10) hx hb dX10_areTracesSound_39 (by decide) ?_
        refine ih2 _ ⟨?_, allN_s hg9 (by simp only [atB, Bool.false_eq_true, if_true, if_false, if_neg h4])⟩
        exact lv_sub hl [2, 3, 4, 0] rfl
  · skip
    obtain ⟨hl, hg9⟩ := hl
    refine lv_iload_n hx hb dX10_areTracesSound_10 rfl (lv_at hl 3 rfl) ?_
    refine lv_iload_n hx hb dX10_areTracesSound_11 rfl (lv_at hl 2 rfl) ?_
    refine lv_icmp_ge (tgt := 42) hx hb dX10_areTracesSound_12 (by decide) (fun c10 => ?_) (fun c10 => ?_)
    · skip
      refine lv_iconst (v := 1) hx hb dX10_areTracesSound_42 (by decide) ?_
      exact W.zret (v := 1) (ty := .boolean) hx hb hr (by decide) (fun t ht hWm => ⟨_, rfl, (by rw [atS, hg9]; rfl), ht⟩) (fun q h => absurd h List.not_mem_nil) dX10_areTracesSound_43
    · exact absurd (nI_le (a := 90) (b := 90) (Nat.le_refl _) (by decide)) c10

/-- isSound -/
def sndB (S : St) : Bool := alS S && ajS S && acS S && apS S && atS S
set_option maxHeartbeats 4000000 in
set_option maxRecDepth 100000 in
theorem c_X10_isSound (l : Launch) {D : va_G} {tA : Nat → ClassId} {S : St} {ad : Nat → Nat → Nat} {L : List Nat} {f : Nat → va_E} (hR : Rep tA S ad L f) (hW : WT S) : Met l yX10_isSound (wsC yX10_isSound cX10_isSound 1 (some .boolean)) ({ frames := 3, cells := 0, slots := 0, locals := 73 }) (va_Pc [.ref (ad 0 0)] (gB D tA L f)) (vp_Si (fun r => r = bI (sndB S))) 0 0 (fun _ => False) := by
  refine Met.ofW (cc := cX10_isSound) (maxL := 1) (ret := (some .boolean)) (by decide) rfl ?_
  intro p e s m args below meth c s₁ B hml hv
  obtain ⟨rfl, hP, hK, hD⟩ := hv
  have hx := B.exec
  have hb := B.bytes
  have hr := B.returns
  have hts := atoms_spec (ws := wsC yX10_isSound cX10_isSound 1 (some .boolean)) B.pre
  have hta : ∀ w ∈ WA, w.before _ s = true := fun w h => hts w (List.mem_cons_of_mem _ h)
  have hown : s.vm.findClass RX10 = some m.cls := findClass_of_methodNamed B.named
  have hlocks := B.notSynchronized
  have hP : va_P D vwCl (va_pl L f) s.heap := hP
  have hl := lv_entry ([.ref (ad 0 0)]) (n := 1) (Nat.le_of_ble_eq_true rfl)
  rw [lg_entry_eq]
  generalize (lg_sl ([.ref (ad 0 0)]) ++ List.replicate (1 - (lg_sl ([.ref (ad 0 0)])).length) Slot.unset).toArray = ls at hl ⊢
  have hl : lv_has ls 1 [(0, .ref (ad 0 0))] := hl
  refine lv_aload_n hx hb dX10_isSound_0 rfl (lv_at hl 0 rfl) ?_
  obtain ⟨q1, e2⟩ := cell_0 hR (rfl : (0 : Nat) = 0)
  refine gro_i (ci := 12) (As := []) (rest := []) ⟨hx, hb, hml, hown, hta⟩ (c_X10_areLotsSound l hR hW) (cwV 0 hta (gWV mw164 mw165 mw1 mw40 mw166) rfl rfl rfl (by decide +kernel) ⟨Nat.le_of_ble_eq_true rfl, Nat.le_of_ble_eq_true rfl⟩) hK hP hD rfl e2 rfl hl.1 rfl (Nat.le_of_ble_eq_true rfl) dX10_isSound_1 ⟨Nat.zero_le _, Nat.zero_le _⟩ (fun r3 c4 => ?_)
  obtain rfl := c4
  refine lv_if_eq (tgt := 39) hx hb dX10_isSound_4 (by decide) (fun c5 => ?_) (fun c5 => ?_)
  · skip
    have c5 := bI_f c5
    refine lv_iconst (v := 0) hx hb dX10_isSound_39 (by decide) ?_
    exact W.zret (v := 0) (ty := .boolean) hx hb hr (by decide) (fun t ht hWm => ⟨_, rfl, (by simp only [sndB, Bool.false_eq_true, if_true, if_false, Bool.true_and, Bool.and_true, Bool.false_and, Bool.and_false, c5]; (try rfl)), ht⟩) (fun q h => absurd h List.not_mem_nil) dX10_isSound_40
  · skip
    have c5 := bI_t c5
    refine lv_aload_n hx hb dX10_isSound_7 rfl (lv_at hl 0 rfl) ?_
    obtain ⟨q6, e7⟩ := cell_0 hR (rfl : (0 : Nat) = 0)
    refine gro_i (ci := 12) (As := []) (rest := []) ⟨hx, hb, hml, hown, hta⟩ (c_X10_areJobsSound l hR hW) (cwV 0 hta (gWV mw174 mw175 mw3 mw40 mw176) rfl rfl rfl (by decide +kernel) ⟨Nat.le_of_ble_eq_true rfl, Nat.le_of_ble_eq_true rfl⟩) hK hP hD rfl e7 rfl hl.1 rfl (Nat.le_of_ble_eq_true rfl) dX10_isSound_8 ⟨Nat.zero_le _, Nat.zero_le _⟩ (fun r8 c9 => ?_)
    obtain rfl := c9
    refine lv_if_eq (tgt := 39) hx hb dX10_isSound_11 (by decide) (fun c10 => ?_) (fun c10 => ?_)
    · skip
      have c10 := bI_f c10
      refine lv_iconst (v := 0) hx hb dX10_isSound_39 (by decide) ?_
      exact W.zret (v := 0) (ty := .boolean) hx hb hr (by decide) (fun t ht hWm => ⟨_, rfl, (by simp only [sndB, Bool.false_eq_true, if_true, if_false, Bool.true_and, Bool.and_true, Bool.false_and, Bool.and_false, c5, c10]; (try rfl)), ht⟩) (fun q h => absurd h List.not_mem_nil) dX10_isSound_40
    · skip
      have c10 := bI_t c10
      refine lv_aload_n hx hb dX10_isSound_14 rfl (lv_at hl 0 rfl) ?_
      obtain ⟨q11, e12⟩ := cell_0 hR (rfl : (0 : Nat) = 0)
      refine gro_i (ci := 12) (As := []) (rest := []) ⟨hx, hb, hml, hown, hta⟩ (c_X10_areCostsSound l hR hW) (cwV 0 hta (gWV mw185 mw186 mw4 mw40 mw187) rfl rfl rfl (by decide +kernel) ⟨Nat.le_of_ble_eq_true rfl, Nat.le_of_ble_eq_true rfl⟩) hK hP hD rfl e12 rfl hl.1 rfl (Nat.le_of_ble_eq_true rfl) dX10_isSound_15 ⟨Nat.zero_le _, Nat.zero_le _⟩ (fun r13 c14 => ?_)
      obtain rfl := c14
      refine lv_if_eq (tgt := 39) hx hb dX10_isSound_18 (by decide) (fun c15 => ?_) (fun c15 => ?_)
      · skip
        have c15 := bI_f c15
        refine lv_iconst (v := 0) hx hb dX10_isSound_39 (by decide) ?_
        exact W.zret (v := 0) (ty := .boolean) hx hb hr (by decide) (fun t ht hWm => ⟨_, rfl, (by simp only [sndB, Bool.false_eq_true, if_true, if_false, Bool.true_and, Bool.and_true, Bool.false_and, Bool.and_false, c5, c10, c15]; (try rfl)), ht⟩) (fun q h => absurd h List.not_mem_nil) dX10_isSound_40
      · skip
        have c15 := bI_t c15
        refine lv_aload_n hx hb dX10_isSound_21 rfl (lv_at hl 0 rfl) ?_
        obtain ⟨q16, e17⟩ := cell_0 hR (rfl : (0 : Nat) = 0)
        refine gro_i (ci := 12) (As := []) (rest := []) ⟨hx, hb, hml, hown, hta⟩ (c_X10_arePromisesSound l hR hW) (cwV 0 hta (gWV mw188 mw189 mw5 mw40 mw190) rfl rfl rfl (by decide +kernel) ⟨Nat.le_of_ble_eq_true rfl, Nat.le_of_ble_eq_true rfl⟩) hK hP hD rfl e17 rfl hl.1 rfl (Nat.le_of_ble_eq_true rfl) dX10_isSound_22 ⟨Nat.zero_le _, Nat.zero_le _⟩ (fun r18 c19 => ?_)
        obtain rfl := c19
        refine lv_if_eq (tgt := 39) hx hb dX10_isSound_25 (by decide) (fun c20 => ?_) (fun c20 => ?_)
        · skip
          have c20 := bI_f c20
          refine lv_iconst (v := 0) hx hb dX10_isSound_39 (by decide) ?_
          exact W.zret (v := 0) (ty := .boolean) hx hb hr (by decide) (fun t ht hWm => ⟨_, rfl, (by simp only [sndB, Bool.false_eq_true, if_true, if_false, Bool.true_and, Bool.and_true, Bool.false_and, Bool.and_false, c5, c10, c15, c20]; (try rfl)), ht⟩) (fun q h => absurd h List.not_mem_nil) dX10_isSound_40
        · skip
          have c20 := bI_t c20
          refine lv_aload_n hx hb dX10_isSound_28 rfl (lv_at hl 0 rfl) ?_
          obtain ⟨q21, e22⟩ := cell_0 hR (rfl : (0 : Nat) = 0)
          refine gro_i (ci := 12) (As := []) (rest := []) ⟨hx, hb, hml, hown, hta⟩ (c_X10_areTracesSound l hR hW) (cwV 0 hta (gWV mw202 mw203 mw7 mw40 mw204) rfl rfl rfl (by decide +kernel) ⟨Nat.le_of_ble_eq_true rfl, Nat.le_of_ble_eq_true rfl⟩) hK hP hD rfl e22 rfl hl.1 rfl (Nat.le_of_ble_eq_true rfl) dX10_isSound_29 ⟨Nat.zero_le _, Nat.zero_le _⟩ (fun r23 c24 => ?_)
          obtain rfl := c24
          refine lv_if_eq (tgt := 39) hx hb dX10_isSound_32 (by decide) (fun c25 => ?_) (fun c25 => ?_)
          · skip
            have c25 := bI_f c25
            refine lv_iconst (v := 0) hx hb dX10_isSound_39 (by decide) ?_
            exact W.zret (v := 0) (ty := .boolean) hx hb hr (by decide) (fun t ht hWm => ⟨_, rfl, (by simp only [sndB, Bool.false_eq_true, if_true, if_false, Bool.true_and, Bool.and_true, Bool.false_and, Bool.and_false, c5, c10, c15, c20, c25]; (try rfl)), ht⟩) (fun q h => absurd h List.not_mem_nil) dX10_isSound_40
          · skip
            have c25 := bI_t c25
            refine lv_iconst (v := 1) hx hb dX10_isSound_35 (by decide) ?_
            refine lv_goto (tgt := 40) hx hb dX10_isSound_36 (by decide) ?_
            exact W.zret (v := 1) (ty := .boolean) hx hb hr (by decide) (fun t ht hWm => ⟨_, rfl, (by simp only [sndB, Bool.false_eq_true, if_true, if_false, Bool.true_and, Bool.and_true, Bool.false_and, Bool.and_false, c5, c10, c15, c20, c25]; (try rfl)), ht⟩) (fun q h => absurd h List.not_mem_nil) dX10_isSound_40

