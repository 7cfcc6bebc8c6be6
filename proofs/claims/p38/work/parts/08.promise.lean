/-! promises: hasBarredPieces, piecesIn, dropPromise, putOnHold, isFor, reserve, reserveAll, takeReserved (made by wip/gen/spec_b.py) -/
def hbp (S : St) (o j : Nat) : Bool := if j < sN S 2 0 then (if sP S o j ≤ 0 then false else barred S j) else false
/-- an order has pieces of a lot that is held -/
def hasB (S : St) (o : Nat) : Bool := anyN (hbp S o) 90
set_option maxHeartbeats 4000000 in
set_option maxRecDepth 100000 in
theorem c_X10_hasBarredPieces (l : Launch) {D : va_G} {tA : Nat → ClassId} {S : St} {ad : Nat → Nat → Nat} {L : List Nat} {f : Nat → va_E} (hR : Rep tA S ad L f) (hW : WT S) {o : Nat} (ho : o < sN S 3 0) : Met l yX10_hasBarredPieces (wsC yX10_hasBarredPieces cX10_hasBarredPieces 6 (some .boolean)) ({ frames := 2, cells := 0, slots := 0, locals := 42 }) (va_Pc [.ref (ad 0 0), .ref (ad 11 o)] (gB D tA L f)) (vp_Si (fun r => r = bI (hasB S o))) 0 0 (fun _ => False) := by
  refine Met.ofW (cc := cX10_hasBarredPieces) (maxL := 6) (ret := (some .boolean)) (by decide) rfl ?_
  intro p e s m args below meth c s₁ B hml hv
  obtain ⟨rfl, hP, hK, hD⟩ := hv
  have hx := B.exec
  have hb := B.bytes
  have hr := B.returns
  have hts := atoms_spec (ws := wsC yX10_hasBarredPieces cX10_hasBarredPieces 6 (some .boolean)) B.pre
  have hta : ∀ w ∈ WA, w.before _ s = true := fun w h => hts w (List.mem_cons_of_mem _ h)
  have hown : s.vm.findClass RX10 = some m.cls := findClass_of_methodNamed B.named
  have hlocks := B.notSynchronized
  have hP : va_P D vwCl (va_pl L f) s.heap := hP
  have hl := lv_entry ([.ref (ad 0 0), .ref (ad 11 o)]) (n := 6) (Nat.le_of_ble_eq_true rfl)
  rw [lg_entry_eq]
  generalize (lg_sl ([.ref (ad 0 0), .ref (ad 11 o)]) ++ List.replicate (6 - (lg_sl ([.ref (ad 0 0), .ref (ad 11 o)])).length) Slot.unset).toArray = ls at hl ⊢
  have hl : lv_has ls 6 [(0, .ref (ad 0 0)), (1, .ref (ad 11 o))] := hl
  refine lv_aload_n hx hb dX10_hasBarredPieces_0 rfl (lv_at hl 0 rfl) ?_
  refine get_lots_0 hx hb hta iwX10 hown hK hP hR (rfl : (0 : Nat) = 0) (hta _ mw99) dX10_hasBarredPieces_1 ?_
  refine lv_astore_n (lv' := [(2, .ref (ad 18 0)), (0, .ref (ad 0 0)), (1, .ref (ad 11 o))]) hx hb dX10_hasBarredPieces_4 rfl hl (by decide) rfl (fun ls hl => ?_)
  refine lv_aload_n hx hb dX10_hasBarredPieces_5 rfl (lv_at hl 0 rfl) ?_
  refine len_lots hx hb hK hP hR (rfl : (0 : Nat) = 0) dX10_hasBarredPieces_6 ?_
  refine lv_istore_n (lv' := [(3, .int 90), (2, .ref (ad 18 0)), (0, .ref (ad 0 0)), (1, .ref (ad 11 o))]) hx hb dX10_hasBarredPieces_7 rfl hl (by decide) rfl (fun ls hl => ?_)
  refine lv_iconst (v := 0) hx hb dX10_hasBarredPieces_8 (by decide) ?_
  refine lv_istore (lv' := [(4, .int 0), (3, .int 90), (2, .ref (ad 18 0)), (0, .ref (ad 0 0)), (1, .ref (ad 11 o))]) hx hb dX10_hasBarredPieces_9 hl (by decide) rfl (fun ls hl => ?_)
  refine loop_g (σ := Array Slot) (Wg := fun ls => W p l e _ s m _ below meth c _ _ _ _ _ (F0 m 11 ls [])) 90 (fun j9 ls => lv_has ls 6 [(0, .ref (ad 0 0)), (1, .ref (ad 11 o)), (2, .ref (ad 18 0)), (3, .int 90), (4, .int (nI j9))] ∧ (anyN (hbp S o) j9 = false)) (fun j9 hj1 ih2 ls hl => ?_) (fun ls hl => ?_) ls ⟨lv_sub hl [3, 4, 2, 1, 0] rfl, rfl⟩
  · skip
    obtain ⟨hl, hg9⟩ := hl
    refine lv_iload hx hb dX10_hasBarredPieces_11 (lv_at hl 4 rfl) ?_
    refine lv_iload_n hx hb dX10_hasBarredPieces_13 rfl (lv_at hl 3 rfl) ?_
    refine lv_icmp_ge (tgt := 54) hx hb dX10_hasBarredPieces_14 (by decide) (fun c3 => ?_) (fun c3 => ?_)
    · exact absurd c3 (nI_ge (a := j9) (b := 90) hj1 (by decide))
    · skip
      refine lv_aload_n hx hb dX10_hasBarredPieces_17 rfl (lv_at hl 2 rfl) ?_
      refine lv_iload hx hb dX10_hasBarredPieces_18 (lv_at hl 4 rfl) ?_
      refine ldn_lots hx hb hK hP hR (rfl : (0 : Nat) = 0) hj1 dX10_hasBarredPieces_20 (fun h4 => ?_) (fun h4 => ?_)
      · skip
        refine lv_astore (lv' := [(5, .ref (ad 7 j9)), (0, .ref (ad 0 0)), (1, .ref (ad 11 o)), (2, .ref (ad 18 0)), (3, .int 90), (4, .int (nI j9))]) hx hb dX10_hasBarredPieces_21 hl (by decide) rfl (fun ls hl => ?_)
        refine lv_aload hx hb dX10_hasBarredPieces_23 (lv_at hl 0 rfl) ?_
        refine lv_ifnull hx hb dX10_hasBarredPieces_25 ?_
        refine lv_aload_n hx hb dX10_hasBarredPieces_28 rfl (lv_at hl 2 rfl) ?_
        refine lv_aload hx hb dX10_hasBarredPieces_29 (lv_at hl 0 rfl) ?_
        obtain ⟨q5, e6⟩ := cell_11 hR ho
        refine gro_i (ci := 9) (As := [.ref (ad 7 j9)]) (rest := []) ⟨hx, hb, hml, hown, hta⟩ (c_X7_piecesOf l hR hW h4 ho) (cwV 1 hta (gWV mw170 mw171 mw172 mw59 mw173) rfl rfl rfl (by decide +kernel) ⟨Nat.le_of_ble_eq_true rfl, Nat.le_of_ble_eq_true rfl⟩) hK hP hD rfl e6 rfl hl.1 rfl (Nat.le_of_ble_eq_true rfl) dX10_hasBarredPieces_31 ⟨Nat.zero_le _, Nat.zero_le _⟩ (fun r7 c8 => ?_)
        obtain rfl := c8
        refine lv_if_le (tgt := 48) hx hb dX10_hasBarredPieces_34 (by decide) (fun c9 => ?_) (fun c9 => ?_)
        · skip
          refine lv_iinc (v := nI (j9 + 1)) (lv' := [(4, .int (nI (j9 + 1))), (5, .ref (ad 7 j9)), (0, .ref (ad 0 0)), (1, .ref (ad 11 o)), (2, .ref (ad 18 0)), (3, .int 90)]) hx hb dX10_hasBarredPieces_48 hl (k := 5) rfl (nI_1 _) (by decide) rfl (fun ls hl => ?_)
          refine lv_goto (tgt := 11) hx hb dX10_hasBarredPieces_51 (by decide) ?_
          refine ih2 _ ⟨?_, anyN_s hg9 (by simp only [hbp, if_pos h4, if_pos c9])⟩
          exact lv_sub hl [2, 3, 4, 5, 0] rfl
        · skip
          refine lv_aload_n hx hb dX10_hasBarredPieces_37 rfl (lv_at hl 1 rfl) ?_
          refine lv_aload hx hb dX10_hasBarredPieces_38 (lv_at hl 0 rfl) ?_
          obtain ⟨q10, e11⟩ := cell_0 hR (rfl : (0 : Nat) = 0)
          refine gro_i (ci := 12) (As := [.ref (ad 7 j9)]) (rest := []) ⟨hx, hb, hml, hown, hta⟩ (c_X10_isBarred l hR hW h4) (cwV 1 hta (gWV mw191 mw192 mw6 mw40 mw193) rfl rfl rfl (by decide +kernel) ⟨Nat.le_of_ble_eq_true rfl, Nat.le_of_ble_eq_true rfl⟩) hK hP hD rfl e11 rfl hl.1 rfl (Nat.le_of_ble_eq_true rfl) dX10_hasBarredPieces_40 ⟨Nat.zero_le _, Nat.zero_le _⟩ (fun r12 c13 => ?_)
          obtain rfl := c13
          refine lv_if_eq (tgt := 48) hx hb dX10_hasBarredPieces_43 (by decide) (fun c14 => ?_) (fun c14 => ?_)
          · skip
            have c14 := bI_f c14
            refine lv_iinc (v := nI (j9 + 1)) (lv' := [(4, .int (nI (j9 + 1))), (5, .ref (ad 7 j9)), (0, .ref (ad 0 0)), (1, .ref (ad 11 o)), (2, .ref (ad 18 0)), (3, .int 90)]) hx hb dX10_hasBarredPieces_48 hl (k := 5) rfl (nI_1 _) (by decide) rfl (fun ls hl => ?_)
            refine lv_goto (tgt := 11) hx hb dX10_hasBarredPieces_51 (by decide) ?_
            refine ih2 _ ⟨?_, anyN_s hg9 (by simp only [hbp, if_pos h4, if_neg c9, c14])⟩
            exact lv_sub hl [2, 3, 4, 5, 0] rfl
          · skip
            have c14 := bI_t c14
            refine lv_iconst (v := 1) hx hb dX10_hasBarredPieces_46 (by decide) ?_
            exact W.zret (v := 1) (ty := .boolean) hx hb hr (by decide) (fun t ht hWm => ⟨_, rfl, (by rw [hasB, anyN_stop hj1 (by simp only [hbp, if_pos h4, if_neg c9, c14])]; rfl), ht⟩) (fun q h => absurd h List.not_mem_nil) dX10_hasBarredPieces_47
      · skip
        refine lv_astoreN (lv' := [(5, .null), (0, .ref (ad 0 0)), (1, .ref (ad 11 o)), (2, .ref (ad 18 0)), (3, .int 90), (4, .int (nI j9))]) hx hb dX10_hasBarredPieces_21 hl (by decide) rfl (fun ls hl => ?_)
        refine lv_aloadN hx hb dX10_hasBarredPieces_23 (lv_at hl 0 rfl) ?_
        refine lv_ifnullN (tgt := 48) hx hb dX10_hasBarredPieces_25 (by decide) ?_
        refine lv_iinc (v := nI (j9 + 1)) (lv' := [(4, .int (nI (j9 + 1))), (5, .null), (0, .ref (ad 0 0)), (1, .ref (ad 11 o)), (2, .ref (ad 18 0)), (3, .int 90)]) hx hb dX10_hasBarredPieces_48 hl (k := 5) rfl (nI_1 _) (by decide) rfl (fun ls hl => ?_)
        refine lv_goto (tgt := 11) hx hb dX10_hasBarredPieces_51 (by decide) ?_
        refine ih2 _ ⟨?_, anyN_s hg9 (by simp only [hbp, if_neg h4])⟩
        exact lv_sub hl [2, 3, 4, 5, 0] rfl
  · skip
    obtain ⟨hl, hg9⟩ := hl
    refine lv_iload hx hb dX10_hasBarredPieces_11 (lv_at hl 4 rfl) ?_
    refine lv_iload_n hx hb dX10_hasBarredPieces_13 rfl (lv_at hl 3 rfl) ?_
    refine lv_icmp_ge (tgt := 54) hx hb dX10_hasBarredPieces_14 (by decide) (fun c15 => ?_) (fun c15 => ?_)
    · skip
      refine lv_iconst (v := 0) hx hb dX10_hasBarredPieces_54 (by decide) ?_
      exact W.zret (v := 0) (ty := .boolean) hx hb hr (by decide) (fun t ht hWm => ⟨_, rfl, (by rw [hasB, hg9]; rfl), ht⟩) (fun q h => absurd h List.not_mem_nil) dX10_hasBarredPieces_55
    · exact absurd (nI_le (a := 90) (b := 90) (Nat.le_refl _) (by decide)) c15

def dpT (T : St) (o j : Nat) : St := uP (uI T 42 j (sI T 42 j - sP T o j)) o j (sP T o j + -(sP T o j))
def dp1 (S : St) (o j : Nat) (x : IJP × Int32) : IJP × Int32 := if j < sN S 2 0 then (sA (dpT (sM S x.1) o j), x.2 + sP (sM S x.1) o j) else x
def dpL (S : St) (o j : Nat) : IJP × Int32 := it (dp1 S o) j (sA S, 0)
theorem dpL_s (S : St) (o j : Nat) : dpL S o (j + 1) = dp1 S o j (dpL S o j) := rfl
/-- an order's promise is taken back: the state behind, how many pieces -/
def dpS (S : St) (o : Nat) : St := uI (sM S (dpL S o 90).1) 53 o 45
def dpR (S : St) (o : Nat) : Int32 := (dpL S o 90).2
set_option maxHeartbeats 4000000 in
set_option maxRecDepth 100000 in
theorem c_X10_dropPromise (l : Launch) {D : va_G} {tA : Nat → ClassId} {S : St} {ad : Nat → Nat → Nat} {L : List Nat} {f : Nat → va_E} {sz : Nat} (hR : Rep tA S ad L f) (hW : WT S) {o : Nat} (ho : o < sN S 3 0) : Met l yX10_dropPromise (wsC yX10_dropPromise cX10_dropPromise 8 (some .int)) ({ frames := 1, cells := 0, slots := 0, locals := 23 }) (va_Pc [.ref (ad 0 0), .ref (ad 11 o)] (gZ D tA L f sz)) (va_Qi (fun (r : Int32) (u : gU) => r = dpR S o ∧ dpS S o = u.1 ∧ ad = u.2.1 ∧ L = u.2.2.1) (gE D tA (va_A (va_pl L f) sz)) (va_A (va_pl L f) sz)) 0 0 (va_A (va_pl L f) sz) := by
  refine Met.ofW (cc := cX10_dropPromise) (maxL := 8) (ret := (some .int)) (by decide) rfl ?_
  intro p e s m args below meth c s₁ B hml hv
  obtain ⟨rfl, hsz, hP, hK, hD0⟩ := hv
  have hx := B.exec
  have hb := B.bytes
  have hr := B.returns
  have hts := atoms_spec (ws := wsC yX10_dropPromise cX10_dropPromise 8 (some .int)) B.pre
  have hta : ∀ w ∈ WA, w.before _ s = true := fun w h => hts w (List.mem_cons_of_mem _ h)
  have hown : s.vm.findClass RX10 = some m.cls := findClass_of_methodNamed B.named
  have hlocks := B.notSynchronized
  subst hsz
  have hD : va_D (va_A (va_pl L f) s.heap.size) (va_pl L f) := hD0.self (sz := s.heap.size)
  generalize hAe : va_A (va_pl L f) s.heap.size = A at hD ⊢
  have hA : ∀ q : Nat, s.heap.size ≤ q → A q := fun q h => by rw [← hAe]; exact Or.inr h
  have hS : va_S A s.heap s.heap [] := va_S.rf
  have hP : va_P D vwCl (va_pl L f) s.heap := hP
  have hl := lv_entry ([.ref (ad 0 0), .ref (ad 11 o)]) (n := 8) (Nat.le_of_ble_eq_true rfl)
  rw [lg_entry_eq]
  generalize (lg_sl ([.ref (ad 0 0), .ref (ad 11 o)]) ++ List.replicate (8 - (lg_sl ([.ref (ad 0 0), .ref (ad 11 o)])).length) Slot.unset).toArray = ls at hl ⊢
  have hl : lv_has ls 8 [(0, .ref (ad 0 0)), (1, .ref (ad 11 o))] := hl
  refine lv_iconst (v := 0) hx hb dX10_dropPromise_0 (by decide) ?_
  refine lv_istore_n (lv' := [(2, .int 0), (0, .ref (ad 0 0)), (1, .ref (ad 11 o))]) hx hb dX10_dropPromise_1 rfl hl (by decide) rfl (fun ls hl => ?_)
  refine lv_aload_n hx hb dX10_dropPromise_2 rfl (lv_at hl 1 rfl) ?_
  refine get_lots_0 hx hb hta iwX10 hown hK hP hR (rfl : (0 : Nat) = 0) (hta _ mw99) dX10_dropPromise_3 ?_
  refine lv_astore_n (lv' := [(3, .ref (ad 18 0)), (2, .int 0), (0, .ref (ad 0 0)), (1, .ref (ad 11 o))]) hx hb dX10_dropPromise_6 rfl hl (by decide) rfl (fun ls hl => ?_)
  refine lv_aload_n hx hb dX10_dropPromise_7 rfl (lv_at hl 0 rfl) ?_
  refine len_lots hx hb hK hP hR (rfl : (0 : Nat) = 0) dX10_dropPromise_8 ?_
  refine lv_istore (lv' := [(4, .int 90), (3, .ref (ad 18 0)), (2, .int 0), (0, .ref (ad 0 0)), (1, .ref (ad 11 o))]) hx hb dX10_dropPromise_9 hl (by decide) rfl (fun ls hl => ?_)
  refine lv_iconst (v := 0) hx hb dX10_dropPromise_11 (by decide) ?_
  refine lv_istore (lv' := [(5, .int 0), (4, .int 90), (3, .ref (ad 18 0)), (2, .int 0), (0, .ref (ad 0 0)), (1, .ref (ad 11 o))]) hx hb dX10_dropPromise_12 hl (by decide) rfl (fun ls hl => ?_)
  refine loop_g (σ := Heap × List Loc × (Nat → va_E) × Array Slot) (Wg := fun z => W p l e _ s m _ below meth c z.1 z.2.1 _ _ _ (F0 m 14 z.2.2.2 [])) 90 (fun j1 z => va_P D vwCl (va_pl L z.2.2.1) z.1 ∧ va_D A (va_pl L z.2.2.1) ∧ va_S A s.heap z.1 z.2.1 ∧ Rep tA (sM S (dpL S o j1).1) ad L z.2.2.1 ∧ lv_has z.2.2.2 8 [(0, .ref (ad 0 0)), (1, .ref (ad 11 o)), (2, .int ((dpL S o j1).2)), (3, .ref (ad 18 0)), (4, .int 90), (5, .int (nI j1))]) (fun j1 hj2 ih3 z hz => ?_) (fun z hz => ?_) (_, _, f, ls) ⟨hP, hD, hS, hR, lv_sub hl [4, 5, 3, 2, 1, 0] rfl⟩
  · skip
    obtain ⟨H, locs, f, ls⟩ := z
    obtain ⟨hP, hD, hS, hR, hl⟩ := hz
    dsimp only at hP hD hS hR hl ⊢
    refine lv_iload hx hb dX10_dropPromise_14 (lv_at hl 5 rfl) ?_
    refine lv_iload hx hb dX10_dropPromise_16 (lv_at hl 4 rfl) ?_
    refine lv_icmp_ge (tgt := 72) hx hb dX10_dropPromise_18 (by decide) (fun c4 => ?_) (fun c4 => ?_)
    · exact absurd c4 (nI_ge (a := j1) (b := 90) hj2 (by decide))
    · skip
      refine lv_aload_n hx hb dX10_dropPromise_21 rfl (lv_at hl 3 rfl) ?_
      refine lv_iload hx hb dX10_dropPromise_22 (lv_at hl 5 rfl) ?_
      refine ldn_lots hx hb hK hP hR (rfl : (0 : Nat) = 0) hj2 dX10_dropPromise_24 (fun h5 => ?_) (fun h5 => ?_)
      · skip
        refine lv_astore (lv' := [(6, .ref (ad 7 j1)), (0, .ref (ad 0 0)), (1, .ref (ad 11 o)), (2, .int ((dpL S o j1).2)), (3, .ref (ad 18 0)), (4, .int 90), (5, .int (nI j1))]) hx hb dX10_dropPromise_25 hl (by decide) rfl (fun ls hl => ?_)
        refine lv_aload hx hb dX10_dropPromise_27 (lv_at hl 0 rfl) ?_
        refine lv_ifnull hx hb dX10_dropPromise_29 ?_
        refine lv_aload_n hx hb dX10_dropPromise_32 rfl (lv_at hl 2 rfl) ?_
        refine lv_aload hx hb dX10_dropPromise_33 (lv_at hl 0 rfl) ?_
        obtain ⟨q6, e7⟩ := cell_11 hR ho
        refine gro_i (ci := 9) (As := [.ref (ad 7 j1)]) (rest := []) ⟨hx, hb, hml, hown, hta⟩ (c_X7_piecesOf l hR hW h5 ho) (cwV 1 hta (gWV mw170 mw171 mw172 mw59 mw173) rfl rfl rfl (by decide +kernel) ⟨Nat.le_of_ble_eq_true rfl, Nat.le_of_ble_eq_true rfl⟩) hK hP hD rfl e7 rfl hl.1 rfl (Nat.le_of_ble_eq_true rfl) dX10_dropPromise_35 ⟨Nat.zero_le _, Nat.zero_le _⟩ (fun r8 c9 => ?_)
        obtain rfl := c9
        refine lv_istore (lv' := [(7, .int (sP ((sM S (dpL S o j1).1)) o j1)), (6, .ref (ad 7 j1)), (0, .ref (ad 0 0)), (1, .ref (ad 11 o)), (2, .int ((dpL S o j1).2)), (3, .ref (ad 18 0)), (4, .int 90), (5, .int (nI j1))]) hx hb dX10_dropPromise_38 hl (by decide) rfl (fun ls hl => ?_)
        refine lv_aload hx hb dX10_dropPromise_40 (lv_at hl 1 rfl) ?_
        refine lv_dup hx hb dX10_dropPromise_42 rfl ?_
        refine get_reserved_7 hx hb hta iwX3 hown hK hP hR h5 (hta _ mw422) dX10_dropPromise_43 ?_
        refine lv_iload hx hb dX10_dropPromise_46 (lv_at hl 0 rfl) ?_
        refine lv_isub hx hb dX10_dropPromise_48 ?_
        refine put_reserved_7 (v := ((sI (sM S (dpL S o j1).1) 42 j1) - (sP ((sM S (dpL S o j1).1)) o j1) : Int32)) hx hb hta iwX3 hown hK hP hD hS hR h5 (hta _ mw422) dX10_dropPromise_49 (fun H locs f hP hD hS hR => ?_)
        refine lv_aload_n hx hb dX10_dropPromise_52 rfl (lv_at hl 3 rfl) ?_
        refine lv_aload hx hb dX10_dropPromise_53 (lv_at hl 1 rfl) ?_
        refine lv_iload hx hb dX10_dropPromise_55 (lv_at hl 0 rfl) ?_
        refine lv_ineg hx hb dX10_dropPromise_57 ?_
        obtain ⟨q10, e11⟩ := cell_11 hR ho
        refine gwr_v (mc := 0) (ms := 0) (ci := 9) (As := [.ref (ad 7 j1), .int (-(sP ((sM S (dpL S o j1).1)) o j1))]) (rest := []) ⟨hx, hb, hml, hown, hta⟩ (c_X7_addPieces l hR hW h5 ho (-(sP ((sM S (dpL S o j1).1)) o j1))) (cwV 2 hta (gWV mw468 mw469 mw470 mw59 mw471) rfl rfl rfl (by decide +kernel) ⟨Nat.le_of_ble_eq_true rfl, Nat.le_of_ble_eq_true rfl⟩) hK hP hD hS hA rfl e11 rfl hl.1 rfl (Nat.le_of_ble_eq_true rfl) dX10_dropPromise_58 ⟨Nat.zero_le _, Nat.zero_le _⟩ (fun u H locs hw hR hP hD hS => ?_)
        obtain ⟨S9, ad9, L9, f⟩ := u
        obtain ⟨rfl, rfl, rfl⟩ := hw
        dsimp only at hR hP hD
        refine lv_iload_n hx hb dX10_dropPromise_61 rfl (lv_at hl 4 rfl) ?_
        refine lv_iload hx hb dX10_dropPromise_62 (lv_at hl 0 rfl) ?_
        refine lv_iadd hx hb dX10_dropPromise_64 ?_
        refine lv_istore_n (lv' := [(2, .int (((dpL S o j1).2) + (sP ((sM S (dpL S o j1).1)) o j1))), (7, .int (sP ((sM S (dpL S o j1).1)) o j1)), (6, .ref (ad 7 j1)), (0, .ref (ad 0 0)), (1, .ref (ad 11 o)), (3, .ref (ad 18 0)), (4, .int 90), (5, .int (nI j1))]) hx hb dX10_dropPromise_65 rfl hl (by decide) rfl (fun ls hl => ?_)
        refine lv_iinc (v := nI (j1 + 1)) (lv' := [(5, .int (nI (j1 + 1))), (2, .int (((dpL S o j1).2) + (sP ((sM S (dpL S o j1).1)) o j1))), (7, .int (sP ((sM S (dpL S o j1).1)) o j1)), (6, .ref (ad 7 j1)), (0, .ref (ad 0 0)), (1, .ref (ad 11 o)), (3, .ref (ad 18 0)), (4, .int 90)]) hx hb dX10_dropPromise_66 hl (k := 7) rfl (nI_1 _) (by decide) rfl (fun ls hl => ?_)
        refine lv_goto (tgt := 14) hx hb dX10_dropPromise_69 (by decide) ?_
        refine ih3 (_, _, f, ls) ⟨hP, hD, hS, ?_, ?_⟩
        · have a9 : sM S (dpL S o (j1 + 1)).1 = (uP (uI ((sM S (dpL S o j1).1)) 42 j1 ((sI (sM S (dpL S o j1).1) 42 j1) - (sP ((sM S (dpL S o j1).1)) o j1))) o j1 (sP (uI ((sM S (dpL S o j1).1)) 42 j1 ((sI (sM S (dpL S o j1).1) 42 j1) - (sP ((sM S (dpL S o j1).1)) o j1))) o j1 + (-(sP ((sM S (dpL S o j1).1)) o j1)))) := (by rw [dpL_s]; simp only [dp1, if_pos h5]; try rfl)
          rw [a9]; exact hR
        have a8 : (dpL S o (j1 + 1)).2 = ((dpL S o j1).2) + (sP ((sM S (dpL S o j1).1)) o j1) := (by rw [dpL_s]; simp only [dp1, if_pos h5]; try rfl)
        rw [a8]
        exact lv_sub hl [4, 5, 1, 6, 7, 0] rfl
      · skip
        refine lv_astoreN (lv' := [(6, .null), (0, .ref (ad 0 0)), (1, .ref (ad 11 o)), (2, .int ((dpL S o j1).2)), (3, .ref (ad 18 0)), (4, .int 90), (5, .int (nI j1))]) hx hb dX10_dropPromise_25 hl (by decide) rfl (fun ls hl => ?_)
        refine lv_aloadN hx hb dX10_dropPromise_27 (lv_at hl 0 rfl) ?_
        refine lv_ifnullN (tgt := 66) hx hb dX10_dropPromise_29 (by decide) ?_
        refine lv_iinc (v := nI (j1 + 1)) (lv' := [(5, .int (nI (j1 + 1))), (6, .null), (0, .ref (ad 0 0)), (1, .ref (ad 11 o)), (2, .int ((dpL S o j1).2)), (3, .ref (ad 18 0)), (4, .int 90)]) hx hb dX10_dropPromise_66 hl (k := 6) rfl (nI_1 _) (by decide) rfl (fun ls hl => ?_)
        refine lv_goto (tgt := 14) hx hb dX10_dropPromise_69 (by decide) ?_
        refine ih3 (_, _, f, ls) ⟨hP, hD, hS, ?_, ?_⟩
        · have a9 : sM S (dpL S o (j1 + 1)).1 = (sM S (dpL S o j1).1) := (by rw [dpL_s]; simp only [dp1, if_neg h5]; try rfl)
          rw [a9]; exact hR
        have a8 : (dpL S o (j1 + 1)).2 = (dpL S o j1).2 := (by rw [dpL_s]; simp only [dp1, if_neg h5]; try rfl)
        rw [a8]
        exact lv_sub hl [2, 3, 4, 5, 6, 0] rfl
  · skip
    obtain ⟨H, locs, f, ls⟩ := z
    obtain ⟨hP, hD, hS, hR, hl⟩ := hz
    dsimp only at hP hD hS hR hl ⊢
    refine lv_iload hx hb dX10_dropPromise_14 (lv_at hl 5 rfl) ?_
    refine lv_iload hx hb dX10_dropPromise_16 (lv_at hl 4 rfl) ?_
    refine lv_icmp_ge (tgt := 72) hx hb dX10_dropPromise_18 (by decide) (fun c13 => ?_) (fun c13 => ?_)
    · skip
      refine lv_aload_n hx hb dX10_dropPromise_72 rfl (lv_at hl 1 rfl) ?_
      refine lv_bipush (v := 45) hx hb dX10_dropPromise_73 (by decide) ?_
      refine put_state_11 (v := (45 : Int32)) hx hb hta iwX7 hown hK hP hD hS hR ho (hta _ mw546) (by decide) (by decide) dX10_dropPromise_75 (fun H locs f hP hD hS hR => ?_)
      refine lv_iload_n hx hb dX10_dropPromise_78 rfl (lv_at hl 2 rfl) ?_
      exact W.iret (v := ((dpL S o 90).2)) hx hb hr (fun t ht hWm => gend_i (u := (uI ((sM S (dpL S o 90).1)) 53 o 45, ad, L, f)) ⟨rfl, rfl, rfl, rfl⟩ hR hP hK hD hS ht hWm) hS.2.2 dX10_dropPromise_79
    · exact absurd (nI_le (a := 90) (b := 90) (Nat.le_refl _) (by decide)) c13

def poh1 (S : St) (j : Nat) (x : IJP × Int32) : IJP × Int32 := if j < sN S 3 0 then (if sI (sM S x.1) 53 j = 112 then (if hasB (sM S x.1) j = true then (sA (dpS (sM S x.1) j), x.2 + 1) else x) else x) else x
def pohL (S : St) (j : Nat) : IJP × Int32 := it (poh1 S) j (sA S, 0)
theorem pohL_s (S : St) (j : Nat) : pohL S (j + 1) = poh1 S j (pohL S j) := rfl
/-- a lot is put on hold: the state behind, how many orders lost their promises -/
def pohS (S : St) (i : Nat) : St := sM (sAdd S 14 0 i) (pohL (sAdd S 14 0 i) 30).1
def pohR (S : St) (i : Nat) : Int32 := (pohL (sAdd S 14 0 i) 30).2
theorem sAdd_WT {S : St} (h : WT S) (k i j : Nat) : WT (sAdd S k i j) := h
set_option maxHeartbeats 4000000 in
set_option maxRecDepth 100000 in
theorem c_X10_putOnHold (l : Launch) {D : va_G} {tA : Nat → ClassId} {S : St} {ad : Nat → Nat → Nat} {L : List Nat} {f : Nat → va_E} {sz : Nat} (hR : Rep tA S ad L f) (hW : WT S) {i : Nat} (hi : i < sN S 2 0) : Met l yX10_putOnHold (wsC yX10_putOnHold cX10_putOnHold 7 (some .int)) ({ frames := 3, cells := 0, slots := 0, locals := 67 }) (va_Pc [.ref (ad 0 0), .ref (ad 7 i)] (gZ D tA L f sz)) (va_Qi (fun (r : Int32) (u : gU) => r = pohR S i ∧ pohS S i = u.1 ∧ ad = u.2.1 ∧ L = u.2.2.1) (gE D tA (va_A (va_pl L f) sz)) (va_A (va_pl L f) sz)) 0 0 (va_A (va_pl L f) sz) := by
  refine Met.ofW (cc := cX10_putOnHold) (maxL := 7) (ret := (some .int)) (by decide) rfl ?_
  intro p e s m args below meth c s₁ B hml hv
  obtain ⟨rfl, hsz, hP, hK, hD0⟩ := hv
  have hx := B.exec
  have hb := B.bytes
  have hr := B.returns
  have hts := atoms_spec (ws := wsC yX10_putOnHold cX10_putOnHold 7 (some .int)) B.pre
  have hta : ∀ w ∈ WA, w.before _ s = true := fun w h => hts w (List.mem_cons_of_mem _ h)
  have hown : s.vm.findClass RX10 = some m.cls := findClass_of_methodNamed B.named
  have hlocks := B.notSynchronized
  subst hsz
  have hD : va_D (va_A (va_pl L f) s.heap.size) (va_pl L f) := hD0.self (sz := s.heap.size)
  generalize hAe : va_A (va_pl L f) s.heap.size = A at hD ⊢
  have hA : ∀ q : Nat, s.heap.size ≤ q → A q := fun q h => by rw [← hAe]; exact Or.inr h
  have hS : va_S A s.heap s.heap [] := va_S.rf
  have hP : va_P D vwCl (va_pl L f) s.heap := hP
  have hl := lv_entry ([.ref (ad 0 0), .ref (ad 7 i)]) (n := 7) (Nat.le_of_ble_eq_true rfl)
  rw [lg_entry_eq]
  generalize (lg_sl ([.ref (ad 0 0), .ref (ad 7 i)]) ++ List.replicate (7 - (lg_sl ([.ref (ad 0 0), .ref (ad 7 i)])).length) Slot.unset).toArray = ls at hl ⊢
  have hl : lv_has ls 7 [(0, .ref (ad 0 0)), (1, .ref (ad 7 i))] := hl
  refine lv_aload_n hx hb dX10_putOnHold_0 rfl (lv_at hl 0 rfl) ?_
  refine get_onHold_0 hx hb hta iwX10 hown hK hP hR (rfl : (0 : Nat) = 0) (hta _ mw101) dX10_putOnHold_1 ?_
  refine lv_aload_n hx hb dX10_putOnHold_4 rfl (lv_at hl 1 rfl) ?_
  refine get_number_7 hx hb hta iwX3 hown hK hP hR hi (hta _ mw407) dX10_putOnHold_5 ?_
  obtain ⟨q1, e2⟩ := cell_14 hR (rfl : (0 : Nat) = 0)
  refine gwr_v (mc := 0) (ms := 0) (ci := 7) (As := [.int (nI i)]) (rest := []) ⟨hx, hb, hml, hown, hta⟩ (c_X5_add l hR (k := 14) (i := 0) ⟨rfl, (rfl : (0 : Nat) = 0)⟩ (j := i) (Nat.lt_of_lt_of_le hi (Nat.le_trans hW.nL (by decide)))) (cwV 1 hta (gWV mw445 mw446 mw447 mw41 mw448) rfl rfl rfl (by decide +kernel) ⟨Nat.le_of_ble_eq_true rfl, Nat.le_of_ble_eq_true rfl⟩) hK hP hD hS hA rfl e2 rfl hl.1 rfl (Nat.le_of_ble_eq_true rfl) dX10_putOnHold_8 ⟨Nat.zero_le _, Nat.zero_le _⟩ (fun u H locs hw hR hP hD hS => ?_)
  obtain ⟨S9, ad9, L9, f⟩ := u
  obtain ⟨rfl, rfl, rfl⟩ := hw
  dsimp only at hR hP hD
  have hWa := sAdd_WT hW 14 0 i
  have hia : i < sN (sAdd S 14 0 i) 2 0 := hi
  generalize hT : sAdd S 14 0 i = T at hR hWa hia
  refine lv_iconst (v := 0) hx hb dX10_putOnHold_11 (by decide) ?_
  refine lv_istore_n (lv' := [(2, .int 0), (0, .ref (ad 0 0)), (1, .ref (ad 7 i))]) hx hb dX10_putOnHold_12 rfl hl (by decide) rfl (fun ls hl => ?_)
  refine lv_aload_n hx hb dX10_putOnHold_13 rfl (lv_at hl 1 rfl) ?_
  refine get_orders_0 hx hb hta iwX10 hown hK hP hR (rfl : (0 : Nat) = 0) (hta _ mw100) dX10_putOnHold_14 ?_
  refine lv_astore_n (lv' := [(3, .ref (ad 19 0)), (2, .int 0), (0, .ref (ad 0 0)), (1, .ref (ad 7 i))]) hx hb dX10_putOnHold_17 rfl hl (by decide) rfl (fun ls hl => ?_)
  refine lv_aload_n hx hb dX10_putOnHold_18 rfl (lv_at hl 0 rfl) ?_
  refine len_orders hx hb hK hP hR (rfl : (0 : Nat) = 0) dX10_putOnHold_19 ?_
  refine lv_istore (lv' := [(4, .int 30), (3, .ref (ad 19 0)), (2, .int 0), (0, .ref (ad 0 0)), (1, .ref (ad 7 i))]) hx hb dX10_putOnHold_20 hl (by decide) rfl (fun ls hl => ?_)
  refine lv_iconst (v := 0) hx hb dX10_putOnHold_22 (by decide) ?_
  refine lv_istore (lv' := [(5, .int 0), (4, .int 30), (3, .ref (ad 19 0)), (2, .int 0), (0, .ref (ad 0 0)), (1, .ref (ad 7 i))]) hx hb dX10_putOnHold_23 hl (by decide) rfl (fun ls hl => ?_)
  refine loop_g (σ := Heap × List Loc × (Nat → va_E) × Array Slot) (Wg := fun z => W p l e _ s m _ below meth c z.1 z.2.1 _ _ _ (F0 m 25 z.2.2.2 [])) 30 (fun j4 z => va_P D vwCl (va_pl L z.2.2.1) z.1 ∧ va_D A (va_pl L z.2.2.1) ∧ va_S A s.heap z.1 z.2.1 ∧ Rep tA (sM T (pohL T j4).1) ad L z.2.2.1 ∧ lv_has z.2.2.2 7 [(0, .ref (ad 0 0)), (1, .ref (ad 7 i)), (2, .int ((pohL T j4).2)), (3, .ref (ad 19 0)), (4, .int 30), (5, .int (nI j4))]) (fun j4 hj5 ih6 z hz => ?_) (fun z hz => ?_) (_, _, f, ls) ⟨hP, hD, hS, hR, lv_sub hl [4, 5, 3, 2, 1, 0] rfl⟩
  · skip
    obtain ⟨H, locs, f, ls⟩ := z
    obtain ⟨hP, hD, hS, hR, hl⟩ := hz
    dsimp only at hP hD hS hR hl ⊢
    refine lv_iload hx hb dX10_putOnHold_25 (lv_at hl 5 rfl) ?_
    refine lv_iload hx hb dX10_putOnHold_27 (lv_at hl 4 rfl) ?_
    refine lv_icmp_ge (tgt := 78) hx hb dX10_putOnHold_29 (by decide) (fun c7 => ?_) (fun c7 => ?_)
    · exact absurd c7 (nI_ge (a := j4) (b := 30) hj5 (by decide))
    · skip
      refine lv_aload_n hx hb dX10_putOnHold_32 rfl (lv_at hl 3 rfl) ?_
      refine lv_iload hx hb dX10_putOnHold_33 (lv_at hl 5 rfl) ?_
      refine ldn_orders hx hb hK hP hR (rfl : (0 : Nat) = 0) hj5 dX10_putOnHold_35 (fun h8 => ?_) (fun h8 => ?_)
      · skip
        refine lv_astore (lv' := [(6, .ref (ad 11 j4)), (0, .ref (ad 0 0)), (1, .ref (ad 7 i)), (2, .int ((pohL T j4).2)), (3, .ref (ad 19 0)), (4, .int 30), (5, .int (nI j4))]) hx hb dX10_putOnHold_36 hl (by decide) rfl (fun ls hl => ?_)
        refine lv_aload hx hb dX10_putOnHold_38 (lv_at hl 0 rfl) ?_
        refine lv_ifnull hx hb dX10_putOnHold_40 ?_
        refine lv_aload hx hb dX10_putOnHold_43 (lv_at hl 0 rfl) ?_
        refine get_state_11 hx hb hta iwX7 hown hK hP hR h8 (hta _ mw546) dX10_putOnHold_45 ?_
        refine lv_bipush (v := 112) hx hb dX10_putOnHold_48 (by decide) ?_
        refine lv_icmp_ne (tgt := 72) hx hb dX10_putOnHold_50 (by decide) (fun c9 => ?_) (fun c9 => ?_)
        · skip
          refine lv_iinc (v := nI (j4 + 1)) (lv' := [(5, .int (nI (j4 + 1))), (6, .ref (ad 11 j4)), (0, .ref (ad 0 0)), (1, .ref (ad 7 i)), (2, .int ((pohL T j4).2)), (3, .ref (ad 19 0)), (4, .int 30)]) hx hb dX10_putOnHold_72 hl (k := 6) rfl (nI_1 _) (by decide) rfl (fun ls hl => ?_)
          refine lv_goto (tgt := 25) hx hb dX10_putOnHold_75 (by decide) ?_
          refine ih6 (_, _, f, ls) ⟨hP, hD, hS, ?_, ?_⟩
          · have a9 : sM T (pohL T (j4 + 1)).1 = (sM T (pohL T j4).1) := (by rw [pohL_s]; simp only [poh1, if_pos h8, if_neg c9]; try rfl)
            rw [a9]; exact hR
          have a8 : (pohL T (j4 + 1)).2 = (pohL T j4).2 := (by rw [pohL_s]; simp only [poh1, if_pos h8, if_neg c9]; try rfl)
          rw [a8]
          exact lv_sub hl [2, 3, 4, 5, 6, 0] rfl
        · skip
          refine lv_aload_n hx hb dX10_putOnHold_53 rfl (lv_at hl 1 rfl) ?_
          refine lv_aload hx hb dX10_putOnHold_54 (lv_at hl 0 rfl) ?_
          obtain ⟨q10, e11⟩ := cell_0 hR (rfl : (0 : Nat) = 0)
          refine gro_i (ci := 12) (As := [.ref (ad 11 j4)]) (rest := []) ⟨hx, hb, hml, hown, hta⟩ (c_X10_hasBarredPieces l hR hWa h8) (cwV 1 hta (gWV mw462 mw463 mw18 mw40 mw464) rfl rfl rfl (by decide +kernel) ⟨Nat.le_of_ble_eq_true rfl, Nat.le_of_ble_eq_true rfl⟩) hK hP hD rfl e11 rfl hl.1 rfl (Nat.le_of_ble_eq_true rfl) dX10_putOnHold_56 ⟨Nat.zero_le _, Nat.zero_le _⟩ (fun r12 c13 => ?_)
          obtain rfl := c13
          refine lv_if_eq (tgt := 72) hx hb dX10_putOnHold_59 (by decide) (fun c14 => ?_) (fun c14 => ?_)
          · skip
            have c14 := bI_f c14
            refine lv_iinc (v := nI (j4 + 1)) (lv' := [(5, .int (nI (j4 + 1))), (6, .ref (ad 11 j4)), (0, .ref (ad 0 0)), (1, .ref (ad 7 i)), (2, .int ((pohL T j4).2)), (3, .ref (ad 19 0)), (4, .int 30)]) hx hb dX10_putOnHold_72 hl (k := 6) rfl (nI_1 _) (by decide) rfl (fun ls hl => ?_)
            refine lv_goto (tgt := 25) hx hb dX10_putOnHold_75 (by decide) ?_
            refine ih6 (_, _, f, ls) ⟨hP, hD, hS, ?_, ?_⟩
            · have a9 : sM T (pohL T (j4 + 1)).1 = (sM T (pohL T j4).1) := (by rw [pohL_s]; simp only [poh1, if_pos h8, if_pos c9, c14]; try rfl)
              rw [a9]; exact hR
            have a8 : (pohL T (j4 + 1)).2 = (pohL T j4).2 := (by rw [pohL_s]; simp only [poh1, if_pos h8, if_pos c9, c14]; try rfl)
            rw [a8]
            exact lv_sub hl [2, 3, 4, 5, 6, 0] rfl
          · skip
            have c14 := bI_t c14
            refine lv_aload_n hx hb dX10_putOnHold_62 rfl (lv_at hl 1 rfl) ?_
            refine lv_aload hx hb dX10_putOnHold_63 (lv_at hl 0 rfl) ?_
            obtain ⟨q15, e16⟩ := cell_0 hR (rfl : (0 : Nat) = 0)
            refine gwr_i (mc := 0) (ms := 0) (ci := 12) (As := [.ref (ad 11 j4)]) (rest := []) ⟨hx, hb, hml, hown, hta⟩ (c_X10_dropPromise l hR hWa h8) (cwV 1 hta (gWV mw465 mw466 mw19 mw40 mw467) rfl rfl rfl (by decide +kernel) ⟨Nat.le_of_ble_eq_true rfl, Nat.le_of_ble_eq_true rfl⟩) hK hP hD hS hA rfl e16 rfl hl.1 rfl (Nat.le_of_ble_eq_true rfl) dX10_putOnHold_65 ⟨Nat.zero_le _, Nat.zero_le _⟩ (fun r17 u H locs hw hR hP hD hS => ?_)
            obtain ⟨S9, ad9, L9, f⟩ := u
            obtain ⟨rfl, rfl, rfl, rfl⟩ := hw
            dsimp only at hR hP hD
            refine lv_pop hx hb dX10_putOnHold_68 rfl ?_
            refine lv_iinc (v := ((pohL T j4).2) + 1) (lv' := [(2, .int (((pohL T j4).2) + 1)), (6, .ref (ad 11 j4)), (0, .ref (ad 0 0)), (1, .ref (ad 7 i)), (3, .ref (ad 19 0)), (4, .int 30), (5, .int (nI j4))]) hx hb dX10_putOnHold_69 hl (k := 3) rfl (rfl) (by decide) rfl (fun ls hl => ?_)
            refine lv_iinc (v := nI (j4 + 1)) (lv' := [(5, .int (nI (j4 + 1))), (2, .int (((pohL T j4).2) + 1)), (6, .ref (ad 11 j4)), (0, .ref (ad 0 0)), (1, .ref (ad 7 i)), (3, .ref (ad 19 0)), (4, .int 30)]) hx hb dX10_putOnHold_72 hl (k := 6) rfl (nI_1 _) (by decide) rfl (fun ls hl => ?_)
            refine lv_goto (tgt := 25) hx hb dX10_putOnHold_75 (by decide) ?_
            refine ih6 (_, _, f, ls) ⟨hP, hD, hS, ?_, ?_⟩
            · have a9 : sM T (pohL T (j4 + 1)).1 = (dpS ((sM T (pohL T j4).1)) j4) := (by rw [pohL_s]; simp only [poh1, if_pos h8, if_pos c9, c14]; try rfl)
              rw [a9]; exact hR
            have a8 : (pohL T (j4 + 1)).2 = ((pohL T j4).2) + 1 := (by rw [pohL_s]; simp only [poh1, if_pos h8, if_pos c9, c14]; try rfl)
            rw [a8]
            exact lv_sub hl [3, 4, 1, 5, 6, 0] rfl
      · skip
        refine lv_astoreN (lv' := [(6, .null), (0, .ref (ad 0 0)), (1, .ref (ad 7 i)), (2, .int ((pohL T j4).2)), (3, .ref (ad 19 0)), (4, .int 30), (5, .int (nI j4))]) hx hb dX10_putOnHold_36 hl (by decide) rfl (fun ls hl => ?_)
        refine lv_aloadN hx hb dX10_putOnHold_38 (lv_at hl 0 rfl) ?_
        refine lv_ifnullN (tgt := 72) hx hb dX10_putOnHold_40 (by decide) ?_
        refine lv_iinc (v := nI (j4 + 1)) (lv' := [(5, .int (nI (j4 + 1))), (6, .null), (0, .ref (ad 0 0)), (1, .ref (ad 7 i)), (2, .int ((pohL T j4).2)), (3, .ref (ad 19 0)), (4, .int 30)]) hx hb dX10_putOnHold_72 hl (k := 6) rfl (nI_1 _) (by decide) rfl (fun ls hl => ?_)
        refine lv_goto (tgt := 25) hx hb dX10_putOnHold_75 (by decide) ?_
        refine ih6 (_, _, f, ls) ⟨hP, hD, hS, ?_, ?_⟩
        · have a9 : sM T (pohL T (j4 + 1)).1 = (sM T (pohL T j4).1) := (by rw [pohL_s]; simp only [poh1, if_neg h8]; try rfl)
          rw [a9]; exact hR
        have a8 : (pohL T (j4 + 1)).2 = (pohL T j4).2 := (by rw [pohL_s]; simp only [poh1, if_neg h8]; try rfl)
        rw [a8]
        exact lv_sub hl [2, 3, 4, 5, 6, 0] rfl
  · skip
    obtain ⟨H, locs, f, ls⟩ := z
    obtain ⟨hP, hD, hS, hR, hl⟩ := hz
    dsimp only at hP hD hS hR hl ⊢
    refine lv_iload hx hb dX10_putOnHold_25 (lv_at hl 5 rfl) ?_
    refine lv_iload hx hb dX10_putOnHold_27 (lv_at hl 4 rfl) ?_
    refine lv_icmp_ge (tgt := 78) hx hb dX10_putOnHold_29 (by decide) (fun c18 => ?_) (fun c18 => ?_)
    · skip
      refine lv_iload_n hx hb dX10_putOnHold_78 rfl (lv_at hl 2 rfl) ?_
      exact W.iret (v := ((pohL T 30).2)) hx hb hr (fun t ht hWm => gend_i (u := ((sM T (pohL T 30).1), ad, L, f)) ⟨by rw [pohR, hT], by rw [pohS, hT], rfl, rfl⟩ hR hP hK hD hS ht hWm) hS.2.2 dX10_putOnHold_79
    · exact absurd (nI_le (a := 30) (b := 30) (Nat.le_refl _) (by decide)) c18

/-- a component is for an order's option, or for any -/
def isForB (S : St) (q : Nat) (w : Int32) : Bool := if sI S 31 q = -1 then true else if sI S 31 q = w then true else false
set_option maxHeartbeats 4000000 in
set_option maxRecDepth 100000 in
theorem c_X1_isFor (l : Launch) {D : va_G} {tA : Nat → ClassId} {S : St} {ad : Nat → Nat → Nat} {L : List Nat} {f : Nat → va_E} (hR : Rep tA S ad L f) {q : Nat} (hq : V S 4 q) (w : Int32) : Met l yX1_isFor (wsC yX1_isFor cX1_isFor 2 (some .boolean)) ({ frames := 0, cells := 0, slots := 0, locals := 0 }) (va_Pc [.ref (ad 4 q), .int w] (gB D tA L f)) (vp_Si (fun r => r = bI (isForB S q w))) 0 0 (fun _ => False) := by
  refine Met.ofW (cc := cX1_isFor) (maxL := 2) (ret := (some .boolean)) (by decide) rfl ?_
  intro p e s m args below meth c s₁ B hml hv
  obtain ⟨rfl, hP, hK, hD⟩ := hv
  have hx := B.exec
  have hb := B.bytes
  have hr := B.returns
  have hts := atoms_spec (ws := wsC yX1_isFor cX1_isFor 2 (some .boolean)) B.pre
  have hta : ∀ w ∈ WA, w.before _ s = true := fun w h => hts w (List.mem_cons_of_mem _ h)
  have hown : s.vm.findClass RX1 = some m.cls := findClass_of_methodNamed B.named
  have hlocks := B.notSynchronized
  have hP : va_P D vwCl (va_pl L f) s.heap := hP
  have hl := lv_entry ([.ref (ad 4 q), .int w]) (n := 2) (Nat.le_of_ble_eq_true rfl)
  rw [lg_entry_eq]
  generalize (lg_sl ([.ref (ad 4 q), .int w]) ++ List.replicate (2 - (lg_sl ([.ref (ad 4 q), .int w])).length) Slot.unset).toArray = ls at hl ⊢
  have hl : lv_has ls 2 [(0, .ref (ad 4 q)), (1, .int w)] := hl
  refine lv_aload_n hx hb dX1_isFor_0 rfl (lv_at hl 0 rfl) ?_
  refine get_option_4 hx hb hta iwX1 hown hK hP hR hq (hta _ mw346) dX1_isFor_1 ?_
  refine lv_iconst (v := -1) hx hb dX1_isFor_4 (by decide) ?_
  refine lv_icmp_eq (tgt := 16) hx hb dX1_isFor_5 (by decide) (fun c1 => ?_) (fun c1 => ?_)
  · skip
    refine lv_iconst (v := 1) hx hb dX1_isFor_16 (by decide) ?_
    refine lv_goto (tgt := 21) hx hb dX1_isFor_17 (by decide) ?_
    exact W.zret (v := 1) (ty := .boolean) hx hb hr (by decide) (fun t ht hWm => ⟨_, rfl, (by simp only [isForB, if_pos c1]; rfl), ht⟩) (fun q h => absurd h List.not_mem_nil) dX1_isFor_21
  · skip
    refine lv_aload_n hx hb dX1_isFor_8 rfl (lv_at hl 0 rfl) ?_
    refine get_option_4 hx hb hta iwX1 hown hK hP hR hq (hta _ mw346) dX1_isFor_9 ?_
    refine lv_iload_n hx hb dX1_isFor_12 rfl (lv_at hl 1 rfl) ?_
    refine lv_icmp_ne (tgt := 20) hx hb dX1_isFor_13 (by decide) (fun c2 => ?_) (fun c2 => ?_)
    · skip
      refine lv_iconst (v := 0) hx hb dX1_isFor_20 (by decide) ?_
      exact W.zret (v := 0) (ty := .boolean) hx hb hr (by decide) (fun t ht hWm => ⟨_, rfl, (by simp only [isForB, if_neg c1, if_neg c2]; rfl), ht⟩) (fun q h => absurd h List.not_mem_nil) dX1_isFor_21
    · skip
      refine lv_iconst (v := 1) hx hb dX1_isFor_16 (by decide) ?_
      refine lv_goto (tgt := 21) hx hb dX1_isFor_17 (by decide) ?_
      exact W.zret (v := 1) (ty := .boolean) hx hb hr (by decide) (fun t ht hWm => ⟨_, rfl, (by simp only [isForB, if_neg c1, if_pos c2]; rfl), ht⟩) (fun q h => absurd h List.not_mem_nil) dX1_isFor_21

def rsT (T : St) (o j : Nat) (k : Int32) : St := uP (uI T 42 j (sI T 42 j + k)) o j (sP T o j + k)
def rs1 (S : St) (o q j : Nat) (x : IJP × Int32) : IJP × Int32 := if j < sN S 2 0 then (if sN S 6 j = sN S 8 q then (sA (rsT (sM S x.1) o j (imin x.2 (free (sM S x.1) j))), x.2 - imin x.2 (free (sM S x.1) j)) else x) else x
def rsL (S : St) (o q j : Nat) : IJP × Int32 := it (rs1 S o q) j (sA S, sI S 50 o * sI S 30 q)
theorem rsL_s (S : St) (o q j : Nat) : rsL S o q (j + 1) = rs1 S o q j (rsL S o q j) := rfl
/-- what a component needs is reserved: the state behind, whether it reached -/
abbrev rsS (S : St) (o q : Nat) : St := sM S (rsL S o q 90).1
def rsR (S : St) (o q : Nat) : Bool := decide ((rsL S o q 90).2 = 0)
set_option maxHeartbeats 4000000 in
set_option maxRecDepth 100000 in
theorem c_X10_reserve (l : Launch) {D : va_G} {tA : Nat → ClassId} {S : St} {ad : Nat → Nat → Nat} {L : List Nat} {f : Nat → va_E} {sz : Nat} (hR : Rep tA S ad L f) (hW : WT S) {o q : Nat} (ho : o < sN S 3 0) (hq : V S 4 q) : Met l yX10_reserve (wsC yX10_reserve cX10_reserve 9 (some .boolean)) ({ frames := 3, cells := 0, slots := 0, locals := 63 }) (va_Pc [.ref (ad 0 0), .ref (ad 11 o), .ref (ad 4 q)] (gZ D tA L f sz)) (va_Qi (fun (r : Int32) (u : gU) => r = bI (rsR S o q) ∧ rsS S o q = u.1 ∧ ad = u.2.1 ∧ L = u.2.2.1) (gE D tA (va_A (va_pl L f) sz)) (va_A (va_pl L f) sz)) 0 0 (va_A (va_pl L f) sz) := by
  refine Met.ofW (cc := cX10_reserve) (maxL := 9) (ret := (some .boolean)) (by decide) rfl ?_
  intro p e s m args below meth c s₁ B hml hv
  obtain ⟨rfl, hsz, hP, hK, hD0⟩ := hv
  have hx := B.exec
  have hb := B.bytes
  have hr := B.returns
  have hts := atoms_spec (ws := wsC yX10_reserve cX10_reserve 9 (some .boolean)) B.pre
  have hta : ∀ w ∈ WA, w.before _ s = true := fun w h => hts w (List.mem_cons_of_mem _ h)
  have hown : s.vm.findClass RX10 = some m.cls := findClass_of_methodNamed B.named
  have hlocks := B.notSynchronized
  subst hsz
  have hD : va_D (va_A (va_pl L f) s.heap.size) (va_pl L f) := hD0.self (sz := s.heap.size)
  generalize hAe : va_A (va_pl L f) s.heap.size = A at hD ⊢
  have hA : ∀ q : Nat, s.heap.size ≤ q → A q := fun q h => by rw [← hAe]; exact Or.inr h
  have hS : va_S A s.heap s.heap [] := va_S.rf
  have hP : va_P D vwCl (va_pl L f) s.heap := hP
  have hl := lv_entry ([.ref (ad 0 0), .ref (ad 11 o), .ref (ad 4 q)]) (n := 9) (Nat.le_of_ble_eq_true rfl)
  rw [lg_entry_eq]
  generalize (lg_sl ([.ref (ad 0 0), .ref (ad 11 o), .ref (ad 4 q)]) ++ List.replicate (9 - (lg_sl ([.ref (ad 0 0), .ref (ad 11 o), .ref (ad 4 q)])).length) Slot.unset).toArray = ls at hl ⊢
  have hl : lv_has ls 9 [(0, .ref (ad 0 0)), (1, .ref (ad 11 o)), (2, .ref (ad 4 q))] := hl
  refine lv_aload_n hx hb dX10_reserve_0 rfl (lv_at hl 1 rfl) ?_
  refine get_quantity_11 hx hb hta iwX7 hown hK hP hR ho (hta _ mw535) dX10_reserve_1 ?_
  refine lv_aload_n hx hb dX10_reserve_4 rfl (lv_at hl 2 rfl) ?_
  refine get_pieces_4 hx hb hta iwX1 hown hK hP hR hq (hta _ mw345) dX10_reserve_5 ?_
  refine lv_imul hx hb dX10_reserve_8 ?_
  refine lv_istore_n (lv' := [(3, .int ((sI S 50 o) * (sI S 30 q))), (0, .ref (ad 0 0)), (1, .ref (ad 11 o)), (2, .ref (ad 4 q))]) hx hb dX10_reserve_9 rfl hl (by decide) rfl (fun ls hl => ?_)
  refine lv_aload_n hx hb dX10_reserve_10 rfl (lv_at hl 1 rfl) ?_
  refine get_lots_0 hx hb hta iwX10 hown hK hP hR (rfl : (0 : Nat) = 0) (hta _ mw99) dX10_reserve_11 ?_
  refine lv_astore (lv' := [(4, .ref (ad 18 0)), (3, .int ((sI S 50 o) * (sI S 30 q))), (0, .ref (ad 0 0)), (1, .ref (ad 11 o)), (2, .ref (ad 4 q))]) hx hb dX10_reserve_14 hl (by decide) rfl (fun ls hl => ?_)
  refine lv_aload hx hb dX10_reserve_16 (lv_at hl 0 rfl) ?_
  refine len_lots hx hb hK hP hR (rfl : (0 : Nat) = 0) dX10_reserve_18 ?_
  refine lv_istore (lv' := [(5, .int 90), (4, .ref (ad 18 0)), (3, .int ((sI S 50 o) * (sI S 30 q))), (0, .ref (ad 0 0)), (1, .ref (ad 11 o)), (2, .ref (ad 4 q))]) hx hb dX10_reserve_19 hl (by decide) rfl (fun ls hl => ?_)
  refine lv_iconst (v := 0) hx hb dX10_reserve_21 (by decide) ?_
  refine lv_istore (lv' := [(6, .int 0), (5, .int 90), (4, .ref (ad 18 0)), (3, .int ((sI S 50 o) * (sI S 30 q))), (0, .ref (ad 0 0)), (1, .ref (ad 11 o)), (2, .ref (ad 4 q))]) hx hb dX10_reserve_22 hl (by decide) rfl (fun ls hl => ?_)
  refine loop_g (σ := Heap × List Loc × (Nat → va_E) × Array Slot) (Wg := fun z => W p l e _ s m _ below meth c z.1 z.2.1 _ _ _ (F0 m 24 z.2.2.2 [])) 90 (fun j1 z => va_P D vwCl (va_pl L z.2.2.1) z.1 ∧ va_D A (va_pl L z.2.2.1) ∧ va_S A s.heap z.1 z.2.1 ∧ Rep tA (sM S (rsL S o q j1).1) ad L z.2.2.1 ∧ lv_has z.2.2.2 9 [(0, .ref (ad 0 0)), (1, .ref (ad 11 o)), (2, .ref (ad 4 q)), (3, .int ((rsL S o q j1).2)), (4, .ref (ad 18 0)), (5, .int 90), (6, .int (nI j1))]) (fun j1 hj2 ih3 z hz => ?_) (fun z hz => ?_) (_, _, f, ls) ⟨hP, hD, hS, hR, lv_sub hl [4, 5, 6, 3, 2, 1, 0] rfl⟩
  · skip
    obtain ⟨H, locs, f, ls⟩ := z
    obtain ⟨hP, hD, hS, hR, hl⟩ := hz
    dsimp only at hP hD hS hR hl ⊢
    refine lv_iload hx hb dX10_reserve_24 (lv_at hl 6 rfl) ?_
    refine lv_iload hx hb dX10_reserve_26 (lv_at hl 5 rfl) ?_
    refine lv_icmp_ge (tgt := 98) hx hb dX10_reserve_28 (by decide) (fun c4 => ?_) (fun c4 => ?_)
    · exact absurd c4 (nI_ge (a := j1) (b := 90) hj2 (by decide))
    · skip
      refine lv_aload hx hb dX10_reserve_31 (lv_at hl 4 rfl) ?_
      refine lv_iload hx hb dX10_reserve_33 (lv_at hl 6 rfl) ?_
      refine ldn_lots hx hb hK hP hR (rfl : (0 : Nat) = 0) hj2 dX10_reserve_35 (fun h5 => ?_) (fun h5 => ?_)
      · skip
        refine lv_astore (lv' := [(7, .ref (ad 7 j1)), (0, .ref (ad 0 0)), (1, .ref (ad 11 o)), (2, .ref (ad 4 q)), (3, .int ((rsL S o q j1).2)), (4, .ref (ad 18 0)), (5, .int 90), (6, .int (nI j1))]) hx hb dX10_reserve_36 hl (by decide) rfl (fun ls hl => ?_)
        refine lv_aload hx hb dX10_reserve_38 (lv_at hl 0 rfl) ?_
        refine lv_ifnull hx hb dX10_reserve_40 ?_
        refine lv_aload hx hb dX10_reserve_43 (lv_at hl 0 rfl) ?_
        refine get_part_7 hx hb hta iwX3 hown hK hP hR h5 (hta _ mw409) dX10_reserve_45 ?_
        refine lv_aload_n hx hb dX10_reserve_48 rfl (lv_at hl 3 rfl) ?_
        refine get_part_4 hx hb hta iwX1 hown hK hP hR hq (hta _ mw343) dX10_reserve_49 ?_
        refine lv_acmp_ne (rx := some (ad 2 (sN S 6 j1))) (ry := some (ad 2 (sN S 8 q))) (tgt := 92) hx hb dX10_reserve_52 (by decide) (fun c6 => ?_) (fun c6 => ?_)
        · skip
          have c6 := Rep.neq c6
          refine lv_iinc (v := nI (j1 + 1)) (lv' := [(6, .int (nI (j1 + 1))), (7, .ref (ad 7 j1)), (0, .ref (ad 0 0)), (1, .ref (ad 11 o)), (2, .ref (ad 4 q)), (3, .int ((rsL S o q j1).2)), (4, .ref (ad 18 0)), (5, .int 90)]) hx hb dX10_reserve_92 hl (k := 7) rfl (nI_1 _) (by decide) rfl (fun ls hl => ?_)
          refine lv_goto (tgt := 24) hx hb dX10_reserve_95 (by decide) ?_
          refine ih3 (_, _, f, ls) ⟨hP, hD, hS, ?_, ?_⟩
          · have a9 : sM S (rsL S o q (j1 + 1)).1 = (sM S (rsL S o q j1).1) := (by rw [rsL_s]; simp only [rs1, if_pos h5, if_neg c6]; try rfl)
            rw [a9]; exact hR
          have a8 : (rsL S o q (j1 + 1)).2 = (rsL S o q j1).2 := (by rw [rsL_s]; simp only [rs1, if_pos h5, if_neg c6]; try rfl)
          rw [a8]
          exact lv_sub hl [2, 3, 4, 5, 6, 7, 0] rfl
        · skip
          have c6 := hR.eq (k := 2) (i := sN S 6 j1) (j := sN S 8 q) ((hW.lotPart h5)) ((hW.compPart hq)) c6
          refine lv_iload_n hx hb dX10_reserve_55 rfl (lv_at hl 4 rfl) ?_
          refine lv_aload_n hx hb dX10_reserve_56 rfl (lv_at hl 1 rfl) ?_
          refine lv_aload hx hb dX10_reserve_57 (lv_at hl 0 rfl) ?_
          obtain ⟨q7, e8⟩ := cell_0 hR (rfl : (0 : Nat) = 0)
          refine gro_i (ci := 12) (As := [.ref (ad 7 j1)]) (rest := [.int ((rsL S o q j1).2)]) ⟨hx, hb, hml, hown, hta⟩ (c_X10_freePieces l hR hW h5) (cwV 1 hta (gWV mw707 mw708 mw33 mw40 mw709) rfl rfl rfl (by decide +kernel) ⟨Nat.le_of_ble_eq_true rfl, Nat.le_of_ble_eq_true rfl⟩) hK hP hD rfl e8 rfl hl.1 rfl (Nat.le_of_ble_eq_true rfl) dX10_reserve_59 ⟨Nat.zero_le _, Nat.zero_le _⟩ (fun r9 c10 => ?_)
          obtain rfl := c10
          refine va_mmin (own := RX10) hx hb (hml.trans hl.1.symm) hown (hta _ mw710) (hta _ mw711) (hta _ mw61) (hta _ mw712) (Nat.le_of_ble_eq_true rfl) (Nat.le_of_ble_eq_true rfl) (Nat.zero_le _) (Nat.zero_le _) dX10_reserve_62 ?_
          refine lv_topi (fun x11 ex11 => ?_)
          obtain rfl : x11 = imin ((rsL S o q j1).2) (free ((sM S (rsL S o q j1).1)) j1) := ex11
          refine lv_istore (lv' := [(8, .int (imin ((rsL S o q j1).2) (free ((sM S (rsL S o q j1).1)) j1))), (7, .ref (ad 7 j1)), (0, .ref (ad 0 0)), (1, .ref (ad 11 o)), (2, .ref (ad 4 q)), (3, .int ((rsL S o q j1).2)), (4, .ref (ad 18 0)), (5, .int 90), (6, .int (nI j1))]) hx hb dX10_reserve_65 hl (by decide) rfl (fun ls hl => ?_)
          refine lv_aload hx hb dX10_reserve_67 (lv_at hl 1 rfl) ?_
          refine lv_dup hx hb dX10_reserve_69 rfl ?_
          refine get_reserved_7 hx hb hta iwX3 hown hK hP hR h5 (hta _ mw422) dX10_reserve_70 ?_
          refine lv_iload hx hb dX10_reserve_73 (lv_at hl 0 rfl) ?_
          refine lv_iadd hx hb dX10_reserve_75 ?_
          refine put_reserved_7 (v := ((sI (sM S (rsL S o q j1).1) 42 j1) + (imin ((rsL S o q j1).2) (free ((sM S (rsL S o q j1).1)) j1)) : Int32)) hx hb hta iwX3 hown hK hP hD hS hR h5 (hta _ mw422) dX10_reserve_76 (fun H locs f hP hD hS hR => ?_)
          refine lv_aload_n hx hb dX10_reserve_79 rfl (lv_at hl 3 rfl) ?_
          refine lv_aload hx hb dX10_reserve_80 (lv_at hl 1 rfl) ?_
          refine lv_iload hx hb dX10_reserve_82 (lv_at hl 0 rfl) ?_
          obtain ⟨q12, e13⟩ := cell_11 hR ho
          refine gwr_v (mc := 0) (ms := 0) (ci := 9) (As := [.ref (ad 7 j1), .int (imin ((rsL S o q j1).2) (free ((sM S (rsL S o q j1).1)) j1))]) (rest := []) ⟨hx, hb, hml, hown, hta⟩ (c_X7_addPieces l hR hW h5 ho (imin ((rsL S o q j1).2) (free ((sM S (rsL S o q j1).1)) j1))) (cwV 2 hta (gWV mw468 mw469 mw470 mw59 mw471) rfl rfl rfl (by decide +kernel) ⟨Nat.le_of_ble_eq_true rfl, Nat.le_of_ble_eq_true rfl⟩) hK hP hD hS hA rfl e13 rfl hl.1 rfl (Nat.le_of_ble_eq_true rfl) dX10_reserve_84 ⟨Nat.zero_le _, Nat.zero_le _⟩ (fun u H locs hw hR hP hD hS => ?_)
          obtain ⟨S9, ad9, L9, f⟩ := u
          obtain ⟨rfl, rfl, rfl⟩ := hw
          dsimp only at hR hP hD
          refine lv_iload_n hx hb dX10_reserve_87 rfl (lv_at hl 5 rfl) ?_
          refine lv_iload hx hb dX10_reserve_88 (lv_at hl 0 rfl) ?_
          refine lv_isub hx hb dX10_reserve_90 ?_
          refine lv_istore_n (lv' := [(3, .int (((rsL S o q j1).2) - (imin ((rsL S o q j1).2) (free ((sM S (rsL S o q j1).1)) j1)))), (8, .int (imin ((rsL S o q j1).2) (free ((sM S (rsL S o q j1).1)) j1))), (7, .ref (ad 7 j1)), (0, .ref (ad 0 0)), (1, .ref (ad 11 o)), (2, .ref (ad 4 q)), (4, .ref (ad 18 0)), (5, .int 90), (6, .int (nI j1))]) hx hb dX10_reserve_91 rfl hl (by decide) rfl (fun ls hl => ?_)
          refine lv_iinc (v := nI (j1 + 1)) (lv' := [(6, .int (nI (j1 + 1))), (3, .int (((rsL S o q j1).2) - (imin ((rsL S o q j1).2) (free ((sM S (rsL S o q j1).1)) j1)))), (8, .int (imin ((rsL S o q j1).2) (free ((sM S (rsL S o q j1).1)) j1))), (7, .ref (ad 7 j1)), (0, .ref (ad 0 0)), (1, .ref (ad 11 o)), (2, .ref (ad 4 q)), (4, .ref (ad 18 0)), (5, .int 90)]) hx hb dX10_reserve_92 hl (k := 8) rfl (nI_1 _) (by decide) rfl (fun ls hl => ?_)
          refine lv_goto (tgt := 24) hx hb dX10_reserve_95 (by decide) ?_
          refine ih3 (_, _, f, ls) ⟨hP, hD, hS, ?_, ?_⟩
          · have a9 : sM S (rsL S o q (j1 + 1)).1 = (uP (uI ((sM S (rsL S o q j1).1)) 42 j1 ((sI (sM S (rsL S o q j1).1) 42 j1) + (imin ((rsL S o q j1).2) (free ((sM S (rsL S o q j1).1)) j1)))) o j1 (sP (uI ((sM S (rsL S o q j1).1)) 42 j1 ((sI (sM S (rsL S o q j1).1) 42 j1) + (imin ((rsL S o q j1).2) (free ((sM S (rsL S o q j1).1)) j1)))) o j1 + (imin ((rsL S o q j1).2) (free ((sM S (rsL S o q j1).1)) j1)))) := (by rw [rsL_s]; simp only [rs1, if_pos h5, if_pos c6]; try rfl)
            rw [a9]; exact hR
          have a8 : (rsL S o q (j1 + 1)).2 = ((rsL S o q j1).2) - (imin ((rsL S o q j1).2) (free ((sM S (rsL S o q j1).1)) j1)) := (by rw [rsL_s]; simp only [rs1, if_pos h5, if_pos c6]; try rfl)
          rw [a8]
          exact lv_sub hl [4, 5, 6, 1, 7, 8, 0] rfl
      · skip
        refine lv_astoreN (lv' := [(7, .null), (0, .ref (ad 0 0)), (1, .ref (ad 11 o)), (2, .ref (ad 4 q)), (3, .int ((rsL S o q j1).2)), (4, .ref (ad 18 0)), (5, .int 90), (6, .int (nI j1))]) hx hb dX10_reserve_36 hl (by decide) rfl (fun ls hl => ?_)
        refine lv_aloadN hx hb dX10_reserve_38 (lv_at hl 0 rfl) ?_
        refine lv_ifnullN (tgt := 92) hx hb dX10_reserve_40 (by decide) ?_
        refine lv_iinc (v := nI (j1 + 1)) (lv' := [(6, .int (nI (j1 + 1))), (7, .null), (0, .ref (ad 0 0)), (1, .ref (ad 11 o)), (2, .ref (ad 4 q)), (3, .int ((rsL S o q j1).2)), (4, .ref (ad 18 0)), (5, .int 90)]) hx hb dX10_reserve_92 hl (k := 7) rfl (nI_1 _) (by decide) rfl (fun ls hl => ?_)
        refine lv_goto (tgt := 24) hx hb dX10_reserve_95 (by decide) ?_
        refine ih3 (_, _, f, ls) ⟨hP, hD, hS, ?_, ?_⟩
        · have a9 : sM S (rsL S o q (j1 + 1)).1 = (sM S (rsL S o q j1).1) := (by rw [rsL_s]; simp only [rs1, if_neg h5]; try rfl)
          rw [a9]; exact hR
        have a8 : (rsL S o q (j1 + 1)).2 = (rsL S o q j1).2 := (by rw [rsL_s]; simp only [rs1, if_neg h5]; try rfl)
        rw [a8]
        exact lv_sub hl [2, 3, 4, 5, 6, 7, 0] rfl
  · skip
    obtain ⟨H, locs, f, ls⟩ := z
    obtain ⟨hP, hD, hS, hR, hl⟩ := hz
    dsimp only at hP hD hS hR hl ⊢
    refine lv_iload hx hb dX10_reserve_24 (lv_at hl 6 rfl) ?_
    refine lv_iload hx hb dX10_reserve_26 (lv_at hl 5 rfl) ?_
    refine lv_icmp_ge (tgt := 98) hx hb dX10_reserve_28 (by decide) (fun c15 => ?_) (fun c15 => ?_)
    · skip
      refine lv_iload_n hx hb dX10_reserve_98 rfl (lv_at hl 3 rfl) ?_
      refine lv_if_ne (tgt := 106) hx hb dX10_reserve_99 (by decide) (fun c16 => ?_) (fun c16 => ?_)
      · skip
        refine lv_iconst (v := 0) hx hb dX10_reserve_106 (by decide) ?_
        exact W.zret (v := 0) (ty := .boolean) hx hb hr (by decide) (fun t ht hWm => gend_i (u := ((sM S (rsL S o q 90).1), ad, L, f)) ⟨by rw [rsR, decide_eq_false c16]; rfl, rfl, rfl, rfl⟩ hR hP hK hD hS ht hWm) hS.2.2 dX10_reserve_107
      · skip
        refine lv_iconst (v := 1) hx hb dX10_reserve_102 (by decide) ?_
        refine lv_goto (tgt := 107) hx hb dX10_reserve_103 (by decide) ?_
        exact W.zret (v := 1) (ty := .boolean) hx hb hr (by decide) (fun t ht hWm => gend_i (u := ((sM S (rsL S o q 90).1), ad, L, f)) ⟨by rw [rsR, decide_eq_true c16]; rfl, rfl, rfl, rfl⟩ hR hP hK hD hS ht hWm) hS.2.2 dX10_reserve_107
    · exact absurd (nI_le (a := 90) (b := 90) (Nat.le_refl _) (by decide)) c15

def ra1 (S : St) (o j : Nat) (x : IJP × Bool) : IJP × Bool := if x.2 = true then x else if j < sN S 4 (sN S 7 o) then (if isForB (sM S x.1) (4 * (sN S 7 o) + j) (sI (sM S x.1) 51 o) = true then (if rsR (sM S x.1) o (4 * (sN S 7 o) + j) = true then (sA (rsS (sM S x.1) o (4 * (sN S 7 o) + j)), false) else (sA (dpS (rsS (sM S x.1) o (4 * (sN S 7 o) + j)) o), true)) else x) else x
def raL (S : St) (o j : Nat) : IJP × Bool := it (ra1 S o) j (sA S, false)
theorem raL_s (S : St) (o j : Nat) : raL S o (j + 1) = ra1 S o j (raL S o j) := rfl
/-- all that an order needs is reserved, or nothing: whether, and the state behind -/
def raR (S : St) (o : Nat) : Bool := !(raL S o 4).2
def raS (S : St) (o : Nat) : St := sM S (if (raL S o 4).2 = true then (raL S o 4).1 else sA (uI (sM S (raL S o 4).1) 53 o 112))
theorem ra_stop {S : St} {o j : Nat} {a : IJP} (hj : j < 4) (h : raL S o (j + 1) = (a, true)) : (0 : Int32) = bI (raR S o) ∧ raS S o = sM S a := by
  have e : raL S o 4 = (a, true) := by
    rw [← h]
    exact it_stop (fun j x hx => by simp only [ra1, hx, if_true]) (by omega) (show (raL S o (j + 1)).2 = true by rw [h])
  rw [raR, raS, e]
  exact ⟨rfl, rfl⟩
theorem ra_end {S : St} {o : Nat} (h : (raL S o 4).2 = false) : (1 : Int32) = bI (raR S o) ∧ raS S o = uI (sM S (raL S o 4).1) 53 o 112 := by
  rw [raR, raS, h]
  exact ⟨rfl, rfl⟩
set_option maxHeartbeats 4000000 in
set_option maxRecDepth 100000 in
theorem c_X10_reserveAll (l : Launch) {D : va_G} {tA : Nat → ClassId} {S : St} {ad : Nat → Nat → Nat} {L : List Nat} {f : Nat → va_E} {sz : Nat} (hR : Rep tA S ad L f) (hW : WT S) {o : Nat} (ho : o < sN S 3 0) : Met l yX10_reserveAll (wsC yX10_reserveAll cX10_reserveAll 6 (some .boolean)) ({ frames := 4, cells := 0, slots := 0, locals := 91 }) (va_Pc [.ref (ad 0 0), .ref (ad 11 o)] (gZ D tA L f sz)) (va_Qi (fun (r : Int32) (u : gU) => r = bI (raR S o) ∧ raS S o = u.1 ∧ ad = u.2.1 ∧ L = u.2.2.1) (gE D tA (va_A (va_pl L f) sz)) (va_A (va_pl L f) sz)) 0 0 (va_A (va_pl L f) sz) := by
  refine Met.ofW (cc := cX10_reserveAll) (maxL := 6) (ret := (some .boolean)) (by decide) rfl ?_
  intro p e s m args below meth c s₁ B hml hv
  obtain ⟨rfl, hsz, hP, hK, hD0⟩ := hv
  have hx := B.exec
  have hb := B.bytes
  have hr := B.returns
  have hts := atoms_spec (ws := wsC yX10_reserveAll cX10_reserveAll 6 (some .boolean)) B.pre
  have hta : ∀ w ∈ WA, w.before _ s = true := fun w h => hts w (List.mem_cons_of_mem _ h)
  have hown : s.vm.findClass RX10 = some m.cls := findClass_of_methodNamed B.named
  have hlocks := B.notSynchronized
  subst hsz
  have hD : va_D (va_A (va_pl L f) s.heap.size) (va_pl L f) := hD0.self (sz := s.heap.size)
  generalize hAe : va_A (va_pl L f) s.heap.size = A at hD ⊢
  have hA : ∀ q : Nat, s.heap.size ≤ q → A q := fun q h => by rw [← hAe]; exact Or.inr h
  have hS : va_S A s.heap s.heap [] := va_S.rf
  have hP : va_P D vwCl (va_pl L f) s.heap := hP
  have hl := lv_entry ([.ref (ad 0 0), .ref (ad 11 o)]) (n := 6) (Nat.le_of_ble_eq_true rfl)
  rw [lg_entry_eq]
  generalize (lg_sl ([.ref (ad 0 0), .ref (ad 11 o)]) ++ List.replicate (6 - (lg_sl ([.ref (ad 0 0), .ref (ad 11 o)])).length) Slot.unset).toArray = ls at hl ⊢
  have hl : lv_has ls 6 [(0, .ref (ad 0 0)), (1, .ref (ad 11 o))] := hl
  refine lv_aload_n hx hb dX10_reserveAll_0 rfl (lv_at hl 1 rfl) ?_
  refine get_part_11 hx hb hta iwX7 hown hK hP hR ho (hta _ mw533) dX10_reserveAll_1 ?_
  refine get_components_2 hx hb hta iwX8 hown hK hP hR (hW.ordPart ho) (hta _ mw294) dX10_reserveAll_4 ?_
  refine lv_astore_n (lv' := [(2, .ref (ad 20 (sN S 7 o))), (0, .ref (ad 0 0)), (1, .ref (ad 11 o))]) hx hb dX10_reserveAll_7 rfl hl (by decide) rfl (fun ls hl => ?_)
  refine lv_aload_n hx hb dX10_reserveAll_8 rfl (lv_at hl 0 rfl) ?_
  refine len_components hx hb hK hP hR (hW.ordPart ho) dX10_reserveAll_9 ?_
  refine lv_istore_n (lv' := [(3, .int 4), (2, .ref (ad 20 (sN S 7 o))), (0, .ref (ad 0 0)), (1, .ref (ad 11 o))]) hx hb dX10_reserveAll_10 rfl hl (by decide) rfl (fun ls hl => ?_)
  refine lv_iconst (v := 0) hx hb dX10_reserveAll_11 (by decide) ?_
  refine lv_istore (lv' := [(4, .int 0), (3, .int 4), (2, .ref (ad 20 (sN S 7 o))), (0, .ref (ad 0 0)), (1, .ref (ad 11 o))]) hx hb dX10_reserveAll_12 hl (by decide) rfl (fun ls hl => ?_)
  refine loop_g (σ := Heap × List Loc × (Nat → va_E) × Array Slot) (Wg := fun z => W p l e _ s m _ below meth c z.1 z.2.1 _ _ _ (F0 m 14 z.2.2.2 [])) 4 (fun j9 z => va_P D vwCl (va_pl L z.2.2.1) z.1 ∧ va_D A (va_pl L z.2.2.1) ∧ va_S A s.heap z.1 z.2.1 ∧ Rep tA (sM S (raL S o j9).1) ad L z.2.2.1 ∧ lv_has z.2.2.2 6 [(0, .ref (ad 0 0)), (1, .ref (ad 11 o)), (2, .ref (ad 20 (sN S 7 o))), (3, .int 4), (4, .int (nI j9))] ∧ ((raL S o j9).2 = false)) (fun j9 hj1 ih2 z hz => ?_) (fun z hz => ?_) (_, _, f, ls) ⟨hP, hD, hS, hR, lv_sub hl [3, 4, 2, 1, 0] rfl, rfl⟩
  · skip
    obtain ⟨H, locs, f, ls⟩ := z
    obtain ⟨hP, hD, hS, hR, hl, hg9⟩ := hz
    dsimp only at hP hD hS hR hl ⊢
    refine lv_iload hx hb dX10_reserveAll_14 (lv_at hl 4 rfl) ?_
    refine lv_iload_n hx hb dX10_reserveAll_16 rfl (lv_at hl 3 rfl) ?_
    refine lv_icmp_ge (tgt := 67) hx hb dX10_reserveAll_17 (by decide) (fun c3 => ?_) (fun c3 => ?_)
    · exact absurd c3 (nI_ge (a := j9) (b := 4) hj1 (by decide))
    · skip
      refine lv_aload_n hx hb dX10_reserveAll_20 rfl (lv_at hl 2 rfl) ?_
      refine lv_iload hx hb dX10_reserveAll_21 (lv_at hl 4 rfl) ?_
      refine ldn_components hx hb hK hP hR (hW.ordPart ho) hj1 dX10_reserveAll_23 (fun h4 => ?_) (fun h4 => ?_)
      · skip
        refine lv_astore (lv' := [(5, .ref (ad 4 (4 * (sN S 7 o) + j9))), (0, .ref (ad 0 0)), (1, .ref (ad 11 o)), (2, .ref (ad 20 (sN S 7 o))), (3, .int 4), (4, .int (nI j9))]) hx hb dX10_reserveAll_24 hl (by decide) rfl (fun ls hl => ?_)
        refine lv_aload hx hb dX10_reserveAll_26 (lv_at hl 0 rfl) ?_
        refine lv_ifnull hx hb dX10_reserveAll_28 ?_
        refine lv_aload hx hb dX10_reserveAll_31 (lv_at hl 0 rfl) ?_
        refine lv_aload_n hx hb dX10_reserveAll_33 rfl (lv_at hl 2 rfl) ?_
        refine get_option_11 hx hb hta iwX7 hown hK hP hR ho (hta _ mw537) dX10_reserveAll_34 ?_
        obtain ⟨q5, e6⟩ := cell_4 hR (vcomp hW (hW.ordPart ho) h4)
        refine gro_i (ci := 3) (As := [.int (sI (sM S (raL S o j9).1) 51 o)]) (rest := []) ⟨hx, hb, hml, hown, hta⟩ (c_X1_isFor l hR (vcomp hW (hW.ordPart ho) h4) (sI (sM S (raL S o j9).1) 51 o)) (cwV 1 hta (gWV mw700 mw701 mw702 mw55 mw703) rfl rfl rfl (by decide +kernel) ⟨Nat.le_of_ble_eq_true rfl, Nat.le_of_ble_eq_true rfl⟩) hK hP hD rfl e6 rfl hl.1 rfl (Nat.le_of_ble_eq_true rfl) dX10_reserveAll_37 ⟨Nat.zero_le _, Nat.zero_le _⟩ (fun r7 c8 => ?_)
        obtain rfl := c8
        refine lv_if_eq (tgt := 61) hx hb dX10_reserveAll_40 (by decide) (fun c9 => ?_) (fun c9 => ?_)
        · skip
          have c9 := bI_f c9
          refine lv_iinc (v := nI (j9 + 1)) (lv' := [(4, .int (nI (j9 + 1))), (5, .ref (ad 4 (4 * (sN S 7 o) + j9))), (0, .ref (ad 0 0)), (1, .ref (ad 11 o)), (2, .ref (ad 20 (sN S 7 o))), (3, .int 4)]) hx hb dX10_reserveAll_61 hl (k := 5) rfl (nI_1 _) (by decide) rfl (fun ls hl => ?_)
          refine lv_goto (tgt := 14) hx hb dX10_reserveAll_64 (by decide) ?_
          refine ih2 (_, _, f, ls) ⟨hP, hD, hS, ?_, ?_, (by rw [raL_s]; simp only [ra1, hg9, Bool.false_eq_true, if_true, if_false, if_pos h4, c9]; try rfl)⟩
          · have a9 : sM S (raL S o (j9 + 1)).1 = (sM S (raL S o j9).1) := (by rw [raL_s]; simp only [ra1, hg9, Bool.false_eq_true, if_true, if_false, if_pos h4, c9]; try rfl)
            rw [a9]; exact hR
          exact lv_sub hl [2, 3, 4, 5, 0] rfl
        · skip
          have c9 := bI_t c9
          refine lv_aload_n hx hb dX10_reserveAll_43 rfl (lv_at hl 1 rfl) ?_
          refine lv_aload_n hx hb dX10_reserveAll_44 rfl (lv_at hl 2 rfl) ?_
          refine lv_aload hx hb dX10_reserveAll_45 (lv_at hl 0 rfl) ?_
          obtain ⟨q10, e11⟩ := cell_0 hR (rfl : (0 : Nat) = 0)
          refine gwr_i (mc := 0) (ms := 0) (ci := 12) (As := [.ref (ad 11 o), .ref (ad 4 (4 * (sN S 7 o) + j9))]) (rest := []) ⟨hx, hb, hml, hown, hta⟩ (c_X10_reserve l hR hW ho (vcomp hW (hW.ordPart ho) h4)) (cwV 2 hta (gWV mw704 mw705 mw32 mw40 mw706) rfl rfl rfl (by decide +kernel) ⟨Nat.le_of_ble_eq_true rfl, Nat.le_of_ble_eq_true rfl⟩) hK hP hD hS hA rfl e11 rfl hl.1 rfl (Nat.le_of_ble_eq_true rfl) dX10_reserveAll_47 ⟨Nat.zero_le _, Nat.zero_le _⟩ (fun r12 u H locs hw hR hP hD hS => ?_)
          obtain ⟨S9, ad9, L9, f⟩ := u
          obtain ⟨rfl, rfl, rfl, rfl⟩ := hw
          dsimp only at hR hP hD
          refine lv_if_ne (tgt := 61) hx hb dX10_reserveAll_50 (by decide) (fun c13 => ?_) (fun c13 => ?_)
          · skip
            have c13 := bI_t c13
            refine lv_iinc (v := nI (j9 + 1)) (lv' := [(4, .int (nI (j9 + 1))), (5, .ref (ad 4 (4 * (sN S 7 o) + j9))), (0, .ref (ad 0 0)), (1, .ref (ad 11 o)), (2, .ref (ad 20 (sN S 7 o))), (3, .int 4)]) hx hb dX10_reserveAll_61 hl (k := 5) rfl (nI_1 _) (by decide) rfl (fun ls hl => ?_)
            refine lv_goto (tgt := 14) hx hb dX10_reserveAll_64 (by decide) ?_
            refine ih2 (_, _, f, ls) ⟨hP, hD, hS, ?_, ?_, (by rw [raL_s]; simp only [ra1, hg9, Bool.false_eq_true, if_true, if_false, if_pos h4, c9, c13]; try rfl)⟩
            · have a9 : sM S (raL S o (j9 + 1)).1 = (rsS ((sM S (raL S o j9).1)) o (4 * (sN S 7 o) + j9)) := (by rw [raL_s]; simp only [ra1, hg9, Bool.false_eq_true, if_true, if_false, if_pos h4, c9, c13]; try rfl)
              rw [a9]; exact hR
            exact lv_sub hl [2, 3, 4, 5, 0] rfl
          · skip
            have c13 := bI_f c13
            refine lv_aload_n hx hb dX10_reserveAll_53 rfl (lv_at hl 1 rfl) ?_
            refine lv_aload_n hx hb dX10_reserveAll_54 rfl (lv_at hl 2 rfl) ?_
            obtain ⟨q14, e15⟩ := cell_0 hR (rfl : (0 : Nat) = 0)
            refine gwr_i (mc := 0) (ms := 0) (ci := 12) (As := [.ref (ad 11 o)]) (rest := []) ⟨hx, hb, hml, hown, hta⟩ (c_X10_dropPromise l hR hW ho) (cwV 1 hta (gWV mw465 mw466 mw19 mw40 mw467) rfl rfl rfl (by decide +kernel) ⟨Nat.le_of_ble_eq_true rfl, Nat.le_of_ble_eq_true rfl⟩) hK hP hD hS hA rfl e15 rfl hl.1 rfl (Nat.le_of_ble_eq_true rfl) dX10_reserveAll_55 ⟨Nat.zero_le _, Nat.zero_le _⟩ (fun r16 u H locs hw hR hP hD hS => ?_)
            obtain ⟨S9, ad9, L9, f⟩ := u
            obtain ⟨rfl, rfl, rfl, rfl⟩ := hw
            dsimp only at hR hP hD
            refine lv_pop hx hb dX10_reserveAll_58 rfl ?_
            refine lv_iconst (v := 0) hx hb dX10_reserveAll_59 (by decide) ?_
            exact W.zret (v := 0) (ty := .boolean) hx hb hr (by decide) (fun t ht hWm => gend_i (u := ((dpS ((rsS ((sM S (raL S o j9).1)) o (4 * (sN S 7 o) + j9))) o), ad, L, f)) ⟨(ra_stop (S := S) (o := o) (a := sA ((dpS ((rsS ((sM S (raL S o j9).1)) o (4 * (sN S 7 o) + j9))) o))) hj1 (by rw [raL_s]; simp only [ra1, hg9, Bool.false_eq_true, if_true, if_false, if_pos h4, c9, c13]; (try rfl))).1, (ra_stop (S := S) (o := o) (a := sA ((dpS ((rsS ((sM S (raL S o j9).1)) o (4 * (sN S 7 o) + j9))) o))) hj1 (by rw [raL_s]; simp only [ra1, hg9, Bool.false_eq_true, if_true, if_false, if_pos h4, c9, c13]; (try rfl))).2, rfl, rfl⟩ hR hP hK hD hS ht hWm) hS.2.2 dX10_reserveAll_60
      · skip
        refine lv_astoreN (lv' := [(5, .null), (0, .ref (ad 0 0)), (1, .ref (ad 11 o)), (2, .ref (ad 20 (sN S 7 o))), (3, .int 4), (4, .int (nI j9))]) hx hb dX10_reserveAll_24 hl (by decide) rfl (fun ls hl => ?_)
        refine lv_aloadN hx hb dX10_reserveAll_26 (lv_at hl 0 rfl) ?_
        refine lv_ifnullN (tgt := 61) hx hb dX10_reserveAll_28 (by decide) ?_
        refine lv_iinc (v := nI (j9 + 1)) (lv' := [(4, .int (nI (j9 + 1))), (5, .null), (0, .ref (ad 0 0)), (1, .ref (ad 11 o)), (2, .ref (ad 20 (sN S 7 o))), (3, .int 4)]) hx hb dX10_reserveAll_61 hl (k := 5) rfl (nI_1 _) (by decide) rfl (fun ls hl => ?_)
        refine lv_goto (tgt := 14) hx hb dX10_reserveAll_64 (by decide) ?_
        refine ih2 (_, _, f, ls) ⟨hP, hD, hS, ?_, ?_, (by rw [raL_s]; simp only [ra1, hg9, Bool.false_eq_true, if_true, if_false, if_neg h4]; try rfl)⟩
        · have a9 : sM S (raL S o (j9 + 1)).1 = (sM S (raL S o j9).1) := (by rw [raL_s]; simp only [ra1, hg9, Bool.false_eq_true, if_true, if_false, if_neg h4]; try rfl)
          rw [a9]; exact hR
        exact lv_sub hl [2, 3, 4, 5, 0] rfl
  · skip
    obtain ⟨H, locs, f, ls⟩ := z
    obtain ⟨hP, hD, hS, hR, hl, hg9⟩ := hz
    dsimp only at hP hD hS hR hl ⊢
    refine lv_iload hx hb dX10_reserveAll_14 (lv_at hl 4 rfl) ?_
    refine lv_iload_n hx hb dX10_reserveAll_16 rfl (lv_at hl 3 rfl) ?_
    refine lv_icmp_ge (tgt := 67) hx hb dX10_reserveAll_17 (by decide) (fun c17 => ?_) (fun c17 => ?_)
    · skip
      refine lv_aload_n hx hb dX10_reserveAll_67 rfl (lv_at hl 1 rfl) ?_
      refine lv_bipush (v := 112) hx hb dX10_reserveAll_68 (by decide) ?_
      refine put_state_11 (v := (112 : Int32)) hx hb hta iwX7 hown hK hP hD hS hR ho (hta _ mw546) (by decide) (by decide) dX10_reserveAll_70 (fun H locs f hP hD hS hR => ?_)
      refine lv_iconst (v := 1) hx hb dX10_reserveAll_73 (by decide) ?_
      exact W.zret (v := 1) (ty := .boolean) hx hb hr (by decide) (fun t ht hWm => gend_i (u := (uI ((sM S (raL S o 4).1)) 53 o 112, ad, L, f)) ⟨(ra_end hg9).1, (ra_end hg9).2, rfl, rfl⟩ hR hP hK hD hS ht hWm) hS.2.2 dX10_reserveAll_74
    · exact absurd (nI_le (a := 4) (b := 4) (Nat.le_refl _) (by decide)) c17

def trT (T : St) (o j : Nat) : St := uI T 42 j (sI T 42 j - sP T o j)
def tr1 (S : St) (o j : Nat) (x : IJP) : IJP := if j < sN S 2 0 then sA (uJ (tkS (trT (sM S x) o j) j (sP (sM S x) o j)) 5 o (sJ (sM S x) 5 o + tkC (trT (sM S x) o j) j (sP (sM S x) o j))) else x
def trL (S : St) (o j : Nat) : IJP := it (tr1 S o) j (sA S)
theorem trL_s (S : St) (o j : Nat) : trL S o (j + 1) = tr1 S o j (trL S o j) := rfl
/-- the reserved pieces of an order are taken for its job -/
abbrev trS (S : St) (o : Nat) : St := uI (sM S (trL S o 90)) 60 o (sI (sM S (trL S o 90)) 50 o)
set_option maxHeartbeats 4000000 in
set_option maxRecDepth 100000 in
theorem c_X10_takeReserved (l : Launch) {D : va_G} {tA : Nat → ClassId} {S : St} {ad : Nat → Nat → Nat} {L : List Nat} {f : Nat → va_E} {sz : Nat} (hR : Rep tA S ad L f) (hW : WT S) {o : Nat} (ho : o < sN S 3 0) : Met l yX10_takeReserved (wsC yX10_takeReserved cX10_takeReserved 7 none) ({ frames := 1, cells := 0, slots := 0, locals := 23 }) (va_Pc [.ref (ad 0 0), .ref (ad 11 o)] (gZ D tA L f sz)) (va_Qv (fun (u : gU) => trS S o = u.1 ∧ ad = u.2.1 ∧ L = u.2.2.1) (gE D tA (va_A (va_pl L f) sz)) (va_A (va_pl L f) sz)) 0 0 (va_A (va_pl L f) sz) := by
  refine Met.ofW (cc := cX10_takeReserved) (maxL := 7) (ret := none) (by decide) rfl ?_
  intro p e s m args below meth c s₁ B hml hv
  obtain ⟨rfl, hsz, hP, hK, hD0⟩ := hv
  have hx := B.exec
  have hb := B.bytes
  have hr := B.returns
  have hts := atoms_spec (ws := wsC yX10_takeReserved cX10_takeReserved 7 none) B.pre
  have hta : ∀ w ∈ WA, w.before _ s = true := fun w h => hts w (List.mem_cons_of_mem _ h)
  have hown : s.vm.findClass RX10 = some m.cls := findClass_of_methodNamed B.named
  have hlocks := B.notSynchronized
  subst hsz
  have hD : va_D (va_A (va_pl L f) s.heap.size) (va_pl L f) := hD0.self (sz := s.heap.size)
  generalize hAe : va_A (va_pl L f) s.heap.size = A at hD ⊢
  have hA : ∀ q : Nat, s.heap.size ≤ q → A q := fun q h => by rw [← hAe]; exact Or.inr h
  have hS : va_S A s.heap s.heap [] := va_S.rf
  have hP : va_P D vwCl (va_pl L f) s.heap := hP
  have hl := lv_entry ([.ref (ad 0 0), .ref (ad 11 o)]) (n := 7) (Nat.le_of_ble_eq_true rfl)
  rw [lg_entry_eq]
  generalize (lg_sl ([.ref (ad 0 0), .ref (ad 11 o)]) ++ List.replicate (7 - (lg_sl ([.ref (ad 0 0), .ref (ad 11 o)])).length) Slot.unset).toArray = ls at hl ⊢
  have hl : lv_has ls 7 [(0, .ref (ad 0 0)), (1, .ref (ad 11 o))] := hl
  refine lv_aload_n hx hb dX10_takeReserved_0 rfl (lv_at hl 0 rfl) ?_
  refine get_lots_0 hx hb hta iwX10 hown hK hP hR (rfl : (0 : Nat) = 0) (hta _ mw99) dX10_takeReserved_1 ?_
  refine lv_astore_n (lv' := [(2, .ref (ad 18 0)), (0, .ref (ad 0 0)), (1, .ref (ad 11 o))]) hx hb dX10_takeReserved_4 rfl hl (by decide) rfl (fun ls hl => ?_)
  refine lv_aload_n hx hb dX10_takeReserved_5 rfl (lv_at hl 0 rfl) ?_
  refine len_lots hx hb hK hP hR (rfl : (0 : Nat) = 0) dX10_takeReserved_6 ?_
  refine lv_istore_n (lv' := [(3, .int 90), (2, .ref (ad 18 0)), (0, .ref (ad 0 0)), (1, .ref (ad 11 o))]) hx hb dX10_takeReserved_7 rfl hl (by decide) rfl (fun ls hl => ?_)
  refine lv_iconst (v := 0) hx hb dX10_takeReserved_8 (by decide) ?_
  refine lv_istore (lv' := [(4, .int 0), (3, .int 90), (2, .ref (ad 18 0)), (0, .ref (ad 0 0)), (1, .ref (ad 11 o))]) hx hb dX10_takeReserved_9 hl (by decide) rfl (fun ls hl => ?_)
  refine loop_g (σ := Heap × List Loc × (Nat → va_E) × Array Slot) (Wg := fun z => W p l e _ s m _ below meth c z.1 z.2.1 _ _ _ (F0 m 11 z.2.2.2 [])) 90 (fun j1 z => va_P D vwCl (va_pl L z.2.2.1) z.1 ∧ va_D A (va_pl L z.2.2.1) ∧ va_S A s.heap z.1 z.2.1 ∧ Rep tA (sM S (trL S o j1)) ad L z.2.2.1 ∧ lv_has z.2.2.2 7 [(0, .ref (ad 0 0)), (1, .ref (ad 11 o)), (2, .ref (ad 18 0)), (3, .int 90), (4, .int (nI j1))]) (fun j1 hj2 ih3 z hz => ?_) (fun z hz => ?_) (_, _, f, ls) ⟨hP, hD, hS, hR, lv_sub hl [3, 4, 2, 1, 0] rfl⟩
  · skip
    obtain ⟨H, locs, f, ls⟩ := z
    obtain ⟨hP, hD, hS, hR, hl⟩ := hz
    dsimp only at hP hD hS hR hl ⊢
    refine lv_iload hx hb dX10_takeReserved_11 (lv_at hl 4 rfl) ?_
    refine lv_iload_n hx hb dX10_takeReserved_13 rfl (lv_at hl 3 rfl) ?_
    refine lv_icmp_ge (tgt := 73) hx hb dX10_takeReserved_14 (by decide) (fun c4 => ?_) (fun c4 => ?_)
    · exact absurd c4 (nI_ge (a := j1) (b := 90) hj2 (by decide))
    · skip
      refine lv_aload_n hx hb dX10_takeReserved_17 rfl (lv_at hl 2 rfl) ?_
      refine lv_iload hx hb dX10_takeReserved_18 (lv_at hl 4 rfl) ?_
      refine ldn_lots hx hb hK hP hR (rfl : (0 : Nat) = 0) hj2 dX10_takeReserved_20 (fun h5 => ?_) (fun h5 => ?_)
      · skip
        refine lv_astore (lv' := [(5, .ref (ad 7 j1)), (0, .ref (ad 0 0)), (1, .ref (ad 11 o)), (2, .ref (ad 18 0)), (3, .int 90), (4, .int (nI j1))]) hx hb dX10_takeReserved_21 hl (by decide) rfl (fun ls hl => ?_)
        refine lv_aload hx hb dX10_takeReserved_23 (lv_at hl 0 rfl) ?_
        refine lv_ifnull hx hb dX10_takeReserved_25 ?_
        refine lv_aload_n hx hb dX10_takeReserved_28 rfl (lv_at hl 2 rfl) ?_
        refine lv_aload hx hb dX10_takeReserved_29 (lv_at hl 0 rfl) ?_
        obtain ⟨q6, e7⟩ := cell_11 hR ho
        refine gro_i (ci := 9) (As := [.ref (ad 7 j1)]) (rest := []) ⟨hx, hb, hml, hown, hta⟩ (c_X7_piecesOf l hR hW h5 ho) (cwV 1 hta (gWV mw170 mw171 mw172 mw59 mw173) rfl rfl rfl (by decide +kernel) ⟨Nat.le_of_ble_eq_true rfl, Nat.le_of_ble_eq_true rfl⟩) hK hP hD rfl e7 rfl hl.1 rfl (Nat.le_of_ble_eq_true rfl) dX10_takeReserved_31 ⟨Nat.zero_le _, Nat.zero_le _⟩ (fun r8 c9 => ?_)
        obtain rfl := c9
        refine lv_istore (lv' := [(6, .int (sP ((sM S (trL S o j1))) o j1)), (5, .ref (ad 7 j1)), (0, .ref (ad 0 0)), (1, .ref (ad 11 o)), (2, .ref (ad 18 0)), (3, .int 90), (4, .int (nI j1))]) hx hb dX10_takeReserved_34 hl (by decide) rfl (fun ls hl => ?_)
        refine lv_aload hx hb dX10_takeReserved_36 (lv_at hl 1 rfl) ?_
        refine lv_dup hx hb dX10_takeReserved_38 rfl ?_
        refine get_reserved_7 hx hb hta iwX3 hown hK hP hR h5 (hta _ mw422) dX10_takeReserved_39 ?_
        refine lv_iload hx hb dX10_takeReserved_42 (lv_at hl 0 rfl) ?_
        refine lv_isub hx hb dX10_takeReserved_44 ?_
        refine put_reserved_7 (v := ((sI (sM S (trL S o j1)) 42 j1) - (sP ((sM S (trL S o j1))) o j1) : Int32)) hx hb hta iwX3 hown hK hP hD hS hR h5 (hta _ mw422) dX10_takeReserved_45 (fun H locs f hP hD hS hR => ?_)
        refine lv_aload_n hx hb dX10_takeReserved_48 rfl (lv_at hl 3 rfl) ?_
        refine get_job_11 hx hb hta iwX7 hown hK hP hR ho (hta _ mw541) dX10_takeReserved_49 ?_
        refine lv_dup hx hb dX10_takeReserved_52 rfl ?_
        refine get_cost_12 hx hb hta iwX2 hown hK hP hR ho (hta _ mw524) dX10_takeReserved_53 ?_
        refine lv_aload hx hb dX10_takeReserved_56 (lv_at hl 1 rfl) ?_
        refine lv_iload hx hb dX10_takeReserved_58 (lv_at hl 0 rfl) ?_
        obtain ⟨q10, e11⟩ := cell_7 hR h5
        refine gwr_l (mc := 0) (ms := 0) (ci := 5) (As := [.int (sP ((sM S (trL S o j1))) o j1)]) (rest := [.long (sJ (sM S (trL S o j1)) 5 o), .ref (ad 12 o)]) ⟨hx, hb, hml, hown, hta⟩ (c_X3_take l hR h5 (sP ((sM S (trL S o j1))) o j1)) (cwV 1 hta (gWV mw720 mw721 mw722 mw57 mw723) rfl rfl rfl (by decide +kernel) ⟨Nat.le_of_ble_eq_true rfl, Nat.le_of_ble_eq_true rfl⟩) hK hP hD hS hA rfl e11 rfl hl.1 rfl (Nat.le_of_ble_eq_true rfl) dX10_takeReserved_60 ⟨Nat.zero_le _, Nat.zero_le _⟩ (fun r12 u H locs hw hR hP hD hS => ?_)
        obtain ⟨S9, ad9, L9, f⟩ := u
        obtain ⟨rfl, rfl, rfl, rfl⟩ := hw
        dsimp only at hR hP hD
        refine lv_ladd hx hb dX10_takeReserved_63 ?_
        refine put_cost_12 (v := ((sJ (sM S (trL S o j1)) 5 o) + (tkC (uI ((sM S (trL S o j1))) 42 j1 ((sI (sM S (trL S o j1)) 42 j1) - (sP ((sM S (trL S o j1))) o j1))) j1 (sP ((sM S (trL S o j1))) o j1)) : Int64)) hx hb hta iwX2 hown hK hP hD hS hR ho (hta _ mw524) dX10_takeReserved_64 (fun H locs f hP hD hS hR => ?_)
        refine lv_iinc (v := nI (j1 + 1)) (lv' := [(4, .int (nI (j1 + 1))), (6, .int (sP ((sM S (trL S o j1))) o j1)), (5, .ref (ad 7 j1)), (0, .ref (ad 0 0)), (1, .ref (ad 11 o)), (2, .ref (ad 18 0)), (3, .int 90)]) hx hb dX10_takeReserved_67 hl (k := 6) rfl (nI_1 _) (by decide) rfl (fun ls hl => ?_)
        refine lv_goto (tgt := 11) hx hb dX10_takeReserved_70 (by decide) ?_
        refine ih3 (_, _, f, ls) ⟨hP, hD, hS, ?_, ?_⟩
        · have a9 : sM S (trL S o (j1 + 1)) = uJ ((tkS (uI ((sM S (trL S o j1))) 42 j1 ((sI (sM S (trL S o j1)) 42 j1) - (sP ((sM S (trL S o j1))) o j1))) j1 (sP ((sM S (trL S o j1))) o j1))) 5 o ((sJ (sM S (trL S o j1)) 5 o) + (tkC (uI ((sM S (trL S o j1))) 42 j1 ((sI (sM S (trL S o j1)) 42 j1) - (sP ((sM S (trL S o j1))) o j1))) j1 (sP ((sM S (trL S o j1))) o j1))) := (by rw [trL_s]; simp only [tr1, if_pos h5]; try rfl)
          rw [a9]; exact hR
        exact lv_sub hl [3, 4, 5, 6, 0] rfl
      · skip
        refine lv_astoreN (lv' := [(5, .null), (0, .ref (ad 0 0)), (1, .ref (ad 11 o)), (2, .ref (ad 18 0)), (3, .int 90), (4, .int (nI j1))]) hx hb dX10_takeReserved_21 hl (by decide) rfl (fun ls hl => ?_)
        refine lv_aloadN hx hb dX10_takeReserved_23 (lv_at hl 0 rfl) ?_
        refine lv_ifnullN (tgt := 67) hx hb dX10_takeReserved_25 (by decide) ?_
        refine lv_iinc (v := nI (j1 + 1)) (lv' := [(4, .int (nI (j1 + 1))), (5, .null), (0, .ref (ad 0 0)), (1, .ref (ad 11 o)), (2, .ref (ad 18 0)), (3, .int 90)]) hx hb dX10_takeReserved_67 hl (k := 5) rfl (nI_1 _) (by decide) rfl (fun ls hl => ?_)
        refine lv_goto (tgt := 11) hx hb dX10_takeReserved_70 (by decide) ?_
        refine ih3 (_, _, f, ls) ⟨hP, hD, hS, ?_, ?_⟩
        · have a9 : sM S (trL S o (j1 + 1)) = (sM S (trL S o j1)) := (by rw [trL_s]; simp only [tr1, if_neg h5]; try rfl)
          rw [a9]; exact hR
        exact lv_sub hl [2, 3, 4, 5, 0] rfl
  · skip
    obtain ⟨H, locs, f, ls⟩ := z
    obtain ⟨hP, hD, hS, hR, hl⟩ := hz
    dsimp only at hP hD hS hR hl ⊢
    refine lv_iload hx hb dX10_takeReserved_11 (lv_at hl 4 rfl) ?_
    refine lv_iload_n hx hb dX10_takeReserved_13 rfl (lv_at hl 3 rfl) ?_
    refine lv_icmp_ge (tgt := 73) hx hb dX10_takeReserved_14 (by decide) (fun c13 => ?_) (fun c13 => ?_)
    · skip
      refine lv_aload_n hx hb dX10_takeReserved_73 rfl (lv_at hl 1 rfl) ?_
      refine get_job_11 hx hb hta iwX7 hown hK hP hR ho (hta _ mw541) dX10_takeReserved_74 ?_
      refine lv_aload_n hx hb dX10_takeReserved_77 rfl (lv_at hl 1 rfl) ?_
      refine get_quantity_11 hx hb hta iwX7 hown hK hP hR ho (hta _ mw535) dX10_takeReserved_78 ?_
      refine put_pieces_12 (v := (sI (sM S (trL S o 90)) 50 o : Int32)) hx hb hta iwX2 hown hK hP hD hS hR ho (hta _ mw517) dX10_takeReserved_81 (fun H locs f hP hD hS hR => ?_)
      exact W.vret hx hb hr (fun t ht hWm => gend_v (u := (uI ((sM S (trL S o 90))) 60 o (sI (sM S (trL S o 90)) 50 o), ad, L, f)) ⟨rfl, rfl, rfl⟩ hR hP hK hD hS ht hWm) hS.2.2 dX10_takeReserved_84
    · exact absurd (nI_le (a := 90) (b := 90) (Nat.le_refl _) (by decide)) c13

