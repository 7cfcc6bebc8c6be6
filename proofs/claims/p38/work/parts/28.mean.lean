/-! meanBusy (made by wip/gen/spec_o.py) -/
def mb1 (S : St) (j : Nat) (a : Int64) : Int64 := if j < sN S 0 0 then a + (buN S j (sI S 2 0)).toInt64 else a
def mbL (S : St) (j : Nat) : Int64 := it (mb1 S) j 0
theorem mbL_s (S : St) (j : Nat) : mbL S (j + 1) = mb1 S j (mbL S j) := rfl
/-- the mean of the busy times, as a double's bits -/
def mbD (S : St) : UInt64 := FP.ddiv (FP.l2d (mbL S 5)) (FP.i2d (nI (sN S 0 0)))
set_option maxHeartbeats 4000000 in
set_option maxRecDepth 100000 in
theorem c_X10_meanBusy (l : Launch) {D : va_G} {tA : Nat → ClassId} {S : St} {ad : Nat → Nat → Nat} {L : List Nat} {f : Nat → va_E} (hR : Rep tA S ad L f) (hW : WT S) (hz : ¬ nI (sN S 0 0) = 0) (hne : vf_n64 (FP.ddiv (FP.l2d (mbL S 5)) (FP.i2d (nI (sN S 0 0))))) : Met l yX10_meanBusy (wsC yX10_meanBusy cX10_meanBusy 7 (some .double)) ({ frames := 1, cells := 0, slots := 0, locals := 21 }) (va_Pc [.ref (ad 0 0)] (gB D tA L f)) (vp_Sd (fun r => r = mbD S)) 0 0 (fun _ => False) := by
  refine Met.ofW (cc := cX10_meanBusy) (maxL := 7) (ret := (some .double)) (by decide) rfl ?_
  intro p e s m args below meth c s₁ B hml hv
  obtain ⟨rfl, hP, hK, hD⟩ := hv
  have hx := B.exec
  have hb := B.bytes
  have hr := B.returns
  have hts := atoms_spec (ws := wsC yX10_meanBusy cX10_meanBusy 7 (some .double)) B.pre
  have hta : ∀ w ∈ WA, w.before _ s = true := fun w h => hts w (List.mem_cons_of_mem _ h)
  have hown : s.vm.findClass RX10 = some m.cls := findClass_of_methodNamed B.named
  have hlocks := B.notSynchronized
  have hP : va_P D vwCl (va_pl L f) s.heap := hP
  have hl := lv_entry ([.ref (ad 0 0)]) (n := 7) (Nat.le_of_ble_eq_true rfl)
  rw [lg_entry_eq]
  generalize (lg_sl ([.ref (ad 0 0)]) ++ List.replicate (7 - (lg_sl ([.ref (ad 0 0)])).length) Slot.unset).toArray = ls at hl ⊢
  have hl : lv_has ls 7 [(0, .ref (ad 0 0))] := hl
  refine lv_aload_n hx hb dX10_meanBusy_0 rfl (lv_at hl 0 rfl) ?_
  refine get_machineCount_0 hx hb hta iwX10 hown hK hP hR (rfl : (0 : Nat) = 0) (hta _ mw102) dX10_meanBusy_1 ?_
  refine lv_if_ne (tgt := 18) hx hb dX10_meanBusy_4 (by decide) (fun c1 => ?_) (fun c1 => ?_)
  · skip
    refine lv_lconst (v := 0) hx hb dX10_meanBusy_18 (by decide) ?_
    refine lv_lstore_n (lv' := [(1, .long 0), (0, .ref (ad 0 0))]) hx hb dX10_meanBusy_19 rfl hl (by decide) rfl (fun ls hl => ?_)
    refine lv_aload_n hx hb dX10_meanBusy_20 rfl (lv_at hl 1 rfl) ?_
    refine get_machines_0 hx hb hta iwX10 hown hK hP hR (rfl : (0 : Nat) = 0) (hta _ mw96) dX10_meanBusy_21 ?_
    refine lv_astore_n (lv' := [(3, .ref (ad 15 0)), (1, .long 0), (0, .ref (ad 0 0))]) hx hb dX10_meanBusy_24 rfl hl (by decide) rfl (fun ls hl => ?_)
    refine lv_aload_n hx hb dX10_meanBusy_25 rfl (lv_at hl 0 rfl) ?_
    refine len_machines hx hb hK hP hR (rfl : (0 : Nat) = 0) dX10_meanBusy_26 ?_
    refine lv_istore (lv' := [(4, .int 5), (3, .ref (ad 15 0)), (1, .long 0), (0, .ref (ad 0 0))]) hx hb dX10_meanBusy_27 hl (by decide) rfl (fun ls hl => ?_)
    refine lv_iconst (v := 0) hx hb dX10_meanBusy_29 (by decide) ?_
    refine lv_istore (lv' := [(5, .int 0), (4, .int 5), (3, .ref (ad 15 0)), (1, .long 0), (0, .ref (ad 0 0))]) hx hb dX10_meanBusy_30 hl (by decide) rfl (fun ls hl => ?_)
    refine loop_g (σ := Array Slot) (Wg := fun ls => W p l e _ s m _ below meth c _ _ _ _ _ (F0 m 32 ls [])) 5 (fun j2 ls => lv_has ls 7 [(0, .ref (ad 0 0)), (1, .long (mbL S j2)), (3, .ref (ad 15 0)), (4, .int 5), (5, .int (nI j2))]) (fun j2 hj3 ih4 ls hl => ?_) (fun ls hl => ?_) ls (lv_sub hl [4, 3, 2, 1, 0] rfl)
    · skip
      refine lv_iload hx hb dX10_meanBusy_32 (lv_at hl 4 rfl) ?_
      refine lv_iload hx hb dX10_meanBusy_34 (lv_at hl 3 rfl) ?_
      refine lv_icmp_ge (tgt := 69) hx hb dX10_meanBusy_36 (by decide) (fun c5 => ?_) (fun c5 => ?_)
      · exact absurd c5 (nI_ge (a := j2) (b := 5) hj3 (by decide))
      · skip
        refine lv_aload_n hx hb dX10_meanBusy_39 rfl (lv_at hl 2 rfl) ?_
        refine lv_iload hx hb dX10_meanBusy_40 (lv_at hl 4 rfl) ?_
        refine ldn_machines hx hb hK hP hR (rfl : (0 : Nat) = 0) hj3 dX10_meanBusy_42 (fun h6 => ?_) (fun h6 => ?_)
        · skip
          refine lv_astore (lv' := [(6, .ref (ad 1 j2)), (0, .ref (ad 0 0)), (1, .long (mbL S j2)), (3, .ref (ad 15 0)), (4, .int 5), (5, .int (nI j2))]) hx hb dX10_meanBusy_43 hl (by decide) rfl (fun ls hl => ?_)
          refine lv_aload hx hb dX10_meanBusy_45 (lv_at hl 0 rfl) ?_
          refine lv_ifnull hx hb dX10_meanBusy_47 ?_
          refine lv_lload_n hx hb dX10_meanBusy_50 rfl (lv_at hl 2 rfl) ?_
          refine lv_aload hx hb dX10_meanBusy_51 (lv_at hl 0 rfl) ?_
          refine lv_aload_n hx hb dX10_meanBusy_53 rfl (lv_at hl 1 rfl) ?_
          refine get_now_0 hx hb hta iwX10 hown hK hP hR (rfl : (0 : Nat) = 0) (hta _ mw107) dX10_meanBusy_54 ?_
          obtain ⟨q7, e8⟩ := cell_1 hR h6
          refine gro_i (ci := 6) (As := [.int (sI S 2 0)]) (rest := [.long (mbL S j2)]) ⟨hx, hb, hml, hown, hta⟩ (c_X4_busyUntil l hR hW h6 (sI S 2 0)) (cwV 1 hta (gWV mw156 mw157 mw158 mw48 mw159) rfl rfl rfl (by decide +kernel) ⟨Nat.le_of_ble_eq_true rfl, Nat.le_of_ble_eq_true rfl⟩) hK hP hD rfl e8 rfl hl.1 rfl (Nat.le_of_ble_eq_true rfl) dX10_meanBusy_57 ⟨Nat.zero_le _, Nat.zero_le _⟩ (fun r9 c10 => ?_)
          obtain rfl := c10
          refine lv_i2l (v := (buN S j2 (sI S 2 0)).toInt64) hx hb dX10_meanBusy_60 rfl ?_
          refine lv_ladd hx hb dX10_meanBusy_61 ?_
          refine lv_lstore_n (lv' := [(1, .long ((mbL S j2) + ((buN S j2 (sI S 2 0)).toInt64))), (6, .ref (ad 1 j2)), (0, .ref (ad 0 0)), (3, .ref (ad 15 0)), (4, .int 5), (5, .int (nI j2))]) hx hb dX10_meanBusy_62 rfl hl (by decide) rfl (fun ls hl => ?_)
          refine lv_iinc (v := nI (j2 + 1)) (lv' := [(5, .int (nI (j2 + 1))), (1, .long ((mbL S j2) + ((buN S j2 (sI S 2 0)).toInt64))), (6, .ref (ad 1 j2)), (0, .ref (ad 0 0)), (3, .ref (ad 15 0)), (4, .int 5)]) hx hb dX10_meanBusy_63 hl (k := 5) rfl (nI_1 _) (by decide) rfl (fun ls hl => ?_)
          refine lv_goto (tgt := 32) hx hb dX10_meanBusy_66 (by decide) ?_
          refine ih4 _ ?_
          have a8 : mbL S (j2 + 1) = (mbL S j2) + ((buN S j2 (sI S 2 0)).toInt64) := (by rw [mbL_s]; simp only [mb1, if_pos h6]; (try rfl))
          rw [a8]
          exact lv_sub hl [3, 1, 4, 5, 0] rfl
        · skip
          refine lv_astoreN (lv' := [(6, .null), (0, .ref (ad 0 0)), (1, .long (mbL S j2)), (3, .ref (ad 15 0)), (4, .int 5), (5, .int (nI j2))]) hx hb dX10_meanBusy_43 hl (by decide) rfl (fun ls hl => ?_)
          refine lv_aloadN hx hb dX10_meanBusy_45 (lv_at hl 0 rfl) ?_
          refine lv_ifnullN (tgt := 63) hx hb dX10_meanBusy_47 (by decide) ?_
          refine lv_iinc (v := nI (j2 + 1)) (lv' := [(5, .int (nI (j2 + 1))), (6, .null), (0, .ref (ad 0 0)), (1, .long (mbL S j2)), (3, .ref (ad 15 0)), (4, .int 5)]) hx hb dX10_meanBusy_63 hl (k := 5) rfl (nI_1 _) (by decide) rfl (fun ls hl => ?_)
          refine lv_goto (tgt := 32) hx hb dX10_meanBusy_66 (by decide) ?_
          refine ih4 _ ?_
          have a8 : mbL S (j2 + 1) = mbL S j2 := (by rw [mbL_s]; simp only [mb1, if_neg h6]; (try rfl))
          rw [a8]
          exact lv_sub hl [2, 3, 4, 5, 0] rfl
    · skip
      refine lv_iload hx hb dX10_meanBusy_32 (lv_at hl 4 rfl) ?_
      refine lv_iload hx hb dX10_meanBusy_34 (lv_at hl 3 rfl) ?_
      refine lv_icmp_ge (tgt := 69) hx hb dX10_meanBusy_36 (by decide) (fun c11 => ?_) (fun c11 => ?_)
      · skip
        refine lv_lload_n hx hb dX10_meanBusy_69 rfl (lv_at hl 1 rfl) ?_
        refine lv_l2d hx hb dX10_meanBusy_70 ?_
        refine lv_aload_n hx hb dX10_meanBusy_71 rfl (lv_at hl 0 rfl) ?_
        refine get_machineCount_0 hx hb hta iwX10 hown hK hP hR (rfl : (0 : Nat) = 0) (hta _ mw102) dX10_meanBusy_72 ?_
        refine lv_i2d hx hb dX10_meanBusy_75 ?_
        refine lv_ddiv hx hb dX10_meanBusy_76 hne ?_
        exact W.dret (v := (FP.ddiv (FP.l2d (mbL S 5)) (FP.i2d (nI (sN S 0 0))))) hx hb hr (fun t ht hWm => ⟨_, rfl, rfl, ht⟩) (fun q h => absurd h List.not_mem_nil) dX10_meanBusy_77
      · exact absurd (nI_le (a := 5) (b := 5) (Nat.le_refl _) (by decide)) c11
  · exact absurd c1 hz

