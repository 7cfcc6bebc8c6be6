/-! endWork (made by wip/gen/spec_h.py) -/
theorem WT.me {S : St} (h : WT S) {i : Nat} {k tm : Int32} : WT (meS S i k tm) := WT.setRn (S := uI S 19 i (sI S 19 i + (tm - sI S 17 i))) (k := 1) (i := i) h
def ewC (S : St) (i : Nat) : Int64 := (sI S 2 0 - sI S 17 i).toInt64 * (sI S 10 i).toInt64
def ewT (S : St) (i o : Nat) : St := meS (uI (uJ (uJ S 1 0 (sJ S 1 0 + ewC S i)) 5 o (sJ S 5 o + ewC S i)) 62 o (sI S 62 o + 1)) i (sI S 60 o) (sI S 2 0)
/-- what a machine does ends: a repair, or an operation -/
def ewS (S : St) (i : Nat) : St := match sR S 1 i with
  | none => uI S 14 i 45
  | some o => match snM (ewT S i o) o with
    | none => fiS (snS (ewT S i o) o) o
    | some _ => snS (ewT S i o) o
theorem snS_none {S : St} {o : Nat} (h : snM S o = none) : snS S o = uR S 3 o none := by unfold snS; rw [h]
set_option maxHeartbeats 4000000 in
set_option maxRecDepth 100000 in
theorem c_X10_endWork (l : Launch) {D : va_G} {tA : Nat → ClassId} {S : St} {ad : Nat → Nat → Nat} {L : List Nat} {f : Nat → va_E} {sz : Nat} (hR : Rep tA S ad L f) (hW : WT S) {i : Nat} (hi : i < sN S 0 0) (hn : sN S 2 0 < 90) : Met l yX10_endWork (wsC yX10_endWork cX10_endWork 6 none) ({ frames := 5, cells := 4, slots := 16, locals := 147 }) (va_Pc [.ref (ad 0 0), .ref (ad 1 i)] (gY D tA L f sz)) (va_Qv (fun (u : gU) => ewS S i = u.1 ∧ ∀ k i, V S k i → u.2.1 k i = ad k i) (gE D tA (va_A (va_pl L f) sz)) (va_A (va_pl L f) sz)) 4 16 (va_A (va_pl L f) sz) := by
  refine Met.ofW (cc := cX10_endWork) (maxL := 6) (ret := none) (by decide) rfl ?_
  intro p e s m args below meth c s₁ B hml hv
  obtain ⟨rfl, ⟨hsz, hP, hK, hD0⟩, hX⟩ := hv
  have hx := B.exec
  have hb := B.bytes
  have hr := B.returns
  have hts := atoms_spec (ws := wsC yX10_endWork cX10_endWork 6 none) B.pre
  have hta : ∀ w ∈ WA, w.before _ s = true := fun w h => hts w (List.mem_cons_of_mem _ h)
  have hown : s.vm.findClass RX10 = some m.cls := findClass_of_methodNamed B.named
  have hlocks := B.notSynchronized
  subst hsz
  have hD : va_D (va_A (va_pl L f) s.heap.size) (va_pl L f) := hD0.self (sz := s.heap.size)
  generalize hAe : va_A (va_pl L f) s.heap.size = A at hD ⊢
  have hA : ∀ q : Nat, s.heap.size ≤ q → A q := fun q h => by rw [← hAe]; exact Or.inr h
  have hS : va_S A s.heap s.heap [] := va_S.rf
  have hP : va_P D vwCl (va_pl L f) s.heap := hP
  have hl := lv_entry ([.ref (ad 0 0), .ref (ad 1 i)]) (n := 6) (Nat.le_of_ble_eq_true rfl)
  rw [lg_entry_eq]
  generalize (lg_sl ([.ref (ad 0 0), .ref (ad 1 i)]) ++ List.replicate (6 - (lg_sl ([.ref (ad 0 0), .ref (ad 1 i)])).length) Slot.unset).toArray = ls at hl ⊢
  have hl : lv_has ls 6 [(0, .ref (ad 0 0)), (1, .ref (ad 1 i))] := hl
  refine lv_aload_n hx hb dX10_endWork_0 rfl (lv_at hl 1 rfl) ?_
  refine get_doing_1 hx hb hta iwX4 hown hK hP hR hi (hta _ mw260) dX10_endWork_1 ?_
  rcases h1 : sR S 1 i with _ | o2
  · rw [rf_none]
    refine lv_astore_nN (lv' := [(2, .null), (0, .ref (ad 0 0)), (1, .ref (ad 1 i))]) hx hb dX10_endWork_4 rfl hl (by decide) rfl (fun ls hl => ?_)
    refine lv_aload_nN hx hb dX10_endWork_5 rfl (lv_at hl 0 rfl) ?_
    refine lv_ifnonnullN hx hb dX10_endWork_6 ?_
    refine lv_aload_n hx hb dX10_endWork_9 rfl (lv_at hl 2 rfl) ?_
    refine lv_bipush (v := 45) hx hb dX10_endWork_10 (by decide) ?_
    refine put_state_1 (v := (45 : Int32)) hx hb hta iwX4 hown hK hP hD hS hR hi (hta _ mw251) (by decide) (by decide) dX10_endWork_12 (fun H locs f hP hD hS hR => ?_)
    refine W.widen (k := 4) (n := 16) (Nat.le_of_ble_eq_true rfl) (Nat.le_of_ble_eq_true rfl) ?_
    exact W.vret hx hb hr (fun t ht hWm => gend_v (u := (uI S 14 i 45, ad, L, f)) ⟨by simp only [ewS, h1]; (try rfl), fun _ _ _ => rfl⟩ hR hP hK hD hS ht hWm) hS.2.2 dX10_endWork_15
  · rw [rf_some]
    have v3 := hW.doing hi h1
    refine lv_astore_n (lv' := [(2, .ref (ad 11 o2)), (0, .ref (ad 0 0)), (1, .ref (ad 1 i))]) hx hb dX10_endWork_4 rfl hl (by decide) rfl (fun ls hl => ?_)
    refine lv_aload_n hx hb dX10_endWork_5 rfl (lv_at hl 0 rfl) ?_
    refine lv_ifnonnull (tgt := 16) hx hb dX10_endWork_6 (by decide) ?_
    refine lv_aload_n hx hb dX10_endWork_16 rfl (lv_at hl 0 rfl) ?_
    refine get_job_11 hx hb hta iwX7 hown hK hP hR v3 (hta _ mw541) dX10_endWork_17 ?_
    refine lv_astore_n (lv' := [(3, .ref (ad 12 o2)), (2, .ref (ad 11 o2)), (0, .ref (ad 0 0)), (1, .ref (ad 1 i))]) hx hb dX10_endWork_20 rfl hl (by decide) rfl (fun ls hl => ?_)
    refine lv_aload_n hx hb dX10_endWork_21 rfl (lv_at hl 2 rfl) ?_
    refine get_now_0 hx hb hta iwX10 hown hK hP hR (rfl : (0 : Nat) = 0) (hta _ mw107) dX10_endWork_22 ?_
    refine lv_aload_n hx hb dX10_endWork_25 rfl (lv_at hl 3 rfl) ?_
    refine get_begunAt_1 hx hb hta iwX4 hown hK hP hR hi (hta _ mw255) dX10_endWork_26 ?_
    refine lv_isub hx hb dX10_endWork_29 ?_
    refine lv_i2l (v := ((sI S 2 0) - (sI S 17 i)).toInt64) hx hb dX10_endWork_30 rfl ?_
    refine lv_aload_n hx hb dX10_endWork_31 rfl (lv_at hl 3 rfl) ?_
    refine get_rate_1 hx hb hta iwX4 hown hK hP hR hi (hta _ mw246) dX10_endWork_32 ?_
    refine lv_i2l (v := (sI S 10 i).toInt64) hx hb dX10_endWork_35 rfl ?_
    refine lv_lmul hx hb dX10_endWork_36 ?_
    refine lv_lstore (lv' := [(4, .long ((((sI S 2 0) - (sI S 17 i)).toInt64) * ((sI S 10 i).toInt64))), (3, .ref (ad 12 o2)), (2, .ref (ad 11 o2)), (0, .ref (ad 0 0)), (1, .ref (ad 1 i))]) hx hb dX10_endWork_37 hl (by decide) rfl (fun ls hl => ?_)
    refine lv_aload_n hx hb dX10_endWork_39 rfl (lv_at hl 3 rfl) ?_
    refine lv_dup hx hb dX10_endWork_40 rfl ?_
    refine get_costIn_0 hx hb hta iwX10 hown hK hP hR (rfl : (0 : Nat) = 0) (hta _ mw108) dX10_endWork_41 ?_
    refine lv_lload hx hb dX10_endWork_44 (lv_at hl 0 rfl) ?_
    refine lv_ladd hx hb dX10_endWork_46 ?_
    refine put_costIn_0 (v := ((sJ S 1 0) + ((((sI S 2 0) - (sI S 17 i)).toInt64) * ((sI S 10 i).toInt64)) : Int64)) hx hb hta iwX10 hown hK hP hD hS hR (rfl : (0 : Nat) = 0) (hta _ mw108) dX10_endWork_47 (fun H locs f hP hD hS hR => ?_)
    refine lv_aload_n hx hb dX10_endWork_50 rfl (lv_at hl 1 rfl) ?_
    refine lv_dup hx hb dX10_endWork_51 rfl ?_
    refine get_cost_12 hx hb hta iwX2 hown hK hP hR v3 (hta _ mw524) dX10_endWork_52 ?_
    refine lv_topl (fun x4 ex4 => ?_)
    obtain rfl := ex4.trans (show sJ (uJ S 1 0 ((sJ S 1 0) + ((((sI S 2 0) - (sI S 17 i)).toInt64) * ((sI S 10 i).toInt64)))) 5 o2 = sJ S 5 o2 from up2_nk (sJ S) (k := 1) (i := 0) (k' := 5) (i' := o2) ((sJ S 1 0) + ((((sI S 2 0) - (sI S 17 i)).toInt64) * ((sI S 10 i).toInt64))) (by decide))
    refine lv_lload hx hb dX10_endWork_55 (lv_at hl 0 rfl) ?_
    refine lv_ladd hx hb dX10_endWork_57 ?_
    refine put_cost_12 (v := ((sJ S 5 o2) + ((((sI S 2 0) - (sI S 17 i)).toInt64) * ((sI S 10 i).toInt64)) : Int64)) hx hb hta iwX2 hown hK hP hD hS hR v3 (hta _ mw524) dX10_endWork_58 (fun H locs f hP hD hS hR => ?_)
    refine lv_aload_n hx hb dX10_endWork_61 rfl (lv_at hl 1 rfl) ?_
    refine lv_dup hx hb dX10_endWork_62 rfl ?_
    refine get_operation_12 hx hb hta iwX2 hown hK hP hR v3 (hta _ mw520) dX10_endWork_63 ?_
    refine lv_iconst (v := 1) hx hb dX10_endWork_66 (by decide) ?_
    refine lv_iadd hx hb dX10_endWork_67 ?_
    refine put_operation_12 (v := ((sI S 62 o2) + 1 : Int32)) hx hb hta iwX2 hown hK hP hD hS hR v3 (hta _ mw520) dX10_endWork_68 (fun H locs f hP hD hS hR => ?_)
    refine lv_aload_n hx hb dX10_endWork_71 rfl (lv_at hl 4 rfl) ?_
    refine lv_aload_n hx hb dX10_endWork_72 rfl (lv_at hl 1 rfl) ?_
    refine get_pieces_12 hx hb hta iwX2 hown hK hP hR v3 (hta _ mw517) dX10_endWork_73 ?_
    refine lv_topi (fun x5 ex5 => ?_)
    obtain rfl := ex5.trans (show sI (uI (uJ (uJ S 1 0 ((sJ S 1 0) + ((((sI S 2 0) - (sI S 17 i)).toInt64) * ((sI S 10 i).toInt64)))) 5 o2 ((sJ S 5 o2) + ((((sI S 2 0) - (sI S 17 i)).toInt64) * ((sI S 10 i).toInt64)))) 62 o2 ((sI S 62 o2) + 1)) 60 o2 = sI (uJ (uJ S 1 0 ((sJ S 1 0) + ((((sI S 2 0) - (sI S 17 i)).toInt64) * ((sI S 10 i).toInt64)))) 5 o2 ((sJ S 5 o2) + ((((sI S 2 0) - (sI S 17 i)).toInt64) * ((sI S 10 i).toInt64)))) 60 o2 from up2_nk (sI (uJ (uJ S 1 0 ((sJ S 1 0) + ((((sI S 2 0) - (sI S 17 i)).toInt64) * ((sI S 10 i).toInt64)))) 5 o2 ((sJ S 5 o2) + ((((sI S 2 0) - (sI S 17 i)).toInt64) * ((sI S 10 i).toInt64))))) (k := 62) (i := o2) (k' := 60) (i' := o2) ((sI S 62 o2) + 1) (by decide))
    refine lv_aload_n hx hb dX10_endWork_76 rfl (lv_at hl 3 rfl) ?_
    refine get_now_0 hx hb hta iwX10 hown hK hP hR (rfl : (0 : Nat) = 0) (hta _ mw107) dX10_endWork_77 ?_
    refine lv_topi (fun x6 ex6 => ?_)
    obtain rfl := ex6.trans (show sI (uI (uJ (uJ S 1 0 ((sJ S 1 0) + ((((sI S 2 0) - (sI S 17 i)).toInt64) * ((sI S 10 i).toInt64)))) 5 o2 ((sJ S 5 o2) + ((((sI S 2 0) - (sI S 17 i)).toInt64) * ((sI S 10 i).toInt64)))) 62 o2 ((sI S 62 o2) + 1)) 2 0 = sI (uJ (uJ S 1 0 ((sJ S 1 0) + ((((sI S 2 0) - (sI S 17 i)).toInt64) * ((sI S 10 i).toInt64)))) 5 o2 ((sJ S 5 o2) + ((((sI S 2 0) - (sI S 17 i)).toInt64) * ((sI S 10 i).toInt64)))) 2 0 from up2_nk (sI (uJ (uJ S 1 0 ((sJ S 1 0) + ((((sI S 2 0) - (sI S 17 i)).toInt64) * ((sI S 10 i).toInt64)))) 5 o2 ((sJ S 5 o2) + ((((sI S 2 0) - (sI S 17 i)).toInt64) * ((sI S 10 i).toInt64))))) (k := 62) (i := o2) (k' := 2) (i' := 0) ((sI S 62 o2) + 1) (by decide))
    obtain ⟨q7, e8⟩ := cell_1 hR hi
    refine gwr_v (mc := 0) (ms := 0) (ci := 6) (As := [.int (sI S 60 o2), .int (sI S 2 0)]) (rest := []) ⟨hx, hb, hml, hown, hta⟩ (c_X4_end l hR hW hi (sI S 60 o2) (sI S 2 0)) (cwV 2 hta (gWV mw583 mw584 mw585 mw48 mw586) rfl rfl rfl (by decide +kernel) ⟨Nat.le_of_ble_eq_true rfl, Nat.le_of_ble_eq_true rfl⟩) hK hP hD hS hA rfl e8 rfl hl.1 rfl (Nat.le_of_ble_eq_true rfl) dX10_endWork_80 ⟨Nat.le_of_ble_eq_true rfl, Nat.le_of_ble_eq_true rfl⟩ (fun u H locs hw hR hP hD hS => ?_)
    obtain ⟨S9, ad9, L9, f⟩ := u
    obtain ⟨rfl, rfl, rfl⟩ := hw
    dsimp only at hR hP hD
    have hW2 : WT (meS (uI (uJ (uJ S 1 0 ((sJ S 1 0) + ((((sI S 2 0) - (sI S 17 i)).toInt64) * ((sI S 10 i).toInt64)))) 5 o2 ((sJ S 5 o2) + ((((sI S 2 0) - (sI S 17 i)).toInt64) * ((sI S 10 i).toInt64)))) 62 o2 ((sI S 62 o2) + 1)) i (sI S 60 o2) (sI S 2 0)) := WT.me (by first | exact hW | assumption)
    refine lv_aload_n hx hb dX10_endWork_83 rfl (lv_at hl 3 rfl) ?_
    refine lv_aload_n hx hb dX10_endWork_84 rfl (lv_at hl 2 rfl) ?_
    obtain ⟨q10, e11⟩ := cell_0 hR (rfl : (0 : Nat) = 0)
    refine gwr_q (mc := 0) (ms := 0) (ci := 12) (As := [.ref (ad 11 o2)]) (rest := []) ⟨hx, hb, hml, hown, hta⟩ (c_X10_sendOn l hR hW2 v3) (cwV 1 hta (gWV mw587 mw588 mw23 mw40 mw589) rfl rfl rfl (by decide +kernel) ⟨Nat.le_of_ble_eq_true rfl, Nat.le_of_ble_eq_true rfl⟩) hK hP hD hS hA rfl e11 rfl hl.1 rfl (Nat.le_of_ble_eq_true rfl) dX10_endWork_85 ⟨Nat.le_of_ble_eq_true rfl, Nat.le_of_ble_eq_true rfl⟩ (fun r12 u H locs hw hR hP hD hS => ?_)
    obtain ⟨S9, ad9, L9, f⟩ := u
    obtain ⟨rfl, rfl, rfl, rfl⟩ := hw
    dsimp only at hR hP hD
    change W _ _ _ _ _ _ _ _ _ _ _ _ _ _ _ (F0 _ _ _ (rf ad 1 (snM ((meS (uI (uJ (uJ S 1 0 ((sJ S 1 0) + ((((sI S 2 0) - (sI S 17 i)).toInt64) * ((sI S 10 i).toInt64)))) 5 o2 ((sJ S 5 o2) + ((((sI S 2 0) - (sI S 17 i)).toInt64) * ((sI S 10 i).toInt64)))) 62 o2 ((sI S 62 o2) + 1)) i (sI S 60 o2) (sI S 2 0))) o2) :: []))
    rcases h13 : snM ((meS (uI (uJ (uJ S 1 0 ((sJ S 1 0) + ((((sI S 2 0) - (sI S 17 i)).toInt64) * ((sI S 10 i).toInt64)))) 5 o2 ((sJ S 5 o2) + ((((sI S 2 0) - (sI S 17 i)).toInt64) * ((sI S 10 i).toInt64)))) 62 o2 ((sI S 62 o2) + 1)) i (sI S 60 o2) (sI S 2 0))) o2 with _ | o14
    · rw [rf_none]
      refine lv_ifnonnullN hx hb dX10_endWork_88 ?_
      rw [snS_none h13] at hR
      have hW3 : WT (uR ((meS (uI (uJ (uJ S 1 0 ((sJ S 1 0) + ((((sI S 2 0) - (sI S 17 i)).toInt64) * ((sI S 10 i).toInt64)))) 5 o2 ((sJ S 5 o2) + ((((sI S 2 0) - (sI S 17 i)).toInt64) * ((sI S 10 i).toInt64)))) 62 o2 ((sI S 62 o2) + 1)) i (sI S 60 o2) (sI S 2 0))) 3 o2 none) := WT.setRn hW2
      refine lv_aload_n hx hb dX10_endWork_91 rfl (lv_at hl 3 rfl) ?_
      refine lv_aload_n hx hb dX10_endWork_92 rfl (lv_at hl 2 rfl) ?_
      obtain ⟨q15, e16⟩ := cell_0 hR (rfl : (0 : Nat) = 0)
      refine gwr_vY (ci := 12) (As := [.ref (ad 11 o2)]) (rest := []) ⟨hx, hb, hml, hown, hta⟩ (c_X10_finish l hR hW3 v3 (show sN (uR ((meS (uI (uJ (uJ S 1 0 ((sJ S 1 0) + ((((sI S 2 0) - (sI S 17 i)).toInt64) * ((sI S 10 i).toInt64)))) 5 o2 ((sJ S 5 o2) + ((((sI S 2 0) - (sI S 17 i)).toInt64) * ((sI S 10 i).toInt64)))) 62 o2 ((sI S 62 o2) + 1)) i (sI S 60 o2) (sI S 2 0))) 3 o2 none) 2 0 < 90 from hn)) (cwV 1 hta (gWV mw603 mw604 mw27 mw40 mw605) rfl rfl rfl (by decide +kernel) ⟨Nat.le_of_ble_eq_true rfl, Nat.le_of_ble_eq_true rfl⟩) hX hK hP hD hS hA rfl e16 rfl hl.1 rfl (Nat.le_of_ble_eq_true rfl) dX10_endWork_93 ⟨Nat.le_of_ble_eq_true rfl, Nat.le_of_ble_eq_true rfl⟩ (fun u H locs hw hR hP hD hS => ?_)
      obtain ⟨S9, ad19, L20, f⟩ := u
      obtain ⟨rfl, hx18⟩ := hw
      dsimp only at hR hP hD hx18 ⊢
      rw [← hx18 12 o2 (v3), ← hx18 11 o2 (v3), ← hx18 0 0 ((rfl : (0 : Nat) = 0)), ← hx18 1 i (hi)] at hl
      refine W.widen (k := 4) (n := 16) (Nat.le_of_ble_eq_true rfl) (Nat.le_of_ble_eq_true rfl) ?_
      exact W.vret hx hb hr (fun t ht hWm => gend_v (u := ((fiS ((uR ((meS (uI (uJ (uJ S 1 0 ((sJ S 1 0) + ((((sI S 2 0) - (sI S 17 i)).toInt64) * ((sI S 10 i).toInt64)))) 5 o2 ((sJ S 5 o2) + ((((sI S 2 0) - (sI S 17 i)).toInt64) * ((sI S 10 i).toInt64)))) 62 o2 ((sI S 62 o2) + 1)) i (sI S 60 o2) (sI S 2 0))) 3 o2 none)) o2), ad19, L20, f)) ⟨by simp only [ewS, h1]; rw [show snM (ewT S i o2) o2 = none from h13]; exact congrArg (fun z => fiS z o2) (snS_none (S := ewT S i o2) h13), hx18⟩ hR hP hK hD hS ht hWm) hS.2.2 dX10_endWork_96
    · rw [rf_some]
      refine lv_ifnonnull (tgt := 96) hx hb dX10_endWork_88 (by decide) ?_
      refine W.widen (k := 4) (n := 16) (Nat.le_of_ble_eq_true rfl) (Nat.le_of_ble_eq_true rfl) ?_
      exact W.vret hx hb hr (fun t ht hWm => gend_v (u := ((snS ((meS (uI (uJ (uJ S 1 0 ((sJ S 1 0) + ((((sI S 2 0) - (sI S 17 i)).toInt64) * ((sI S 10 i).toInt64)))) 5 o2 ((sJ S 5 o2) + ((((sI S 2 0) - (sI S 17 i)).toInt64) * ((sI S 10 i).toInt64)))) 62 o2 ((sI S 62 o2) + 1)) i (sI S 60 o2) (sI S 2 0))) o2), ad, L, f)) ⟨by simp only [ewS, h1]; rw [show snM (ewT S i o2) o2 = some _ from h13]; (try rfl), fun _ _ _ => rfl⟩ hR hP hK hD hS ht hWm) hS.2.2 dX10_endWork_96

