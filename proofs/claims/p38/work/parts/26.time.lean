/-! passTime, advance (made by wip/gen/spec_m.py) -/
theorem V_mono {S T : St} (h0 : sN S 0 0 ≤ sN T 0 0) (h1 : sN S 1 0 ≤ sN T 1 0) (h2 : sN S 2 0 ≤ sN T 2 0) (h3 : sN S 3 0 ≤ sN T 3 0) (h4 : ∀ i, sN S 4 i ≤ sN T 4 i) (h5 : ∀ i, sN S 5 i ≤ sN T 5 i) {k i : Nat} (h : V S k i) : V T k i := by
  have key : ∀ n : Nat, n < 23 → V S n i → V T n i := by
    intro n hn hv
    match n, hn, hv with
    | 0, _, hv => exact hv
    | 1, _, hv => exact Nat.lt_of_lt_of_le hv h0
    | 2, _, hv => exact Nat.lt_of_lt_of_le hv h1
    | 3, _, hv => exact Nat.lt_of_lt_of_le hv h1
    | 4, _, hv => exact ⟨Nat.lt_of_lt_of_le hv.1 h1, Nat.lt_of_lt_of_le hv.2 (h4 _)⟩
    | 5, _, hv => exact ⟨Nat.lt_of_lt_of_le hv.1 h1, Nat.lt_of_lt_of_le hv.2 (h5 _)⟩
    | 6, _, hv => exact hv
    | 7, _, hv => exact Nat.lt_of_lt_of_le hv h2
    | 8, _, hv => exact Nat.lt_of_lt_of_le hv h2
    | 9, _, hv => exact Nat.lt_of_lt_of_le hv h2
    | 10, _, hv => exact Nat.lt_of_lt_of_le hv h2
    | 11, _, hv => exact Nat.lt_of_lt_of_le hv h3
    | 12, _, hv => exact Nat.lt_of_lt_of_le hv h3
    | 13, _, hv => exact Nat.lt_of_lt_of_le hv h3
    | 14, _, hv => exact hv
    | 15, _, hv => exact hv
    | 16, _, hv => exact hv
    | 17, _, hv => exact hv
    | 18, _, hv => exact hv
    | 19, _, hv => exact hv
    | 20, _, hv => exact Nat.lt_of_lt_of_le hv h1
    | 21, _, hv => exact Nat.lt_of_lt_of_le hv h1
    | 22, _, hv => exact Nat.lt_of_lt_of_le hv h3
    | n + 23, hn, _ => exact absurd hn (by omega)
  rcases Nat.lt_or_ge k 23 with hk | hk
  · exact key k hk h
  · exact False.elim (by
      obtain ⟨n, rfl⟩ : ∃ n, k = n + 23 := ⟨k - 23, by omega⟩
      exact h)
theorem fi_N {S : St} {o k i : Nat} (h : k ≠ 2) (h6 : k ≠ 6) : sN (fiS S o) k i = sN S k i := by
  unfold fiS
  split
  · rfl
  · exact nlS_n (S := fiT S o) (p := sN S 7 o) (qy := sI S 60 o) (co := sJ S 5 o) h h6
theorem fi_N2 {S : St} {o : Nat} : sN S 2 0 ≤ sN (fiS S o) 2 0 := by
  unfold fiS
  split
  · exact Nat.le_refl _
  · exact Nat.le_trans (Nat.le_succ (sN S 2 0)) (Nat.le_of_eq (nlS_nL (S := fiT S o) (p := sN S 7 o) (qy := sI S 60 o) (co := sJ S 5 o)).symm)
theorem sn_N (S : St) (o : Nat) : sN (snS S o) = sN S := by
  cases e : snM S o with
  | none => rw [snS_none e]
  | some i => rw [snS_some e]
theorem ew_N {S : St} {i k z : Nat} (h : k ≠ 2) (h6 : k ≠ 6) : sN (ewS S i) k z = sN S k z := by
  unfold ewS
  split
  · rfl
  · split
    · rw [fi_N h h6, sn_N]; rfl
    · rw [sn_N]; rfl
theorem ew_N2 {S : St} {i : Nat} : sN S 2 0 ≤ sN (ewS S i) 2 0 := by
  unfold ewS
  split
  · exact Nat.le_refl _
  · split
    · refine Nat.le_trans (Nat.le_of_eq ?_) fi_N2
      rw [sn_N]; rfl
    · rw [sn_N]; exact Nat.le_refl _
theorem WT.fi {S : St} (hW : WT S) {o : Nat} (ho : o < sN S 3 0) (hn : sN S 2 0 < 90) : WT (fiS S o) := by
  unfold fiS
  split
  · exact hW
  · have hWn : WT (nlS (fiT S o) (sN S 7 o) (sI S 60 o) (sJ S 5 o)) := WT.nl (S := fiT S o) hW (hW.ordPart ho) hn
    have hln : sN S 2 0 < sN (nlS (fiT S o) (sN S 7 o) (sI S 60 o) (sJ S 5 o)) 2 0 := Nat.lt_of_lt_of_le (Nat.lt_succ_self _) (Nat.le_of_eq (nlS_nL (S := fiT S o)).symm)
    have hWu : WT (fiU S o) := WT.setR hWn (fun a z => by cases z; exact ⟨fun q => by omega, fun q => by omega, fun q => by omega, fun _ => hln⟩)
    exact hWu
theorem WT.ew {S : St} (hW : WT S) {i : Nat} (hi : i < sN S 0 0) (hn : sN S 2 0 < 90) : WT (ewS S i) := by
  unfold ewS
  split
  · exact hW
  · rename_i o e
    have h1 : WT (ewT S i o) := WT.me (S := uI (uJ (uJ S 1 0 (sJ S 1 0 + ewC S i)) 5 o (sJ S 5 o + ewC S i)) 62 o (sI S 62 o + 1)) hW
    have ho : o < sN (ewT S i o) 3 0 := hW.doing hi e
    have h2 : WT (snS (ewT S i o) o) := h1.sn ho
    split
    · exact WT.fi h2 (by rw [sn_N]; exact ho) (by rw [sn_N]; exact hn)
    · exact h2
theorem bn_N (S : St) (i : Nat) : sN (bnS S i) = sN S := by
  unfold bnS
  split
  · split
    · rfl
    · split <;> rfl
  · rfl
theorem WT.bn {S : St} (hW : WT S) {i : Nat} : WT (bnS S i) := by
  unfold bnS
  split
  · split
    · exact hW
    · rename_i o e
      split
      · exact hW
      · have ho : o < sN S 3 0 := (fwL_in (j := 30) e).1
        have h1 : WT (uR S 1 i (some o)) := WT.setR hW (fun a z => by cases z; exact ⟨fun _ => ho, fun q => by omega, fun q => by omega, fun q => by omega⟩)
        exact WT.setRn (S := uR S 1 i (some o)) (k := 3) (i := o) h1
  · exact hW
/-- a time unit: what machines do may end, then what waits may begin -/
def pt1 (j : Nat) (T : St) : St := if j < sN T 0 0 then (if sI T 18 j = sI T 2 0 then ewS T j else T) else T
def ptL (S : St) (j : Nat) : St := it pt1 j (uI S 2 0 (sI S 2 0 + 1))
theorem ptL_s (S : St) (j : Nat) : ptL S (j + 1) = pt1 j (ptL S j) := rfl
def bt1 (j : Nat) (T : St) : St := if j < sN T 0 0 then bnS T j else T
def ptM (S : St) (j : Nat) : St := it bt1 j (ptL S 5)
theorem ptM_s (S : St) (j : Nat) : ptM S (j + 1) = bt1 j (ptM S j) := rfl
theorem ptM_0 (S : St) : ptM S 0 = ptL S 5 := rfl
def ptS (S : St) : St := ptM S 5
theorem pt1_N {T : St} {j k z : Nat} (h : k ≠ 2) (h6 : k ≠ 6) : sN (pt1 j T) k z = sN T k z := by
  unfold pt1
  split
  · split
    · exact ew_N h h6
    · rfl
  · rfl
theorem pt1_N2 {T : St} {j : Nat} : sN T 2 0 ≤ sN (pt1 j T) 2 0 := by
  unfold pt1
  split
  · split
    · exact ew_N2
    · exact Nat.le_refl _
  · exact Nat.le_refl _
theorem ptL_N {S : St} {k z : Nat} (h : k ≠ 2) (h6 : k ≠ 6) : ∀ j, sN (ptL S j) k z = sN S k z
  | 0 => rfl
  | j + 1 => by rw [ptL_s, pt1_N h h6, ptL_N h h6 j]
theorem ptL_N2 {S : St} : ∀ j, sN S 2 0 ≤ sN (ptL S j) 2 0
  | 0 => Nat.le_refl _
  | j + 1 => Nat.le_trans (ptL_N2 j) (by rw [ptL_s]; exact pt1_N2)
theorem bt1_N (T : St) (j : Nat) : sN (bt1 j T) = sN T := by
  unfold bt1
  split
  · exact bn_N T j
  · rfl
theorem ptM_N {S : St} : ∀ j, sN (ptM S j) = sN (ptL S 5)
  | 0 => rfl
  | j + 1 => by rw [ptM_s, bt1_N, ptM_N j]
theorem ptL_V {S : St} (j : Nat) : ∀ k i, V S k i → V (ptL S j) k i := fun k i h => V_mono (Nat.le_of_eq (ptL_N (by decide) (by decide) j).symm) (Nat.le_of_eq (ptL_N (by decide) (by decide) j).symm) (ptL_N2 j) (Nat.le_of_eq (ptL_N (by decide) (by decide) j).symm) (fun _ => Nat.le_of_eq (ptL_N (by decide) (by decide) j).symm) (fun _ => Nat.le_of_eq (ptL_N (by decide) (by decide) j).symm) h
theorem V_eq {S T : St} (h : sN T = sN S) {k i : Nat} (hv : V S k i) : V T k i := V_mono (by rw [h]; exact Nat.le_refl _) (by rw [h]; exact Nat.le_refl _) (by rw [h]; exact Nat.le_refl _) (by rw [h]; exact Nat.le_refl _) (fun _ => by rw [h]; exact Nat.le_refl _) (fun _ => by rw [h]; exact Nat.le_refl _) hv
theorem ptM_V {S : St} (j : Nat) : ∀ k i, V S k i → V (ptM S j) k i := fun k i h => V_eq (ptM_N j) (ptL_V 5 k i h)
theorem WT.pL {S : St} (hW : WT S) (hN : ∀ j, j < 5 → sN (ptL S j) 2 0 < 90) : ∀ j, j ≤ 5 → WT (ptL S j)
  | 0, _ => hW
  | j + 1, hj => by
    have ih := WT.pL hW hN j (by omega)
    rw [ptL_s]
    unfold pt1
    split
    · rename_i h
      split
      · exact ih.ew h (hN j (by omega))
      · exact ih
    · exact ih
theorem WT.pM {S : St} (hW : WT S) (hN : ∀ j, j < 5 → sN (ptL S j) 2 0 < 90) : ∀ j, WT (ptM S j)
  | 0 => WT.pL hW hN 5 (Nat.le_refl _)
  | j + 1 => by
    have ih := WT.pM hW hN j
    rw [ptM_s]
    unfold bt1
    split
    · exact ih.bn
    · exact ih
theorem WT.pt {S : St} (hW : WT S) (hN : ∀ j, j < 5 → sN (ptL S j) 2 0 < 90) : WT (ptS S) := WT.pM hW hN 5
set_option maxHeartbeats 4000000 in
set_option maxRecDepth 100000 in
theorem c_X10_passTime (l : Launch) {D : va_G} {tA : Nat → ClassId} {S : St} {ad : Nat → Nat → Nat} {L : List Nat} {f : Nat → va_E} {sz : Nat} (hR : Rep tA S ad L f) (hW : WT S) (hN : ∀ j, j < 5 → sN (ptL S j) 2 0 < 90) : Met l yX10_passTime (wsC yX10_passTime cX10_passTime 5 none) ({ frames := 6, cells := 20, slots := 80, locals := 172 }) (va_Pc [.ref (ad 0 0)] (gY D tA L f sz)) (va_Qv (fun (u : gU) => ptS S = u.1 ∧ ∀ k i, V S k i → u.2.1 k i = ad k i) (gE D tA (va_A (va_pl L f) sz)) (va_A (va_pl L f) sz)) 20 80 (va_A (va_pl L f) sz) := by
  refine Met.ofW (cc := cX10_passTime) (maxL := 5) (ret := none) (by decide) rfl ?_
  intro p e s m args below meth c s₁ B hml hv
  obtain ⟨rfl, ⟨hsz, hP, hK, hD0⟩, hX⟩ := hv
  have hx := B.exec
  have hb := B.bytes
  have hr := B.returns
  have hts := atoms_spec (ws := wsC yX10_passTime cX10_passTime 5 none) B.pre
  have hta : ∀ w ∈ WA, w.before _ s = true := fun w h => hts w (List.mem_cons_of_mem _ h)
  have hown : s.vm.findClass RX10 = some m.cls := findClass_of_methodNamed B.named
  have hlocks := B.notSynchronized
  subst hsz
  have hD : va_D (va_A (va_pl L f) s.heap.size) (va_pl L f) := hD0.self (sz := s.heap.size)
  generalize hAe : va_A (va_pl L f) s.heap.size = A at hD ⊢
  have hA : ∀ q : Nat, s.heap.size ≤ q → A q := fun q h => by rw [← hAe]; exact Or.inr h
  have hS : va_S A s.heap s.heap [] := va_S.rf
  have hP : va_P D vwCl (va_pl L f) s.heap := hP
  have hl := lv_entry ([.ref (ad 0 0)]) (n := 5) (Nat.le_of_ble_eq_true rfl)
  rw [lg_entry_eq]
  generalize (lg_sl ([.ref (ad 0 0)]) ++ List.replicate (5 - (lg_sl ([.ref (ad 0 0)])).length) Slot.unset).toArray = ls at hl ⊢
  have hl : lv_has ls 5 [(0, .ref (ad 0 0))] := hl
  refine lv_aload_n hx hb dX10_passTime_0 rfl (lv_at hl 0 rfl) ?_
  refine lv_dup hx hb dX10_passTime_1 rfl ?_
  refine get_now_0 hx hb hta iwX10 hown hK hP hR (rfl : (0 : Nat) = 0) (hta _ mw107) dX10_passTime_2 ?_
  refine lv_iconst (v := 1) hx hb dX10_passTime_5 (by decide) ?_
  refine lv_iadd hx hb dX10_passTime_6 ?_
  refine put_now_0 (v := ((sI S 2 0) + 1 : Int32)) hx hb hta iwX10 hown hK hP hD hS hR (rfl : (0 : Nat) = 0) (hta _ mw107) dX10_passTime_7 (fun H locs f hP hD hS hR => ?_)
  refine lv_aload_n hx hb dX10_passTime_10 rfl (lv_at hl 0 rfl) ?_
  refine get_machines_0 hx hb hta iwX10 hown hK hP hR (rfl : (0 : Nat) = 0) (hta _ mw96) dX10_passTime_11 ?_
  refine lv_astore_n (lv' := [(1, .ref (ad 15 0)), (0, .ref (ad 0 0))]) hx hb dX10_passTime_14 rfl hl (by decide) rfl (fun ls hl => ?_)
  refine lv_aload_n hx hb dX10_passTime_15 rfl (lv_at hl 0 rfl) ?_
  refine len_machines hx hb hK hP hR (rfl : (0 : Nat) = 0) dX10_passTime_16 ?_
  refine lv_istore_n (lv' := [(2, .int 5), (1, .ref (ad 15 0)), (0, .ref (ad 0 0))]) hx hb dX10_passTime_17 rfl hl (by decide) rfl (fun ls hl => ?_)
  refine lv_iconst (v := 0) hx hb dX10_passTime_18 (by decide) ?_
  refine lv_istore_n (lv' := [(3, .int 0), (2, .int 5), (1, .ref (ad 15 0)), (0, .ref (ad 0 0))]) hx hb dX10_passTime_19 rfl hl (by decide) rfl (fun ls hl => ?_)
  refine loop_g (σ := Heap × List Loc × (Nat → Nat → Nat) × List Nat × (Nat → va_E) × Array Slot × Nat × Nat) (Wg := fun z => W p l e _ s m _ below meth c z.1 z.2.1 z.2.2.2.2.2.2.1 z.2.2.2.2.2.2.2 _ (F0 m 20 z.2.2.2.2.2.1 [])) 5 (fun j1 z => va_P D vwCl (va_pl z.2.2.2.1 z.2.2.2.2.1) z.1 ∧ va_D A (va_pl z.2.2.2.1 z.2.2.2.2.1) ∧ va_S A s.heap z.1 z.2.1 ∧ Rep tA (ptL S j1) z.2.2.1 z.2.2.2.1 z.2.2.2.2.1 ∧ (∀ k i, V S k i → z.2.2.1 k i = ad k i) ∧ z.2.2.2.2.2.2.1 ≤ 4 * j1 ∧ z.2.2.2.2.2.2.2 ≤ 16 * j1 ∧ lv_has z.2.2.2.2.2.1 5 [(0, .ref (z.2.2.1 0 0)), (1, .ref (z.2.2.1 15 0)), (2, .int 5), (3, .int (nI j1))]) (fun j1 hj2 ih3 z hz => ?_) (fun z hz => ?_) (_, _, ad, L, f, ls, _, _) ⟨hP, hD, hS, hR, (fun _ _ _ => rfl), (by (try dsimp only); omega), (by (try dsimp only); omega), lv_sub hl [3, 2, 1, 0] rfl⟩
  · skip
    obtain ⟨H, locs, ad4, L5, f, ls, ce6, sl7⟩ := z
    obtain ⟨hP, hD, hS, hR, hx8, hce9, hsl10, hl⟩ := hz
    dsimp only at hP hD hS hR hl hx8 hce9 hsl10 ⊢
    have hWj : WT (ptL S j1) := WT.pL hW hN j1 (Nat.le_of_lt hj2)
    have hVj : ∀ k i, V S k i → V (ptL S j1) k i := ptL_V j1
    have hnj : sN (ptL S j1) 2 0 < 90 := hN j1 hj2
    generalize hT : ptL S j1 = T at hR hWj hVj hnj
    refine lv_iload_n hx hb dX10_passTime_20 rfl (lv_at hl 3 rfl) ?_
    refine lv_iload_n hx hb dX10_passTime_21 rfl (lv_at hl 2 rfl) ?_
    refine lv_icmp_ge (tgt := 59) hx hb dX10_passTime_22 (by decide) (fun c11 => ?_) (fun c11 => ?_)
    · exact absurd c11 (nI_ge (a := j1) (b := 5) hj2 (by decide))
    · skip
      refine lv_aload_n hx hb dX10_passTime_25 rfl (lv_at hl 1 rfl) ?_
      refine lv_iload_n hx hb dX10_passTime_26 rfl (lv_at hl 3 rfl) ?_
      refine ldn_machines hx hb hK hP hR (rfl : (0 : Nat) = 0) hj2 dX10_passTime_27 (fun h12 => ?_) (fun h12 => ?_)
      · skip
        refine lv_astore (lv' := [(4, .ref (ad4 1 j1)), (0, .ref (ad4 0 0)), (1, .ref (ad4 15 0)), (2, .int 5), (3, .int (nI j1))]) hx hb dX10_passTime_28 hl (by decide) rfl (fun ls hl => ?_)
        refine lv_aload hx hb dX10_passTime_30 (lv_at hl 0 rfl) ?_
        refine lv_ifnull hx hb dX10_passTime_32 ?_
        refine lv_aload hx hb dX10_passTime_35 (lv_at hl 0 rfl) ?_
        refine get_endsAt_1 hx hb hta iwX4 hown hK hP hR h12 (hta _ mw257) dX10_passTime_37 ?_
        refine lv_aload_n hx hb dX10_passTime_40 rfl (lv_at hl 1 rfl) ?_
        refine get_now_0 hx hb hta iwX10 hown hK hP hR (rfl : (0 : Nat) = 0) (hta _ mw107) dX10_passTime_41 ?_
        refine lv_icmp_ne (tgt := 53) hx hb dX10_passTime_44 (by decide) (fun c13 => ?_) (fun c13 => ?_)
        · skip
          refine lv_iinc (v := nI (j1 + 1)) (lv' := [(3, .int (nI (j1 + 1))), (4, .ref (ad4 1 j1)), (0, .ref (ad4 0 0)), (1, .ref (ad4 15 0)), (2, .int 5)]) hx hb dX10_passTime_53 hl (k := 4) rfl (nI_1 _) (by decide) rfl (fun ls hl => ?_)
          refine lv_goto (tgt := 20) hx hb dX10_passTime_56 (by decide) ?_
          refine ih3 (_, _, ad4, L5, f, ls, _, _) ⟨hP, hD, hS, ?_, ?_, ?_, ?_, ?_⟩
          · have a9 : ptL S (j1 + 1) = T := (by rw [ptL_s, hT]; simp only [pt1, if_pos h12, if_neg c13]; (try rfl))
            dsimp only; rw [a9]; exact hR
          · exact hx8
          · (try dsimp only); omega
          · (try dsimp only); omega
          · exact lv_sub hl [2, 3, 4, 0] rfl
        · skip
          refine lv_aload_n hx hb dX10_passTime_47 rfl (lv_at hl 1 rfl) ?_
          refine lv_aload hx hb dX10_passTime_48 (lv_at hl 0 rfl) ?_
          obtain ⟨q14, e15⟩ := cell_0 hR (rfl : (0 : Nat) = 0)
          refine gwr_vY (ci := 12) (As := [.ref (ad4 1 j1)]) (rest := []) ⟨hx, hb, hml, hown, hta⟩ (c_X10_endWork l hR hWj h12 hnj) (cwV 1 hta (gWV mw580 mw581 mw22 mw40 mw582) rfl rfl rfl (by decide +kernel) ⟨Nat.le_of_ble_eq_true rfl, Nat.le_of_ble_eq_true rfl⟩) hX hK hP hD hS hA rfl e15 rfl hl.1 rfl (Nat.le_of_ble_eq_true rfl) dX10_passTime_50 ⟨by show ce6 + 4 ≤ 20; omega, by show sl7 + 16 ≤ 80; omega⟩ (fun u H locs hw hR hP hD hS => ?_)
          obtain ⟨S9, ad18, L19, f⟩ := u
          obtain ⟨rfl, hx17⟩ := hw
          dsimp only at hR hP hD hx17 ⊢
          rw [← hx17 1 j1 (h12), ← hx17 0 0 ((rfl : (0 : Nat) = 0)), ← hx17 15 0 ((rfl : (0 : Nat) = 0))] at hl
          refine lv_iinc (v := nI (j1 + 1)) (lv' := [(3, .int (nI (j1 + 1))), (4, .ref (ad18 1 j1)), (0, .ref (ad18 0 0)), (1, .ref (ad18 15 0)), (2, .int 5)]) hx hb dX10_passTime_53 hl (k := 4) rfl (nI_1 _) (by decide) rfl (fun ls hl => ?_)
          refine lv_goto (tgt := 20) hx hb dX10_passTime_56 (by decide) ?_
          refine ih3 (_, _, ad18, L19, f, ls, _, _) ⟨hP, hD, hS, ?_, ?_, ?_, ?_, ?_⟩
          · have a9 : ptL S (j1 + 1) = (ewS T j1) := (by rw [ptL_s, hT]; simp only [pt1, if_pos h12, if_pos c13]; (try rfl))
            dsimp only; rw [a9]; exact hR
          · exact (fun k i h9 => (hx17 k i (hVj k i h9)).trans (hx8 k i h9))
          · (try dsimp only); omega
          · (try dsimp only); omega
          · exact lv_sub hl [2, 3, 4, 0] rfl
      · skip
        refine lv_astoreN (lv' := [(4, .null), (0, .ref (ad4 0 0)), (1, .ref (ad4 15 0)), (2, .int 5), (3, .int (nI j1))]) hx hb dX10_passTime_28 hl (by decide) rfl (fun ls hl => ?_)
        refine lv_aloadN hx hb dX10_passTime_30 (lv_at hl 0 rfl) ?_
        refine lv_ifnullN (tgt := 53) hx hb dX10_passTime_32 (by decide) ?_
        refine lv_iinc (v := nI (j1 + 1)) (lv' := [(3, .int (nI (j1 + 1))), (4, .null), (0, .ref (ad4 0 0)), (1, .ref (ad4 15 0)), (2, .int 5)]) hx hb dX10_passTime_53 hl (k := 4) rfl (nI_1 _) (by decide) rfl (fun ls hl => ?_)
        refine lv_goto (tgt := 20) hx hb dX10_passTime_56 (by decide) ?_
        refine ih3 (_, _, ad4, L5, f, ls, _, _) ⟨hP, hD, hS, ?_, ?_, ?_, ?_, ?_⟩
        · have a9 : ptL S (j1 + 1) = T := (by rw [ptL_s, hT]; simp only [pt1, if_neg h12]; (try rfl))
          dsimp only; rw [a9]; exact hR
        · exact hx8
        · (try dsimp only); omega
        · (try dsimp only); omega
        · exact lv_sub hl [2, 3, 4, 0] rfl
  · skip
    obtain ⟨H, locs, ad4, L5, f, ls, ce6, sl7⟩ := z
    obtain ⟨hP, hD, hS, hR, hx8, hce9, hsl10, hl⟩ := hz
    dsimp only at hP hD hS hR hl hx8 hce9 hsl10 ⊢
    have hWj : WT (ptL S 5) := WT.pL hW hN 5 (Nat.le_refl _)
    have hVj : ∀ k i, V S k i → V (ptL S 5) k i := ptL_V 5
    generalize hT : ptL S 5 = T at hR hWj hVj
    refine lv_iload_n hx hb dX10_passTime_20 rfl (lv_at hl 3 rfl) ?_
    refine lv_iload_n hx hb dX10_passTime_21 rfl (lv_at hl 2 rfl) ?_
    refine lv_icmp_ge (tgt := 59) hx hb dX10_passTime_22 (by decide) (fun c20 => ?_) (fun c20 => ?_)
    · skip
      refine lv_aload_n hx hb dX10_passTime_59 rfl (lv_at hl 0 rfl) ?_
      refine get_machines_0 hx hb hta iwX10 hown hK hP hR (rfl : (0 : Nat) = 0) (hta _ mw96) dX10_passTime_60 ?_
      refine lv_astore_n (lv' := [(1, .ref (ad4 15 0)), (0, .ref (ad4 0 0)), (2, .int 5), (3, .int (nI 5))]) hx hb dX10_passTime_63 rfl hl (by decide) rfl (fun ls hl => ?_)
      refine lv_aload_n hx hb dX10_passTime_64 rfl (lv_at hl 0 rfl) ?_
      refine len_machines hx hb hK hP hR (rfl : (0 : Nat) = 0) dX10_passTime_65 ?_
      refine lv_istore_n (lv' := [(2, .int 5), (1, .ref (ad4 15 0)), (0, .ref (ad4 0 0)), (3, .int (nI 5))]) hx hb dX10_passTime_66 rfl hl (by decide) rfl (fun ls hl => ?_)
      refine lv_iconst (v := 0) hx hb dX10_passTime_67 (by decide) ?_
      refine lv_istore_n (lv' := [(3, .int 0), (2, .int 5), (1, .ref (ad4 15 0)), (0, .ref (ad4 0 0))]) hx hb dX10_passTime_68 rfl hl (by decide) rfl (fun ls hl => ?_)
      rw [← hT, ← ptM_0] at hR
      refine loop_g (σ := Heap × List Loc × (Nat → Nat → Nat) × List Nat × (Nat → va_E) × Array Slot × Nat × Nat) (Wg := fun z => W p l e _ s m _ below meth c z.1 z.2.1 z.2.2.2.2.2.2.1 z.2.2.2.2.2.2.2 _ (F0 m 69 z.2.2.2.2.2.1 [])) 5 (fun j21 z => va_P D vwCl (va_pl z.2.2.2.1 z.2.2.2.2.1) z.1 ∧ va_D A (va_pl z.2.2.2.1 z.2.2.2.2.1) ∧ va_S A s.heap z.1 z.2.1 ∧ Rep tA (ptM S j21) z.2.2.1 z.2.2.2.1 z.2.2.2.2.1 ∧ (∀ k i, V S k i → z.2.2.1 k i = ad k i) ∧ z.2.2.2.2.2.2.1 ≤ 20 ∧ z.2.2.2.2.2.2.2 ≤ 80 ∧ lv_has z.2.2.2.2.2.1 5 [(0, .ref (z.2.2.1 0 0)), (1, .ref (z.2.2.1 15 0)), (2, .int 5), (3, .int (nI j21))]) (fun j21 hj22 ih23 z hz => ?_) (fun z hz => ?_) (_, _, ad4, L5, f, ls, _, _) ⟨hP, hD, hS, hR, hx8, (by (try dsimp only); omega), (by (try dsimp only); omega), lv_sub hl [3, 2, 1, 0] rfl⟩
      · skip
        obtain ⟨H, locs, ad24, L25, f, ls, ce26, sl27⟩ := z
        obtain ⟨hP, hD, hS, hR, hx28, hce29, hsl30, hl⟩ := hz
        dsimp only at hP hD hS hR hl hx28 hce29 hsl30 ⊢
        have hWj : WT (ptM S j21) := WT.pM hW hN j21
        have hVj : ∀ k i, V S k i → V (ptM S j21) k i := ptM_V j21
        generalize hU : ptM S j21 = U at hR hWj hVj
        refine lv_iload_n hx hb dX10_passTime_69 rfl (lv_at hl 3 rfl) ?_
        refine lv_iload_n hx hb dX10_passTime_70 rfl (lv_at hl 2 rfl) ?_
        refine lv_icmp_ge (tgt := 96) hx hb dX10_passTime_71 (by decide) (fun c31 => ?_) (fun c31 => ?_)
        · exact absurd c31 (nI_ge (a := j21) (b := 5) hj22 (by decide))
        · skip
          refine lv_aload_n hx hb dX10_passTime_74 rfl (lv_at hl 1 rfl) ?_
          refine lv_iload_n hx hb dX10_passTime_75 rfl (lv_at hl 3 rfl) ?_
          refine ldn_machines hx hb hK hP hR (rfl : (0 : Nat) = 0) hj22 dX10_passTime_76 (fun h32 => ?_) (fun h32 => ?_)
          · skip
            refine lv_astore (lv' := [(4, .ref (ad24 1 j21)), (0, .ref (ad24 0 0)), (1, .ref (ad24 15 0)), (2, .int 5), (3, .int (nI j21))]) hx hb dX10_passTime_77 hl (by decide) rfl (fun ls hl => ?_)
            refine lv_aload hx hb dX10_passTime_79 (lv_at hl 0 rfl) ?_
            refine lv_ifnull hx hb dX10_passTime_81 ?_
            refine lv_aload_n hx hb dX10_passTime_84 rfl (lv_at hl 1 rfl) ?_
            refine lv_aload hx hb dX10_passTime_85 (lv_at hl 0 rfl) ?_
            obtain ⟨q33, e34⟩ := cell_0 hR (rfl : (0 : Nat) = 0)
            refine gwr_v (mc := 0) (ms := 0) (ci := 12) (As := [.ref (ad24 1 j21)]) (rest := []) ⟨hx, hb, hml, hown, hta⟩ (c_X10_beginNext l hR hWj h32) (cwV 1 hta (gWV mw614 mw615 mw29 mw40 mw616) rfl rfl rfl (by decide +kernel) ⟨Nat.le_of_ble_eq_true rfl, Nat.le_of_ble_eq_true rfl⟩) hK hP hD hS hA rfl e34 rfl hl.1 rfl (Nat.le_of_ble_eq_true rfl) dX10_passTime_87 ⟨by show ce26 + 0 ≤ 20; omega, by show sl27 + 0 ≤ 80; omega⟩ (fun u H locs hw hR hP hD hS => ?_)
            obtain ⟨S9, ad9, L9, f⟩ := u
            obtain ⟨rfl, rfl, rfl⟩ := hw
            dsimp only at hR hP hD
            refine lv_iinc (v := nI (j21 + 1)) (lv' := [(3, .int (nI (j21 + 1))), (4, .ref (ad24 1 j21)), (0, .ref (ad24 0 0)), (1, .ref (ad24 15 0)), (2, .int 5)]) hx hb dX10_passTime_90 hl (k := 4) rfl (nI_1 _) (by decide) rfl (fun ls hl => ?_)
            refine lv_goto (tgt := 69) hx hb dX10_passTime_93 (by decide) ?_
            refine ih23 (_, _, ad24, L25, f, ls, _, _) ⟨hP, hD, hS, ?_, ?_, ?_, ?_, ?_⟩
            · have a9 : ptM S (j21 + 1) = (bnS U j21) := (by rw [ptM_s, hU]; simp only [bt1, if_pos h32]; (try rfl))
              dsimp only; rw [a9]; exact hR
            · exact hx28
            · (try dsimp only); omega
            · (try dsimp only); omega
            · exact lv_sub hl [2, 3, 4, 0] rfl
          · skip
            refine lv_astoreN (lv' := [(4, .null), (0, .ref (ad24 0 0)), (1, .ref (ad24 15 0)), (2, .int 5), (3, .int (nI j21))]) hx hb dX10_passTime_77 hl (by decide) rfl (fun ls hl => ?_)
            refine lv_aloadN hx hb dX10_passTime_79 (lv_at hl 0 rfl) ?_
            refine lv_ifnullN (tgt := 90) hx hb dX10_passTime_81 (by decide) ?_
            refine lv_iinc (v := nI (j21 + 1)) (lv' := [(3, .int (nI (j21 + 1))), (4, .null), (0, .ref (ad24 0 0)), (1, .ref (ad24 15 0)), (2, .int 5)]) hx hb dX10_passTime_90 hl (k := 4) rfl (nI_1 _) (by decide) rfl (fun ls hl => ?_)
            refine lv_goto (tgt := 69) hx hb dX10_passTime_93 (by decide) ?_
            refine ih23 (_, _, ad24, L25, f, ls, _, _) ⟨hP, hD, hS, ?_, ?_, ?_, ?_, ?_⟩
            · have a9 : ptM S (j21 + 1) = U := (by rw [ptM_s, hU]; simp only [bt1, if_neg h32]; (try rfl))
              dsimp only; rw [a9]; exact hR
            · exact hx28
            · (try dsimp only); omega
            · (try dsimp only); omega
            · exact lv_sub hl [2, 3, 4, 0] rfl
      · skip
        obtain ⟨H, locs, ad24, L25, f, ls, ce26, sl27⟩ := z
        obtain ⟨hP, hD, hS, hR, hx28, hce29, hsl30, hl⟩ := hz
        dsimp only at hP hD hS hR hl hx28 hce29 hsl30 ⊢
        have hWj : WT (ptM S 5) := WT.pM hW hN 5
        have hVj : ∀ k i, V S k i → V (ptM S 5) k i := ptM_V 5
        generalize hU : ptM S 5 = U at hR hWj hVj
        refine lv_iload_n hx hb dX10_passTime_69 rfl (lv_at hl 3 rfl) ?_
        refine lv_iload_n hx hb dX10_passTime_70 rfl (lv_at hl 2 rfl) ?_
        refine lv_icmp_ge (tgt := 96) hx hb dX10_passTime_71 (by decide) (fun c36 => ?_) (fun c36 => ?_)
        · skip
          refine W.widen (k := 20) (n := 80) (by omega) (by omega) ?_
          exact W.vret hx hb hr (fun t ht hWm => gend_v (u := (U, ad24, L25, f)) ⟨hU, hx28⟩ hR hP hK hD hS ht hWm) hS.2.2 dX10_passTime_96
        · exact absurd (nI_le (a := 5) (b := 5) (Nat.le_refl _) (by decide)) c36
    · exact absurd (nI_le (a := 5) (b := 5) (Nat.le_refl _) (by decide)) c20

/-- n time units -/
def avS (S : St) : Nat → St
  | 0 => S
  | n + 1 => ptS (avS S n)
theorem avS_s (S : St) (n : Nat) : avS S (n + 1) = ptS (avS S n) := by rw [avS]
theorem WT.av {S : St} (hW : WT S) {b : Nat} (hN : ∀ k, k < b → ∀ j, j < 5 → sN (ptL (avS S k) j) 2 0 < 90) : ∀ n, n ≤ b → WT (avS S n)
  | 0, _ => hW
  | n + 1, h => by rw [avS_s]; exact WT.pt (WT.av hW hN n (by omega)) (hN n (by omega))
theorem avS_V {S : St} : ∀ n, ∀ k i, V S k i → V (avS S n) k i
  | 0, _, _, h => h
  | n + 1, k, i, h => by rw [avS_s]; show V (ptM (avS S n) 5) k i; exact ptM_V 5 k i (avS_V n k i h)
set_option maxHeartbeats 4000000 in
set_option maxRecDepth 100000 in
theorem c_X10_advance (l : Launch) {D : va_G} {tA : Nat → ClassId} {S : St} {ad : Nat → Nat → Nat} {L : List Nat} {f : Nat → va_E} {sz : Nat} (hR : Rep tA S ad L f) (hW : WT S) {b : Nat} (hb12 : b ≤ 12) (hin : inR (nI b) 1 500 = true) (hnow : sI S 2 0 + nI b ≤ 5000) (hN : ∀ k, k < b → ∀ j, j < 5 → sN (ptL (avS S k) j) 2 0 < 90) : Met l yX10_advance (wsC yX10_advance cX10_advance 3 (some .int)) ({ frames := 7, cells := 240, slots := 960, locals := 196 }) (va_Pc [.ref (ad 0 0), .int (nI b)] (gY D tA L f sz)) (va_Qi (fun (r : Int32) (u : gU) => r = sI (avS S b) 2 0 ∧ avS S b = u.1 ∧ ∀ k i, V S k i → u.2.1 k i = ad k i) (gE D tA (va_A (va_pl L f) sz)) (va_A (va_pl L f) sz)) 240 960 (va_A (va_pl L f) sz) := by
  refine Met.ofW (cc := cX10_advance) (maxL := 3) (ret := (some .int)) (by decide) rfl ?_
  intro p e s m args below meth c s₁ B hml hv
  obtain ⟨rfl, ⟨hsz, hP, hK, hD0⟩, hX⟩ := hv
  have hx := B.exec
  have hb := B.bytes
  have hr := B.returns
  have hts := atoms_spec (ws := wsC yX10_advance cX10_advance 3 (some .int)) B.pre
  have hta : ∀ w ∈ WA, w.before _ s = true := fun w h => hts w (List.mem_cons_of_mem _ h)
  have hown : s.vm.findClass RX10 = some m.cls := findClass_of_methodNamed B.named
  have hlocks := B.notSynchronized
  subst hsz
  have hD : va_D (va_A (va_pl L f) s.heap.size) (va_pl L f) := hD0.self (sz := s.heap.size)
  generalize hAe : va_A (va_pl L f) s.heap.size = A at hD ⊢
  have hA : ∀ q : Nat, s.heap.size ≤ q → A q := fun q h => by rw [← hAe]; exact Or.inr h
  have hS : va_S A s.heap s.heap [] := va_S.rf
  have hP : va_P D vwCl (va_pl L f) s.heap := hP
  have hl := lv_entry ([.ref (ad 0 0), .int (nI b)]) (n := 3) (Nat.le_of_ble_eq_true rfl)
  rw [lg_entry_eq]
  generalize (lg_sl ([.ref (ad 0 0), .int (nI b)]) ++ List.replicate (3 - (lg_sl ([.ref (ad 0 0), .int (nI b)])).length) Slot.unset).toArray = ls at hl ⊢
  have hl : lv_has ls 3 [(0, .ref (ad 0 0)), (1, .int (nI b))] := hl
  refine lv_iload_n hx hb dX10_advance_0 rfl (lv_at hl 1 rfl) ?_
  refine lv_iconst (v := 1) hx hb dX10_advance_1 (by decide) ?_
  refine lv_sipush (v := 500) hx hb dX10_advance_2 (by decide) ?_
  refine vp_callSi (W.runS (As := [.int (nI b), .int 1, .int 500]) (rest := []) ⟨hx, hb, hml, hown, hta⟩ (c_X10_isFrom l (nI b) 1 500) (va_cwS 3 hta (gWS mw223 mw224 mw40 mw225) rfl rfl rfl (by decide +kernel) ⟨Nat.le_of_ble_eq_true rfl, Nat.le_of_ble_eq_true rfl⟩) ⟨fun a U g mk q => ⟨q.1, trivial⟩, fun U hU hW9 => ⟨rfl, trivial⟩⟩ rfl rfl hl.1 rfl (lv_room (Nat.le_of_ble_eq_true rfl)) dX10_advance_5 ⟨Nat.le_of_ble_eq_true rfl, Nat.le_of_ble_eq_true rfl⟩) (fun r1 c2 => ?_)
  obtain rfl : r1 = 1 := c2.trans (by rw [hin]; rfl)
  refine lv_if_ne (tgt := 21) hx hb dX10_advance_8 (by decide) (fun c3 => ?_) (fun c3 => ?_)
  · skip
    refine lv_aload_n hx hb dX10_advance_21 rfl (lv_at hl 0 rfl) ?_
    refine get_now_0 hx hb hta iwX10 hown hK hP hR (rfl : (0 : Nat) = 0) (hta _ mw107) dX10_advance_22 ?_
    refine lv_iload_n hx hb dX10_advance_25 rfl (lv_at hl 1 rfl) ?_
    refine lv_iadd hx hb dX10_advance_26 ?_
    refine lv_sipush (v := 5000) hx hb dX10_advance_27 (by decide) ?_
    refine lv_icmp_le (tgt := 44) hx hb dX10_advance_30 (by decide) (fun c4 => ?_) (fun c4 => ?_)
    · skip
      refine lv_iconst (v := 0) hx hb dX10_advance_44 (by decide) ?_
      refine lv_istore_n (lv' := [(2, .int 0), (0, .ref (ad 0 0)), (1, .int (nI b))]) hx hb dX10_advance_45 rfl hl (by decide) rfl (fun ls hl => ?_)
      refine loop_g (σ := Heap × List Loc × (Nat → Nat → Nat) × List Nat × (Nat → va_E) × Array Slot × Nat × Nat) (Wg := fun z => W p l e _ s m _ below meth c z.1 z.2.1 z.2.2.2.2.2.2.1 z.2.2.2.2.2.2.2 _ (F0 m 46 z.2.2.2.2.2.1 [])) b (fun j5 z => va_P D vwCl (va_pl z.2.2.2.1 z.2.2.2.2.1) z.1 ∧ va_D A (va_pl z.2.2.2.1 z.2.2.2.2.1) ∧ va_S A s.heap z.1 z.2.1 ∧ Rep tA (avS S j5) z.2.2.1 z.2.2.2.1 z.2.2.2.2.1 ∧ (∀ k i, V S k i → z.2.2.1 k i = ad k i) ∧ z.2.2.2.2.2.2.1 ≤ 20 * j5 ∧ z.2.2.2.2.2.2.2 ≤ 80 * j5 ∧ lv_has z.2.2.2.2.2.1 3 [(0, .ref (z.2.2.1 0 0)), (1, .int (nI b)), (2, .int (nI j5))]) (fun j5 hj6 ih7 z hz => ?_) (fun z hz => ?_) (_, _, ad, L, f, ls, _, _) ⟨hP, hD, hS, hR, (fun _ _ _ => rfl), (by (try dsimp only); omega), (by (try dsimp only); omega), lv_sub hl [1, 2, 0] rfl⟩
      · skip
        obtain ⟨H, locs, ad8, L9, f, ls, ce10, sl11⟩ := z
        obtain ⟨hP, hD, hS, hR, hx12, hce13, hsl14, hl⟩ := hz
        dsimp only at hP hD hS hR hl hx12 hce13 hsl14 ⊢
        have hWj : WT (avS S j5) := WT.av hW hN j5 (Nat.le_of_lt hj6)
        have hVj : ∀ k i, V S k i → V (avS S j5) k i := avS_V j5
        have hNj : ∀ j, j < 5 → sN (ptL (avS S j5) j) 2 0 < 90 := hN j5 hj6
        generalize hT : avS S j5 = T at hR hWj hVj hNj
        refine lv_iload_n hx hb dX10_advance_46 rfl (lv_at hl 2 rfl) ?_
        refine lv_iload_n hx hb dX10_advance_47 rfl (lv_at hl 1 rfl) ?_
        refine lv_icmp_ge (tgt := 61) hx hb dX10_advance_48 (by decide) (fun c15 => ?_) (fun c15 => ?_)
        · exact absurd c15 (nI_ge (a := j5) (b := b) hj6 (by omega))
        · skip
          refine lv_aload_n hx hb dX10_advance_51 rfl (lv_at hl 0 rfl) ?_
          obtain ⟨q16, e17⟩ := cell_0 hR (rfl : (0 : Nat) = 0)
          refine gwr_vY (ci := 12) (As := []) (rest := []) ⟨hx, hb, hml, hown, hta⟩ (c_X10_passTime l hR hWj hNj) (cwV 0 hta (gWV mw577 mw578 mw21 mw40 mw579) rfl rfl rfl (by decide +kernel) ⟨Nat.le_of_ble_eq_true rfl, Nat.le_of_ble_eq_true rfl⟩) hX hK hP hD hS hA rfl e17 rfl hl.1 rfl (Nat.le_of_ble_eq_true rfl) dX10_advance_52 ⟨by show ce10 + 20 ≤ 240; omega, by show sl11 + 80 ≤ 960; omega⟩ (fun u H locs hw hR hP hD hS => ?_)
          obtain ⟨S9, ad20, L21, f⟩ := u
          obtain ⟨rfl, hx19⟩ := hw
          dsimp only at hR hP hD hx19 ⊢
          rw [← hx19 0 0 ((rfl : (0 : Nat) = 0))] at hl
          refine lv_iinc (v := nI (j5 + 1)) (lv' := [(2, .int (nI (j5 + 1))), (0, .ref (ad20 0 0)), (1, .int (nI b))]) hx hb dX10_advance_55 hl (k := 2) rfl (nI_1 _) (by decide) rfl (fun ls hl => ?_)
          refine lv_goto (tgt := 46) hx hb dX10_advance_58 (by decide) ?_
          refine ih7 (_, _, ad20, L21, f, ls, _, _) ⟨hP, hD, hS, ?_, ?_, ?_, ?_, ?_⟩
          · have a9 : avS S (j5 + 1) = (ptS T) := (by rw [avS_s, hT])
            dsimp only; rw [a9]; exact hR
          · exact (fun k i h9 => (hx19 k i (hVj k i h9)).trans (hx12 k i h9))
          · (try dsimp only); omega
          · (try dsimp only); omega
          · exact lv_sub hl [1, 2, 0] rfl
      · skip
        obtain ⟨H, locs, ad8, L9, f, ls, ce10, sl11⟩ := z
        obtain ⟨hP, hD, hS, hR, hx12, hce13, hsl14, hl⟩ := hz
        dsimp only at hP hD hS hR hl hx12 hce13 hsl14 ⊢
        have hWj : WT (avS S b) := WT.av hW hN b (Nat.le_refl _)
        have hVj : ∀ k i, V S k i → V (avS S b) k i := avS_V b
        generalize hT : avS S b = T at hR hWj hVj
        refine lv_iload_n hx hb dX10_advance_46 rfl (lv_at hl 2 rfl) ?_
        refine lv_iload_n hx hb dX10_advance_47 rfl (lv_at hl 1 rfl) ?_
        refine lv_icmp_ge (tgt := 61) hx hb dX10_advance_48 (by decide) (fun c22 => ?_) (fun c22 => ?_)
        · skip
          refine lv_aload_n hx hb dX10_advance_61 rfl (lv_at hl 0 rfl) ?_
          refine get_now_0 hx hb hta iwX10 hown hK hP hR (rfl : (0 : Nat) = 0) (hta _ mw107) dX10_advance_62 ?_
          refine W.widen (k := 240) (n := 960) (by omega) (by omega) ?_
          exact W.iret (v := (sI T 2 0)) hx hb hr (fun t ht hWm => gend_i (u := (T, ad8, L9, f)) ⟨rfl, rfl, hx12⟩ hR hP hK hD hS ht hWm) hS.2.2 dX10_advance_65
        · exact absurd (nI_le (a := b) (b := b) (Nat.le_refl _) (by omega)) c22
    · exact absurd hnow c4
  · exact absurd c3 (by decide)

