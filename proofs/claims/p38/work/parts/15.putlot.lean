/-! putLot: the one method that brings a lot into the state -/
set_option maxHeartbeats 4000000 in
set_option maxRecDepth 100000 in
theorem c_X10_putLot (l : Launch) {D : va_G} {tA : Nat → ClassId} {S : St} {ad : Nat → Nat → Nat} {L : List Nat} {f : Nat → va_E} {sz : Nat} (hR : Rep tA S ad L f) (hW : WT S) {p9 : Nat} (hp : p9 < sN S 1 0) (qy : Int32) (co : Int64) (hn : sN S 2 0 < 90) : Met l yX10_putLot (wsC yX10_putLot cX10_putLot 6 (some (.object "Foundrymark$Lot"))) ({ frames := 3, cells := 4, slots := 16, locals := 100 }) (va_Pc [.ref (ad 0 0), .ref (ad 2 p9), .int qy, .long co] (gY D tA L f sz)) (va_Qq (fun (r : Option Nat) (u : gU) => r = Option.map (u.2.1 7) (some (sN S 2 0)) ∧ nlS S p9 qy co = u.1 ∧ ∀ k i, V S k i → u.2.1 k i = ad k i) (gE D tA (va_A (va_pl L f) sz)) (va_A (va_pl L f) sz)) 4 16 (va_A (va_pl L f) sz) := by
  refine Met.ofW (cc := cX10_putLot) (maxL := 6) (ret := (some (.object "Foundrymark$Lot"))) (by decide) rfl ?_
  intro p e s m args below meth c s₁ B hml hv
  obtain ⟨rfl, ⟨hsz, hP, hK, hD0⟩, hX⟩ := hv
  have hx := B.exec
  have hb := B.bytes
  have hr := B.returns
  have hts := atoms_spec (ws := wsC yX10_putLot cX10_putLot 6 (some (.object "Foundrymark$Lot"))) B.pre
  have hta : ∀ w ∈ WA, w.before _ s = true := fun w h => hts w (List.mem_cons_of_mem _ h)
  have hown : s.vm.findClass RX10 = some m.cls := findClass_of_methodNamed B.named
  have hlocks := B.notSynchronized
  subst hsz
  have hD : va_D (va_A (va_pl L f) s.heap.size) (va_pl L f) := hD0.self (sz := s.heap.size)
  generalize hAe : va_A (va_pl L f) s.heap.size = A at hD ⊢
  have hA : ∀ q : Nat, s.heap.size ≤ q → A q := fun q h => by rw [← hAe]; exact Or.inr h
  have hS : va_S A s.heap s.heap [] := va_S.rf
  have hP : va_P D vwCl (va_pl L f) s.heap := hP
  have hl := lv_entry ([.ref (ad 0 0), .ref (ad 2 p9), .int qy, .long co]) (n := 6) (Nat.le_of_ble_eq_true rfl)
  rw [lg_entry_eq]
  generalize (lg_sl ([.ref (ad 0 0), .ref (ad 2 p9), .int qy, .long co]) ++ List.replicate (6 - (lg_sl ([.ref (ad 0 0), .ref (ad 2 p9), .int qy, .long co])).length) Slot.unset).toArray = ls at hl ⊢
  have hl : lv_has ls 6 [(0, .ref (ad 0 0)), (1, .ref (ad 2 p9)), (2, .int qy), (3, .long co)] := hl
  refine raw_new (ci := 5) (K := RX3) (T := TX3) (N := 10) (fs := [.int 0, .null, .int 0, .null, .null, .null, .int 0, .int 0, .int 0, .long 0]) hx hb hta iwX3 tyX3 tyX3_ok hown (hta _ mw80) (hta _ mw398) (hta _ mw57) hK hP hD hS hA rfl (fun j hj => by rcases (show j = 0 ∨ j = 1 ∨ j = 2 ∨ j = 3 ∨ j = 4 ∨ j = 5 ∨ j = 6 ∨ j = 7 ∨ j = 8 ∨ j = 9 by omega) with rfl | rfl | rfl | rfl | rfl | rfl | rfl | rfl | rfl | rfl <;> rfl) (Nat.le_of_ble_eq_true rfl) (Nat.le_of_ble_eq_true rfl) dX10_putLot_0 (fun q H L2 f2 hn1 hm1 hs1 hd1 hf1 ho1 hP hD hS => ?_)
  have hne1 : ∀ k i, V S k i → ad k i ≠ q := fun k i hv z => hn1 (z ▸ (hR.1 k i hv).1)
  have hR1 : Rep tA S ad L2 f2 := hR.raw hs1 (fun k i hv => ho1 _ (hne1 k i hv))
  refine lv_dup hx hb dX10_putLot_3 rfl ?_
  refine lv_aload_n hx hb dX10_putLot_4 rfl (lv_at hl 0 rfl) ?_
  refine get_lotCount_0 hx hb hta iwX10 hown hK hP hR1 (rfl : (0 : Nat) = 0) (hta _ mw104) dX10_putLot_5 ?_
  refine lv_aload_n hx hb dX10_putLot_8 rfl (lv_at hl 1 rfl) ?_
  refine lv_iload_n hx hb dX10_putLot_9 rfl (lv_at hl 2 rfl) ?_
  refine lv_lload_n hx hb dX10_putLot_10 rfl (lv_at hl 3 rfl) ?_
  refine graw_Y (As := [.int (nI (sN S 2 0)), .ref (ad 2 p9), .int qy, .long co]) (rest := [.ref q]) ⟨hx, hb, hml, hown, hta⟩ (c_X3_init l hm1 hf1 (nI (sN S 2 0)) (ad 2 p9) qy co) (cwI 4 hta (gWI mw401) rfl rfl rfl (hta _ mw57) (hta _ mw399) (hta _ mw400) rfl (by decide +kernel) ⟨Nat.le_of_ble_eq_true rfl, Nat.le_of_ble_eq_true rfl⟩) hX hK hP hD hS hA rfl hl.1 rfl (Nat.le_of_ble_eq_true rfl) dX10_putLot_11 ⟨Nat.le_of_ble_eq_true rfl, Nat.le_of_ble_eq_true rfl⟩ (fun u H locs hw hP hD hS => ?_)
  obtain ⟨L3, f3⟩ := u
  obtain ⟨q1, q2, q3, hfq, ⟨g1, g2, g3, g4⟩, ⟨g5, g6, g7, g8⟩, ⟨g9, g10, g11, g12⟩, e12, e13, e23, hs3, hd3, ho3⟩ := hw
  dsimp only at hP hD hfq g1 g3 g5 g7 g9 g11 hs3 hd3 ho3
  have hsL : ∀ a, a ∈ L → a ∈ L3 := fun a ha => hs3 a (hs1 a ha)
  have hR3 : Rep tA S ad L3 f3 := hR1.raw hs3 (fun k i hv => ho3 _ (hR1.1 k i hv).1 (hne1 k i hv))
  have hmq : q ∈ L3 := hs3 q hm1
  refine lv_astore (lv' := [(5, .ref q), (0, .ref (ad 0 0)), (1, .ref (ad 2 p9)), (2, .int qy), (3, .long co)]) hx hb dX10_putLot_14 hl (by decide) rfl (fun ls hl => ?_)
  refine lv_aload_n hx hb dX10_putLot_16 rfl (lv_at hl 1 rfl) ?_
  refine get_lotCount_0 hx hb hta iwX10 hown hK hP hR3 (rfl : (0 : Nat) = 0) (hta _ mw104) dX10_putLot_17 ?_
  refine lv_aload_n hx hb dX10_putLot_20 rfl (lv_at hl 1 rfl) ?_
  refine get_lots_0 hx hb hta iwX10 hown hK hP hR3 (rfl : (0 : Nat) = 0) (hta _ mw99) dX10_putLot_21 ?_
  refine len_lots hx hb hK hP hR3 (rfl : (0 : Nat) = 0) dX10_putLot_24 ?_
  refine lv_icmp_ge (tgt := 49) hx hb dX10_putLot_25 (by decide) (fun c1 => ?_) (fun c1 => ?_)
  · exact absurd c1 (nI_ge (b := 90) hn (by decide))
  · refine lv_aload_n hx hb dX10_putLot_28 rfl (lv_at hl 1 rfl) ?_
    refine get_lots_0 hx hb hta iwX10 hown hK hP hR3 (rfl : (0 : Nat) = 0) (hta _ mw99) dX10_putLot_29 ?_
    refine lv_aload_n hx hb dX10_putLot_32 rfl (lv_at hl 1 rfl) ?_
    refine get_lotCount_0 hx hb hta iwX10 hown hK hP hR3 (rfl : (0 : Nat) = 0) (hta _ mw104) dX10_putLot_33 ?_
    refine lv_aload hx hb dX10_putLot_36 (lv_at hl 0 rfl) ?_
    have v0 : V S 0 0 := rfl
    have v18 : V S 18 0 := rfl
    have hx3 := (hR3.1 0 0 v0).2
    have ha3 := (hR3.1 18 0 v18).2
    refine raw_ast (K := RX3) (T := TX3) (N := 10) (ci := 5) (j := sN S 2 0) 4 rfl hx hb hK hP hD hS (hR3.1 18 0 v18).1 ha3 hmq hfq rfl hn (by decide) dX10_putLot_38 (fun H locs f4 ha4 ho4 hP hD hS => ?_)
    have hx4 := (ho4 _ (hR3.ne v0 v18 (by decide))).trans hx3
    refine lv_aload_n hx hb dX10_putLot_39 rfl (lv_at hl 1 rfl) ?_
    refine lv_dup hx hb dX10_putLot_40 rfl ?_
    obtain ⟨z, hz⟩ := pl_at (hR3.1 0 0 v0).1 hx4
    refine va_get (D := D) (ci := 12) (v := .int (nI (sN S 2 0))) (C := RX10) (T := TX10) (N := 14) hx hb hta iwX10 hown hK hP z hz rfl 8 (by decide) (hta _ mw104) (fun _ h9 => h9) rfl dX10_putLot_41 ?_
    refine lv_iconst (v := 1) hx hb dX10_putLot_44 (by decide) ?_
    refine lv_iadd hx hb dX10_putLot_45 ?_
    rw [nI_1]
    refine raw_put (ci := 12) (K := RX10) (T := TX10) (N := 14) (v := .int (nI (sN S 2 0 + 1))) (ty := .int) hx hb hta iwX10 tyX10 tyX10_ok nmX10 hown hK hP hD hS (hR3.1 0 0 v0).1 hx4 rfl 8 (by decide) (hta _ mw104) rfl (by decide +kernel) rfl rfl (Nat.le_of_ble_eq_true rfl) dX10_putLot_46 (fun H locs f5 hx5 ho5 hP hD hS => ?_)
    refine lv_aload hx hb dX10_putLot_49 (lv_at hl 0 rfl) ?_
    have d0 : ∀ a, a ∉ L → a ≠ ad 0 0 := fun a ha z => ha (z ▸ (hR.1 0 0 v0).1)
    have d18 : ∀ a, a ∉ L → a ≠ ad 18 0 := fun a ha z => ha (z ▸ (hR.1 18 0 v18).1)
    have hto : ∀ a, a ≠ ad 0 0 → a ≠ ad 18 0 → f5 a = f3 a := fun a h1 h2 => (ho5 a h1).trans (ho4 a h2)
    have nL1 : ∀ a, a ∉ L2 → a ∉ L := fun a ha z => ha (hs1 a z)
    have hRf : Rep tA (nlS S p9 qy co) (nlA ad (sN S 2 0) q q1 q2 q3) L3 f5 := hR.newLot hW hsL ⟨(hto q (d0 q hn1) (d18 q hn1)).trans hfq, hn1, hmq⟩ ⟨(hto q1 (d0 _ (nL1 _ g2)) (d18 _ (nL1 _ g2))).trans g1, nL1 _ g2, g3⟩ ⟨(hto q2 (d0 _ (nL1 _ g6)) (d18 _ (nL1 _ g6))).trans g5, nL1 _ g6, g7⟩ ⟨(hto q3 (d0 _ (nL1 _ g10)) (d18 _ (nL1 _ g10))).trans g9, nL1 _ g10, g11⟩ ⟨g4, g8, g12, e12, e13, e23⟩ (fun a ha h1 h2 => (hto a h1 h2).trans ((ho3 a (hs1 a ha) (fun z => hn1 (z ▸ ha))).trans (ho1 a (fun z => hn1 (z ▸ ha))))) hx5 ((ho5 _ (hR3.ne v18 v0 (by decide))).trans ha4)
    have nv : ∀ k i, V S k i → nlA ad (sN S 2 0) q q1 q2 q3 k i = ad k i := fun k i hv => nlA_old (fun z => by
      subst z
      exact ⟨fun z => by subst z; exact Nat.lt_irrefl _ hv, fun z => by subst z; exact Nat.lt_irrefl _ hv, fun z => by subst z; exact Nat.lt_irrefl _ hv, fun z => by subst z; exact Nat.lt_irrefl _ hv⟩)
    exact W.aret (rt := (.object "Foundrymark$Lot")) hx hb hr (Or.inl ⟨_, rfl⟩) (Or.inr ⟨_, rfl⟩) (fun t ht hWm => gend_q (r := some q) (u := (nlS S p9 qy co, nlA ad (sN S 2 0) q q1 q2 q3, L3, f5)) ⟨by show some q = some _; simp [nlA], rfl, nv⟩ hRf hP hK hD hS ht hWm) hS.2.2 dX10_putLot_51
