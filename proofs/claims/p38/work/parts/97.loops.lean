/-! the set-up's loops, and the entry (made by wip/gen/spec_v.py) -/
set_option maxHeartbeats 8000000 in
set_option maxRecDepth 100000 in
theorem lu_ml {p : Program} {e : Env} {s : State} {m : MethodId} {below : List Frame} {meth : Method} {c : Code} (l : Launch) {b Ln : Nat} {xs : Nat → Int32} {A : Nat → Prop} {D : va_G} {tA : Nat → ClassId} (C : LwC p l s m meth c b Ln xs A D tA) {S : St} {ad : Nat → Nat → Nat} {L : List Nat} {f : Nat → va_E} {H : Heap} {locs : List Loc} {ls : Array Slot} {cells slots : Nat} (hR : Rep tA S ad L f) (hP : va_P D vwCl (va_pl L f) H) (hD : va_D A (va_pl L f)) (hS : va_S A s.heap H locs) {nm : Nat} (hB : SB S 0 0) (h3 : nm ≤ 3) (hc : cells + 200 ≤ 621943) (hsl : slots + 2000 ≤ 7227368) (hl : lv_has ls 19 [(0, .ref b), (1, .ref (ad 0 0)), (2, .int 0), (3, .int (nI nm)), (4, .int 0), (5, .long 0), (7, .int (nI 0))]) (kk : ∀ (T : St) (ad : Nat → Nat → Nat) (L : List Nat) (f : Nat → va_E) (H : Heap) (locs : List Loc) (ls : Array Slot) (ce sl : Nat), SB T nm 0 → Rep tA T ad L f → va_P D vwCl (va_pl L f) H → va_D A (va_pl L f) → va_S A s.heap H locs → lv_has ls 19 [(0, .ref b), (1, .ref (ad 0 0)), (2, .int 0), (3, .int (nI nm)), (4, .int 0), (5, .long 0), (7, .int (nI nm))] → ce ≤ cells + 3 → sl ≤ slots + 33 → W p l e room_1 s m #[Value.ref b] below meth c H locs ce sl (lw_Z below #[Value.ref b] s) (F0 m 85 ls [])) : W p l e room_1 s m #[Value.ref b] below meth c H locs cells slots (lw_Z below #[Value.ref b] s) (F0 m 28 ls []) := by
  refine loop_g (σ := St × (Nat → Nat → Nat) × List Nat × (Nat → va_E) × Heap × List Loc × Array Slot × Nat × Nat) (Wg := fun z => W p l e room_1 s m #[Value.ref b] below meth c z.2.2.2.2.1 z.2.2.2.2.2.1 z.2.2.2.2.2.2.2.1 z.2.2.2.2.2.2.2.2 (lw_Z below #[Value.ref b] s) (F0 m 28 z.2.2.2.2.2.2.1 [])) nm
    (fun j z => SB (z.1) j 0 ∧ Rep tA z.1 z.2.1 z.2.2.1 z.2.2.2.1 ∧ va_P D vwCl (va_pl z.2.2.1 z.2.2.2.1) z.2.2.2.2.1 ∧ va_D A (va_pl z.2.2.1 z.2.2.2.1) ∧ va_S A s.heap z.2.2.2.2.1 z.2.2.2.2.2.1 ∧ lv_has z.2.2.2.2.2.2.1 19 [(0, .ref b), (1, .ref (z.2.1 0 0)), (2, .int 0), (3, .int (nI nm)), (4, .int 0), (5, .long 0), (7, .int (nI j))] ∧ z.2.2.2.2.2.2.2.1 ≤ cells + 1 * j ∧ z.2.2.2.2.2.2.2.2 ≤ slots + 11 * j)
    (fun j hj ih z hz => ?_) (fun z hz => ?_) (S, ad, L, f, H, locs, ls, cells, slots) ⟨hB, hR, hP, hD, hS, hl, by (try dsimp only); omega, by (try dsimp only); omega⟩
  · obtain ⟨S, ad, L, f, H, locs, ls, ce, sl⟩ := z
    obtain ⟨hI, hR, hP, hD, hS, hl, hc9, hs9⟩ := hz
    dsimp only at hI hR hP hD hS hl hc9 hs9 ⊢
    obtain ⟨C0, hL, hA, hA2, hX, hQ, hK, hl0⟩ := id C
    obtain ⟨hx, hb, hr, hml, hown0, hts, hXs, hbl, hlocks, hgv⟩ := id C0
    have hta : ∀ w ∈ WA, w.before #[Value.ref b] s = true := fun w h => hts w (WA_in w h)
    have hown : s.vm.findClass RL = some m.cls := hown0
    have hbA : ¬ A b := fun h => absurd (hA2 b h) (Nat.not_le.mpr hbl)
    refine lv_iload hx hb dL_law_28 (lv_at hl 6 rfl) ?_
    refine lv_iload_n hx hb dL_law_30 rfl (lv_at hl 3 rfl) ?_
    refine lv_icmp_ge (tgt := 85) hx hb dL_law_31 (by decide) (fun c1 => ?_) (fun c1 => ?_)
    · exact absurd c1 (nI_ge (a := j) (b := nm) hj (by omega))
    · refine lu_mach l C hR hP hD hS hI hj h3 (by omega) (by omega) hl (fun T ad L f H locs ls ce9 sl9 hI hR hP hD hS hl hc8 hs8 => ?_)
      exact ih (T, ad, L, f, H, locs, ls, ce9, sl9) ⟨hI, hR, hP, hD, hS, hl, by (try dsimp only); omega, by (try dsimp only); omega⟩
  · obtain ⟨S, ad, L, f, H, locs, ls, ce, sl⟩ := z
    obtain ⟨hI, hR, hP, hD, hS, hl, hc9, hs9⟩ := hz
    dsimp only at hI hR hP hD hS hl hc9 hs9 ⊢
    obtain ⟨C0, hL, hA, hA2, hX, hQ, hK, hl0⟩ := id C
    obtain ⟨hx, hb, hr, hml, hown0, hts, hXs, hbl, hlocks, hgv⟩ := id C0
    have hta : ∀ w ∈ WA, w.before #[Value.ref b] s = true := fun w h => hts w (WA_in w h)
    have hown : s.vm.findClass RL = some m.cls := hown0
    have hbA : ¬ A b := fun h => absurd (hA2 b h) (Nat.not_le.mpr hbl)
    refine lv_iload hx hb dL_law_28 (lv_at hl 6 rfl) ?_
    refine lv_iload_n hx hb dL_law_30 rfl (lv_at hl 3 rfl) ?_
    refine lv_icmp_ge (tgt := 85) hx hb dL_law_31 (by decide) (fun c1 => ?_) (fun c1 => ?_)
    · exact kk _ _ _ _ _ _ _ _ _ hI hR hP hD hS hl (by omega) (by omega)
    · exact absurd (nI_le (a := nm) (b := nm) (Nat.le_refl _) (by omega)) c1

set_option maxHeartbeats 8000000 in
set_option maxRecDepth 100000 in
theorem lu_pl {p : Program} {e : Env} {s : State} {m : MethodId} {below : List Frame} {meth : Method} {c : Code} (l : Launch) {b Ln : Nat} {xs : Nat → Int32} {A : Nat → Prop} {D : va_G} {tA : Nat → ClassId} (C : LwC p l s m meth c b Ln xs A D tA) {S : St} {ad : Nat → Nat → Nat} {L : List Nat} {f : Nat → va_E} {H : Heap} {locs : List Loc} {ls : Array Slot} {cells slots : Nat} (hR : Rep tA S ad L f) (hP : va_P D vwCl (va_pl L f) H) (hD : va_D A (va_pl L f)) (hS : va_S A s.heap H locs) {nm : Nat} (hB : SB S nm 0) (hc : cells + 200 ≤ 621943) (hsl : slots + 2000 ≤ 7227368) (hl : lv_has ls 19 [(0, .ref b), (1, .ref (ad 0 0)), (2, .int 0), (3, .int (nI nm)), (4, .int 0), (5, .long 0), (7, .int (nI 0))]) (kk : ∀ (T : St) (ad : Nat → Nat → Nat) (L : List Nat) (f : Nat → va_E) (H : Heap) (locs : List Loc) (ls : Array Slot) (ce sl : Nat), SB T nm 6 → Rep tA T ad L f → va_P D vwCl (va_pl L f) H → va_D A (va_pl L f) → va_S A s.heap H locs → lv_has ls 19 [(0, .ref b), (1, .ref (ad 0 0)), (2, .int 0), (3, .int (nI nm)), (4, .int 0), (5, .long 0), (7, .int (nI 6))] → ce ≤ cells + 24 → sl ≤ slots + 120 → W p l e room_1 s m #[Value.ref b] below meth c H locs ce sl (lw_Z below #[Value.ref b] s) (F0 m 132 ls [])) : W p l e room_1 s m #[Value.ref b] below meth c H locs cells slots (lw_Z below #[Value.ref b] s) (F0 m 88 ls []) := by
  refine loop_g (σ := St × (Nat → Nat → Nat) × List Nat × (Nat → va_E) × Heap × List Loc × Array Slot × Nat × Nat) (Wg := fun z => W p l e room_1 s m #[Value.ref b] below meth c z.2.2.2.2.1 z.2.2.2.2.2.1 z.2.2.2.2.2.2.2.1 z.2.2.2.2.2.2.2.2 (lw_Z below #[Value.ref b] s) (F0 m 88 z.2.2.2.2.2.2.1 [])) 6
    (fun j z => SB (z.1) nm j ∧ Rep tA z.1 z.2.1 z.2.2.1 z.2.2.2.1 ∧ va_P D vwCl (va_pl z.2.2.1 z.2.2.2.1) z.2.2.2.2.1 ∧ va_D A (va_pl z.2.2.1 z.2.2.2.1) ∧ va_S A s.heap z.2.2.2.2.1 z.2.2.2.2.2.1 ∧ lv_has z.2.2.2.2.2.2.1 19 [(0, .ref b), (1, .ref (z.2.1 0 0)), (2, .int 0), (3, .int (nI nm)), (4, .int 0), (5, .long 0), (7, .int (nI j))] ∧ z.2.2.2.2.2.2.2.1 ≤ cells + 4 * j ∧ z.2.2.2.2.2.2.2.2 ≤ slots + 20 * j)
    (fun j hj ih z hz => ?_) (fun z hz => ?_) (S, ad, L, f, H, locs, ls, cells, slots) ⟨hB, hR, hP, hD, hS, hl, by (try dsimp only); omega, by (try dsimp only); omega⟩
  · obtain ⟨S, ad, L, f, H, locs, ls, ce, sl⟩ := z
    obtain ⟨hI, hR, hP, hD, hS, hl, hc9, hs9⟩ := hz
    dsimp only at hI hR hP hD hS hl hc9 hs9 ⊢
    obtain ⟨C0, hL, hA, hA2, hX, hQ, hK, hl0⟩ := id C
    obtain ⟨hx, hb, hr, hml, hown0, hts, hXs, hbl, hlocks, hgv⟩ := id C0
    have hta : ∀ w ∈ WA, w.before #[Value.ref b] s = true := fun w h => hts w (WA_in w h)
    have hown : s.vm.findClass RL = some m.cls := hown0
    have hbA : ¬ A b := fun h => absurd (hA2 b h) (Nat.not_le.mpr hbl)
    refine lv_iload hx hb dL_law_88 (lv_at hl 6 rfl) ?_
    refine lv_bipush (v := 6) hx hb dL_law_90 (by decide) ?_
    refine lv_icmp_ge (tgt := 132) hx hb dL_law_92 (by decide) (fun c1 => ?_) (fun c1 => ?_)
    · exact absurd c1 (nI_ge (a := j) (b := 6) hj (by decide))
    · refine lu_part l C hR hP hD hS hI hj (by omega) (by omega) hl (fun T ad L f H locs ls ce9 sl9 hI hR hP hD hS hl hc8 hs8 => ?_)
      exact ih (T, ad, L, f, H, locs, ls, ce9, sl9) ⟨hI, hR, hP, hD, hS, hl, by (try dsimp only); omega, by (try dsimp only); omega⟩
  · obtain ⟨S, ad, L, f, H, locs, ls, ce, sl⟩ := z
    obtain ⟨hI, hR, hP, hD, hS, hl, hc9, hs9⟩ := hz
    dsimp only at hI hR hP hD hS hl hc9 hs9 ⊢
    obtain ⟨C0, hL, hA, hA2, hX, hQ, hK, hl0⟩ := id C
    obtain ⟨hx, hb, hr, hml, hown0, hts, hXs, hbl, hlocks, hgv⟩ := id C0
    have hta : ∀ w ∈ WA, w.before #[Value.ref b] s = true := fun w h => hts w (WA_in w h)
    have hown : s.vm.findClass RL = some m.cls := hown0
    have hbA : ¬ A b := fun h => absurd (hA2 b h) (Nat.not_le.mpr hbl)
    refine lv_iload hx hb dL_law_88 (lv_at hl 6 rfl) ?_
    refine lv_bipush (v := 6) hx hb dL_law_90 (by decide) ?_
    refine lv_icmp_ge (tgt := 132) hx hb dL_law_92 (by decide) (fun c1 => ?_) (fun c1 => ?_)
    · exact kk _ _ _ _ _ _ _ _ _ hI hR hP hD hS hl (by omega) (by omega)
    · exact absurd (by decide) c1

set_option maxHeartbeats 8000000 in
set_option maxRecDepth 100000 in
theorem lu_cl {p : Program} {e : Env} {s : State} {m : MethodId} {below : List Frame} {meth : Method} {c : Code} (l : Launch) {b Ln : Nat} {xs : Nat → Int32} {A : Nat → Prop} {D : va_G} {tA : Nat → ClassId} (C : LwC p l s m meth c b Ln xs A D tA) {S : St} {ad : Nat → Nat → Nat} {L : List Nat} {f : Nat → va_E} {H : Heap} {locs : List Loc} {ls : Array Slot} {cells slots : Nat} (hR : Rep tA S ad L f) (hP : va_P D vwCl (va_pl L f) H) (hD : va_D A (va_pl L f)) (hS : va_S A s.heap H locs) {nm k : Nat} (hB : SC S nm k 0 0) (h2 : 2 ≤ k) (h6 : k < 6) (hc : cells + 200 ≤ 621943) (hsl : slots + 2000 ≤ 7227368) (hl : lv_has ls 19 [(0, .ref b), (1, .ref (ad 0 0)), (2, .int 0), (3, .int (nI nm)), (4, .int 0), (5, .long 0), (7, .int (nI k)), (8, .int (nI 0))]) (kk : ∀ (T : St) (ad : Nat → Nat → Nat) (L : List Nat) (f : Nat → va_E) (H : Heap) (locs : List Loc) (ls : Array Slot) (ce sl : Nat), SC T nm k 2 0 → Rep tA T ad L f → va_P D vwCl (va_pl L f) H → va_D A (va_pl L f) → va_S A s.heap H locs → lv_has ls 19 [(0, .ref b), (1, .ref (ad 0 0)), (2, .int 0), (3, .int (nI nm)), (4, .int 0), (5, .long 0), (7, .int (nI k)), (8, .int (nI 2))] → ce ≤ cells + 2 → sl ≤ slots + 6 → W p l e room_1 s m #[Value.ref b] below meth c H locs ce sl (lw_Z below #[Value.ref b] s) (F0 m 213 ls [])) : W p l e room_1 s m #[Value.ref b] below meth c H locs cells slots (lw_Z below #[Value.ref b] s) (F0 m 145 ls []) := by
  refine loop_g (σ := St × (Nat → Nat → Nat) × List Nat × (Nat → va_E) × Heap × List Loc × Array Slot × Nat × Nat) (Wg := fun z => W p l e room_1 s m #[Value.ref b] below meth c z.2.2.2.2.1 z.2.2.2.2.2.1 z.2.2.2.2.2.2.2.1 z.2.2.2.2.2.2.2.2 (lw_Z below #[Value.ref b] s) (F0 m 145 z.2.2.2.2.2.2.1 [])) 2
    (fun j z => SC (z.1) nm k j 0 ∧ Rep tA z.1 z.2.1 z.2.2.1 z.2.2.2.1 ∧ va_P D vwCl (va_pl z.2.2.1 z.2.2.2.1) z.2.2.2.2.1 ∧ va_D A (va_pl z.2.2.1 z.2.2.2.1) ∧ va_S A s.heap z.2.2.2.2.1 z.2.2.2.2.2.1 ∧ lv_has z.2.2.2.2.2.2.1 19 [(0, .ref b), (1, .ref (z.2.1 0 0)), (2, .int 0), (3, .int (nI nm)), (4, .int 0), (5, .long 0), (7, .int (nI k)), (8, .int (nI j))] ∧ z.2.2.2.2.2.2.2.1 ≤ cells + 1 * j ∧ z.2.2.2.2.2.2.2.2 ≤ slots + 3 * j)
    (fun j hj ih z hz => ?_) (fun z hz => ?_) (S, ad, L, f, H, locs, ls, cells, slots) ⟨hB, hR, hP, hD, hS, hl, by (try dsimp only); omega, by (try dsimp only); omega⟩
  · obtain ⟨S, ad, L, f, H, locs, ls, ce, sl⟩ := z
    obtain ⟨hI, hR, hP, hD, hS, hl, hc9, hs9⟩ := hz
    dsimp only at hI hR hP hD hS hl hc9 hs9 ⊢
    obtain ⟨C0, hL, hA, hA2, hX, hQ, hK, hl0⟩ := id C
    obtain ⟨hx, hb, hr, hml, hown0, hts, hXs, hbl, hlocks, hgv⟩ := id C0
    have hta : ∀ w ∈ WA, w.before #[Value.ref b] s = true := fun w h => hts w (WA_in w h)
    have hown : s.vm.findClass RL = some m.cls := hown0
    have hbA : ¬ A b := fun h => absurd (hA2 b h) (Nat.not_le.mpr hbl)
    refine lv_iload hx hb dL_law_145 (lv_at hl 7 rfl) ?_
    refine lv_iconst (v := 2) hx hb dL_law_147 (by decide) ?_
    refine lv_icmp_ge (tgt := 213) hx hb dL_law_148 (by decide) (fun c1 => ?_) (fun c1 => ?_)
    · exact absurd c1 (nI_ge (a := j) (b := 2) hj (by decide))
    · refine lu_comp l C hR hP hD hS hI hj h2 h6 (by omega) (by omega) hl (fun T ad L f H locs ls ce9 sl9 hI hR hP hD hS hl hc8 hs8 => ?_)
      exact ih (T, ad, L, f, H, locs, ls, ce9, sl9) ⟨hI, hR, hP, hD, hS, hl, by (try dsimp only); omega, by (try dsimp only); omega⟩
  · obtain ⟨S, ad, L, f, H, locs, ls, ce, sl⟩ := z
    obtain ⟨hI, hR, hP, hD, hS, hl, hc9, hs9⟩ := hz
    dsimp only at hI hR hP hD hS hl hc9 hs9 ⊢
    obtain ⟨C0, hL, hA, hA2, hX, hQ, hK, hl0⟩ := id C
    obtain ⟨hx, hb, hr, hml, hown0, hts, hXs, hbl, hlocks, hgv⟩ := id C0
    have hta : ∀ w ∈ WA, w.before #[Value.ref b] s = true := fun w h => hts w (WA_in w h)
    have hown : s.vm.findClass RL = some m.cls := hown0
    have hbA : ¬ A b := fun h => absurd (hA2 b h) (Nat.not_le.mpr hbl)
    refine lv_iload hx hb dL_law_145 (lv_at hl 7 rfl) ?_
    refine lv_iconst (v := 2) hx hb dL_law_147 (by decide) ?_
    refine lv_icmp_ge (tgt := 213) hx hb dL_law_148 (by decide) (fun c1 => ?_) (fun c1 => ?_)
    · exact kk _ _ _ _ _ _ _ _ _ hI hR hP hD hS hl (by omega) (by omega)
    · exact absurd (by decide) c1

set_option maxHeartbeats 8000000 in
set_option maxRecDepth 100000 in
theorem lu_ol {p : Program} {e : Env} {s : State} {m : MethodId} {below : List Frame} {meth : Method} {c : Code} (l : Launch) {b Ln : Nat} {xs : Nat → Int32} {A : Nat → Prop} {D : va_G} {tA : Nat → ClassId} (C : LwC p l s m meth c b Ln xs A D tA) {S : St} {ad : Nat → Nat → Nat} {L : List Nat} {f : Nat → va_E} {H : Heap} {locs : List Loc} {ls : Array Slot} {cells slots : Nat} (hR : Rep tA S ad L f) (hP : va_P D vwCl (va_pl L f) H) (hD : va_D A (va_pl L f)) (hS : va_S A s.heap H locs) {nm k v : Nat} (hB : SC S nm k 2 0) (hv : v < 3) (h2 : 2 ≤ k) (h6 : k < 6) (hn1 : 1 ≤ nm) (hn3 : nm ≤ 3) (hc : cells + 200 ≤ 621943) (hsl : slots + 2000 ≤ 7227368) (hl : lv_has ls 19 [(0, .ref b), (1, .ref (ad 0 0)), (2, .int 0), (3, .int (nI nm)), (4, .int 0), (5, .long 0), (7, .int (nI k)), (8, .int (nI v))]) (kk : ∀ (T : St) (ad : Nat → Nat → Nat) (L : List Nat) (f : Nat → va_E) (H : Heap) (locs : List Loc) (ls : Array Slot) (ce sl : Nat), SE T nm (k + 1) → Rep tA T ad L f → va_P D vwCl (va_pl L f) H → va_D A (va_pl L f) → va_S A s.heap H locs → lv_has ls 19 [(0, .ref b), (1, .ref (ad 0 0)), (2, .int 0), (3, .int (nI nm)), (4, .int 0), (5, .long 0), (7, .int (nI k))] → ce ≤ cells + 2 → sl ≤ slots + 6 → W p l e room_1 s m #[Value.ref b] below meth c H locs ce sl (lw_Z below #[Value.ref b] s) (F0 m 289 ls [])) : W p l e room_1 s m #[Value.ref b] below meth c H locs cells slots (lw_Z below #[Value.ref b] s) (F0 m 225 ls []) := by
  refine loop_g (σ := St × (Nat → Nat → Nat) × List Nat × (Nat → va_E) × Heap × List Loc × Array Slot × Nat × Nat) (Wg := fun z => W p l e room_1 s m #[Value.ref b] below meth c z.2.2.2.2.1 z.2.2.2.2.2.1 z.2.2.2.2.2.2.2.1 z.2.2.2.2.2.2.2.2 (lw_Z below #[Value.ref b] s) (F0 m 225 z.2.2.2.2.2.2.1 [])) v
    (fun j z => SC (z.1) nm k 2 j ∧ Rep tA z.1 z.2.1 z.2.2.1 z.2.2.2.1 ∧ va_P D vwCl (va_pl z.2.2.1 z.2.2.2.1) z.2.2.2.2.1 ∧ va_D A (va_pl z.2.2.1 z.2.2.2.1) ∧ va_S A s.heap z.2.2.2.2.1 z.2.2.2.2.2.1 ∧ lv_has z.2.2.2.2.2.2.1 19 [(0, .ref b), (1, .ref (z.2.1 0 0)), (2, .int 0), (3, .int (nI nm)), (4, .int 0), (5, .long 0), (7, .int (nI k)), (8, .int (nI (v - j)))] ∧ z.2.2.2.2.2.2.2.1 ≤ cells + 1 * j ∧ z.2.2.2.2.2.2.2.2 ≤ slots + 3 * j)
    (fun j hj ih z hz => ?_) (fun z hz => ?_) (S, ad, L, f, H, locs, ls, cells, slots) ⟨hB, hR, hP, hD, hS, by rw [Nat.sub_zero]; exact hl, by (try dsimp only); omega, by (try dsimp only); omega⟩
  · obtain ⟨S, ad, L, f, H, locs, ls, ce, sl⟩ := z
    obtain ⟨hI, hR, hP, hD, hS, hl, hc9, hs9⟩ := hz
    dsimp only at hI hR hP hD hS hl hc9 hs9 ⊢
    obtain ⟨C0, hL, hA, hA2, hX, hQ, hK, hl0⟩ := id C
    obtain ⟨hx, hb, hr, hml, hown0, hts, hXs, hbl, hlocks, hgv⟩ := id C0
    have hta : ∀ w ∈ WA, w.before #[Value.ref b] s = true := fun w h => hts w (WA_in w h)
    have hown : s.vm.findClass RL = some m.cls := hown0
    have hbA : ¬ A b := fun h => absurd (hA2 b h) (Nat.not_le.mpr hbl)
    obtain ⟨i, hi⟩ : ∃ i, v - j = i + 1 := ⟨v - j - 1, by omega⟩
    rw [hi] at hl
    refine lv_iload hx hb dL_law_225 (lv_at hl 7 rfl) ?_
    refine lv_if_le (tgt := 289) hx hb dL_law_227 (by decide) (fun c1 => ?_) (fun c1 => ?_)
    · exact absurd c1 (nI_nle (by omega) (by omega))
    · refine lu_oper l C hR hP hD hS hI (j := i) (by omega) (by omega) h2 h6 hn1 hn3 (by omega) (by omega) hl (fun T ad L f H locs ls ce9 sl9 hI hR hP hD hS hl hc8 hs8 => ?_)
      rw [show i = v - (j + 1) by omega] at hl
      exact ih (T, ad, L, f, H, locs, ls, ce9, sl9) ⟨hI, hR, hP, hD, hS, hl, by (try dsimp only); omega, by (try dsimp only); omega⟩
  · obtain ⟨S, ad, L, f, H, locs, ls, ce, sl⟩ := z
    obtain ⟨hI, hR, hP, hD, hS, hl, hc9, hs9⟩ := hz
    dsimp only at hI hR hP hD hS hl hc9 hs9 ⊢
    obtain ⟨C0, hL, hA, hA2, hX, hQ, hK, hl0⟩ := id C
    obtain ⟨hx, hb, hr, hml, hown0, hts, hXs, hbl, hlocks, hgv⟩ := id C0
    have hta : ∀ w ∈ WA, w.before #[Value.ref b] s = true := fun w h => hts w (WA_in w h)
    have hown : s.vm.findClass RL = some m.cls := hown0
    have hbA : ¬ A b := fun h => absurd (hA2 b h) (Nat.not_le.mpr hbl)
    rw [Nat.sub_self] at hl
    refine lv_iload hx hb dL_law_225 (lv_at hl 7 rfl) ?_
    refine lv_if_le (tgt := 289) hx hb dL_law_227 (by decide) (fun c1 => ?_) (fun c1 => ?_)
    · exact kk _ _ _ _ _ _ _ _ _ hI.1 hR hP hD hS (lv_sub hl [0, 1, 2, 3, 4, 5, 6] rfl) (by omega) (by omega)
    · exact absurd (by decide) c1

set_option maxHeartbeats 8000000 in
set_option maxRecDepth 100000 in
theorem lu_kl {p : Program} {e : Env} {s : State} {m : MethodId} {below : List Frame} {meth : Method} {c : Code} (l : Launch) {b Ln : Nat} {xs : Nat → Int32} {A : Nat → Prop} {D : va_G} {tA : Nat → ClassId} (C : LwC p l s m meth c b Ln xs A D tA) {S : St} {ad : Nat → Nat → Nat} {L : List Nat} {f : Nat → va_E} {H : Heap} {locs : List Loc} {ls : Array Slot} {cells slots : Nat} (hR : Rep tA S ad L f) (hP : va_P D vwCl (va_pl L f) H) (hD : va_D A (va_pl L f)) (hS : va_S A s.heap H locs) {nm : Nat} (hB : SE S nm 2) (hn1 : 1 ≤ nm) (hn3 : nm ≤ 3) (hc : cells + 400 ≤ 621943) (hsl : slots + 4000 ≤ 7227368) (hl : lv_has ls 19 [(0, .ref b), (1, .ref (ad 0 0)), (2, .int 0), (3, .int (nI nm)), (4, .int 0), (5, .long 0), (7, .int (nI (2 + 0)))]) (kk : ∀ (T : St) (ad : Nat → Nat → Nat) (L : List Nat) (f : Nat → va_E) (H : Heap) (locs : List Loc) (ls : Array Slot) (ce sl : Nat), SE T nm 6 → Rep tA T ad L f → va_P D vwCl (va_pl L f) H → va_D A (va_pl L f) → va_S A s.heap H locs → lv_has ls 19 [(0, .ref b), (1, .ref (ad 0 0)), (2, .int 0), (3, .int (nI nm)), (4, .int 0), (5, .long 0), (7, .int (nI 6))] → ce ≤ cells + 16 → sl ≤ slots + 48 → W p l e room_1 s m #[Value.ref b] below meth c H locs ce sl (lw_Z below #[Value.ref b] s) (F0 m 295 ls [])) : W p l e room_1 s m #[Value.ref b] below meth c H locs cells slots (lw_Z below #[Value.ref b] s) (F0 m 135 ls []) := by
  refine loop_g (σ := St × (Nat → Nat → Nat) × List Nat × (Nat → va_E) × Heap × List Loc × Array Slot × Nat × Nat) (Wg := fun z => W p l e room_1 s m #[Value.ref b] below meth c z.2.2.2.2.1 z.2.2.2.2.2.1 z.2.2.2.2.2.2.2.1 z.2.2.2.2.2.2.2.2 (lw_Z below #[Value.ref b] s) (F0 m 135 z.2.2.2.2.2.2.1 [])) 4
    (fun j z => SE (z.1) nm (2 + j) ∧ Rep tA z.1 z.2.1 z.2.2.1 z.2.2.2.1 ∧ va_P D vwCl (va_pl z.2.2.1 z.2.2.2.1) z.2.2.2.2.1 ∧ va_D A (va_pl z.2.2.1 z.2.2.2.1) ∧ va_S A s.heap z.2.2.2.2.1 z.2.2.2.2.2.1 ∧ lv_has z.2.2.2.2.2.2.1 19 [(0, .ref b), (1, .ref (z.2.1 0 0)), (2, .int 0), (3, .int (nI nm)), (4, .int 0), (5, .long 0), (7, .int (nI (2 + j)))] ∧ z.2.2.2.2.2.2.2.1 ≤ cells + 4 * j ∧ z.2.2.2.2.2.2.2.2 ≤ slots + 12 * j)
    (fun j hj ih z hz => ?_) (fun z hz => ?_) (S, ad, L, f, H, locs, ls, cells, slots) ⟨hB, hR, hP, hD, hS, hl, by (try dsimp only); omega, by (try dsimp only); omega⟩
  · obtain ⟨S, ad, L, f, H, locs, ls, ce, sl⟩ := z
    obtain ⟨hI, hR, hP, hD, hS, hl, hc9, hs9⟩ := hz
    dsimp only at hI hR hP hD hS hl hc9 hs9 ⊢
    obtain ⟨C0, hL, hA, hA2, hX, hQ, hK, hl0⟩ := id C
    obtain ⟨hx, hb, hr, hml, hown0, hts, hXs, hbl, hlocks, hgv⟩ := id C0
    have hta : ∀ w ∈ WA, w.before #[Value.ref b] s = true := fun w h => hts w (WA_in w h)
    have hown : s.vm.findClass RL = some m.cls := hown0
    have hbA : ¬ A b := fun h => absurd (hA2 b h) (Nat.not_le.mpr hbl)
    refine lv_iload hx hb dL_law_135 (lv_at hl 6 rfl) ?_
    refine lv_bipush (v := 6) hx hb dL_law_137 (by decide) ?_
    refine lv_icmp_ge (tgt := 295) hx hb dL_law_139 (by decide) (fun c1 => ?_) (fun c1 => ?_)
    · exact absurd c1 (nI_ge (a := 2 + j) (b := 6) (by omega) (by decide))
    · refine lv_iconst (v := 0) hx hb dL_law_142 (by decide) ?_
      refine lv_istore (lv' := [(8, .int (nI 0)), (0, .ref b), (1, .ref (ad 0 0)), (2, .int 0), (3, .int (nI nm)), (4, .int 0), (5, .long 0), (7, .int (nI (2 + j)))]) hx hb dL_law_143 hl (by decide) rfl (fun ls hl => ?_)
      refine lu_cl l C hR hP hD hS (k := 2 + j) (hI.toC (by omega)) (by omega) (by omega) (by omega) (by omega) (lv_sub hl [1, 2, 3, 4, 5, 6, 7, 0] rfl) (fun T ad L f H locs ls ce9 sl9 hI hR hP hD hS hl hc8 hs8 => ?_)
      refine lv_aload_n hx hb dL_law_213 rfl (lv_at hl 0 rfl) ?_
      refine lv_bipush (v := 24) hx hb dL_law_214 (by decide) ?_
      refine lv_iload hx hb dL_law_216 (lv_at hl 6 rfl) ?_
      refine lv_iadd hx hb dL_law_218 ?_
      refine lv_topi (fun x1 ex1 => ?_)
      obtain rfl : x1 = nI (24 + (2 + j)) := ex1.trans (nI_add 24 (2 + j))
      refine lv_iconst (v := 3) hx hb dL_law_219 (by decide) ?_
      refine vp_callSi (run_of (va_runS (g := F0 m 220 ls [.int 3, .int (nI (24 + (2 + j))), .ref b]) (As := [.ref b, .int (nI (24 + (2 + j))), .int 3]) (rest := []) ⟨hx, hb, hml, hown, hta⟩ (c_L_some l (xs := xs) hL (k := 24 + (2 + j)) (n := 3) (by omega) (by decide) (by decide)) (va_cwS 3 hta (gWS mw208 mw209 mw39 mw210) rfl rfl rfl (by decide +kernel) ⟨Nat.le_of_ble_eq_true rfl, Nat.le_of_ble_eq_true rfl⟩) (gPreS hXs hbl hbA hS) rfl rfl hl.1 rfl (lv_room (Nat.le_of_ble_eq_true rfl)) dL_law_220 ⟨(by show ce9 + 0 ≤ 621943; omega), (by show sl9 + 0 ≤ 7227368; omega)⟩)) (fun r3 c3 => ?_)
      obtain rfl := c3
      refine lv_istore (lv' := [(8, .int (nI (smV Ln xs (24 + (2 + j)) 3))), (0, .ref b), (1, .ref (ad 0 0)), (2, .int 0), (3, .int (nI nm)), (4, .int 0), (5, .long 0), (7, .int (nI (2 + j)))]) hx hb dL_law_223 hl (by decide) rfl (fun ls hl => ?_)
      refine lu_ol l C hR hP hD hS (k := 2 + j) hI (smV_lt (by decide)) (by omega) (by omega) hn1 hn3 (by omega) (by omega) (lv_sub hl [1, 2, 3, 4, 5, 6, 7, 0] rfl) (fun T ad L f H locs ls ce7 sl7 hI hR hP hD hS hl hc7 hs7 => ?_)
      refine lv_iinc (v := nI (2 + (j + 1))) (lv' := [(7, .int (nI (2 + (j + 1)))), (0, .ref b), (1, .ref (ad 0 0)), (2, .int 0), (3, .int (nI nm)), (4, .int 0), (5, .long 0)]) hx hb dL_law_289 hl (k := 6) rfl (nI_1 _) (by decide) rfl (fun ls hl => ?_)
      refine lv_goto (tgt := 135) hx hb dL_law_292 (by decide) ?_
      exact ih (T, ad, L, f, H, locs, ls, ce7, sl7) ⟨hI, hR, hP, hD, hS, lv_sub hl [1, 2, 3, 4, 5, 6, 0] rfl, by (try dsimp only); omega, by (try dsimp only); omega⟩
  · obtain ⟨S, ad, L, f, H, locs, ls, ce, sl⟩ := z
    obtain ⟨hI, hR, hP, hD, hS, hl, hc9, hs9⟩ := hz
    dsimp only at hI hR hP hD hS hl hc9 hs9 ⊢
    obtain ⟨C0, hL, hA, hA2, hX, hQ, hK, hl0⟩ := id C
    obtain ⟨hx, hb, hr, hml, hown0, hts, hXs, hbl, hlocks, hgv⟩ := id C0
    have hta : ∀ w ∈ WA, w.before #[Value.ref b] s = true := fun w h => hts w (WA_in w h)
    have hown : s.vm.findClass RL = some m.cls := hown0
    have hbA : ¬ A b := fun h => absurd (hA2 b h) (Nat.not_le.mpr hbl)
    refine lv_iload hx hb dL_law_135 (lv_at hl 6 rfl) ?_
    refine lv_bipush (v := 6) hx hb dL_law_137 (by decide) ?_
    refine lv_icmp_ge (tgt := 295) hx hb dL_law_139 (by decide) (fun c1 => ?_) (fun c1 => ?_)
    · exact kk _ _ _ _ _ _ _ _ _ hI hR hP hD hS hl (by omega) (by omega)
    · exact absurd (by decide) c1

