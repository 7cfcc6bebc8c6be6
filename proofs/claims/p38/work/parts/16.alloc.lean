/-! calls of methods that make objects -/
section GY
variable {p : Program} {l : Launch} {e : Env} {R : Room} {s : State} {m : MethodId} {args : Array Value} {below : List Frame} {meth : Method} {c : Code} {H : Heap} {locs : List Loc} {cells slots : Nat} {Q : State → Prop}
variable {pc : Nat} {ls : Array Slot} {rest : List Value} {D : va_G} {A : Nat → Prop} {H0 : Heap} {tA : Nat → ClassId} {S : St} {ad : Nat → Nat → Nat} {L : List Nat} {f : Nat → va_E}
variable {y : MethodName} {bytes cc : ByteArray} {maxL nL mc ms n index : Nat} {ret : Option FieldType} {ws : List Cond} {rm : Room} {Ts : List Cond} {own K : String} {b ci N : Nat} {T : u_T} {fs As st0 : List Value}
theorem gPreY (hX : gX s) (hK : va_K D vwCl (gT tA) s) (hP : va_P D vwCl (va_pl L f) H) (hD : va_D A (va_pl L f)) {q : Nat} (hc : vwCl[ci]? = some (K, T, N)) (he : (va_pl L f)[q]? = some (b, .inr (ci, fs))) : PreV s H K b (va_Pc (.ref b :: As) (gY D tA L f H.size)) As :=
  ⟨gY_blind, va_recv hK hP hc he, fun U hU hW => ⟨rfl, ⟨by rw [hU], by rw [hU]; exact hP, va_K.moved hW.alike hK, gD_true hD⟩, hX.warm hW⟩⟩
theorem gwr_vY {post : gU → Prop} (Sx : CallFix p m c cc nL s args Ts own) (hM : Met l y ws rm (va_Pc (.ref b :: As) (gY D tA L f H.size)) (va_Qv post (gE D tA (va_A (va_pl L f) H.size)) (va_A (va_pl L f) H.size)) mc ms (va_A (va_pl L f) H.size)) (cw : CallW R s args own K index y bytes maxL ret ws rm mc ms n)
    (hX : gX s) (hK : va_K D vwCl (gT tA) s) (hP : va_P D vwCl (va_pl L f) H) (hD : va_D A (va_pl L f)) (hS : va_S A H0 H locs) (hA : ∀ q, H0.size ≤ q → A q) {q : Nat} (hc : vwCl[ci]? = some (K, T, N)) (he : (va_pl L f)[q]? = some (b, .inr (ci, fs)))
    (hn : As.length = n) (hsize : ls.size = nL) (hst : st0 = As.reverse ++ .ref b :: rest) (hW : (rest.map fun v => v.category).sum ≤ 8) (hdg : decode cc pc = .ok (.invokevirtual index, 3)) (hf : cells + mc ≤ R.cells ∧ slots + ms ≤ R.slots)
    (kk : ∀ (u : gU) (H1 : Heap) (locs1 : List Loc), post u → Rep tA u.1 u.2.1 u.2.2.1 u.2.2.2 → va_P D vwCl (va_pl u.2.2.1 u.2.2.2) H1 → va_D A (va_pl u.2.2.1 u.2.2.2) → va_S A H0 H1 locs1 → W p l e R s m args below meth c H1 locs1 (cells + mc) (slots + ms) Q (F0 m (pc + 3) ls rest)) : W p l e R s m args below meth c H locs cells slots Q (F0 m pc ls st0) := by
  have hFc := gA_in hD hS hA
  exact va_callv (va_runV (As := As) (rest := rest) Sx hM cw (gPreY hX hK hP hD hc he) rfl hn hsize hst (lv_room hW) hdg hf) hS (fun q _ h => hFc q h) hFc (fun u t H1 locs1 ht hvm hw hB hz1 hk1 hS1 => kk u H1 locs1 hw hB.1 (ht ▸ hB.2.1) (gD_weak hB.2.2.2 hFc) hS1)
theorem gwr_qY {post : Option Nat → gU → Prop} (Sx : CallFix p m c cc nL s args Ts own) (hM : Met l y ws rm (va_Pc (.ref b :: As) (gY D tA L f H.size)) (va_Qq post (gE D tA (va_A (va_pl L f) H.size)) (va_A (va_pl L f) H.size)) mc ms (va_A (va_pl L f) H.size)) (cw : CallW R s args own K index y bytes maxL ret ws rm mc ms n)
    (hX : gX s) (hK : va_K D vwCl (gT tA) s) (hP : va_P D vwCl (va_pl L f) H) (hD : va_D A (va_pl L f)) (hS : va_S A H0 H locs) (hA : ∀ q, H0.size ≤ q → A q) {q : Nat} (hc : vwCl[ci]? = some (K, T, N)) (he : (va_pl L f)[q]? = some (b, .inr (ci, fs)))
    (hn : As.length = n) (hsize : ls.size = nL) (hst : st0 = As.reverse ++ .ref b :: rest) (hW : (rest.map fun v => v.category).sum ≤ 8) (hdg : decode cc pc = .ok (.invokevirtual index, 3)) (hf : cells + mc ≤ R.cells ∧ slots + ms ≤ R.slots)
    (kk : ∀ (r : Option Nat) (u : gU) (H1 : Heap) (locs1 : List Loc), post r u → Rep tA u.1 u.2.1 u.2.2.1 u.2.2.2 → va_P D vwCl (va_pl u.2.2.1 u.2.2.2) H1 → va_D A (va_pl u.2.2.1 u.2.2.2) → va_S A H0 H1 locs1 → W p l e R s m args below meth c H1 locs1 (cells + mc) (slots + ms) Q (F0 m (pc + 3) ls (va_rf r :: rest))) : W p l e R s m args below meth c H locs cells slots Q (F0 m pc ls st0) := by
  have hFc := gA_in hD hS hA
  exact va_callq (va_runV (As := As) (rest := rest) Sx hM cw (gPreY hX hK hP hD hc he) rfl hn hsize hst (lv_room hW) hdg hf) hS (fun q _ h => hFc q h) hFc (fun r u t H1 locs1 ht hvm hw hB hz1 hk1 hS1 => kk r u H1 locs1 hw hB.1 (ht ▸ hB.2.1) (gD_weak hB.2.2.2 hFc) hS1)
end GY
/-- the numbers of a state with one lot more -/
theorem nlS_n {S : St} {p : Nat} {qy : Int32} {co : Int64} {k i : Nat} (h : k ≠ 2) (h6 : k ≠ 6) : sN (nlS S p qy co) k i = sN S k i := by
  show up2 (up2 S.1 2 0 (sN S 2 0 + 1)) 6 (sN S 2 0) p k i = S.1 k i
  rw [up2_nk _ _ h6, up2_nk _ _ h]
theorem nlS_nL {S : St} {p : Nat} {qy : Int32} {co : Int64} : sN (nlS S p qy co) 2 0 = sN S 2 0 + 1 := by
  show up2 (up2 S.1 2 0 (sN S 2 0 + 1)) 6 (sN S 2 0) p 2 0 = sN S 2 0 + 1
  rw [up2_nk _ _ (by decide), up2_self]
theorem WT.nl {S : St} (h : WT S) {p : Nat} {qy : Int32} {co : Int64} (hp : p < sN S 1 0) (hn : sN S 2 0 < 90) : WT (nlS S p qy co) := by
  have eV4 : ∀ q, V (nlS S p qy co) 4 q → V S 4 q := fun q hq => (nlS_V hq).resolve_right (fun z => by omega)
  have eV5 : ∀ q, V (nlS S p qy co) 5 q → V S 5 q := fun q hq => (nlS_V hq).resolve_right (fun z => by omega)
  have e1 : ∀ k i, k ≠ 2 → k ≠ 6 → sN (nlS S p qy co) k i = sN S k i := fun k i a b => nlS_n a b
  have e2 : sR (nlS S p qy co) = sR S := rfl
  refine ⟨fun i hi => ?_, fun o ho => ?_, fun q hq => ?_, fun q hq => ?_, fun q a hq ha => ?_, fun i o hi ha => ?_, fun o i ho ha => ?_, fun o i ho ha => ?_, ?_, ?_, ?_, ?_, fun z hz => ?_, fun z hz => ?_⟩
  · rw [nlS_nL] at hi
    rw [e1 1 0 (by decide) (by decide)]
    show up2 (up2 S.1 2 0 (sN S 2 0 + 1)) 6 (sN S 2 0) p 6 i < sN S 1 0
    by_cases q : i = sN S 2 0
    · rw [q, up2_self]; exact hp
    · rw [up2_ne _ _ (fun z => q z.2), up2_nk _ _ (by decide)]
      exact h.lotPart (show i < sN S 2 0 by omega)
  · rw [e1 3 0 (by decide) (by decide)] at ho
    rw [e1 7 o (by decide) (by decide), e1 1 0 (by decide) (by decide)]; exact h.ordPart ho
  · rw [e1 8 q (by decide) (by decide), e1 1 0 (by decide) (by decide)]; exact h.compPart (eV4 q hq)
  · rw [e1 9 q (by decide) (by decide), e1 0 0 (by decide) (by decide)]; exact h.opMach (eV5 q hq)
  · rw [e2] at ha; rw [e1 0 0 (by decide) (by decide)]; exact h.alt (eV5 q hq) ha
  · rw [e1 0 0 (by decide) (by decide)] at hi; rw [e2] at ha; rw [e1 3 0 (by decide) (by decide)]; exact h.doing hi ha
  · rw [e1 3 0 (by decide) (by decide)] at ho; rw [e2] at ha; rw [e1 0 0 (by decide) (by decide)]; exact h.waits ho ha
  · rw [e1 3 0 (by decide) (by decide)] at ho; rw [e2] at ha; rw [nlS_nL]; exact Nat.lt_succ_of_lt (h.jlot ho ha)
  · rw [e1 0 0 (by decide) (by decide)]; exact h.nM
  · rw [e1 1 0 (by decide) (by decide)]; exact h.nP
  · rw [nlS_nL]; omega
  · rw [e1 3 0 (by decide) (by decide)]; exact h.nO
  · rw [e1 1 0 (by decide) (by decide)] at hz; rw [e1 4 z (by decide) (by decide)]; exact h.nC hz
  · rw [e1 1 0 (by decide) (by decide)] at hz; rw [e1 5 z (by decide) (by decide)]; exact h.nOp hz
