/-! BASE: the form of contracts over the world of part 02, and calls of them -/
/-- what a contract's start says of the world -/
abbrev gB (D : va_G) (tA : Nat → ClassId) (L : List Nat) (f : Nat → va_E) (U : State) : Prop := va_P D vwCl (va_pl L f) U.heap ∧ va_K D vwCl (gT tA) U ∧ va_D (fun _ => True) (va_pl L f)
/-- a start with the heap's size told -/
abbrev gZ (D : va_G) (tA : Nat → ClassId) (L : List Nat) (f : Nat → va_E) (sz : Nat) (U : State) : Prop := U.heap.size = sz ∧ gB D tA L f U
/-- the world behind: a state, its addresses, its cells -/
abbrev gU : Type := St × (Nat → Nat → Nat) × List Nat × (Nat → va_E)
abbrev gE (D : va_G) (tA : Nat → ClassId) (A : Nat → Prop) (u : gU) (t : State) : Prop := Rep tA u.1 u.2.1 u.2.2.1 u.2.2.2 ∧ va_P D vwCl (va_pl u.2.2.1 u.2.2.2) t.heap ∧ va_K D vwCl (gT tA) t ∧ va_D A (va_pl u.2.2.1 u.2.2.2)
theorem gA_in {A0 : Nat → Prop} {L : List Nat} {f : Nat → va_E} {H0 H : Heap} {locs : List Loc} (hD : va_D A0 (va_pl L f)) (hS : va_S A0 H0 H locs) (hA : ∀ q, H0.size ≤ q → A0 q) : ∀ q, va_A (va_pl L f) H.size q → A0 q := by
  rintro q (⟨k, e, hk⟩ | hq)
  · exact hD.2 k _ hk
  · exact hA q (Nat.le_trans hS.1 hq)
theorem gD_weak {A0 A1 : Nat → Prop} {L : List Nat} {f : Nat → va_E} (h : va_D A1 (va_pl L f)) (hA : ∀ q, A1 q → A0 q) : va_D A0 (va_pl L f) := ⟨h.1, fun k q hk => hA _ (h.2 k q hk)⟩
theorem gD_true {A1 : Nat → Prop} {L : List Nat} {f : Nat → va_E} (h : va_D A1 (va_pl L f)) : va_D (fun _ => True) (va_pl L f) := gD_weak h (fun _ _ => trivial)
/-- what a private call asks of the frame of its start: nothing of the frames -/
theorem gB_blind {D : va_G} {tA : Nat → ClassId} {L : List Nat} {f : Nat → va_E} {av : List Value} : FrameBlind (va_Pc av (gB D tA L f)) := fun a U g mk q => by
  obtain ⟨q0, qP, qK, qD⟩ := q
  exact ⟨q0, qP, va_K.moved (u := U) (U := U.calling g mk a) (Vm.Alike.refl U.vm) qK, qD⟩
theorem gZ_blind {D : va_G} {tA : Nat → ClassId} {L : List Nat} {f : Nat → va_E} {sz : Nat} {av : List Value} : FrameBlind (va_Pc av (gZ D tA L f sz)) := fun a U g mk q => by
  obtain ⟨q0, q1, qP, qK, qD⟩ := q
  exact ⟨q0, q1, qP, va_K.moved (u := U) (U := U.calling g mk a) (Vm.Alike.refl U.vm) qK, qD⟩
section GC
variable {p : Program} {l : Launch} {e : Env} {R : Room} {s : State} {m : MethodId} {args : Array Value} {below : List Frame} {meth : Method} {c : Code} {H : Heap} {locs : List Loc} {cells slots : Nat} {Q : State → Prop}
variable {pc : Nat} {ls : Array Slot} {rest : List Value} {D : va_G} {A : Nat → Prop} {H0 : Heap} {tA : Nat → ClassId} {S : St} {ad : Nat → Nat → Nat} {L : List Nat} {f : Nat → va_E}
variable {y : MethodName} {bytes cc : ByteArray} {maxL nL mc ms n index : Nat} {ret : Option FieldType} {ws : List Cond} {rm : Room} {Ts : List Cond} {own K : String} {b ci N : Nat} {T : u_T} {fs As st0 : List Value}
/-- how a call stands: the receiver is an object of the world -/
theorem gPre (hK : va_K D vwCl (gT tA) s) (hP : va_P D vwCl (va_pl L f) H) (hD : va_D A (va_pl L f)) {q : Nat} (hc : vwCl[ci]? = some (K, T, N)) (he : (va_pl L f)[q]? = some (b, .inr (ci, fs))) : PreV s H K b (va_Pc (.ref b :: As) (gB D tA L f)) As :=
  ⟨gB_blind, va_recv hK hP hc he, fun U hU hW => ⟨rfl, by rw [hU]; exact hP, va_K.moved hW.alike hK, gD_true hD⟩⟩
theorem gPreZ (hK : va_K D vwCl (gT tA) s) (hP : va_P D vwCl (va_pl L f) H) (hD : va_D A (va_pl L f)) {q : Nat} (hc : vwCl[ci]? = some (K, T, N)) (he : (va_pl L f)[q]? = some (b, .inr (ci, fs))) : PreV s H K b (va_Pc (.ref b :: As) (gZ D tA L f H.size)) As :=
  ⟨gZ_blind, va_recv hK hP hc he, fun U hU hW => ⟨rfl, by rw [hU], by rw [hU]; exact hP, va_K.moved hW.alike hK, gD_true hD⟩⟩
/-- calls that only read: int (boolean, char), long -/
theorem gro_i {post : Int32 → Prop} (Sx : CallFix p m c cc nL s args Ts own) (hM : Met l y ws rm (va_Pc (.ref b :: As) (gB D tA L f)) (vp_Si post) 0 0 (fun _ => False)) (cw : CallW R s args own K index y bytes maxL ret ws rm 0 0 n)
    (hK : va_K D vwCl (gT tA) s) (hP : va_P D vwCl (va_pl L f) H) (hD : va_D A (va_pl L f)) {q : Nat} (hc : vwCl[ci]? = some (K, T, N)) (he : (va_pl L f)[q]? = some (b, .inr (ci, fs)))
    (hn : As.length = n) (hsize : ls.size = nL) (hst : st0 = As.reverse ++ .ref b :: rest) (hW : (rest.map fun v => v.category).sum ≤ 8) (hdg : decode cc pc = .ok (.invokevirtual index, 3)) (hf : cells + 0 ≤ R.cells ∧ slots + 0 ≤ R.slots)
    (kk : ∀ r : Int32, post r → W p l e R s m args below meth c H locs cells slots Q (F0 m (pc + 3) ls (.int r :: rest))) : W p l e R s m args below meth c H locs cells slots Q (F0 m pc ls st0) :=
  vp_callSi (W.runV (As := As) (rest := rest) Sx hM cw (gPre hK hP hD hc he) rfl hn hsize hst (lv_room hW) hdg hf) kk
/-- calls that write: the world goes on as u tells -/
theorem gwr_v {post : gU → Prop} (Sx : CallFix p m c cc nL s args Ts own) (hM : Met l y ws rm (va_Pc (.ref b :: As) (gZ D tA L f H.size)) (va_Qv post (gE D tA (va_A (va_pl L f) H.size)) (va_A (va_pl L f) H.size)) mc ms (va_A (va_pl L f) H.size)) (cw : CallW R s args own K index y bytes maxL ret ws rm mc ms n)
    (hK : va_K D vwCl (gT tA) s) (hP : va_P D vwCl (va_pl L f) H) (hD : va_D A (va_pl L f)) (hS : va_S A H0 H locs) (hA : ∀ q, H0.size ≤ q → A q) {q : Nat} (hc : vwCl[ci]? = some (K, T, N)) (he : (va_pl L f)[q]? = some (b, .inr (ci, fs)))
    (hn : As.length = n) (hsize : ls.size = nL) (hst : st0 = As.reverse ++ .ref b :: rest) (hW : (rest.map fun v => v.category).sum ≤ 8) (hdg : decode cc pc = .ok (.invokevirtual index, 3)) (hf : cells + mc ≤ R.cells ∧ slots + ms ≤ R.slots)
    (kk : ∀ (u : gU) (H1 : Heap) (locs1 : List Loc), post u → Rep tA u.1 u.2.1 u.2.2.1 u.2.2.2 → va_P D vwCl (va_pl u.2.2.1 u.2.2.2) H1 → va_D A (va_pl u.2.2.1 u.2.2.2) → va_S A H0 H1 locs1 → W p l e R s m args below meth c H1 locs1 (cells + mc) (slots + ms) Q (F0 m (pc + 3) ls rest)) : W p l e R s m args below meth c H locs cells slots Q (F0 m pc ls st0) := by
  have hFc := gA_in hD hS hA
  exact va_callv (va_runV (As := As) (rest := rest) Sx hM cw (gPreZ hK hP hD hc he) rfl hn hsize hst (lv_room hW) hdg hf) hS (fun q _ h => hFc q h) hFc (fun u t H1 locs1 ht hvm hw hB hz1 hk1 hS1 => kk u H1 locs1 hw hB.1 (ht ▸ hB.2.1) (gD_weak hB.2.2.2 hFc) hS1)
theorem gwr_i {post : Int32 → gU → Prop} (Sx : CallFix p m c cc nL s args Ts own) (hM : Met l y ws rm (va_Pc (.ref b :: As) (gZ D tA L f H.size)) (va_Qi post (gE D tA (va_A (va_pl L f) H.size)) (va_A (va_pl L f) H.size)) mc ms (va_A (va_pl L f) H.size)) (cw : CallW R s args own K index y bytes maxL ret ws rm mc ms n)
    (hK : va_K D vwCl (gT tA) s) (hP : va_P D vwCl (va_pl L f) H) (hD : va_D A (va_pl L f)) (hS : va_S A H0 H locs) (hA : ∀ q, H0.size ≤ q → A q) {q : Nat} (hc : vwCl[ci]? = some (K, T, N)) (he : (va_pl L f)[q]? = some (b, .inr (ci, fs)))
    (hn : As.length = n) (hsize : ls.size = nL) (hst : st0 = As.reverse ++ .ref b :: rest) (hW : (rest.map fun v => v.category).sum ≤ 8) (hdg : decode cc pc = .ok (.invokevirtual index, 3)) (hf : cells + mc ≤ R.cells ∧ slots + ms ≤ R.slots)
    (kk : ∀ (r : Int32) (u : gU) (H1 : Heap) (locs1 : List Loc), post r u → Rep tA u.1 u.2.1 u.2.2.1 u.2.2.2 → va_P D vwCl (va_pl u.2.2.1 u.2.2.2) H1 → va_D A (va_pl u.2.2.1 u.2.2.2) → va_S A H0 H1 locs1 → W p l e R s m args below meth c H1 locs1 (cells + mc) (slots + ms) Q (F0 m (pc + 3) ls (.int r :: rest))) : W p l e R s m args below meth c H locs cells slots Q (F0 m pc ls st0) := by
  have hFc := gA_in hD hS hA
  exact va_calli (va_runV (As := As) (rest := rest) Sx hM cw (gPreZ hK hP hD hc he) rfl hn hsize hst (lv_room hW) hdg hf) hS (fun q _ h => hFc q h) hFc (fun r u t H1 locs1 ht hvm hw hB hz1 hk1 hS1 => kk r u H1 locs1 hw hB.1 (ht ▸ hB.2.1) (gD_weak hB.2.2.2 hFc) hS1)
theorem gwr_l {post : Int64 → gU → Prop} (Sx : CallFix p m c cc nL s args Ts own) (hM : Met l y ws rm (va_Pc (.ref b :: As) (gZ D tA L f H.size)) (va_Ql post (gE D tA (va_A (va_pl L f) H.size)) (va_A (va_pl L f) H.size)) mc ms (va_A (va_pl L f) H.size)) (cw : CallW R s args own K index y bytes maxL ret ws rm mc ms n)
    (hK : va_K D vwCl (gT tA) s) (hP : va_P D vwCl (va_pl L f) H) (hD : va_D A (va_pl L f)) (hS : va_S A H0 H locs) (hA : ∀ q, H0.size ≤ q → A q) {q : Nat} (hc : vwCl[ci]? = some (K, T, N)) (he : (va_pl L f)[q]? = some (b, .inr (ci, fs)))
    (hn : As.length = n) (hsize : ls.size = nL) (hst : st0 = As.reverse ++ .ref b :: rest) (hW : (rest.map fun v => v.category).sum ≤ 8) (hdg : decode cc pc = .ok (.invokevirtual index, 3)) (hf : cells + mc ≤ R.cells ∧ slots + ms ≤ R.slots)
    (kk : ∀ (r : Int64) (u : gU) (H1 : Heap) (locs1 : List Loc), post r u → Rep tA u.1 u.2.1 u.2.2.1 u.2.2.2 → va_P D vwCl (va_pl u.2.2.1 u.2.2.2) H1 → va_D A (va_pl u.2.2.1 u.2.2.2) → va_S A H0 H1 locs1 → W p l e R s m args below meth c H1 locs1 (cells + mc) (slots + ms) Q (F0 m (pc + 3) ls (.long r :: rest))) : W p l e R s m args below meth c H locs cells slots Q (F0 m pc ls st0) := by
  have hFc := gA_in hD hS hA
  exact va_calll (va_runV (As := As) (rest := rest) Sx hM cw (gPreZ hK hP hD hc he) rfl hn hsize hst (lv_room hW) hdg hf) hS (fun q _ h => hFc q h) hFc (fun r u t H1 locs1 ht hvm hw hB hz1 hk1 hS1 => kk r u H1 locs1 hw hB.1 (ht ▸ hB.2.1) (gD_weak hB.2.2.2 hFc) hS1)
/-- a method's end -/
theorem gend_v {A : Nat → Prop} {H : Heap} {D : va_G} {tA : Nat → ClassId} {a : Array Value} {st t : State} {post : gU → Prop} {locs : List Loc} {u : gU} (hp : post u) (hR : Rep tA u.1 u.2.1 u.2.2.1 u.2.2.2) (hP : va_P D vwCl (va_pl u.2.2.1 u.2.2.2) H) (hK : va_K D vwCl (gT tA) st) (hD : va_D A (va_pl u.2.2.1 u.2.2.2)) (hS : va_S A st.heap H locs) (ht : t.heap = H) (hW : st.WarmedH t.vm) : va_Qv post (gE D tA A) A a st (.returned none) t :=
  ⟨⟨u, rfl, hp, hR, by rw [ht]; exact hP, va_K.moved hW.alike hK, hD⟩, hS.F ht⟩
theorem gend_i {A : Nat → Prop} {H : Heap} {D : va_G} {tA : Nat → ClassId} {a : Array Value} {st t : State} {post : Int32 → gU → Prop} {locs : List Loc} {r : Int32} {u : gU} (hp : post r u) (hR : Rep tA u.1 u.2.1 u.2.2.1 u.2.2.2) (hP : va_P D vwCl (va_pl u.2.2.1 u.2.2.2) H) (hK : va_K D vwCl (gT tA) st) (hD : va_D A (va_pl u.2.2.1 u.2.2.2)) (hS : va_S A st.heap H locs) (ht : t.heap = H) (hW : st.WarmedH t.vm) : va_Qi post (gE D tA A) A a st (.returned (some (.int r))) t :=
  ⟨⟨r, u, rfl, hp, hR, by rw [ht]; exact hP, va_K.moved hW.alike hK, hD⟩, hS.F ht⟩
theorem gend_l {A : Nat → Prop} {H : Heap} {D : va_G} {tA : Nat → ClassId} {a : Array Value} {st t : State} {post : Int64 → gU → Prop} {locs : List Loc} {r : Int64} {u : gU} (hp : post r u) (hR : Rep tA u.1 u.2.1 u.2.2.1 u.2.2.2) (hP : va_P D vwCl (va_pl u.2.2.1 u.2.2.2) H) (hK : va_K D vwCl (gT tA) st) (hD : va_D A (va_pl u.2.2.1 u.2.2.2)) (hS : va_S A st.heap H locs) (ht : t.heap = H) (hW : st.WarmedH t.vm) : va_Ql post (gE D tA A) A a st (.returned (some (.long r))) t :=
  ⟨⟨r, u, rfl, hp, hR, by rw [ht]; exact hP, va_K.moved hW.alike hK, hD⟩, hS.F ht⟩
end GC
/-- a loop's number against a bound: i from 0 to n, both below 2^31 -/
theorem nI_lt_of {j n : Nat} (hn : n < 2 ^ 31) (hj : j ≤ n) (h : ¬ nI n ≤ nI j) : j < n := by
  rcases Nat.lt_or_ge j n with q | q
  · exact q
  · exact absurd (nI_le q (by omega)) h
theorem nI_ge_of {j n : Nat} (hn : n < 2 ^ 31) (hj : j ≤ n) (h : nI n ≤ nI j) : j = n := by
  rcases Nat.lt_or_ge j n with q | q
  · exact absurd h (nI_ge q hn)
  · omega
/-- a truth as the machine's int -/
abbrev bI (b : Bool) : Int32 := if b then 1 else 0
section GQ
variable {p : Program} {l : Launch} {e : Env} {R : Room} {s : State} {m : MethodId} {args : Array Value} {below : List Frame} {meth : Method} {c : Code} {H : Heap} {locs : List Loc} {cells slots : Nat} {Q : State → Prop}
variable {pc : Nat} {ls : Array Slot} {rest : List Value} {D : va_G} {A : Nat → Prop} {H0 : Heap} {tA : Nat → ClassId} {S : St} {ad : Nat → Nat → Nat} {L : List Nat} {f : Nat → va_E}
variable {y : MethodName} {bytes cc : ByteArray} {maxL nL mc ms n index : Nat} {ret : Option FieldType} {ws : List Cond} {rm : Room} {Ts : List Cond} {own K : String} {b ci N : Nat} {T : u_T} {fs As st0 : List Value}
theorem gro_l {post : Int64 → Prop} (Sx : CallFix p m c cc nL s args Ts own) (hM : Met l y ws rm (va_Pc (.ref b :: As) (gB D tA L f)) (vp_Sl post) 0 0 (fun _ => False)) (cw : CallW R s args own K index y bytes maxL ret ws rm 0 0 n)
    (hK : va_K D vwCl (gT tA) s) (hP : va_P D vwCl (va_pl L f) H) (hD : va_D A (va_pl L f)) {q : Nat} (hc : vwCl[ci]? = some (K, T, N)) (he : (va_pl L f)[q]? = some (b, .inr (ci, fs)))
    (hn : As.length = n) (hsize : ls.size = nL) (hst : st0 = As.reverse ++ .ref b :: rest) (hW : (rest.map fun v => v.category).sum ≤ 8) (hdg : decode cc pc = .ok (.invokevirtual index, 3)) (hf : cells + 0 ≤ R.cells ∧ slots + 0 ≤ R.slots)
    (kk : ∀ r : Int64, post r → W p l e R s m args below meth c H locs cells slots Q (F0 m (pc + 3) ls (.long r :: rest))) : W p l e R s m args below meth c H locs cells slots Q (F0 m pc ls st0) :=
  vp_callSl (W.runV (As := As) (rest := rest) Sx hM cw (gPre hK hP hD hc he) rfl hn hsize hst (lv_room hW) hdg hf) kk
theorem gro_q {post : Option Nat → Prop} (Sx : CallFix p m c cc nL s args Ts own) (hM : Met l y ws rm (va_Pc (.ref b :: As) (gB D tA L f)) (va_Sq post) 0 0 (fun _ => False)) (cw : CallW R s args own K index y bytes maxL ret ws rm 0 0 n)
    (hK : va_K D vwCl (gT tA) s) (hP : va_P D vwCl (va_pl L f) H) (hD : va_D A (va_pl L f)) {q : Nat} (hc : vwCl[ci]? = some (K, T, N)) (he : (va_pl L f)[q]? = some (b, .inr (ci, fs)))
    (hn : As.length = n) (hsize : ls.size = nL) (hst : st0 = As.reverse ++ .ref b :: rest) (hW : (rest.map fun v => v.category).sum ≤ 8) (hdg : decode cc pc = .ok (.invokevirtual index, 3)) (hf : cells + 0 ≤ R.cells ∧ slots + 0 ≤ R.slots)
    (kk : ∀ r : Option Nat, post r → W p l e R s m args below meth c H locs cells slots Q (F0 m (pc + 3) ls (va_rf r :: rest))) : W p l e R s m args below meth c H locs cells slots Q (F0 m pc ls st0) :=
  va_csq (W.runV (As := As) (rest := rest) Sx hM cw (gPre hK hP hD hc he) rfl hn hsize hst (lv_room hW) hdg hf) kk
theorem gwr_q {post : Option Nat → gU → Prop} (Sx : CallFix p m c cc nL s args Ts own) (hM : Met l y ws rm (va_Pc (.ref b :: As) (gZ D tA L f H.size)) (va_Qq post (gE D tA (va_A (va_pl L f) H.size)) (va_A (va_pl L f) H.size)) mc ms (va_A (va_pl L f) H.size)) (cw : CallW R s args own K index y bytes maxL ret ws rm mc ms n)
    (hK : va_K D vwCl (gT tA) s) (hP : va_P D vwCl (va_pl L f) H) (hD : va_D A (va_pl L f)) (hS : va_S A H0 H locs) (hA : ∀ q, H0.size ≤ q → A q) {q : Nat} (hc : vwCl[ci]? = some (K, T, N)) (he : (va_pl L f)[q]? = some (b, .inr (ci, fs)))
    (hn : As.length = n) (hsize : ls.size = nL) (hst : st0 = As.reverse ++ .ref b :: rest) (hW : (rest.map fun v => v.category).sum ≤ 8) (hdg : decode cc pc = .ok (.invokevirtual index, 3)) (hf : cells + mc ≤ R.cells ∧ slots + ms ≤ R.slots)
    (kk : ∀ (r : Option Nat) (u : gU) (H1 : Heap) (locs1 : List Loc), post r u → Rep tA u.1 u.2.1 u.2.2.1 u.2.2.2 → va_P D vwCl (va_pl u.2.2.1 u.2.2.2) H1 → va_D A (va_pl u.2.2.1 u.2.2.2) → va_S A H0 H1 locs1 → W p l e R s m args below meth c H1 locs1 (cells + mc) (slots + ms) Q (F0 m (pc + 3) ls (va_rf r :: rest))) : W p l e R s m args below meth c H locs cells slots Q (F0 m pc ls st0) := by
  have hFc := gA_in hD hS hA
  exact va_callq (va_runV (As := As) (rest := rest) Sx hM cw (gPreZ hK hP hD hc he) rfl hn hsize hst (lv_room hW) hdg hf) hS (fun q _ h => hFc q h) hFc (fun r u t H1 locs1 ht hvm hw hB hz1 hk1 hS1 => kk r u H1 locs1 hw hB.1 (ht ▸ hB.2.1) (gD_weak hB.2.2.2 hFc) hS1)
theorem gend_q {A : Nat → Prop} {H : Heap} {D : va_G} {tA : Nat → ClassId} {a : Array Value} {st t : State} {post : Option Nat → gU → Prop} {locs : List Loc} {r : Option Nat} {u : gU} (hp : post r u) (hR : Rep tA u.1 u.2.1 u.2.2.1 u.2.2.2) (hP : va_P D vwCl (va_pl u.2.2.1 u.2.2.2) H) (hK : va_K D vwCl (gT tA) st) (hD : va_D A (va_pl u.2.2.1 u.2.2.2)) (hS : va_S A st.heap H locs) (ht : t.heap = H) (hW : st.WarmedH t.vm) : va_Qq post (gE D tA A) A a st (.returned (some (va_rf r))) t :=
  ⟨⟨r, u, rfl, hp, hR, by rw [ht]; exact hP, va_K.moved hW.alike hK, hD⟩, hS.F ht⟩
end GQ
/-- the maps that most loops change: ints, longs, pieces; numbers and references stay -/
abbrev IJP : Type := (Nat → Nat → Int32) × (Nat → Nat → Int64) × (Nat → Nat → Int32)
abbrev sA (S : St) : IJP := (S.2.1, S.2.2.1, S.2.2.2.2)
abbrev sM (S : St) (a : IJP) : St := (S.1, a.1, a.2.1, S.2.2.2.1, a.2.2)
