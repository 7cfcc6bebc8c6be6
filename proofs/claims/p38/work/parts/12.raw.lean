/-! RAW cells of the pool: an object that is being made, at an address q of L, told by what f says of it -/
theorem pl_at {L : List Nat} {f : Nat → va_E} {q : Nat} {e : va_E} (hq : q ∈ L) (hf : f q = e) : ∃ k : Nat, (va_pl L f)[k]? = some (q, e) := by
  obtain ⟨k, hk⟩ := va_pl_get (X := []) (f := f) hq
  rw [List.nil_append, hf] at hk
  exact ⟨k, hk⟩
theorem Rep.raw {tA : Nat → ClassId} {S : St} {ad : Nat → Nat → Nat} {L L2 : List Nat} {f f2 : Nat → va_E} (h : Rep tA S ad L f) (hL : ∀ a, a ∈ L → a ∈ L2) (hf : ∀ k i, V S k i → f2 (ad k i) = f (ad k i)) : Rep tA S ad L2 f2 :=
  ⟨fun k i hv => ⟨hL _ (h.1 k i hv).1, (hf k i hv).trans (h.1 k i hv).2⟩, h.2⟩
section RAW
variable {p : Program} {l : Launch} {e : Env} {R : Room} {s : State} {m : MethodId} {args : Array Value} {below : List Frame} {meth : Method} {c : Code} {H : Heap} {locs : List Loc} {cells slots : Nat} {Q : State → Prop}
variable {cc : ByteArray} {pc : Nat} {ls : Array Slot} {rest : List Value} {D : va_G} {A : Nat → Prop} {H0 : Heap} {tA : Nat → ClassId} {L : List Nat} {f : Nat → va_E} {own K : String} {T : u_T} {N ci index q : Nat} {Ts : List Cond} {fs : List Value}
theorem raw_put (hx : p.tables.exec = Jvm.exec) (hb : c.code = cc) (hts : ∀ w ∈ Ts, w.before args s = true) (hin : ∀ w ∈ u_ws K T N, w ∈ Ts) (ty0 : Nat → FieldType) (hty : ∀ k, k < N → parseFieldDescriptor (T k).2.2.1 = some (ty0 k)) (hnm : ∀ a, a < N → ∀ b, b < N → a ≠ b → (T a).2.1 ≠ (T b).2.1) (hown : s.vm.findClass own = some m.cls)
    (hK : va_K D vwCl (gT tA) s) (hP : va_P D vwCl (va_pl L f) H) (hD : va_D A (va_pl L f)) (hS : va_S A H0 H locs) (hq : q ∈ L) (hf : f q = .inr (ci, fs)) (hc : vwCl[ci]? = some (K, T, N)) (k : Nat) (hk : k < N) (hlink : (Cond.fieldLink own index (T k).1 (T k).2.1 (T k).2.2.1).before args s = true)
    (hfin : (T k).2.2.2 = false) {ty : FieldType} {v : Value} (hd : parseFieldDescriptor (T k).2.2.1 = some ty) (hn : narrow ty v = v) (hfit : fits ty v = true) (hl : k < fs.length) (hdg : decode cc pc = .ok (.putfield index, 3))
    (kk : ∀ (H1 : Heap) (locs1 : List Loc) (f2 : Nat → va_E), f2 q = .inr (ci, fs.set k v) → (∀ a, a ≠ q → f2 a = f a) → va_P D vwCl (va_pl L f2) H1 → va_D A (va_pl L f2) → va_S A H0 H1 locs1 → W p l e R s m args below meth c H1 locs1 cells slots Q (F0 m (pc + 3) ls rest)) : W p l e R s m args below meth c H locs cells slots Q (F0 m pc ls (v :: .ref q :: rest)) := by
  obtain ⟨z, hz⟩ := pl_at hq hf
  refine va_put hx hb hts hin ty0 hty hnm hown hK hP hD hS z hz hc k hk hlink (fun _ h9 => h9) hfin hd hn hfit hl hdg (fun H1 locs1 h3 h4 h5 => ?_)
  have h2 := va_pl_set (X := []) (e := .inr (ci, fs.set k v)) (by rw [List.nil_append]; exact hD) hq (by rw [List.nil_append, hf]; exact hz)
  rw [List.nil_append, List.nil_append] at h2
  rw [h2] at h3 h4
  exact kk H1 locs1 _ (va_up_self _ _ _) (fun a ha => va_up_ne _ _ ha) h3 h4 h5
theorem raw_putF (hx : p.tables.exec = Jvm.exec) (hb : c.code = cc) (hts : ∀ w ∈ Ts, w.before args s = true) (hin : ∀ w ∈ u_ws K T N, w ∈ Ts) (ty0 : Nat → FieldType) (hty : ∀ k, k < N → parseFieldDescriptor (T k).2.2.1 = some (ty0 k)) (hnm : ∀ a, a < N → ∀ b, b < N → a ≠ b → (T a).2.1 ≠ (T b).2.1) (hown : s.vm.findClass own = some m.cls)
    (hK : va_K D vwCl (gT tA) s) (hP : va_P D vwCl (va_pl L f) H) (hD : va_D A (va_pl L f)) (hS : va_S A H0 H locs) (hq : q ∈ L) (hf : f q = .inr (ci, fs)) (hc : vwCl[ci]? = some (K, T, N)) (k : Nat) (hk : k < N) (hlink : (Cond.fieldLink own index (T k).1 (T k).2.1 (T k).2.2.1).before args s = true)
    (hfin : (T k).2.2.2 = true) (hi2 : meth.name = "<init>") (hdecl : (T k).1 = own) {ty : FieldType} {v : Value} (hd : parseFieldDescriptor (T k).2.2.1 = some ty) (hn : narrow ty v = v) (hfit : fits ty v = true) (hl : k < fs.length) (hdg : decode cc pc = .ok (.putfield index, 3))
    (kk : ∀ (H1 : Heap) (locs1 : List Loc) (f2 : Nat → va_E), f2 q = .inr (ci, fs.set k v) → (∀ a, a ≠ q → f2 a = f a) → va_P D vwCl (va_pl L f2) H1 → va_D A (va_pl L f2) → va_S A H0 H1 locs1 → W p l e R s m args below meth c H1 locs1 cells slots Q (F0 m (pc + 3) ls rest)) : W p l e R s m args below meth c H locs cells slots Q (F0 m pc ls (v :: .ref q :: rest)) := by
  obtain ⟨z, hz⟩ := pl_at hq hf
  refine va_putF hx hb hts hin ty0 hty hnm hown hK hP hD hS z hz hc k hk hlink (fun _ h9 => h9) hfin hi2 hdecl hd hn hfit hl hdg (fun H1 locs1 h3 h4 h5 => ?_)
  have h2 := va_pl_set (X := []) (e := .inr (ci, fs.set k v)) (by rw [List.nil_append]; exact hD) hq (by rw [List.nil_append, hf]; exact hz)
  rw [List.nil_append, List.nil_append] at h2
  rw [h2] at h3 h4
  exact kk H1 locs1 _ (va_up_self _ _ _) (fun a ha => va_up_ne _ _ ha) h3 h4 h5
theorem pl_new {A : Nat → Prop} {q : Nat} {e : va_E} (hP : va_P D vwCl (va_pl L f ++ [(q, e)]) H) (hD : va_D A (va_pl L f ++ [(q, e)])) : q ∉ L ∧ va_P D vwCl (va_pl (L ++ [q]) (va_up f q e)) H ∧ va_D A (va_pl (L ++ [q]) (va_up f q e)) := by
  have h1 : q ∉ L := va_pl_fresh2 (X := []) (by rw [List.nil_append]; exact hD)
  rw [va_pl_push h1] at hP hD
  exact ⟨h1, hP, hD⟩
theorem raw_new (hx : p.tables.exec = Jvm.exec) (hb : c.code = cc) (hts : ∀ w ∈ Ts, w.before args s = true) (hin : ∀ w ∈ u_ws K T N, w ∈ Ts) (ty : Nat → FieldType) (hty : ∀ k, k < N → parseFieldDescriptor (T k).2.2.1 = some (ty k)) (hown : s.vm.findClass own = some m.cls) (hcl : (Cond.classLink own index K).before args s = true) (hinst : (Cond.instantiable K N).before args s = true) (hini : (Cond.initialized K).before args s = true)
    (hK : va_K D vwCl (gT tA) s) (hP : va_P D vwCl (va_pl L f) H) (hD : va_D A (va_pl L f)) (hS : va_S A H0 H locs) (hA : ∀ q, H0.size ≤ q → A q) (hc : vwCl[ci]? = some (K, T, N)) (hfs : ∀ j, j < N → defaultValue (ty j) = vp_V fs j) (hcells : cells + 1 ≤ R.cells) (hslots : slots + N ≤ R.slots) (hdg : decode cc pc = .ok (.new index, 3))
    (kk : ∀ (q : Nat) (H1 : Heap) (L2 : List Nat) (f2 : Nat → va_E), q ∉ L → q ∈ L2 → (∀ a, a ∈ L → a ∈ L2) → (∀ a, a ∈ L2 → a ∈ L ∨ a = q) → f2 q = .inr (ci, fs) → (∀ a, a ≠ q → f2 a = f a) → va_P D vwCl (va_pl L2 f2) H1 → va_D A (va_pl L2 f2) → va_S A H0 H1 locs → W p l e R s m args below meth c H1 locs (cells + 1) (slots + N) Q (F0 m (pc + 3) ls (.ref q :: rest))) : W p l e R s m args below meth c H locs cells slots Q (F0 m pc ls rest) := by
  refine va_new (ci := ci) (fs := fs) hx hb hts hin ty hty hown hcl hinst hini hK hP hD hS hA hc hfs hcells hslots hdg (fun q H1 h1 h2 h3 => ?_)
  obtain ⟨h4, h5, h6⟩ := pl_new h1 h2
  exact kk q H1 _ _ h4 (List.mem_append_right _ List.mem_cons_self) (fun a ha => List.mem_append_left _ ha) (fun a ha => (List.mem_append.mp ha).imp id (fun h => List.mem_singleton.mp h)) (va_up_self _ _ _) (fun a ha => va_up_ne _ _ ha) h5 h6 h3
theorem gT_int {cA : ClassId} (h : va_K D vwCl (gT tA ++ [(cA, FieldType.int)]) s) : cA = tA 0 := by
  have h1 := (h.2 8 _ rfl).2
  have h2 := (h.2 0 _ rfl).2
  exact Option.some.inj (Eq.trans (Eq.symm h1) h2)
theorem gT_obj {cA : ClassId} {C : String} {k : Nat} (hk : (gT tA)[k]? = some (tA k, .object C)) (h : va_K D vwCl (gT tA ++ [(cA, FieldType.object C)]) s) : cA = tA k := by
  obtain ⟨_, _, _, _, _, h1⟩ := (h.2 8 _ rfl).2
  have hk2 : (gT tA ++ [(cA, FieldType.object C)])[k]? = some (tA k, .object C) := by
    have hl : k < (gT tA).length := (List.getElem?_eq_some_iff.mp hk).1
    rw [List.getElem?_append_left hl]; exact hk
  obtain ⟨_, _, _, _, _, h2⟩ := (h.2 k _ hk2).2
  exact Option.some.inj (Eq.trans (Eq.symm h1) h2)
theorem raw_newi (hx : p.tables.exec = Jvm.exec) (hb : c.code = cc) (harr : (Cond.arrayClass .int).before args s = true)
    (hK : va_K D vwCl (gT tA) s) (hP : va_P D vwCl (va_pl L f) H) (hD : va_D A (va_pl L f)) (hS : va_S A H0 H locs) (hA : ∀ q, H0.size ≤ q → A q) {n : Int32} {N' : Nat} (hn : ¬ n < 0) (hN : n.toNatClampNeg = N') (hbytes : N' * 4 ≤ 536870912) (hcells : cells + 1 ≤ R.cells) (hslots : slots + N' ≤ R.slots) (hdg : decode cc pc = .ok (.newarray .int, 2))
    (kk : ∀ (q : Nat) (H1 : Heap) (L2 : List Nat) (f2 : Nat → va_E), q ∉ L → q ∈ L2 → (∀ a, a ∈ L → a ∈ L2) → (∀ a, a ∈ L2 → a ∈ L ∨ a = q) → f2 q = .inl (tA 0, N', .inl (fun _ => 0)) → (∀ a, a ≠ q → f2 a = f a) → va_P D vwCl (va_pl L2 f2) H1 → va_D A (va_pl L2 f2) → va_S A H0 H1 locs → W p l e R s m args below meth c H1 locs (cells + 1) (slots + N') Q (F0 m (pc + 2) ls (.ref q :: rest))) : W p l e R s m args below meth c H locs cells slots Q (F0 m pc ls (.int n :: rest)) := by
  refine va_newa (atype := .int) (ty := .int) (N' := N') (a0 := (N', .inl (fun _ => 0))) hx hb harr rfl hK hP hD hS hA (fun cA => rfl) hn hN hbytes hcells hslots hdg (fun q cA H1 h0 h1 h2 h3 => ?_)
  obtain rfl := gT_int h0
  obtain ⟨h4, h5, h6⟩ := pl_new h1 h2
  exact kk q H1 _ _ h4 (List.mem_append_right _ List.mem_cons_self) (fun a ha => List.mem_append_left _ ha) (fun a ha => (List.mem_append.mp ha).imp id (fun h => List.mem_singleton.mp h)) (va_up_self _ _ _) (fun a ha => va_up_ne _ _ ha) h5 h6 h3
theorem raw_newq (k : Nat) (hk : (gT tA)[k]? = some (tA k, .object K)) (hx : p.tables.exec = Jvm.exec) (hb : c.code = cc) (hown : s.vm.findClass own = some m.cls) (hclink : (Cond.classLink own index K).before args s = true) (hover : va_AO K s)
    (hK : va_K D vwCl (gT tA) s) (hP : va_P D vwCl (va_pl L f) H) (hD : va_D A (va_pl L f)) (hS : va_S A H0 H locs) (hA : ∀ q, H0.size ≤ q → A q) {n : Int32} {N' : Nat} (hn : ¬ n < 0) (hN : n.toNatClampNeg = N') (hbytes : N' * 4 ≤ 536870912) (hcells : cells + 1 ≤ R.cells) (hslots : slots + N' ≤ R.slots) (hdg : decode cc pc = .ok (.anewarray index, 3))
    (kk : ∀ (q : Nat) (H1 : Heap) (L2 : List Nat) (f2 : Nat → va_E), q ∉ L → q ∈ L2 → (∀ a, a ∈ L → a ∈ L2) → (∀ a, a ∈ L2 → a ∈ L ∨ a = q) → f2 q = .inl (tA k, N', .inr (.inr (.inr (.inr (fun _ => none))))) → (∀ a, a ≠ q → f2 a = f a) → va_P D vwCl (va_pl L2 f2) H1 → va_D A (va_pl L2 f2) → va_S A H0 H1 locs → W p l e R s m args below meth c H1 locs (cells + 1) (slots + N') Q (F0 m (pc + 3) ls (.ref q :: rest))) : W p l e R s m args below meth c H locs cells slots Q (F0 m pc ls (.int n :: rest)) := by
  refine va_newq hx hb hown hclink hover hK hP hD hS hA hn hN hbytes hcells hslots hdg (fun q cA H1 h0 h1 h2 h3 => ?_)
  obtain rfl := gT_obj hk h0
  obtain ⟨h4, h5, h6⟩ := pl_new h1 h2
  exact kk q H1 _ _ h4 (List.mem_append_right _ List.mem_cons_self) (fun a ha => List.mem_append_left _ ha) (fun a ha => (List.mem_append.mp ha).imp id (fun h => List.mem_singleton.mp h)) (va_up_self _ _ _) (fun a ha => va_up_ne _ _ ha) h5 h6 h3
end RAW
/-! what calls of private constructors and new arrays of objects ask of the tables, beside a method's words -/
abbrev hostN : String := "Foundrymark"
def gX (U : State) : Prop := (va_Nw (.methodLinkNest RX10 41 yX5_init hostN) U ∧ va_Nw (.methodLinkNest RX10 46 yX9_init hostN) U ∧ va_Nw (.methodLinkNest RX3 9 yX5_init hostN) U ∧ va_Nw (.methodLinkNest RX7 11 yX2_init hostN) U ∧ va_Nw (.methodLinkNest RX7 20 yX5_init hostN) U ∧ va_Nw (.methodLinkNest RX8 25 yX0_init hostN) U)
  ∧ (va_AO RX4 U ∧ va_AO RX8 U ∧ va_AO RX9 U ∧ va_AO RX3 U ∧ va_AO RX7 U ∧ va_AO RX1 U ∧ va_AO RX6 U)
theorem gX.warm {s U : State} (hW : s.WarmedH U.vm) (h : gX s) : gX U := ⟨⟨h.1.1.warmM hW, h.1.2.1.warmM hW, h.1.2.2.1.warmM hW, h.1.2.2.2.1.warmM hW, h.1.2.2.2.2.1.warmM hW, h.1.2.2.2.2.2.warmM hW⟩, ⟨h.2.1.moved hW.alike, h.2.2.1.moved hW.alike, h.2.2.2.1.moved hW.alike, h.2.2.2.2.1.moved hW.alike, h.2.2.2.2.2.1.moved hW.alike, h.2.2.2.2.2.2.1.moved hW.alike, h.2.2.2.2.2.2.2.moved hW.alike⟩⟩
theorem gX.vm {s U : State} (hv : s.vm = U.vm) (h : gX s) : gX U := ⟨⟨h.1.1.same rfl hv, h.1.2.1.same rfl hv, h.1.2.2.1.same rfl hv, h.1.2.2.2.1.same rfl hv, h.1.2.2.2.2.1.same rfl hv, h.1.2.2.2.2.2.same rfl hv⟩, ⟨h.2.1.moved (hv ▸ Vm.Alike.refl _), h.2.2.1.moved (hv ▸ Vm.Alike.refl _), h.2.2.2.1.moved (hv ▸ Vm.Alike.refl _), h.2.2.2.2.1.moved (hv ▸ Vm.Alike.refl _), h.2.2.2.2.2.1.moved (hv ▸ Vm.Alike.refl _), h.2.2.2.2.2.2.1.moved (hv ▸ Vm.Alike.refl _), h.2.2.2.2.2.2.2.moved (hv ▸ Vm.Alike.refl _)⟩⟩
abbrev gY (D : va_G) (tA : Nat → ClassId) (L : List Nat) (f : Nat → va_E) (sz : Nat) (U : State) : Prop := gZ D tA L f sz U ∧ gX U
theorem gY_blind {D : va_G} {tA : Nat → ClassId} {L : List Nat} {f : Nat → va_E} {sz : Nat} {av : List Value} : FrameBlind (va_Pc av (gY D tA L f sz)) := fun a U g mk q => by
  obtain ⟨q0, ⟨q1, qP, qK, qD⟩, qX⟩ := q
  exact ⟨q0, ⟨q1, qP, va_K.moved (u := U) (U := U.calling g mk a) (Vm.Alike.refl U.vm) qK, qD⟩, gX.vm rfl qX⟩
abbrev gV : Type := List Nat × (Nat → va_E)
abbrev gF (D : va_G) (tA : Nat → ClassId) (A : Nat → Prop) (u : gV) (t : State) : Prop := va_P D vwCl (va_pl u.1 u.2) t.heap ∧ va_K D vwCl (gT tA) t ∧ va_D A (va_pl u.1 u.2)
section RC
variable {p : Program} {l : Launch} {e : Env} {R : Room} {s : State} {m : MethodId} {args : Array Value} {below : List Frame} {meth : Method} {c : Code} {H : Heap} {locs : List Loc} {cells slots : Nat} {Q : State → Prop}
variable {pc : Nat} {ls : Array Slot} {rest : List Value} {D : va_G} {A : Nat → Prop} {H0 : Heap} {tA : Nat → ClassId} {L : List Nat} {f : Nat → va_E}
variable {y : MethodName} {bytes cc : ByteArray} {maxL nL mc ms n index : Nat} {ws : List Cond} {rm : Room} {Ts : List Cond} {own host : String} {b : Nat} {As st0 : List Value}
theorem graw_N {post : gV → Prop} (Sx : CallFix p m c cc nL s args Ts own) (hM : Met l y ws rm (va_Pc (.ref b :: As) (gZ D tA L f H.size)) (va_Qv post (gF D tA (va_A (va_pl L f) H.size)) (va_A (va_pl L f) H.size)) mc ms (va_A (va_pl L f) H.size)) (cw : va_CN R s args own index y host bytes maxL none ws rm mc ms n ∧ y.name = "<init>" ∧ (Cond.instanceMethod y).before args s = true)
    (hK : va_K D vwCl (gT tA) s) (hP : va_P D vwCl (va_pl L f) H) (hD : va_D A (va_pl L f)) (hS : va_S A H0 H locs) (hA : ∀ q, H0.size ≤ q → A q)
    (hn : As.length = n) (hsize : ls.size = nL) (hst : st0 = As.reverse ++ .ref b :: rest) (hW : (rest.map fun v => v.category).sum ≤ 8) (hdg : decode cc pc = .ok (.invokespecial index, 3)) (hf : cells + mc ≤ R.cells ∧ slots + ms ≤ R.slots)
    (kk : ∀ (u : gV) (H1 : Heap) (locs1 : List Loc), post u → va_P D vwCl (va_pl u.1 u.2) H1 → va_D A (va_pl u.1 u.2) → va_S A H0 H1 locs1 → W p l e R s m args below meth c H1 locs1 (cells + mc) (slots + ms) Q (F0 m (pc + 3) ls rest)) : W p l e R s m args below meth c H locs cells slots Q (F0 m pc ls st0) := by
  have hFc := gA_in hD hS hA
  exact va_callv (va_runIN (As := As) (rest := rest) Sx hM cw ⟨gZ_blind, fun U hU hW9 => ⟨rfl, by rw [hU], by rw [hU]; exact hP, va_K.moved hW9.alike hK, gD_true hD⟩⟩ rfl hn hsize hst (lv_room hW) hdg hf) hS (fun q _ h => hFc q h) hFc (fun u t H1 locs1 ht hvm hw hB hz1 hk1 hS1 => kk u H1 locs1 hw (ht ▸ hB.1) (gD_weak hB.2.2 hFc) hS1)
theorem graw_I {post : gV → Prop} (Sx : CallFix p m c cc nL s args Ts own) (hM : Met l y ws rm (va_Pc (.ref b :: As) (gZ D tA L f H.size)) (va_Qv post (gF D tA (va_A (va_pl L f) H.size)) (va_A (va_pl L f) H.size)) mc ms (va_A (va_pl L f) H.size)) (cw : CallB R s args own index y bytes maxL none ws rm mc ms n ∧ y.name = "<init>" ∧ (Cond.instanceMethod y).before args s = true)
    (hK : va_K D vwCl (gT tA) s) (hP : va_P D vwCl (va_pl L f) H) (hD : va_D A (va_pl L f)) (hS : va_S A H0 H locs) (hA : ∀ q, H0.size ≤ q → A q)
    (hn : As.length = n) (hsize : ls.size = nL) (hst : st0 = As.reverse ++ .ref b :: rest) (hW : (rest.map fun v => v.category).sum ≤ 8) (hdg : decode cc pc = .ok (.invokespecial index, 3)) (hf : cells + mc ≤ R.cells ∧ slots + ms ≤ R.slots)
    (kk : ∀ (u : gV) (H1 : Heap) (locs1 : List Loc), post u → va_P D vwCl (va_pl u.1 u.2) H1 → va_D A (va_pl u.1 u.2) → va_S A H0 H1 locs1 → W p l e R s m args below meth c H1 locs1 (cells + mc) (slots + ms) Q (F0 m (pc + 3) ls rest)) : W p l e R s m args below meth c H locs cells slots Q (F0 m pc ls st0) := by
  have hFc := gA_in hD hS hA
  exact va_callv (va_runI (As := As) (rest := rest) Sx hM cw ⟨gZ_blind, fun U hU hW9 => ⟨rfl, by rw [hU], by rw [hU]; exact hP, va_K.moved hW9.alike hK, gD_true hD⟩⟩ rfl hn hsize hst (lv_room hW) hdg hf) hS (fun q _ h => hFc q h) hFc (fun u t H1 locs1 ht hvm hw hB hz1 hk1 hS1 => kk u H1 locs1 hw (ht ▸ hB.1) (gD_weak hB.2.2 hFc) hS1)
theorem graw_Y {post : gV → Prop} (Sx : CallFix p m c cc nL s args Ts own) (hM : Met l y ws rm (va_Pc (.ref b :: As) (gY D tA L f H.size)) (va_Qv post (gF D tA (va_A (va_pl L f) H.size)) (va_A (va_pl L f) H.size)) mc ms (va_A (va_pl L f) H.size)) (cw : CallB R s args own index y bytes maxL none ws rm mc ms n ∧ y.name = "<init>" ∧ (Cond.instanceMethod y).before args s = true)
    (hX : gX s) (hK : va_K D vwCl (gT tA) s) (hP : va_P D vwCl (va_pl L f) H) (hD : va_D A (va_pl L f)) (hS : va_S A H0 H locs) (hA : ∀ q, H0.size ≤ q → A q)
    (hn : As.length = n) (hsize : ls.size = nL) (hst : st0 = As.reverse ++ .ref b :: rest) (hW : (rest.map fun v => v.category).sum ≤ 8) (hdg : decode cc pc = .ok (.invokespecial index, 3)) (hf : cells + mc ≤ R.cells ∧ slots + ms ≤ R.slots)
    (kk : ∀ (u : gV) (H1 : Heap) (locs1 : List Loc), post u → va_P D vwCl (va_pl u.1 u.2) H1 → va_D A (va_pl u.1 u.2) → va_S A H0 H1 locs1 → W p l e R s m args below meth c H1 locs1 (cells + mc) (slots + ms) Q (F0 m (pc + 3) ls rest)) : W p l e R s m args below meth c H locs cells slots Q (F0 m pc ls st0) := by
  have hFc := gA_in hD hS hA
  exact va_callv (va_runI (As := As) (rest := rest) Sx hM cw ⟨gY_blind, fun U hU hW9 => ⟨rfl, ⟨by rw [hU], by rw [hU]; exact hP, va_K.moved hW9.alike hK, gD_true hD⟩, hX.warm hW9⟩⟩ rfl hn hsize hst (lv_room hW) hdg hf) hS (fun q _ h => hFc q h) hFc (fun u t H1 locs1 ht hvm hw hB hz1 hk1 hS1 => kk u H1 locs1 hw (ht ▸ hB.1) (gD_weak hB.2.2 hFc) hS1)
theorem gendF {A : Nat → Prop} {H : Heap} {D : va_G} {tA : Nat → ClassId} {a : Array Value} {st t : State} {post : gV → Prop} {locs : List Loc} {u : gV} (hp : post u) (hP : va_P D vwCl (va_pl u.1 u.2) H) (hK : va_K D vwCl (gT tA) st) (hD : va_D A (va_pl u.1 u.2)) (hS : va_S A st.heap H locs) (ht : t.heap = H) (hW : st.WarmedH t.vm) : va_Qv post (gF D tA A) A a st (.returned none) t :=
  ⟨⟨u, rfl, hp, by rw [ht]; exact hP, va_K.moved hW.alike hK, hD⟩, hS.F ht⟩
/-- a reference into an array of references -/
theorem raw_ast {K : String} {T : u_T} {N ci q v n : Nat} {fs : List Value} {g : Nat → Option Nat} (k : Nat) (hk : (gT tA)[k]? = some (tA k, .object K)) (hx : p.tables.exec = Jvm.exec) (hb : c.code = cc) (hK : va_K D vwCl (gT tA) s) (hP : va_P D vwCl (va_pl L f) H) (hD : va_D A (va_pl L f)) (hS : va_S A H0 H locs)
    (hq : q ∈ L) (hf : f q = .inl (tA k, n, .inr (.inr (.inr (.inr g))))) (hv : v ∈ L) (hfv : f v = .inr (ci, fs)) (hc : vwCl[ci]? = some (K, T, N)) {j : Nat} (hj : j < n) (hn : n < 2 ^ 31) (hdg : decode cc pc = .ok (.aastore, 1))
    (kk : ∀ (H1 : Heap) (locs1 : List Loc) (f2 : Nat → va_E), f2 q = .inl (tA k, n, .inr (.inr (.inr (.inr (va_up g j (some v)))))) → (∀ a, a ≠ q → f2 a = f a) → va_P D vwCl (va_pl L f2) H1 → va_D A (va_pl L f2) → va_S A H0 H1 locs1 → W p l e R s m args below meth c H1 locs1 cells slots Q (F0 m (pc + 1) ls rest)) : W p l e R s m args below meth c H locs cells slots Q (F0 m pc ls (.ref v :: .int (nI j) :: .ref q :: rest)) := by
  obtain ⟨z, hz⟩ := pl_at hq hf
  obtain ⟨z2, hz2⟩ := pl_at hv hfv
  refine va_astq hx hb hK hP hD hS z k z2 ci (r := (K, T, N)) hz hk hz2 hc (nI_in hj hn) hdg (fun H1 locs1 h3 h4 h5 => ?_)
  rw [nI_clamp (by omega)] at h3 h4
  have h2 := va_pl_set (X := []) (e := .inl (tA k, n, .inr (.inr (.inr (.inr (va_up g j (some v))))))) (by rw [List.nil_append]; exact hD) hq (by rw [List.nil_append, hf]; exact hz)
  rw [List.nil_append, List.nil_append] at h2
  rw [h2] at h3 h4
  exact kk H1 locs1 _ (va_up_self _ _ _) (fun a ha => va_up_ne _ _ ha) h3 h4 h5
end RC
