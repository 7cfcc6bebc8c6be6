/-! throws in the class' world: what they ask of the launch beside the words; a call that throws leaves the world as it was -/
def exD : List MethodName := [⟨"java/lang/RuntimeException", "<init>", "(Ljava/lang/String;)V"⟩, ⟨"java/lang/Exception", "<init>", "(Ljava/lang/String;)V"⟩, ⟨"java/lang/Throwable", "<init>", "(Ljava/lang/String;)V"⟩]
abbrev xUOE : String := "java/lang/UnsupportedOperationException"
abbrev xIAE : String := "java/lang/IllegalArgumentException"
abbrev xISE : String := "java/lang/IllegalStateException"
abbrev xIOB : String := "java/lang/IndexOutOfBoundsException"
def exX : List String := [xUOE, xIAE, xISE, xIOB, nseN]
def exB : List Cond := exD.map .declares ++ exX.map (fun x => .castable x x)
/-- what a catch clause ahead does not catch -/
def exN : List (String × String) := [(xUOE, xIOB), (xUOE, xIAE), (xIAE, xIOB), (xIAE, xUOE), (xISE, xIOB), (xISE, xIAE), (nseN, xIOB)]
def exS : List (Nat × String) := [(246, "the order cannot be promised"), (258, "the order cannot be released"), (278, "the order has no job in work"), (289, "the job does not have so many pieces"), (302, "the order cannot be delivered"), (233, "there are 30 orders"), (326, "the job made no lot"), (332, "the job is not finished"), (353, "the order was not delivered"), (393, "there is no such order")]
def nseW : List Cond := (nseAt "Foundrymark" 328).filter goodWord
theorem nseW_t : ∀ w ∈ nseW, w.onTables = true ∧ goodWord w = true := by decide +kernel
def gQ (A : Nat → Prop) (U : State) : Prop := (∀ x ∈ exD, va_Nw (.declares x) U) ∧ (∀ x ∈ exX, va_Nw (.castable x x) U) ∧ (∀ w ∈ nseW, va_Nw w U) ∧ (∀ q ∈ exN, va_Nc q.1 q.2 U) ∧ (∀ q ∈ exS, ∃ sa : Nat, vk_R "Foundrymark" q.1 q.2 sa U)
  ∧ vx_Zq Bundle.tN "UNASSIGNED_STACK" Bundle.steD A U U.heap ∧ vx_Zq Bundle.tN "SUPPRESSED_SENTINEL" Bundle.listD A U U.heap
section GQ
variable {A : Nat → Prop} {s : State}
theorem gQ.C (h : gQ A s) (x : String) (hx : x ∈ exX) : va_Nw (.castable x x) s := h.2.1 x hx
theorem gQ.W (h : gQ A s) {args : Array Value} : ∀ w ∈ nseW, w.before args s = true := fun w hw => va_Nw.use (nseW_t w hw).1 (h.2.2.1 w hw)
theorem gQ.N (h : gQ A s) (q : String × String) (hq : q ∈ exN) : va_Nc q.1 q.2 s := h.2.2.2.1 q hq
theorem gQ.S (h : gQ A s) (q : Nat × String) (hq : q ∈ exS) : ∃ sa : Nat, vk_R "Foundrymark" q.1 q.2 sa s := h.2.2.2.2.1 q hq
theorem gQ.U (h : gQ A s) : vx_Zq Bundle.tN "UNASSIGNED_STACK" Bundle.steD A s s.heap := h.2.2.2.2.2.1
theorem gQ.V (h : gQ A s) : vx_Zq Bundle.tN "SUPPRESSED_SENTINEL" Bundle.listD A s s.heap := h.2.2.2.2.2.2
theorem exB_ot : ∀ w ∈ exB, w.onTables = true := by decide +kernel
theorem gQ.B (h : gQ A s) {args : Array Value} : ∀ w ∈ exB, w.before args s = true := fun w hw => va_any (exB_ot w hw) (A := #[]) (by
  unfold exB at hw
  rcases List.mem_append.mp hw with z | z
  · obtain ⟨x, hx, rfl⟩ := List.mem_map.mp z
    exact h.1 x hx
  · obtain ⟨x, hx, rfl⟩ := List.mem_map.mp z
    exact h.2.1 x hx)
theorem gQ.call {A1 : Nat → Prop} {H : Heap} {locs : List Loc} {U : State} (h : gQ A s) (hS : va_S A s.heap H locs) (hU : U.heap = H) (hW : s.WarmedH U.vm) (hA : ∀ q, A1 q → A q) : gQ A1 U := by
  have hk : ∀ a : Nat, a < s.heap.size → ¬ A a → U.heap[a]? = s.heap[a]? := fun a h1 h2 => by rw [hU]; exact hS.2.1 a h1 h2
  exact ⟨fun x hx => (h.1 x hx).warmD hW, fun x hx => (h.2.1 x hx).warmC hW, fun w hw => word_at hW (good_of_word (nseW_t w hw).2) (h.2.2.1 w hw), fun q hq => (h.N q hq).moved hW.alike,
    fun q hq => (h.S q hq).elim (fun sa hsa => ⟨sa, hsa.warm hW⟩), ((h.U.moved hW.alike).kept hk).narrow hA, ((h.V.moved hW.alike).kept hk).narrow hA⟩
theorem gQ.blind (h : gQ A s) (g : JFrame) (mk : MethodId) (a : Array Value) : gQ A (s.calling g mk a) :=
  ⟨fun x hx => (h.1 x hx).same rfl rfl, fun x hx => (h.2.1 x hx).same rfl rfl, fun w hw => va_Nw.same (u := s) (nseW_t w hw).1 rfl (h.2.2.1 w hw), fun q hq => (h.N q hq).moved (Vm.Alike.refl s.vm),
    fun q hq => (h.S q hq).elim (fun sa hsa => ⟨sa, hsa.same rfl⟩), h.U.moved (Vm.Alike.refl s.vm), h.V.moved (Vm.Alike.refl s.vm)⟩
theorem gQ.narrow {A1 : Nat → Prop} (h : gQ A s) (hA : ∀ q, A1 q → A q) : gQ A1 s := ⟨h.1, h.2.1, h.2.2.1, h.2.2.2.1, h.2.2.2.2.1, h.U.narrow hA, h.V.narrow hA⟩
end GQ
/-- the start of a method that throws and writes nothing -/
abbrev gN (D : va_G) (tA : Nat → ClassId) (L : List Nat) (f : Nat → va_E) (sz : Nat) (U : State) : Prop := U.heap.size = sz ∧ gB D tA L f U ∧ gQ (fun q => sz ≤ q) U
theorem gN_blind {D : va_G} {tA : Nat → ClassId} {L : List Nat} {f : Nat → va_E} {sz : Nat} {av : List Value} : FrameBlind (va_Pc av (gN D tA L f sz)) := fun a U g mk q => by
  obtain ⟨q0, q1, q2, q3⟩ := q
  have h := gB_blind (av := av) a U g mk ⟨q0, q2⟩
  exact ⟨h.1, q1, h.2, q3.blind g mk a⟩
section GX
variable {p : Program} {l : Launch} {e : Env} {R : Room} {s : State} {m : MethodId} {args : Array Value} {below : List Frame} {meth : Method} {c : Code} {H : Heap} {locs : List Loc} {cells slots : Nat} {Q : State → Prop}
variable {pc : Nat} {ls : Array Slot} {rest : List Value} {D : va_G} {A : Nat → Prop} {tA : Nat → ClassId} {L : List Nat} {f : Nat → va_E}
variable {y : MethodName} {bytes cc : ByteArray} {maxL nL n index : Nat} {ret : Option FieldType} {ws : List Cond} {rm : Room} {Ts : List Cond} {own K : String} {b ci N : Nat} {T : u_T} {fs As st0 : List Value}
theorem gPreN (hQ : gQ A s) (hS : va_S A s.heap H locs) (hA : ∀ q, s.heap.size ≤ q → A q) (hK : va_K D vwCl (gT tA) s) (hP : va_P D vwCl (va_pl L f) H) {A2 : Nat → Prop} (hD : va_D A2 (va_pl L f)) {q : Nat} (hc : vwCl[ci]? = some (K, T, N)) (he : (va_pl L f)[q]? = some (b, .inr (ci, fs))) : PreV s H K b (va_Pc (.ref b :: As) (gN D tA L f H.size)) As :=
  ⟨gN_blind, va_recv hK hP hc he, fun U hU hW => ⟨rfl, by rw [hU], ⟨by rw [hU]; exact hP, va_K.moved hW.alike hK, gD_true hD⟩, hQ.call hS hU hW (fun q hq => hA q (Nat.le_trans hS.1 hq))⟩⟩
/-- a call that throws -/
theorem gX9 {X9 : String} (Sx : CallFix p m c cc nL s args Ts own) (hM : vx_Met l y ws rm (va_Pc (.ref b :: As) (gN D tA L f H.size)) (fun _ _ _ _ => False) (vx_X (fun _ : Unit => True) (fun E9 _ _ => E9 = X9) (fun q => H.size ≤ q)) 1 6 (fun q => H.size ≤ q)) (cw : CallW R s args own K index y bytes maxL ret ws rm 1 6 n)
    (hQ : gQ A s) (hK : va_K D vwCl (gT tA) s) (hP : va_P D vwCl (va_pl L f) H) {A2 : Nat → Prop} (hD : va_D A2 (va_pl L f)) (hS : va_S A s.heap H locs) (hA : ∀ q, s.heap.size ≤ q → A q) {q : Nat} (hc : vwCl[ci]? = some (K, T, N)) (he : (va_pl L f)[q]? = some (b, .inr (ci, fs)))
    (hn : As.length = n) (hsize : ls.size = nL) (hst : st0 = As.reverse ++ .ref b :: rest) (hW : (rest.map fun v => v.category).sum ≤ 8) (hdg : decode cc pc = .ok (.invokevirtual index, 3)) (hf : cells + 1 ≤ R.cells ∧ slots + 6 ≤ R.slots)
    (kx : ∀ (ce : Cell) (q9 : Addr) (H1 : Heap) (locs1 : List Loc), va_P D vwCl (va_pl L f) H1 → va_S A s.heap H1 locs1 → H1[q9]? = some ce → ce.vm = .none → s.vm.findClass X9 = some ce.cls → vx_W p l e R s m args below meth c H1 locs1 (cells + 1) (slots + 6) Q (F0 m pc ls rest) q9) : W p l e R s m args below meth c H locs cells slots Q (F0 m pc ls st0) := by
  have hr : vx_Run p l e R s m args below meth c H locs cells slots 1 6 (F0 m pc ls st0) rest (fun _ _ _ => False) (vx_X (fun _ : Unit => True) (fun E9 _ _ => E9 = X9) (fun q => H.size ≤ q)) (fun q => H.size ≤ q) := vx_runV (g := F0 m pc ls st0) (As := As) (rest := rest) Sx hM cw (gPreN hQ hS hA hK hP hD hc he) rfl hn hsize hst (lv_room hW) hdg hf
  intro T hT X
  rcases hr T hT X with ⟨v, st₀, t, T', L1, h0, X', hL, e1, e2, hF, st⟩ | ⟨q, st₀, t, T', L1, E, ce, h0, X', hL, e1, e2, ⟨u, hp, hb, hF⟩, hce, hcv, hcl, st⟩
  · exact hF.elim
  · obtain ⟨k1, k2, k3⟩ := vx_keep h0 e1 hS (fun q h1 h2 => absurd h1 (Nat.not_lt.mpr h2)) (fun q h => hA q (Nat.le_trans hS.1 h)) hL hF
    have hP1 : va_P D vwCl (va_pl L f) T'.heap := hP.kept (fun k z hk => k2 z.1 (vx_lt hP hk) (Nat.not_le.mpr (vx_lt hP hk)))
    obtain ⟨t2, a1, c1⟩ := kx ce q T'.heap (locs ++ L1) hP1 k3 (by rw [e1]; exact hce) hcv (by rw [← hb]; exact hcl) T' rfl X'
    exact ⟨t2, st.trans a1, c1⟩
theorem gwr_iY {H0 : Heap} {mc ms : Nat} {post : Int32 → gU → Prop} (Sx : CallFix p m c cc nL s args Ts own) (hM : Met l y ws rm (va_Pc (.ref b :: As) (gY D tA L f H.size)) (va_Qi post (gE D tA (va_A (va_pl L f) H.size)) (va_A (va_pl L f) H.size)) mc ms (va_A (va_pl L f) H.size)) (cw : CallW R s args own K index y bytes maxL ret ws rm mc ms n)
    (hX : gX s) (hK : va_K D vwCl (gT tA) s) (hP : va_P D vwCl (va_pl L f) H) (hD : va_D A (va_pl L f)) (hS : va_S A H0 H locs) (hA : ∀ q, H0.size ≤ q → A q) {q : Nat} (hc : vwCl[ci]? = some (K, T, N)) (he : (va_pl L f)[q]? = some (b, .inr (ci, fs)))
    (hn : As.length = n) (hsize : ls.size = nL) (hst : st0 = As.reverse ++ .ref b :: rest) (hW : (rest.map fun v => v.category).sum ≤ 8) (hdg : decode cc pc = .ok (.invokevirtual index, 3)) (hf : cells + mc ≤ R.cells ∧ slots + ms ≤ R.slots)
    (kk : ∀ (r : Int32) (u : gU) (H1 : Heap) (locs1 : List Loc), post r u → Rep tA u.1 u.2.1 u.2.2.1 u.2.2.2 → va_P D vwCl (va_pl u.2.2.1 u.2.2.2) H1 → va_D A (va_pl u.2.2.1 u.2.2.2) → va_S A H0 H1 locs1 → W p l e R s m args below meth c H1 locs1 (cells + mc) (slots + ms) Q (F0 m (pc + 3) ls (.int r :: rest))) : W p l e R s m args below meth c H locs cells slots Q (F0 m pc ls st0) := by
  have hFc := gA_in hD hS hA
  exact va_calli (va_runV (As := As) (rest := rest) Sx hM cw (gPreY hX hK hP hD hc he) rfl hn hsize hst (lv_room hW) hdg hf) hS (fun q _ h => hFc q h) hFc (fun r u t H1 locs1 ht hvm hw hB hz1 hk1 hS1 => kk r u H1 locs1 hw hB.1 (ht ▸ hB.2.1) (gD_weak hB.2.2.2 hFc) hS1)
end GX
/-- the start of the law's methods -/
abbrev gW (D : va_G) (tA : Nat → ClassId) (L : List Nat) (f : Nat → va_E) (sz : Nat) (U : State) : Prop := gY D tA L f sz U ∧ gQ (va_A (va_pl L f) sz) U
theorem gW_blind {D : va_G} {tA : Nat → ClassId} {L : List Nat} {f : Nat → va_E} {sz : Nat} {av : List Value} : FrameBlind (va_Pc av (gW D tA L f sz)) := fun a U g mk q => by
  obtain ⟨q0, q1, q2⟩ := q
  have h := gY_blind (av := av) a U g mk ⟨q0, q1⟩
  exact ⟨h.1, h.2, q2.blind g mk a⟩
