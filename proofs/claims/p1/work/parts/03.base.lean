/-! BASE: the form of contracts over cells that are told one by one; what they ask of the launch beside the words -/
def inR (v a b : Int32) : Bool := decide (a ≤ v) && decide (v ≤ b)
abbrev bI (b : Bool) : Int32 := if b then 1 else 0
theorem bI_f {b : Bool} (h : bI b = 0) : b = false := by cases b with
  | true => exact absurd h (by decide)
  | false => rfl
theorem bI_t {b : Bool} (h : ¬ bI b = 0) : b = true := by cases b with
  | true => rfl
  | false => exact absurd rfl h
theorem gIn {x M : Int32} {n : Nat} (hM : M.toInt = n) (h0 : ¬ x < 0) (h1 : ¬ M ≤ x) : vp_in x n := vp_in_iff.mpr (by
  rw [Int32.lt_iff_toInt_lt] at h0
  rw [Int32.le_iff_toInt_le, hM] at h1
  have h2 : (0 : Int32).toInt = 0 := rfl
  omega)
theorem inR_m1 {v : Int32} : inR v 0 (0 - 1) = false := by
  unfold inR
  rcases hc : decide ((0 : Int32) ≤ v) with _ | _
  · rfl
  · have h1 := of_decide_eq_true hc
    rw [Int32.le_iff_toInt_le] at h1
    have h2 : ¬ v ≤ (0 - 1 : Int32) := by
      rw [Int32.le_iff_toInt_le]
      have e1 : (0 - 1 : Int32).toInt = -1 := by decide
      have e0 : (0 : Int32).toInt = 0 := rfl
      omega
    exact (Bool.true_and _).trans (decide_eq_false h2)
theorem inR_of {v a b M : Int32} (hM : M.toInt = b.toInt + 1) (h0 : ¬ v < a) (h1 : ¬ M ≤ v) : inR v a b = true := by
  have e0 : a ≤ v := Int32.not_lt.mp h0
  have e1 : v ≤ b := by
    rw [Int32.le_iff_toInt_le] at h1 ⊢
    omega
  simp [inR, e0, e1]
theorem lgc {x : Int64} : lg_cmp x x = 0 := by simp [lg_cmp]
theorem adv_le {N : Nat} (hN : N ≤ 500) : (0 : Int32) + nI N ≤ 5000 := by
  rw [show (0 : Int32) = nI 0 from rfl, nI_add, show (5000 : Int32) = nI 5000 from rfl]
  exact nI_le (by omega) (by decide)
def fitM (x1 x2 x3 x4 : Int32) : Bool := inR x1 0 20 && inR x2 0 50 && inR x3 5 500 && inR x4 1 99
theorem fitM_t {x1 x2 x3 x4 : Int32} (h : fitM x1 x2 x3 x4 = true) : inR x1 0 20 = true ∧ inR x2 0 50 = true ∧ inR x3 5 500 = true ∧ inR x4 1 99 = true := by
  unfold fitM at h
  simp only [Bool.and_eq_true] at h
  exact ⟨h.1.1.1, h.1.1.2, h.1.2, h.2⟩
theorem inR_nI {v a b : Int32} (h : inR v a b = true) (ha : 0 ≤ a.toInt) : ∃ N : Nat, v = nI N ∧ a.toInt ≤ N ∧ (N : Int) ≤ b.toInt := by
  unfold inR at h
  simp only [Bool.and_eq_true, decide_eq_true_eq] at h
  obtain ⟨h1, h2⟩ := h
  rw [Int32.le_iff_toInt_le] at h1 h2
  obtain ⟨j, hj, rfl⟩ := nI_of (x := v) (by
    rw [Int32.lt_iff_toInt_lt]
    have : (0 : Int32).toInt = 0 := rfl
    omega)
  rw [nI_toInt hj] at h1 h2
  exact ⟨j, rfl, h1, h2⟩
theorem inR_N {v : Int32} (h : inR v 1 500 = true) : ∃ N : Nat, N ≤ 500 ∧ v = nI N := by
  obtain ⟨N, e, -, h2⟩ := inR_nI h (by decide)
  have : (500 : Int32).toInt = 500 := by decide
  exact ⟨N, by omega, e⟩
theorem inR_4 {v : Int32} (h : inR v 0 3 = true) : v = 0 ∨ v = 1 ∨ v = 2 ∨ v = 3 := by
  obtain ⟨N, rfl, -, h2⟩ := inR_nI h (by decide)
  have h3 : (3 : Int32).toInt = 3 := by decide
  rcases (show N = 0 ∨ N = 1 ∨ N = 2 ∨ N = 3 by omega) with rfl | rfl | rfl | rfl
  · exact Or.inl rfl
  · exact Or.inr (Or.inl rfl)
  · exact Or.inr (Or.inr (Or.inl rfl))
  · exact Or.inr (Or.inr (Or.inr rfl))
theorem inR_t {v a b : Int32} (h1 : a ≤ v) (h2 : v ≤ b) : inR v a b = true := by simp [inR, h1, h2]
theorem inR_f1 {v a b : Int32} (h1 : ¬ a ≤ v) : inR v a b = false := by simp [inR, h1]
theorem inR_f2 {v a b : Int32} (h1 : ¬ v ≤ b) : inR v a b = false := by simp [inR, h1]
abbrev wsC (y : MethodName) (b : ByteArray) (n : Nat) (r : Option FieldType) : List Cond := Cond.code y b n r :: WA
abbrev wsW (y : MethodName) (b : ByteArray) (n : Nat) (r : Option FieldType) (hh : List (Nat × Nat × Nat × Nat)) : List Cond := Cond.codeWith y b n r hh :: WA
theorem gWgood {ws : List Cond} (h : ∀ w ∈ ws, w ∈ WA) : GoodIn WA ws := fun w hw => ⟨h w hw, WA_good w (h w hw)⟩
section GW
variable {own C : String} {idx : Nat} {y : MethodName} {b : ByteArray} {n : Nat} {r : Option FieldType} {hh : List (Nat × Nat × Nat × Nat)}
theorem gWI (h : Cond.code y b n r ∈ WA) : GoodIn WA (wsC y b n r) := gWgood (fun w hw => (List.mem_cons.mp hw).elim (fun e => e ▸ h) id)
theorem gWV (h1 : Cond.methodLink own idx y ∈ WA) (h2 : Cond.instanceMethod y ∈ WA) (h3 : Cond.selects C y y ∈ WA) (h4 : Cond.initialized C ∈ WA) (h5 : Cond.code y b n r ∈ WA) : GoodIn WA (wsV own idx C y (wsC y b n r)) := gWgood (fun w hw => by
  unfold wsV at hw
  rcases List.mem_append.mp hw with h | h
  · simp only [List.mem_cons, List.not_mem_nil, or_false] at h
    rcases h with rfl | rfl | rfl | rfl
    · exact h1
    · exact h2
    · exact h3
    · exact h4
  · rcases List.mem_cons.mp h with rfl | h
    · exact h5
    · exact h)
theorem gWS (h1 : Cond.methodLink own idx y ∈ WA) (h2 : Cond.static y ∈ WA) (h4 : Cond.initialized y.cls ∈ WA) (h5 : Cond.code y b n r ∈ WA) : GoodIn WA (va_wsS own idx y (wsC y b n r)) := gWgood (fun w hw => by
  unfold va_wsS at hw
  rcases List.mem_append.mp hw with h | h
  · simp only [List.mem_cons, List.not_mem_nil, or_false] at h
    rcases h with rfl | rfl | rfl
    · exact h1
    · exact h2
    · exact h4
  · rcases List.mem_cons.mp h with rfl | h
    · exact h5
    · exact h)
theorem gWSW (h1 : Cond.methodLink own idx y ∈ WA) (h2 : Cond.static y ∈ WA) (h4 : Cond.initialized y.cls ∈ WA) (h5 : Cond.codeWith y b n r hh ∈ WA) : GoodIn WA (va_wsS own idx y (wsW y b n r hh)) := gWgood (fun w hw => by
  unfold va_wsS at hw
  rcases List.mem_append.mp hw with h | h
  · simp only [List.mem_cons, List.not_mem_nil, or_false] at h
    rcases h with rfl | rfl | rfl
    · exact h1
    · exact h2
    · exact h4
  · rcases List.mem_cons.mp h with rfl | h
    · exact h5
    · exact h)
theorem gWF {x : MethodName} (h1 : Cond.methodLink own idx x ∈ WA) (h2 : Cond.selects C x y ∈ WA) (h3 : Cond.instanceMethod y ∈ WA) (h4 : Cond.initialized y.cls ∈ WA) (h5 : Cond.code y b n r ∈ WA) : GoodIn WA (va_wsF own idx C x y (wsC y b n r)) := gWgood (fun w hw => by
  unfold va_wsF at hw
  rcases List.mem_append.mp hw with h | h
  · simp only [List.mem_cons, List.not_mem_nil, or_false] at h
    rcases h with rfl | rfl | rfl | rfl
    · exact h1
    · exact h2
    · exact h3
    · exact h4
  · rcases List.mem_cons.mp h with rfl | h
    · exact h5
    · exact h)
end GW
def exD : List MethodName := [⟨"java/lang/RuntimeException", "<init>", "(Ljava/lang/String;)V"⟩, ⟨"java/lang/Exception", "<init>", "(Ljava/lang/String;)V"⟩, ⟨"java/lang/Throwable", "<init>", "(Ljava/lang/String;)V"⟩]
def exC : List (String × String) := [("java/lang/IndexOutOfBoundsException", "java/lang/IndexOutOfBoundsException"), ("java/lang/IllegalArgumentException", "java/lang/IllegalArgumentException"), ("java/lang/ArithmeticException", "java/lang/ArithmeticException"), ("java/util/ArrayList", "java/lang/Object"), ("FoundrymarkModel$Machine", "java/lang/Object"), ("FoundrymarkModel$Part", "java/lang/Object")]
def exN : List (String × Nat × MethodName) := [("Foundrymark", 41, ⟨"Foundrymark$NumberSet", "<init>", "()V"⟩), ("Foundrymark", 46, ⟨"Foundrymark$Supplier", "<init>", "()V"⟩), ("Foundrymark$Part", 25, ⟨"Foundrymark$Chart", "<init>", "()V"⟩)]
def exA : List String := ["Foundrymark$Machine", "Foundrymark$Part", "Foundrymark$Supplier", "Foundrymark$Lot", "Foundrymark$Order", "Foundrymark$Component", "Foundrymark$Operation", "java/lang/Object"]
def exS : List (Nat × String) := [(53, "a number of the machine is out of range"), (70, "there is no such family"), (389, "there is no such part"), (387, "there is no such machine"), (166, "there is no such supplier"), (391, "there is no such lot"), (393, "there is no such order"), (116, "the time is out of range"), (363, "no order was delivered"), (366, "there are no machines")]
def exB : List Cond := [.declares ⟨"java/lang/RuntimeException", "<init>", "(Ljava/lang/String;)V"⟩, .declares ⟨"java/lang/Exception", "<init>", "(Ljava/lang/String;)V"⟩, .declares ⟨"java/lang/Throwable", "<init>", "(Ljava/lang/String;)V"⟩, .castable "java/lang/IndexOutOfBoundsException" "java/lang/IndexOutOfBoundsException", .castable "java/lang/IllegalArgumentException" "java/lang/IllegalArgumentException", .castable "java/lang/ArithmeticException" "java/lang/ArithmeticException"]
/-- what is asked of the launch beside the words: names declared, casts, links of nest mates, classes of arrays, texts, statics (none of them in A) -/
def gP (tE : Nat) (A : Nat → Prop) (U : State) : Prop := (∀ x ∈ exD, va_Nw (.declares x) U) ∧ (∀ q ∈ exC, va_Nw (.castable q.1 q.2) U) ∧ (∀ q ∈ exN, va_Nw (.methodLinkNest q.1 q.2.1 q.2.2 "Foundrymark") U) ∧ (∀ C ∈ exA, va_AO C U) ∧ (∀ q ∈ exS, ∃ sa : Nat, vk_R "Foundrymark" q.1 q.2 sa U)
  ∧ vx_Zq Bundle.tN "UNASSIGNED_STACK" Bundle.steD A U U.heap ∧ vx_Zq Bundle.tN "SUPPRESSED_SENTINEL" Bundle.listD A U U.heap ∧ va_Z "java/util/ArrayList" "DEFAULTCAPACITY_EMPTY_ELEMENTDATA" "[Ljava/lang/Object;" (.ref tE) A U U.heap ∧ va_T (.object "java/lang/Object") tE 0 (fun _ => .null) A U U.heap ∧ va_Fw "java/util/ArrayList$Itr" ⟨"java/util/Iterator", "hasNext", "()Z"⟩ ⟨"java/util/ArrayList$Itr", "hasNext", "()Z"⟩ U ∧ va_Nw (.fieldLinkNest "java/util/ArrayList$Itr" 28 "java/util/ArrayList" "size" "I" "java/util/ArrayList") U
section GP
variable {tE : Nat} {A : Nat → Prop} {s : State}
theorem gP.C (h : gP tE A s) (q : String × String) (hq : q ∈ exC) : va_Nw (.castable q.1 q.2) s := h.2.1 q hq
theorem gP.M (h : gP tE A s) (q : String × Nat × MethodName) (hq : q ∈ exN) : va_Nw (.methodLinkNest q.1 q.2.1 q.2.2 "Foundrymark") s := h.2.2.1 q hq
theorem gP.O (h : gP tE A s) (C : String) (hq : C ∈ exA) : va_AO C s := h.2.2.2.1 C hq
theorem gP.S (h : gP tE A s) (q : Nat × String) (hq : q ∈ exS) : ∃ sa : Nat, vk_R "Foundrymark" q.1 q.2 sa s := h.2.2.2.2.1 q hq
theorem gP.U (h : gP tE A s) : vx_Zq Bundle.tN "UNASSIGNED_STACK" Bundle.steD A s s.heap := h.2.2.2.2.2.1
theorem gP.N (h : gP tE A s) : vx_Zq Bundle.tN "SUPPRESSED_SENTINEL" Bundle.listD A s s.heap := h.2.2.2.2.2.2.1
theorem gP.Z (h : gP tE A s) : va_Z "java/util/ArrayList" "DEFAULTCAPACITY_EMPTY_ELEMENTDATA" "[Ljava/lang/Object;" (.ref tE) A s s.heap := h.2.2.2.2.2.2.2.1
theorem gP.T (h : gP tE A s) : va_T (.object "java/lang/Object") tE 0 (fun _ => .null) A s s.heap := h.2.2.2.2.2.2.2.2.1
theorem gP.F (h : gP tE A s) : va_Fw "java/util/ArrayList$Itr" ⟨"java/util/Iterator", "hasNext", "()Z"⟩ ⟨"java/util/ArrayList$Itr", "hasNext", "()Z"⟩ s := h.2.2.2.2.2.2.2.2.2.1
theorem gP.E (h : gP tE A s) : va_Nw (.fieldLinkNest "java/util/ArrayList$Itr" 28 "java/util/ArrayList" "size" "I" "java/util/ArrayList") s := h.2.2.2.2.2.2.2.2.2.2
theorem exB_ot : ∀ w ∈ exB, w.onTables = true := by decide +kernel
theorem gP.B (h : gP tE A s) {args : Array Value} : ∀ w ∈ exB, w.before args s = true := fun w hw => va_any (exB_ot w hw) (A := #[]) (by
  simp only [exB, List.mem_cons, List.not_mem_nil, or_false] at hw
  rcases hw with rfl | rfl | rfl | rfl | rfl | rfl
  · exact h.1 _ (by decide)
  · exact h.1 _ (by decide)
  · exact h.1 _ (by decide)
  · exact h.2.1 (_, _) (by decide)
  · exact h.2.1 (_, _) (by decide)
  · exact h.2.1 (_, _) (by decide))
theorem gP.call {A1 : Nat → Prop} {H : Heap} {locs : List Loc} {U : State} (h : gP tE A s) (hS : va_S A s.heap H locs) (hU : U.heap = H) (hW : s.WarmedH U.vm) (hA : ∀ q, A1 q → A q) : gP tE A1 U := by
  have hk : ∀ a : Nat, a < s.heap.size → ¬ A a → U.heap[a]? = s.heap[a]? := fun a h1 h2 => by rw [hU]; exact hS.2.1 a h1 h2
  exact ⟨fun x hx => (h.1 x hx).warmD hW, fun q hq => (h.2.1 q hq).warmC hW, fun q hq => (h.2.2.1 q hq).warmM hW, fun C hC => (h.2.2.2.1 C hC).moved hW.alike,
    fun q hq => (h.2.2.2.2.1 q hq).elim (fun sa hsa => ⟨sa, hsa.warm hW⟩), ((h.U.moved hW.alike).kept hk).narrow hA, ((h.N.moved hW.alike).kept hk).narrow hA, ((h.Z.moved hW.alike).kept hk).narrow hA, ((h.T.moved hW.alike).kept hk).narrow hA, h.F.moved (by decide) hW.alike, h.E.warmF hW⟩
theorem gP.blind (h : gP tE A s) (g : JFrame) (mk : MethodId) (a : Array Value) : gP tE A (s.calling g mk a) :=
  ⟨fun x hx => (h.1 x hx).same rfl rfl, fun q hq => (h.2.1 q hq).same rfl rfl, fun q hq => (h.2.2.1 q hq).same rfl rfl, fun C hC => (h.2.2.2.1 C hC).moved (Vm.Alike.refl s.vm),
    fun q hq => (h.2.2.2.2.1 q hq).elim (fun sa hsa => ⟨sa, hsa.same rfl⟩), h.U.moved (Vm.Alike.refl s.vm), h.N.moved (Vm.Alike.refl s.vm), h.Z.moved (Vm.Alike.refl s.vm), h.T.moved (Vm.Alike.refl s.vm), h.F.moved (by decide) (Vm.Alike.refl s.vm), h.E.same rfl rfl⟩
end GP
/-- a start: the world of a method that only reads; of one that writes -/
abbrev gR (D : va_G) (ws : va_W) (tys : List (ClassId × FieldType)) (U : State) : Prop := va_P D vwCl ws U.heap ∧ va_K D vwCl tys U
abbrev gS (tE : Nat) (D : va_G) (ws : va_W) (tys : List (ClassId × FieldType)) (sz : Nat) (U : State) : Prop := U.heap.size = sz ∧ va_P D vwCl ws U.heap ∧ va_K D vwCl tys U ∧ va_D (fun _ => True) ws ∧ gP tE (va_A ws sz) U
theorem gR_blind {D : va_G} {ws : va_W} {tys : List (ClassId × FieldType)} {av : List Value} : FrameBlind (va_Pc av (gR D ws tys)) := fun a U g mk q =>
  ⟨q.1, q.2.1, va_K.moved (u := U) (U := U.calling g mk a) (Vm.Alike.refl U.vm) q.2.2⟩
theorem gS_blind {tE : Nat} {D : va_G} {ws : va_W} {tys : List (ClassId × FieldType)} {sz : Nat} {av : List Value} : FrameBlind (va_Pc av (gS tE D ws tys sz)) := fun a U g mk q =>
  ⟨q.1, q.2.1, q.2.2.1, va_K.moved (u := U) (U := U.calling g mk a) (Vm.Alike.refl U.vm) q.2.2.2.1, q.2.2.2.2.1, q.2.2.2.2.2.blind g mk a⟩
/-- an end -/
abbrev gO {U : Type} (D : va_G) (WO : U → va_W) (tO : U → List (ClassId × FieldType)) (A : Nat → Prop) (u : U) (t : State) : Prop := va_P D vwCl (WO u) t.heap ∧ va_K D vwCl (tO u) t ∧ va_D A (WO u)
theorem gF9 {A : Nat → Prop} {s t : State} {H : Heap} {locs : List Loc} (hS : va_S A s.heap H locs) (hz : H.size ≤ t.heap.size) (hk : ∀ q : Nat, q < H.size → t.heap[q]? = H[q]?) : va_F A s t :=
  ⟨Nat.le_trans hS.1 hz, fun q h1 h2 => (hk q (Nat.lt_of_lt_of_le h1 hS.1)).trans (hS.2.1 q h1 h2)⟩
theorem loop_g {σ : Type} {Wg : σ → Prop} (N : Nat) (I : Nat → σ → Prop) (step : ∀ j, j < N → (∀ z, I (j + 1) z → Wg z) → ∀ z, I j z → Wg z) (exit : ∀ z, I N z → Wg z) : ∀ z, I 0 z → Wg z := by
  have h : ∀ n j, j + n = N → ∀ z, I j z → Wg z := by
    intro n
    induction n with
    | zero => intro j hj z hz; exact exit z (by rw [Nat.add_zero] at hj; exact hj ▸ hz)
    | succ n ih => intro j hj z hz; exact step j (by omega) (fun z2 h2 => ih (j + 1) (by omega) z2 h2) z hz
  exact fun z hz => h N 0 (by omega) z hz
section GJ
variable {p : Program} {l : Launch} {e : Env} {R : Room} {s : State} {m : MethodId} {args : Array Value} {below : List Frame} {meth : Method} {c : Code} {H : Heap} {locs : List Loc} {cells slots : Nat} {Q : State → Prop}
variable {pc mc ms : Nat} {ls : Array Slot} {rest st0 : List Value} {D : va_G} {A : Nat → Prop} {H0 : Heap} {U SX : Type} {WO : U → va_W} {tO : U → List (ClassId × FieldType)} {wc wr ws : va_W} {tys : List (ClassId × FieldType)} {isC isR : List Nat} {a : Array Value} {px : SX → Prop} {X9 : String}
theorem gJ_i {post : Int32 → U → Prop} (hr : va_Run p l e R s m args below meth c H locs cells slots mc ms (F0 m pc ls st0) rest (va_Qi post (gO D WO tO (va_A wc H.size)) (va_A wc H.size) a) (va_A wc H.size)) (hP : va_P D vwCl ws H) (hD : va_D A ws) (hS : va_S A H0 H locs) (hK : va_K D vwCl tys s) (hFc : ∀ q, va_A wc H.size q → A q) (hC : isC.map (fun i => ws[i]?) = wc.map some) (hR : isR.map (fun i => ws[i]?) = wr.map some) (hn : va_nd isR = true) (hdis : ∀ i ∈ isR, i ∉ isC)
    (kk : ∀ (r : Int32) (u : U) (H1 : Heap) (locs1 : List Loc), post r u → va_P D vwCl (wr ++ WO u) H1 → va_D A (wr ++ WO u) → va_S A H0 H1 locs1 → va_K D vwCl (tys ++ tO u) s → W p l e R s m args below meth c H1 locs1 (cells + mc) (slots + ms) Q (F0 m (pc + 3) ls (.int r :: rest))) : W p l e R s m args below meth c H locs cells slots Q (F0 m pc ls st0) :=
  va_calli hr hS (fun q _ h => hFc q h) hFc (fun r u t H1 locs1 ht hvm hp hB hz hk hS1 => by
    obtain ⟨hP1, hK1, hD1⟩ := hB
    rw [ht] at hP1
    obtain ⟨a1, a2⟩ := va_join hP hD isC isR hC hR hn hdis hk hFc hP1 hD1
    exact kk r u H1 locs1 hp a1 a2 hS1 (hK.app (va_K.moved hvm.symm hK1)))
theorem gJ_l {post : Int64 → U → Prop} (hr : va_Run p l e R s m args below meth c H locs cells slots mc ms (F0 m pc ls st0) rest (va_Ql post (gO D WO tO (va_A wc H.size)) (va_A wc H.size) a) (va_A wc H.size)) (hP : va_P D vwCl ws H) (hD : va_D A ws) (hS : va_S A H0 H locs) (hK : va_K D vwCl tys s) (hFc : ∀ q, va_A wc H.size q → A q) (hC : isC.map (fun i => ws[i]?) = wc.map some) (hR : isR.map (fun i => ws[i]?) = wr.map some) (hn : va_nd isR = true) (hdis : ∀ i ∈ isR, i ∉ isC)
    (kk : ∀ (r : Int64) (u : U) (H1 : Heap) (locs1 : List Loc), post r u → va_P D vwCl (wr ++ WO u) H1 → va_D A (wr ++ WO u) → va_S A H0 H1 locs1 → va_K D vwCl (tys ++ tO u) s → W p l e R s m args below meth c H1 locs1 (cells + mc) (slots + ms) Q (F0 m (pc + 3) ls (.long r :: rest))) : W p l e R s m args below meth c H locs cells slots Q (F0 m pc ls st0) :=
  va_calll hr hS (fun q _ h => hFc q h) hFc (fun r u t H1 locs1 ht hvm hp hB hz hk hS1 => by
    obtain ⟨hP1, hK1, hD1⟩ := hB
    rw [ht] at hP1
    obtain ⟨a1, a2⟩ := va_join hP hD isC isR hC hR hn hdis hk hFc hP1 hD1
    exact kk r u H1 locs1 hp a1 a2 hS1 (hK.app (va_K.moved hvm.symm hK1)))
theorem gJ_v {post : U → Prop} (hr : va_Run p l e R s m args below meth c H locs cells slots mc ms (F0 m pc ls st0) rest (va_Qv post (gO D WO tO (va_A wc H.size)) (va_A wc H.size) a) (va_A wc H.size)) (hP : va_P D vwCl ws H) (hD : va_D A ws) (hS : va_S A H0 H locs) (hK : va_K D vwCl tys s) (hFc : ∀ q, va_A wc H.size q → A q) (hC : isC.map (fun i => ws[i]?) = wc.map some) (hR : isR.map (fun i => ws[i]?) = wr.map some) (hn : va_nd isR = true) (hdis : ∀ i ∈ isR, i ∉ isC)
    (kk : ∀ (u : U) (H1 : Heap) (locs1 : List Loc), post u → va_P D vwCl (wr ++ WO u) H1 → va_D A (wr ++ WO u) → va_S A H0 H1 locs1 → va_K D vwCl (tys ++ tO u) s → W p l e R s m args below meth c H1 locs1 (cells + mc) (slots + ms) Q (F0 m (pc + 3) ls (rest))) : W p l e R s m args below meth c H locs cells slots Q (F0 m pc ls st0) :=
  va_callv hr hS (fun q _ h => hFc q h) hFc (fun u t H1 locs1 ht hvm hp hB hz hk hS1 => by
    obtain ⟨hP1, hK1, hD1⟩ := hB
    rw [ht] at hP1
    obtain ⟨a1, a2⟩ := va_join hP hD isC isR hC hR hn hdis hk hFc hP1 hD1
    exact kk u H1 locs1 hp a1 a2 hS1 (hK.app (va_K.moved hvm.symm hK1)))
theorem gJ_q {post : Option Nat → U → Prop} (hr : va_Run p l e R s m args below meth c H locs cells slots mc ms (F0 m pc ls st0) rest (va_Qq post (gO D WO tO (va_A wc H.size)) (va_A wc H.size) a) (va_A wc H.size)) (hP : va_P D vwCl ws H) (hD : va_D A ws) (hS : va_S A H0 H locs) (hK : va_K D vwCl tys s) (hFc : ∀ q, va_A wc H.size q → A q) (hC : isC.map (fun i => ws[i]?) = wc.map some) (hR : isR.map (fun i => ws[i]?) = wr.map some) (hn : va_nd isR = true) (hdis : ∀ i ∈ isR, i ∉ isC)
    (kk : ∀ (r : Option Nat) (u : U) (H1 : Heap) (locs1 : List Loc), post r u → va_P D vwCl (wr ++ WO u) H1 → va_D A (wr ++ WO u) → va_S A H0 H1 locs1 → va_K D vwCl (tys ++ tO u) s → W p l e R s m args below meth c H1 locs1 (cells + mc) (slots + ms) Q (F0 m (pc + 3) ls (va_rf r :: rest))) : W p l e R s m args below meth c H locs cells slots Q (F0 m pc ls st0) :=
  va_callq hr hS (fun q _ h => hFc q h) hFc (fun r u t H1 locs1 ht hvm hp hB hz hk hS1 => by
    obtain ⟨hP1, hK1, hD1⟩ := hB
    rw [ht] at hP1
    obtain ⟨a1, a2⟩ := va_join hP hD isC isR hC hR hn hdis hk hFc hP1 hD1
    exact kk r u H1 locs1 hp a1 a2 hS1 (hK.app (va_K.moved hvm.symm hK1)))
theorem gJ_f {post : UInt32 → U → Prop} (hr : va_Run p l e R s m args below meth c H locs cells slots mc ms (F0 m pc ls st0) rest (va_Qf post (gO D WO tO (va_A wc H.size)) (va_A wc H.size) a) (va_A wc H.size)) (hP : va_P D vwCl ws H) (hD : va_D A ws) (hS : va_S A H0 H locs) (hK : va_K D vwCl tys s) (hFc : ∀ q, va_A wc H.size q → A q) (hC : isC.map (fun i => ws[i]?) = wc.map some) (hR : isR.map (fun i => ws[i]?) = wr.map some) (hn : va_nd isR = true) (hdis : ∀ i ∈ isR, i ∉ isC)
    (kk : ∀ (r : UInt32) (u : U) (H1 : Heap) (locs1 : List Loc), post r u → va_P D vwCl (wr ++ WO u) H1 → va_D A (wr ++ WO u) → va_S A H0 H1 locs1 → va_K D vwCl (tys ++ tO u) s → W p l e R s m args below meth c H1 locs1 (cells + mc) (slots + ms) Q (F0 m (pc + 3) ls (.float r :: rest))) : W p l e R s m args below meth c H locs cells slots Q (F0 m pc ls st0) :=
  va_callf hr hS (fun q _ h => hFc q h) hFc (fun r u t H1 locs1 ht hvm hp hB hz hk hS1 => by
    obtain ⟨hP1, hK1, hD1⟩ := hB
    rw [ht] at hP1
    obtain ⟨a1, a2⟩ := va_join hP hD isC isR hC hR hn hdis hk hFc hP1 hD1
    exact kk r u H1 locs1 hp a1 a2 hS1 (hK.app (va_K.moved hvm.symm hK1)))
theorem gJ_d {post : UInt64 → U → Prop} (hr : va_Run p l e R s m args below meth c H locs cells slots mc ms (F0 m pc ls st0) rest (va_Qd post (gO D WO tO (va_A wc H.size)) (va_A wc H.size) a) (va_A wc H.size)) (hP : va_P D vwCl ws H) (hD : va_D A ws) (hS : va_S A H0 H locs) (hK : va_K D vwCl tys s) (hFc : ∀ q, va_A wc H.size q → A q) (hC : isC.map (fun i => ws[i]?) = wc.map some) (hR : isR.map (fun i => ws[i]?) = wr.map some) (hn : va_nd isR = true) (hdis : ∀ i ∈ isR, i ∉ isC)
    (kk : ∀ (r : UInt64) (u : U) (H1 : Heap) (locs1 : List Loc), post r u → va_P D vwCl (wr ++ WO u) H1 → va_D A (wr ++ WO u) → va_S A H0 H1 locs1 → va_K D vwCl (tys ++ tO u) s → W p l e R s m args below meth c H1 locs1 (cells + mc) (slots + ms) Q (F0 m (pc + 3) ls (.double r :: rest))) : W p l e R s m args below meth c H locs cells slots Q (F0 m pc ls st0) :=
  va_calld hr hS (fun q _ h => hFc q h) hFc (fun r u t H1 locs1 ht hvm hp hB hz hk hS1 => by
    obtain ⟨hP1, hK1, hD1⟩ := hB
    rw [ht] at hP1
    obtain ⟨a1, a2⟩ := va_join hP hD isC isR hC hR hn hdis hk hFc hP1 hD1
    exact kk r u H1 locs1 hp a1 a2 hS1 (hK.app (va_K.moved hvm.symm hK1)))
theorem gX0 (hr : vx_Run p l e R s m args below meth c H locs cells slots mc ms (F0 m pc ls st0) rest (fun _ _ _ => False) (vx_X px (fun E9 _ _ => E9 = X9) (va_A wc H.size)) (va_A wc H.size)) (hP : va_P D vwCl ws H) (hD : va_D A ws) (hS : va_S A H0 H locs) (hFc : ∀ q, va_A wc H.size q → A q) (hC : isC.map (fun i => ws[i]?) = wc.map some) (hR : isR.map (fun i => ws[i]?) = wr.map some) (hn : va_nd isR = true) (hdis : ∀ i ∈ isR, i ∉ isC)
    (kx : ∀ (E9 : String) (ce : Cell) (q9 : Addr) (u : SX) (H1 : Heap) (locs1 : List Loc), px u ∧ E9 = X9 → H.size ≤ H1.size → va_P D vwCl wr H1 → va_D A wr → va_S A H0 H1 locs1 → H1[q9]? = some ce → ce.vm = .none → s.vm.findClass E9 = some ce.cls → vx_W p l e R s m args below meth c H1 locs1 (cells + mc) (slots + ms) Q (F0 m pc ls rest) q9) : W p l e R s m args below meth c H locs cells slots Q (F0 m pc ls st0) := by
  intro T hT X
  rcases hr T hT X with ⟨v, st₀, t, T', L, h0, X', hL, e1, e2, hF, st⟩ | ⟨q, st₀, t, T', L, E, ce, h0, X', hL, e1, e2, ⟨u, hp, hb, hF⟩, hce, hcv, hcl, st⟩
  · exact hF.elim
  · obtain ⟨k1, k2, k3⟩ := vx_keep h0 e1 hS (fun q _ h => hFc q h) hFc hL hF
    obtain ⟨b1, b2⟩ := va_join (w1 := []) hP hD isC isR hC hR hn hdis k2 hFc (fun k q h => by simp at h) ⟨fun i j p q h => by simp at h, fun k q h => by simp at h⟩
    rw [List.append_nil] at b1 b2
    obtain ⟨t2, a1, c1⟩ := kx E ce q u T'.heap (locs ++ L) ⟨hp, hb⟩ k1 b1 b2 k3 (by rw [e1]; exact hce) hcv hcl T' rfl X'
    exact ⟨t2, st.trans a1, c1⟩
end GJ
/-! the worlds of new objects -/
abbrev wX (h0 a1 a2 a3 a4 a5 h6 s0 s1 s2 s3 : Nat) (t1 t2 t3 t4 t5 : ClassId) : va_W := [(h0, .inr (15, [.ref a1, .ref a2, .ref a3, .ref a4, .ref a5, .ref h6, .int 0, .int 0, .int 0, .int 0, .int 0, .int 0, .long 0, .long 0])), (a1, .inl (t1, 5, .inr (.inr (.inr (.inr (fun _ => none)))))), (a2, .inl (t2, 12, .inr (.inr (.inr (.inr (fun _ => none)))))), (a3, .inl (t3, 4, .inr (.inr (.inr (.inr (va_up (va_up (va_up (va_up (fun _ => none) 0 (some s0)) 1 (some s1)) 2 (some s2)) 3 (some s3))))))), (a4, .inl (t4, 90, .inr (.inr (.inr (.inr (fun _ => none)))))), (a5, .inl (t5, 30, .inr (.inr (.inr (.inr (fun _ => none)))))), (h6, .inr (10, [.long 0, .long 0])), (s0, .inr (14, [.int 110, .int 0, .int 0])), (s1, .inr (14, [.int 110, .int 0, .int 0])), (s2, .inr (14, [.int 110, .int 0, .int 0])), (s3, .inr (14, [.int 110, .int 0, .int 0]))]
abbrev tX (t1 t2 t3 t4 t5 : ClassId) : List (ClassId × FieldType) := [(t1, .object "Foundrymark$Machine"), (t2, .object "Foundrymark$Part"), (t3, .object "Foundrymark$Supplier"), (t4, .object "Foundrymark$Lot"), (t5, .object "Foundrymark$Order")]
abbrev wM (tE m0 m1 m2 m3 m4 m5 m6 : Nat) (tc : ClassId) (th tm : Int32) : va_W := [(m0, .inr (20, [.int th, .ref m1, .ref m2, .ref m3, .ref m4, .int 0, .ref m5, .ref m6, .int tm])), (m1, .inr (4, [.int 0, .ref tE, .int 0])), (m2, .inr (4, [.int 0, .ref tE, .int 0])), (m3, .inr (4, [.int 0, .ref tE, .int 0])), (m4, .inr (4, [.int 0, .ref tE, .int 0])), (m5, .inl (tc, 4, .inl (upd (upd (upd (upd (fun _ => 0) 0 110) 1 110) 2 110) 3 110)))]
