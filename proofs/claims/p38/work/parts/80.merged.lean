-- FILE 80.rows.lean.txt
/-! calls of the law's own methods -/
section GL
variable {p : Program} {l : Launch} {e : Env} {R : Room} {s : State} {m : MethodId} {args : Array Value} {below : List Frame} {meth : Method} {c : Code} {H : Heap} {locs : List Loc} {cells slots mc ms : Nat} {Q : State → Prop}
variable {pc : Nat} {ls : Array Slot} {rest st0 : List Value} {D : va_G} {A : Nat → Prop} {tA : Nat → ClassId} {L : List Nat} {f : Nat → va_E} {As : List Value} {a : Array Value} {free : Addr → Prop} {g : JFrame} {Qa : State → Outcome → State → Prop}
theorem run_of (hr : va_Run p l e R s m args below meth c H locs cells slots mc ms g rest Qa free) : CallRun p l e R s m args below meth c H locs cells slots mc ms g rest Qa free := by
  intro T hT X
  obtain ⟨v, st₀, t, T', L, h0, X', hL, e1, e2, hq, st⟩ := hr T hT X
  exact ⟨v, st₀, t, T', L, h0, X', hL, e1, hq, st⟩
theorem gPreB (hK : va_K D vwCl (gT tA) s) (hP : va_P D vwCl (va_pl L f) H) (hD : va_D A (va_pl L f)) : PreS s H (va_Pc As (gB D tA L f)) As :=
  ⟨gB_blind, fun U hU hW9 => ⟨rfl, by rw [hU]; exact hP, va_K.moved hW9.alike hK, gD_true hD⟩⟩
theorem gPreW (hX : gX s) (hQ : gQ A s) (hK : va_K D vwCl (gT tA) s) (hP : va_P D vwCl (va_pl L f) H) (hD : va_D A (va_pl L f)) (hS : va_S A s.heap H locs) (hA : ∀ q, s.heap.size ≤ q → A q) : PreS s H (va_Pc As (gW D tA L f H.size)) As :=
  ⟨gW_blind, fun U hU hW9 => ⟨rfl, ⟨⟨by rw [hU], by rw [hU]; exact hP, va_K.moved hW9.alike hK, gD_true hD⟩, hX.warm hW9⟩, hQ.call hS hU hW9 (gA_in hD hS hA)⟩⟩
theorem gsw_i {post : Int32 → gU → Prop} (hr : va_Run p l e R s m args below meth c H locs cells slots mc ms (F0 m pc ls st0) rest (va_Qi post (gE D tA (va_A (va_pl L f) H.size)) (va_A (va_pl L f) H.size) a) (va_A (va_pl L f) H.size))
    (hD : va_D A (va_pl L f)) (hS : va_S A s.heap H locs) (hA : ∀ q, s.heap.size ≤ q → A q)
    (kk : ∀ (r : Int32) (u : gU) (H1 : Heap) (locs1 : List Loc), post r u → Rep tA u.1 u.2.1 u.2.2.1 u.2.2.2 → va_P D vwCl (va_pl u.2.2.1 u.2.2.2) H1 → va_D A (va_pl u.2.2.1 u.2.2.2) → va_S A s.heap H1 locs1 → W p l e R s m args below meth c H1 locs1 (cells + mc) (slots + ms) Q (F0 m (pc + 3) ls (.int r :: rest))) : W p l e R s m args below meth c H locs cells slots Q (F0 m pc ls st0) := by
  have hFc := gA_in hD hS hA
  exact va_calli hr hS (fun q _ h => hFc q h) hFc (fun r u t H1 locs1 ht hvm hw hB hz1 hk1 hS1 => kk r u H1 locs1 hw hB.1 (ht ▸ hB.2.1) (gD_weak hB.2.2.2 hFc) hS1)
theorem gsw_l {post : Int64 → gU → Prop} (hr : va_Run p l e R s m args below meth c H locs cells slots mc ms (F0 m pc ls st0) rest (va_Ql post (gE D tA (va_A (va_pl L f) H.size)) (va_A (va_pl L f) H.size) a) (va_A (va_pl L f) H.size))
    (hD : va_D A (va_pl L f)) (hS : va_S A s.heap H locs) (hA : ∀ q, s.heap.size ≤ q → A q)
    (kk : ∀ (r : Int64) (u : gU) (H1 : Heap) (locs1 : List Loc), post r u → Rep tA u.1 u.2.1 u.2.2.1 u.2.2.2 → va_P D vwCl (va_pl u.2.2.1 u.2.2.2) H1 → va_D A (va_pl u.2.2.1 u.2.2.2) → va_S A s.heap H1 locs1 → W p l e R s m args below meth c H1 locs1 (cells + mc) (slots + ms) Q (F0 m (pc + 3) ls (.long r :: rest))) : W p l e R s m args below meth c H locs cells slots Q (F0 m pc ls st0) := by
  have hFc := gA_in hD hS hA
  exact va_calll hr hS (fun q _ h => hFc q h) hFc (fun r u t H1 locs1 ht hvm hw hB hz1 hk1 hS1 => kk r u H1 locs1 hw hB.1 (ht ▸ hB.2.1) (gD_weak hB.2.2.2 hFc) hS1)
end GL
/-! the tests of 'traced', as the bytecode asks -/
section TT
variable {S : St} (hI : Inv S) {i j o : Nat}
theorem bI_one {b : Bool} (h : bI b = 1) : b = true := by cases b with
  | true => rfl
  | false => exact absurd h (by decide)
theorem bI_none {b : Bool} (h : ¬ bI b = 1) : b = false := by cases b with
  | true => exact absurd rfl h
  | false => rfl
theorem lg_nn {x : Int64} (h : 0 ≤ x.toInt) : 0 ≤ lg_cmp x 0 := (lg_cmp_ge x 0).mpr (i64_le.mpr h)
theorem lg_zero {x : Int64} (h : x.toInt = 0) : lg_cmp x 0 = 0 := by
  have e : x = 0 := i64_ext (by rw [h]; rfl)
  rw [e]; decide
theorem tl_v0 (hI : Inv S) (hi : i < sN S 2 0) : ¬ sI S 42 i < 0 := fun z => by
  have h := (hI.lot hi).1
  have z := i32_lt.mp z
  have z : vT S i < 0 := z
  omega
theorem tl_vr (hI : Inv S) (hi : i < sN S 2 0) : ¬ sI S 41 i < sI S 42 i := fun z => by
  have h := (hI.lot hi).2.1
  have z := i32_lt.mp z
  have z : rT S i < vT S i := z
  omega
theorem tl_hv (hI : Inv S) (hi : i < sN S 2 0) (hb : barred S i = true) : ¬ 0 < sI S 42 i := fun z => by
  have h := (hI.lot hi).2.2.1 hb
  have z := i32_lt.mp z
  have z : 0 < vT S i := z
  omega
theorem tl_rc (hI : Inv S) (hi : i < sN S 2 0) (h0 : sI S 41 i = 0) : lg_cmp (sJ S 3 i) 0 = 0 := lg_zero ((hI.lot hi).2.2.2.1 (by show (sI S 41 i).toInt = 0; rw [h0]; rfl))
theorem tl_c0 (hI : Inv S) (hi : i < sN S 2 0) : 0 ≤ lg_cmp (sJ S 3 i) 0 := lg_nn (hI.lot hi).2.2.2.2
theorem tl_lt (hI : Inv S) (hi : i < sN S 2 0) (hj : j < sN S 2 0) (h : nsM S 8 j i = true) : ¬ nI j ≤ nI i := nI_ge (hI.lotin hi hj h).1 (by have := hI.1.1.nL; omega)
theorem tl_no (hI : Inv S) (hi : i < sN S 2 0) (hj : j < sN S 2 0) (h : nsM S 8 j i = true) : bI (nsM S 8 i j) = 0 := by rw [(hI.lotin hi hj h).2.1]; rfl
theorem tl_bb (hI : Inv S) (hi : i < sN S 2 0) (hj : j < sN S 2 0) (h : nsM S 8 j i = true) (hb : barred S i = true) : bI (barred S j) = 1 := by rw [(hI.lotin hi hj h).2.2.1 hb]; rfl
theorem tl_tt (hI : Inv S) (hi : i < sN S 2 0) (hj : j < sN S 2 0) (h : nsM S 8 j i = true) : ¬ tch S i < tch S j := fun z => by
  have h := (hI.lotin hi hj h).2.2.2.1
  have z := i32_lt.mp z
  omega
theorem tl_pp (hI : Inv S) (hi : i < sN S 2 0) (hj : j < sN S 2 0) (h : nsM S 8 j i = true) : nI (sN S 6 i) < nI (sN S 6 j) := Int32.not_le.mp (nI_ge (hI.lotin hi hj h).2.2.2.2 (by have := hI.1.1.lotPart hj; have := hI.1.1.nP; omega))
theorem to_nar (hI : Inv S) (ho : o < sN S 3 0) : narrow .char (.int (sI S 53 o)) = .int (sI S 53 o) := by
  rcases (hI.ordt ho).2.2.2.2 with h | h | h | h | h | h <;> (rw [h]; rfl)
theorem tm_nar (hI : Inv S) (hi : i < sN S 0 0) : narrow .char (.int (sI S 14 i)) = .int (sI S 14 i) := by
  rcases (hI.1.2.2.2.2.2.2.2.2.1.1 i hi).2.1 with h | h | h <;> (rw [h]; rfl)
theorem to_p (hI : Inv S) (ho : o < sN S 3 0) (h : ¬ lin S o ≤ 0) : sI S 53 o = 100 := (hI.ordt ho).1.mp (by
  have h9 : ¬ (lin S o).toInt ≤ 0 := fun z => h (i32_le.mpr z)
  omega)
theorem to_q (hI : Inv S) (ho : o < sN S 3 0) (h : lin S o ≤ 0) : ¬ sI S 53 o = 100 := fun z => by
  have h1 := (hI.ordt ho).1.mpr z
  have h2 := i32_le.mp h
  have e : (0 : Int32).toInt = 0 := rfl
  omega
theorem to_c (hI : Inv S) (ho : o < sN S 3 0) : ¬ lg_cmp (sJ S 4 o) 0 < 0 := fun z => by
  have h1 := lg_nn (hI.ordt ho).2.1
  have h2 := i32_le.mp h1
  have h3 := i32_lt.mp z
  omega
theorem to_n (hI : Inv S) (ho : o < sN S 3 0) (h1 : ¬ sI S 53 o = 102) (h2 : ¬ sI S 53 o = 100) : sR S 4 o = none := (hI.ordt ho).2.2.1 h1 h2
theorem to_f (hI : Inv S) (ho : o < sN S 3 0) (h : sR S 4 o = some i) : ¬ sI S 63 o = -1 := ((hI.ordt ho).2.2.2.1 i h).2
theorem to_g (hI : Inv S) (ho : o < sN S 3 0) (h : sR S 4 o = some i) : 0 ≤ sI S 63 o := i32_le.mpr ((hI.ordt ho).2.2.2.1 i h).1
/-- what 'traced' counts -/
def fwd (S : St) (n : Nat) : Int32 := it (fun i a => a + tch S i) n 0
def bck (S : St) (n : Nat) : Int32 := it (fun o a => a + lin S o) n 0
theorem fwd_s (n : Nat) : fwd S (n + 1) = fwd S n + tch S n := rfl
theorem bck_s (n : Nat) : bck S (n + 1) = bck S n + lin S n := rfl
theorem fwd_bck (hI : Inv S) : fwd S (sN S 2 0) = bck S (sN S 3 0) := by
  obtain ⟨h1, h2, h3⟩ := hI.both
  have hL : nLc S ≤ 90 := hI.1.1.nL
  have hO : nOc S ≤ 30 := hI.1.1.nO
  have s1 := sm_bound (f := fun i => (tch S i).toInt) (n := nLc S) (b := 128) (fun i hi => (h2 i hi).2)
  have s2 := sm_bound (f := fun o => (lin S o).toInt) (n := nOc S) (b := 128) (fun o ho => (h3 o ho).2)
  have q1 := it_sm (g := fun i a => a + tch S i) (f := fun i => (tch S i).toInt) (a := 0) (B := 20000) (by decide) (nLc S) (fun i hi => (h2 i hi).1) (by show (0 : Int) + _ ≤ _; omega) (fun i x hi h0 hb => by
    have := h2 i hi
    exact i32_add (by omega) (by omega))
  have q2 := it_sm (g := fun o a => a + lin S o) (f := fun o => (lin S o).toInt) (a := 0) (B := 20000) (by decide) (nOc S) (fun o ho => (h3 o ho).1) (by show (0 : Int) + _ ≤ _; omega) (fun o x ho h0 hb => by
    have := h3 o ho
    exact i32_add (by omega) (by omega))
  have q1 : (fwd S (nLc S)).toInt = 0 + sm (fun i => (tch S i).toInt) (nLc S) := q1
  have q2 : (bck S (nOc S)).toInt = 0 + sm (fun o => (lin S o).toInt) (nOc S) := q2
  exact i32_ext (by show (fwd S (nLc S)).toInt = (bck S (nOc S)).toInt; omega)
end TT
