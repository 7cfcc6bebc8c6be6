/-! PURE: what reserving does -/
abbrev qT (S : St) (i : Nat) : Int := (sI S 40 i).toInt
abbrev rT (S : St) (i : Nat) : Int := (sI S 41 i).toInt
abbrev vT (S : St) (i : Nat) : Int := (sI S 42 i).toInt
abbrev dT (S : St) (i : Nat) : Int := (sI S 43 i).toInt
abbrev cT (S : St) (i : Nat) : Int := (sJ S 3 i).toInt
abbrev pT (S : St) (o i : Nat) : Int := (sP S o i).toInt
theorem nsM_congr {S T : St} (h : ∀ k i, sJ T k i = sJ S k i) (k i j : Nat) : nsM T k i j = nsM S k i j := by
  show nsb (sJ T (2 * k) i) (sJ T (2 * k + 1) i) j = nsb (sJ S (2 * k) i) (sJ S (2 * k + 1) i) j
  rw [h, h]
theorem barred_congr {S T : St} (h : ∀ k i, sJ T k i = sJ S k i) (i : Nat) : barred T i = barred S i := by
  unfold barred
  rw [nsM_congr h, show nsLo T 8 i = nsLo S 8 i from h _ _, show nsHi T 8 i = nsHi S 8 i from h _ _, show nsLo T 14 0 = nsLo S 14 0 from h _ _, show nsHi T 14 0 = nsHi S 14 0 from h _ _]
theorem imin_T (x y : Int32) : (imin x y).toInt = if y.toInt < x.toInt then y.toInt else x.toInt := by
  unfold imin
  by_cases h : y < x
  · rw [if_pos h, if_pos (i32_lt.mp h)]
  · rw [if_neg h, if_neg (fun q => h (i32_lt.mpr q))]
/-- T comes from S by reserving for the order o, in lots of parts of K alone -/
def Rsv (S T : St) (o : Nat) (K : Nat → Prop) : Prop :=
  (∀ k i, k ≠ 42 → sI T k i = sI S k i) ∧ (∀ o' i, o' ≠ o → sP T o' i = sP S o' i) ∧ (∀ k i, sJ T k i = sJ S k i) ∧ (∀ i, sN S 2 0 ≤ i → sI T 42 i = sI S 42 i ∧ sP T o i = sP S o i) ∧ (sN T = sN S ∧ sR T = sR S) ∧
  ∀ i, i < sN S 2 0 → vT T i - vT S i = pT T o i - pT S o i ∧ pT S o i ≤ pT T o i ∧ vT T i ≤ rT S i ∧ (pT S o i < pT T o i → barred S i = false ∧ K (sN S 6 i))
/-- what reserving asks of the state -/
def RsvOK (S : St) (o : Nat) : Prop := ∀ i, i < sN S 2 0 → 0 ≤ pT S o i ∧ pT S o i ≤ vT S i ∧ vT S i ≤ rT S i ∧ rT S i ≤ 100000
theorem Rsv.refl {S : St} {o : Nat} {K : Nat → Prop} (h : RsvOK S o) : Rsv S S o K :=
  ⟨fun _ _ _ => rfl, fun _ _ _ => rfl, fun _ _ => rfl, fun _ _ => ⟨rfl, rfl⟩, ⟨rfl, rfl⟩, fun i hi => ⟨by omega, Int.le_refl _, (h i hi).2.2.1, fun q => absurd q (Int.lt_irrefl _)⟩⟩
theorem Rsv.ok {S T : St} {o : Nat} {K : Nat → Prop} (h : Rsv S T o K) (hS : RsvOK S o) : RsvOK T o := fun i hi => by
  obtain ⟨h1, -, -, -, ⟨hn, -⟩, h6⟩ := h
  rw [hn] at hi
  obtain ⟨a1, a2, a3, a4⟩ := hS i hi
  obtain ⟨b1, b2, b3, -⟩ := h6 i hi
  have e : rT T i = rT S i := congrArg Int32.toInt (h1 41 i (by decide))
  refine ⟨by omega, by omega, by omega, by omega⟩
theorem Rsv.trans {S T U : St} {o : Nat} {K : Nat → Prop} (h : Rsv S T o K) (g : Rsv T U o K) : Rsv S U o K := by
  obtain ⟨h1, h2, h3, h4, ⟨h5, h5'⟩, h6⟩ := h
  obtain ⟨g1, g2, g3, g4, ⟨g5, g5'⟩, g6⟩ := g
  rw [h5] at g4 g6
  refine ⟨fun k i hk => (g1 k i hk).trans (h1 k i hk), fun o' i ho => (g2 o' i ho).trans (h2 o' i ho), fun k i => (g3 k i).trans (h3 k i), fun i hi => ⟨(g4 i hi).1.trans (h4 i hi).1, (g4 i hi).2.trans (h4 i hi).2⟩, ⟨g5.trans h5, g5'.trans h5'⟩, fun i hi => ?_⟩
  obtain ⟨a1, a2, a3, a4⟩ := h6 i hi
  obtain ⟨b1, b2, b3, b4⟩ := g6 i hi
  have e : rT T i = rT S i := congrArg Int32.toInt (h1 41 i (by decide))
  rw [barred_congr h3 i] at b4
  refine ⟨by omega, by omega, by omega, fun q => ?_⟩
  rcases Int.lt_or_le (pT S o i) (pT T o i) with z | z
  · exact a4 z
  · exact b4 (by omega)
/-- one lot more -/
theorem Rsv.step {S T : St} {o j : Nat} {K : Nat → Prop} {k : Int32} (h : Rsv S T o K) (hS : RsvOK S o) (hj : j < sN S 2 0) (h0 : 0 ≤ k.toInt) (hk : k.toInt ≤ (free T j).toInt) (hK : K (sN S 6 j)) : Rsv S (rsT T o j k) o K := by
  have hT := h.ok hS
  obtain ⟨h1, h2, h3, h4, ⟨h5, h5'⟩, h6⟩ := h
  obtain ⟨a1, a2, a3, a4⟩ := hT j (by rw [h5]; exact hj)
  have hfree : (barred T j = true ∧ (free T j).toInt = 0) ∨ (barred T j = false ∧ (free T j).toInt = rT T j - vT T j) := by
    unfold free
    cases hb : barred T j with
    | true => exact Or.inl ⟨rfl, by rw [if_pos rfl]; rfl⟩
    | false => exact Or.inr ⟨rfl, by rw [if_neg (by decide)]; exact i32_subV (x := rT T j) (y := vT T j) rfl rfl (by omega) (by omega)⟩
  have e41 : rT T j = rT S j := congrArg Int32.toInt (h1 41 j (by decide))
  have hv : (sI T 42 j + k).toInt = vT T j + k.toInt := i32_addV rfl rfl (by rcases hfree with z | z <;> omega) (by rcases hfree with z | z <;> omega)
  have hp : (sP T o j + k).toInt = pT T o j + k.toInt := i32_addV rfl rfl (by rcases hfree with z | z <;> omega) (by rcases hfree with z | z <;> omega)
  refine ⟨fun k' i hk' => ?_, fun o' i ho' => ?_, h3, fun i hi => ?_, ⟨h5, h5'⟩, fun i hi => ?_⟩
  · show up2 (sI T) 42 j (sI T 42 j + k) k' i = _
    rw [up2_nk _ _ hk']; exact h1 k' i hk'
  · show up2 (sP T) o j (sP T o j + k) o' i = _
    rw [up2_nk _ _ ho']; exact h2 o' i ho'
  · have hne : i ≠ j := by omega
    constructor
    · show up2 (sI T) 42 j (sI T 42 j + k) 42 i = _
      rw [up2_ne _ _ (fun q => hne q.2)]; exact (h4 i hi).1
    · show up2 (sP T) o j (sP T o j + k) o i = _
      rw [up2_ne _ _ (fun q => hne q.2)]; exact (h4 i hi).2
  · obtain ⟨b1, b2, b3, b4⟩ := h6 i hi
    by_cases e : i = j
    · subst e
      have e1 : vT (rsT T o i k) i = vT T i + k.toInt := by
        show (up2 (sI T) 42 i (sI T 42 i + k) 42 i).toInt = _
        rw [up2_self]; exact hv
      have e2 : pT (rsT T o i k) o i = pT T o i + k.toInt := by
        show (up2 (sP T) o i (sP T o i + k) o i).toInt = _
        rw [up2_self]; exact hp
      rw [e1, e2]
      refine ⟨by omega, by omega, by rcases hfree with z | z <;> omega, fun q => ?_⟩
      rcases Int.lt_or_le (pT S o i) (pT T o i) with z | z
      · exact b4 z
      · refine ⟨?_, hK⟩
        rcases hfree with y | y
        · omega
        · rw [← barred_congr h3 i]; exact y.1
    · have e1 : vT (rsT T o j k) i = vT T i := by
        show (up2 (sI T) 42 j (sI T 42 j + k) 42 i).toInt = _
        rw [up2_ne _ _ (fun q => e q.2)]
      have e2 : pT (rsT T o j k) o i = pT T o i := by
        show (up2 (sP T) o j (sP T o j + k) o i).toInt = _
        rw [up2_ne _ _ (fun q => e q.2)]
      rw [e1, e2]
      exact ⟨b1, b2, b3, b4⟩
theorem free_nonneg {S : St} {o i : Nat} (h : RsvOK S o) (hi : i < sN S 2 0) : 0 ≤ (free S i).toInt := by
  obtain ⟨a1, a2, a3, a4⟩ := h i hi
  unfold free
  cases hb : barred S i with
  | true => rw [if_pos rfl]; decide
  | false =>
    rw [if_neg (by decide), i32_subV (x := rT S i) (y := vT S i) rfl rfl (by omega) (by omega)]; omega
/-- reserving for one component -/
theorem rs_spec {S : St} {o q : Nat} {K : Nat → Prop} (hS : RsvOK S o) (hK : K (sN S 8 q)) (h0 : 0 ≤ (sI S 50 o * sI S 30 q).toInt) (n : Nat) : Rsv S (sM S (rsL S o q n).1) o K ∧ 0 ≤ (rsL S o q n).2.toInt ∧ (rsL S o q n).2.toInt ≤ (sI S 50 o * sI S 30 q).toInt := by
  induction n with
  | zero => exact ⟨Rsv.refl hS, h0, Int.le_refl _⟩
  | succ n ih =>
    obtain ⟨h1, h2, h3⟩ := ih
    show Rsv S (sM S (rs1 S o q n (rsL S o q n)).1) o K ∧ 0 ≤ (rs1 S o q n (rsL S o q n)).2.toInt ∧ (rs1 S o q n (rsL S o q n)).2.toInt ≤ _
    unfold rs1
    by_cases hn : n < sN S 2 0
    · rw [if_pos hn]
      by_cases hp : sN S 6 n = sN S 8 q
      · rw [if_pos hp]
        have hf := free_nonneg (h1.ok hS) (show n < sN (sM S (rsL S o q n).1) 2 0 from hn)
        have hm := imin_T (rsL S o q n).2 (free (sM S (rsL S o q n).1) n)
        have m0 : 0 ≤ (imin (rsL S o q n).2 (free (sM S (rsL S o q n).1) n)).toInt := by rw [hm]; split <;> omega
        have m1 : (imin (rsL S o q n).2 (free (sM S (rsL S o q n).1) n)).toInt ≤ (free (sM S (rsL S o q n).1) n).toInt := by rw [hm]; split <;> omega
        have m2 : (imin (rsL S o q n).2 (free (sM S (rsL S o q n).1) n)).toInt ≤ (rsL S o q n).2.toInt := by rw [hm]; split <;> omega
        have hlt := (rsL S o q n).2.toInt_lt
        have hsub : ((rsL S o q n).2 - imin (rsL S o q n).2 (free (sM S (rsL S o q n).1) n)).toInt = (rsL S o q n).2.toInt - (imin (rsL S o q n).2 (free (sM S (rsL S o q n).1) n)).toInt := i32_sub (by omega) (by omega)
        refine ⟨h1.step hS hn m0 m1 (by rw [hp]; exact hK), ?_, ?_⟩
        · show 0 ≤ ((rsL S o q n).2 - _).toInt
          rw [hsub]; omega
        · show ((rsL S o q n).2 - _).toInt ≤ _
          rw [hsub]; omega
      · rw [if_neg hp]; exact ⟨h1, h2, h3⟩
    · rw [if_neg hn]; exact ⟨h1, h2, h3⟩
