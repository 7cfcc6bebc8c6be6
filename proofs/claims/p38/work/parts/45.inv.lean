/-! PURE: what holds of every state of p38's runs -/
abbrev nMc (S : St) : Nat := sN S 0 0
abbrev nPc (S : St) : Nat := sN S 1 0
abbrev nLc (S : St) : Nat := sN S 2 0
abbrev nOc (S : St) : Nat := sN S 3 0
/-- pieces of lot i in the order o, reserved or taken -/
abbrev pR (S : St) (o i : Nat) : Int := if sI S 53 o = 112 then pT S o i else 0
abbrev pK (S : St) (o i : Nat) : Int := if sI S 53 o = 112 then 0 else pT S o i
abbrev inWk (S : St) (o : Nat) : Prop := sI S 53 o = 119 ∨ sI S 53 o = 111
abbrev isDn (S : St) (o : Nat) : Prop := ¬ sI S 63 o = -1
abbrev eT (S : St) (o : Nat) : Int := (sJ S 5 o).toInt
abbrev gD (S : St) (o : Nat) : Int := (sJ S 4 o).toInt
/-- parts' components -/
def IPart0 (S : St) : Prop := ∀ p j, p < nPc S → j < sN S 4 p → sN S 8 (4 * p + j) < p ∧ 1 ≤ (sI S 30 (4 * p + j)).toInt ∧ (sI S 30 (4 * p + j)).toInt ≤ 9
def IPart (S : St) : Prop := IPart0 S ∧ nPc S = 6 ∧ sI S 20 0 = 0 ∧ sI S 20 1 = 0
/-- lots: bounds; pieces taken; pieces reserved; none of a held lot -/
def ILB (S : St) : Prop := ∀ i, i < nLc S → (0 ≤ vT S i ∧ vT S i ≤ rT S i ∧ 0 ≤ dT S i ∧ qT S i ≤ 500) ∧ 0 ≤ cT S i ∧ (rT S i = 0 → cT S i = 0)
def ILQ (S : St) : Prop := ∀ i, i < nLc S → qT S i = rT S i + dT S i + sm (fun o => pK S o i) (nOc S)
def ILV (S : St) : Prop := ∀ i, i < nLc S → vT S i = sm (fun o => pR S o i) (nOc S)
def ILH (S : St) : Prop := ∀ i, i < nLc S → 0 < vT S i → barred S i = false
/-- orders: state, pieces -/
def IOrd (S : St) : Prop := ∀ o, o < nOc S → (sI S 53 o = 45 ∨ sI S 53 o = 112 ∨ sI S 53 o = 119 ∨ sI S 53 o = 111 ∨ sI S 53 o = 102 ∨ sI S 53 o = 100) ∧ (∀ i, 0 ≤ pT S o i ∧ (0 < pT S o i → i < nLc S ∧ sN S 6 i < sN S 7 o)) ∧ (sI S 53 o = 45 → ∀ i, sP S o i = 0) ∧ (1 ≤ (sI S 50 o).toInt ∧ (sI S 50 o).toInt ≤ 100) ∧ (sI S 20 (sN S 7 o) = 0 → sI S 53 o = 45 ∨ sI S 53 o = 100)
/-- jobs; of the order x where it waits is left open -/
def IJob (S : St) (x : Nat) : Prop := ∀ o, o < nOc S → (0 ≤ (sI S 60 o).toInt ∧ 0 ≤ (sI S 61 o).toInt) ∧ (inWk S o ∨ isDn S o → (sI S 60 o).toInt + (sI S 61 o).toInt = (sI S 50 o).toInt) ∧ (¬ inWk S o → ¬ isDn S o → sI S 60 o = 0 ∧ sI S 61 o = 0) ∧ (o ≠ x → (sI S 53 o = 119 ↔ ¬ sR S 3 o = none)) ∧ (isDn S o ↔ sI S 53 o = 102 ∨ sI S 53 o = 100 ∧ ¬ sI S 20 (sN S 7 o) = 0) ∧ (isDn S o → 0 ≤ (sI S 63 o).toInt) ∧ (∀ i, sR S 4 o = some i → isDn S o ∧ i < nLc S ∧ sI S 40 i = sI S 60 o) ∧ (isDn S o → (sR S 4 o = none ↔ sI S 60 o = 0)) ∧ 0 ≤ eT S o ∧ (¬ inWk S o → eT S o = 0)
/-- deliveries -/
def IDel (S : St) : Prop := (∀ o, o < nOc S → 0 ≤ gD S o ∧ (¬ sI S 53 o = 100 → gD S o = 0 ∧ sI S 55 o = 0 ∧ ∀ j, j < 128 → nsM S 13 o j = false) ∧ (sI S 53 o = 100 → sI S 55 o = sI S 50 o ∧ ∃ j, j < 128 ∧ nsM S 13 o j = true)) ∧ sm (fun o => (sI S 55 o).toInt) (nOc S) = sm (fun i => dT S i) (nLc S)
/-- machines -/
def IMach (S : St) : Prop := (∀ m, m < nMc S → sI S 10 m = 0 ∧ (sI S 14 m = 45 ∨ sI S 14 m = 111 ∨ sI S 14 m = 98) ∧ (sI S 14 m = 111 ↔ ¬ sR S 1 m = none) ∧ (∀ o, sR S 1 m = some o → sI S 53 o = 111 ∧ (sI S 19 m).toInt ≤ (sI S 17 m).toInt ∧ (sI S 17 m).toInt ≤ (sI S 2 0).toInt ∧ ∀ m2, m2 < nMc S → sR S 1 m2 = some o → m2 = m) ∧ 0 ≤ (sI S 19 m).toInt ∧ (sI S 19 m).toInt ≤ (sI S 2 0).toInt) ∧ sm (fun m => bZ (sI S 14 m == 111)) (nMc S) = sm (fun o => bZ (sI S 53 o == 111)) (nOc S)
/-- traces -/
def ITr (S : St) : Prop := (∀ i, i < nLc S → (∀ j, j < 128 → nsM S 8 i j = true → j < i ∧ sN S 6 j < sN S 6 i ∧ ∀ k, k < 128 → nsM S 8 j k = true → nsM S 8 i k = true) ∧ (∀ j, j < 128 → (nsM S 9 i j = true ↔ j < nLc S ∧ nsM S 8 j i = true)) ∧ ∀ o, o < 128 → (nsM S 10 i o = true ↔ o < nOc S ∧ nsM S 13 o i = true)) ∧ ∀ o, o < nOc S → ∀ j, j < 128 → nsM S 13 o j = true → j < nLc S ∧ ∀ k, k < 128 → nsM S 8 j k = true → nsM S 13 o k = true
def IHd (S : St) : Prop := ∀ j, j < 128 → nsM S 14 0 j = true → j < nLc S
/-- costs -/
def ICost (S : St) : Prop := sm (fun i => cT S i) (nLc S) + sm (fun o => eT S o + gD S o) (nOc S) + (sJ S 2 0).toInt = (sJ S 1 0).toInt ∧ 0 ≤ (sJ S 2 0).toInt ∧ (sJ S 1 0).toInt ≤ 499500 * (sI S 1 0).toInt ∧ (0 < (sJ S 2 0).toInt → ∃ o, o < nOc S ∧ isDn S o ∧ sR S 4 o = none)
/-- counts -/
def ICnt (S : St) : Prop := 0 ≤ (sI S 1 0).toInt ∧ (sI S 1 0).toInt ≤ 60 ∧ (nLc S : Int) = (sI S 1 0).toInt + sm (fun o => bZ (sR S 4 o).isSome) (nOc S) ∧ 0 ≤ (sI S 2 0).toInt ∧ (sI S 2 0).toInt ≤ 5000
/-- all but that no held lot is reserved -/
def Inv0 (S : St) (x : Nat) : Prop := WT S ∧ IPart S ∧ ILB S ∧ ILQ S ∧ ILV S ∧ IOrd S ∧ IJob S x ∧ IDel S ∧ IMach S ∧ ITr S ∧ IHd S ∧ ICost S ∧ ICnt S
def Inv (S : St) : Prop := Inv0 S 1000 ∧ ILH S
theorem Inv0.lots {S : St} {x : Nat} (h : Inv0 S x) : (nLc S : Int) ≤ (sI S 1 0).toInt + nOc S := by
  obtain ⟨-, -, -, -, -, -, -, -, -, -, -, -, h1⟩ := h
  have h2 := h1.2.2.1
  have h3 := sm_bound (f := fun o => bZ (sR S 4 o).isSome) (n := nOc S) (b := 1) (fun i _ => by show bZ _ ≤ 1; cases (sR S 4 i).isSome <;> decide)
  rw [Int.mul_one] at h3
  omega
/-- no cost is more than what came in -/
theorem Inv0.cost {S : St} {x : Nat} (h : Inv0 S x) : (∀ i, i < nLc S → cT S i ≤ 29970000) ∧ (∀ o, o < nOc S → eT S o + gD S o ≤ 29970000) ∧ (sJ S 1 0).toInt ≤ 29970000 ∧ (sJ S 2 0).toInt ≤ 29970000 ∧ 0 ≤ (sJ S 1 0).toInt := by
  obtain ⟨-, -, hB, -, -, -, hJ, hD, -, -, -, hC, hN⟩ := h
  have c0 : ∀ i, i < nLc S → 0 ≤ cT S i := fun i hi => (hB i hi).2.1
  have e0 : ∀ o, o < nOc S → 0 ≤ eT S o + gD S o := fun o ho => by
    have h1 := (hJ o ho).2.2.2.2.2.2.2.2.1
    have h2 := (hD.1 o ho).1
    omega
  have s1 : 0 ≤ sm (fun i => cT S i) (nLc S) := sm_nonneg c0
  have s2 : 0 ≤ sm (fun o => eT S o + gD S o) (nOc S) := sm_nonneg e0
  obtain ⟨k1, k2, k3, -⟩ := hC
  obtain ⟨n1, n2, -⟩ := hN
  refine ⟨fun i hi => ?_, fun o ho => ?_, by omega, by omega, by omega⟩
  · have : cT S i ≤ sm (fun i => cT S i) (nLc S) := sm_one (f := fun i => cT S i) hi c0
    omega
  · have : eT S o + gD S o ≤ sm (fun o => eT S o + gD S o) (nOc S) := sm_one (f := fun o => eT S o + gD S o) ho e0
    omega
/-! what each part of Inv reads -/
theorem beq_iff {a b c : Int32} (h : a = c ↔ b = c) : (a == c) = (b == c) := by
  by_cases z : b = c
  · rw [z, h.mpr z]
  · rw [beq_false_of_ne z, beq_false_of_ne (fun y => z (h.mp y))]
theorem IPart.fr {S T : St} (h : IPart S) (hn : sN T = sN S) (h30 : ∀ i, sI T 30 i = sI S 30 i) (h20 : ∀ i, sI T 20 i = sI S 20 i) : IPart T := by
  simp only [IPart, IPart0, nPc, hn, h30, h20]
  exact h
theorem IOrd.fr {S T : St} (h : IOrd S) (hn : sN T = sN S) (h20 : ∀ i, sI T 20 i = sI S 20 i) (h50 : ∀ i, sI T 50 i = sI S 50 i) (h53 : ∀ i, sI T 53 i = sI S 53 i) (hp : ∀ o i, sP T o i = sP S o i) : IOrd T := by
  simp only [IOrd, nOc, nLc, pT, hn, h20, h50, h53, hp]
  exact h
theorem IDel.fr {S T : St} (h : IDel S) (hn : sN T = sN S) (h43 : ∀ i, sI T 43 i = sI S 43 i) (h50 : ∀ i, sI T 50 i = sI S 50 i) (h55 : ∀ i, sI T 55 i = sI S 55 i) (h53 : ∀ i, sI T 53 i = 100 ↔ sI S 53 i = 100) (h4 : ∀ i, sJ T 4 i = sJ S 4 i) (h26 : ∀ i, sJ T 26 i = sJ S 26 i) (h27 : ∀ i, sJ T 27 i = sJ S 27 i) : IDel T := by
  have eM : ∀ i j, nsM T 13 i j = nsM S 13 i j := fun i j => by
    show nsb (sJ T 26 i) (sJ T 27 i) j = nsb (sJ S 26 i) (sJ S 27 i) j
    rw [h26, h27]
  simp only [IDel, nOc, nLc, gD, dT, hn, h43, h50, h55, h53, h4, eM]
  exact h
theorem IMach.fr {S T : St} (h : IMach S) (hn : sN T = sN S) (hr : ∀ i, sR T 1 i = sR S 1 i) (h2 : sI T 2 0 = sI S 2 0) (h10 : ∀ i, sI T 10 i = sI S 10 i) (h14 : ∀ i, sI T 14 i = sI S 14 i) (h17 : ∀ i, sI T 17 i = sI S 17 i) (h19 : ∀ i, sI T 19 i = sI S 19 i) (h53 : ∀ i, sI T 53 i = 111 ↔ sI S 53 i = 111) : IMach T := by
  have e53 : ∀ i, (sI T 53 i == 111) = (sI S 53 i == 111) := fun i => beq_iff (h53 i)
  simp only [IMach, nMc, nOc, hn, hr, h2, h10, h14, h17, h19, h53, e53]
  exact h
theorem nsM_fr {S T : St} {k : Nat} (h1 : ∀ i, sJ T (2 * k) i = sJ S (2 * k) i) (h2 : ∀ i, sJ T (2 * k + 1) i = sJ S (2 * k + 1) i) (i j : Nat) : nsM T k i j = nsM S k i j := by
  show nsb (sJ T (2 * k) i) (sJ T (2 * k + 1) i) j = nsb (sJ S (2 * k) i) (sJ S (2 * k + 1) i) j
  rw [h1, h2]
theorem ITr.fr {S T : St} (h : ITr S) (hn : sN T = sN S) (hM : ∀ k, k = 8 ∨ k = 9 ∨ k = 10 ∨ k = 13 → ∀ i j, nsM T k i j = nsM S k i j) : ITr T := by
  have e8 := hM 8 (by decide)
  have e9 := hM 9 (by decide)
  have e10 := hM 10 (by decide)
  have e13 := hM 13 (by decide)
  simp only [ITr, nOc, nLc, hn, e8, e9, e10, e13]
  exact h
theorem IHd.fr {S T : St} (h : IHd S) (hn : sN S 2 0 ≤ sN T 2 0) (hM : ∀ j, nsM T 14 0 j = nsM S 14 0 j) : IHd T := fun j hj hm => by
  rw [hM] at hm
  exact Nat.lt_of_lt_of_le (h j hj hm) hn
theorem ICnt.fr {S T : St} (h : ICnt S) (hn : sN T = sN S) (hr : ∀ i, sR T 4 i = sR S 4 i) (h1 : sI T 1 0 = sI S 1 0) (h2 : sI T 2 0 = sI S 2 0) : ICnt T := by
  simp only [ICnt, nOc, nLc, hn, hr, h1, h2]
  exact h
theorem ILB.fr {S T : St} (h : ILB S) (hn : sN T = sN S) (h40 : ∀ i, sI T 40 i = sI S 40 i) (h41 : ∀ i, sI T 41 i = sI S 41 i) (h42 : ∀ i, sI T 42 i = sI S 42 i) (h43 : ∀ i, sI T 43 i = sI S 43 i) (h3 : ∀ i, sJ T 3 i = sJ S 3 i) : ILB T := by
  simp only [ILB, nLc, vT, rT, dT, qT, cT, hn, h40, h41, h42, h43, h3]
  exact h
theorem ILQ.fr {S T : St} (h : ILQ S) (hn : sN T = sN S) (h40 : ∀ i, sI T 40 i = sI S 40 i) (h41 : ∀ i, sI T 41 i = sI S 41 i) (h43 : ∀ i, sI T 43 i = sI S 43 i) (h53 : ∀ i, sI T 53 i = 112 ↔ sI S 53 i = 112) (hp : ∀ o i, sP T o i = sP S o i) : ILQ T := by
  simp only [ILQ, nLc, nOc, rT, dT, qT, pK, pT, hn, h40, h41, h43, h53, hp]
  exact h
theorem ILV.fr {S T : St} (h : ILV S) (hn : sN T = sN S) (h42 : ∀ i, sI T 42 i = sI S 42 i) (h53 : ∀ i, sI T 53 i = 112 ↔ sI S 53 i = 112) (hp : ∀ o i, sP T o i = sP S o i) : ILV T := by
  simp only [ILV, nLc, nOc, vT, pR, pT, hn, h42, h53, hp]
  exact h
theorem ILH.fr {S T : St} (h : ILH S) (hn : sN T = sN S) (h42 : ∀ i, sI T 42 i = sI S 42 i) (hM : ∀ k, k = 8 ∨ k = 14 → ∀ i, sJ T (2 * k) i = sJ S (2 * k) i ∧ sJ T (2 * k + 1) i = sJ S (2 * k + 1) i) : ILH T := by
  have e : ∀ i, barred T i = barred S i := fun i => by
    unfold barred
    rw [show nsM T 14 0 i = nsM S 14 0 i from nsM_fr (fun i => (hM 14 (Or.inr rfl) i).1) (fun i => (hM 14 (Or.inr rfl) i).2) 0 i, show nsLo T 8 i = nsLo S 8 i from (hM 8 (Or.inl rfl) i).1, show nsHi T 8 i = nsHi S 8 i from (hM 8 (Or.inl rfl) i).2, show nsLo T 14 0 = nsLo S 14 0 from (hM 14 (Or.inr rfl) 0).1, show nsHi T 14 0 = nsHi S 14 0 from (hM 14 (Or.inr rfl) 0).2]
  simp only [ILH, nLc, vT, hn, h42, e]
  exact h
/-- the job of an order that isn't promised or untouched alone; x: of it where it waits is left open -/
theorem IJob.fr {S T : St} {x : Nat} (h : IJob S x) (hn : sN T = sN S) (h20 : ∀ i, sI T 20 i = sI S 20 i) (h40 : ∀ i, sI T 40 i = sI S 40 i) (h50 : ∀ i, sI T 50 i = sI S 50 i) (h119 : ∀ i, sI T 53 i = 119 ↔ sI S 53 i = 119) (h111 : ∀ i, sI T 53 i = 111 ↔ sI S 53 i = 111) (h102 : ∀ i, sI T 53 i = 102 ↔ sI S 53 i = 102) (h100 : ∀ i, sI T 53 i = 100 ↔ sI S 53 i = 100) (h60 : ∀ i, sI T 60 i = sI S 60 i) (h61 : ∀ i, sI T 61 i = sI S 61 i) (h63 : ∀ i, sI T 63 i = sI S 63 i) (h3 : ∀ i, sR T 3 i = sR S 3 i) (h4 : ∀ i, sR T 4 i = sR S 4 i) (h5 : ∀ i, sJ T 5 i = sJ S 5 i) : IJob T x := by
  simp only [IJob, nLc, nOc, inWk, isDn, eT, hn, h20, h40, h50, h119, h111, h102, h100, h60, h61, h63, h3, h4, h5]
  exact h
theorem ICost.fr {S T : St} (h : ICost S) (hn : sN T = sN S) (h3 : ∀ i, sJ T 3 i = sJ S 3 i) (h5 : ∀ i, sJ T 5 i = sJ S 5 i) (h4 : ∀ i, sJ T 4 i = sJ S 4 i) (h1 : sJ T 1 0 = sJ S 1 0) (h2 : sJ T 2 0 = sJ S 2 0) (hb : sI T 1 0 = sI S 1 0) (h63 : ∀ i, sI T 63 i = sI S 63 i) (hr : ∀ i, sR T 4 i = sR S 4 i) : ICost T := by
  simp only [ICost, nLc, nOc, cT, eT, gD, isDn, hn, h3, h4, h5, h1, h2, hb, h63, hr]
  exact h
theorem WT.fr {S T : St} (h : WT S) (hn : sN T = sN S) (hr : sR T = sR S) : WT T := by
  obtain ⟨t1, t2, t3, t4, t5⟩ := T
  obtain ⟨s1, s2, s3, s4, s5⟩ := S
  have hn : t1 = s1 := hn
  have hr : t4 = s4 := hr
  subst hn; subst hr
  exact h
/-- what a promise, or taking it back, leaves as it is -/
def PF (S T : St) : Prop := sN T = sN S ∧ sR T = sR S ∧ (∀ k i, k ≠ 42 → k ≠ 53 → sI T k i = sI S k i) ∧ (∀ k i, sJ T k i = sJ S k i) ∧ ∀ o, sI T 53 o = sI S 53 o ∨ (sI S 53 o = 45 ∨ sI S 53 o = 112) ∧ (sI T 53 o = 45 ∨ sI T 53 o = 112)
theorem PF.st {S T : St} (h : PF S T) (o : Nat) (c : Int32) (h1 : c ≠ 45) (h2 : c ≠ 112) : sI T 53 o = c ↔ sI S 53 o = c := by
  rcases h.2.2.2.2 o with e | ⟨e1, e2⟩
  · rw [e]
  · constructor
    · intro q; rw [q] at e2; rcases e2 with z | z
      · exact absurd z h1
      · exact absurd z h2
    · intro q; rw [q] at e1; rcases e1 with z | z
      · exact absurd z h1
      · exact absurd z h2
theorem PF.wk {S T : St} (h : PF S T) (o : Nat) : inWk T o ↔ inWk S o := by
  unfold inWk
  rw [h.st o 119 (by decide) (by decide), h.st o 111 (by decide) (by decide)]
theorem PF.inv {S T : St} {x : Nat} (h : PF S T) (hI : Inv0 S x) (hB : ILB T) (hQ : ILQ T) (hV : ILV T) (hO : IOrd T) : Inv0 T x := by
  obtain ⟨hW, hP, -, -, -, -, hJ, hD, hM, hTr, hHd, hC, hN⟩ := hI
  have h0 := h
  obtain ⟨hn, hr, hi, hj, -⟩ := h
  have i2 : ∀ k, k ≠ 42 → k ≠ 53 → ∀ i, sI T k i = sI S k i := fun k a b i => hi k i a b
  have h119 := fun i => h0.st i 119 (by decide) (by decide)
  have h111 := fun i => h0.st i 111 (by decide) (by decide)
  have h102 := fun i => h0.st i 102 (by decide) (by decide)
  have h100 := fun i => h0.st i 100 (by decide) (by decide)
  exact ⟨hW.fr hn hr, hP.fr hn (i2 30 (by decide) (by decide)) (i2 20 (by decide) (by decide)), hB, hQ, hV, hO,
    hJ.fr hn (i2 20 (by decide) (by decide)) (i2 40 (by decide) (by decide)) (i2 50 (by decide) (by decide)) h119 h111 h102 h100 (i2 60 (by decide) (by decide)) (i2 61 (by decide) (by decide)) (i2 63 (by decide) (by decide)) (fun i => by rw [hr]) (fun i => by rw [hr]) (hj 5),
    hD.fr hn (i2 43 (by decide) (by decide)) (i2 50 (by decide) (by decide)) (i2 55 (by decide) (by decide)) h100 (hj 4) (hj 26) (hj 27),
    hM.fr hn (fun i => by rw [hr]) (i2 2 (by decide) (by decide) 0) (i2 10 (by decide) (by decide)) (i2 14 (by decide) (by decide)) (i2 17 (by decide) (by decide)) (i2 19 (by decide) (by decide)) h111,
    hTr.fr hn (fun k _ i j => nsM_congr hj k i j), hHd.fr (by rw [hn]; exact Nat.le_refl _) (fun j => nsM_congr hj 14 0 j),
    hC.fr hn (hj 3) (hj 5) (hj 4) (hj 1 0) (hj 2 0) (i2 1 (by decide) (by decide) 0) (i2 63 (by decide) (by decide)) (fun i => by rw [hr]),
    hN.fr hn (fun i => by rw [hr]) (i2 1 (by decide) (by decide) 0) (i2 2 (by decide) (by decide) 0)⟩
