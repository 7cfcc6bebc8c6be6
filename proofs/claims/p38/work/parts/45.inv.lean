/-! PURE: what holds of every state of p38's runs -/
abbrev nMc (S : St) : Nat := sN S 0 0
abbrev nPc (S : St) : Nat := sN S 1 0
abbrev nLc (S : St) : Nat := sN S 2 0
abbrev nOc (S : St) : Nat := sN S 3 0
/-- pieces of lot i in the order o, reserved or taken -/
abbrev pR (S : St) (o i : Nat) : Int := if sI S 53 o = 112 then pT S o i else 0
abbrev pK (S : St) (o i : Nat) : Int := if sI S 53 o = 112 then 0 else pT S o i
abbrev inWk (S : St) (o : Nat) : Prop := sI S 53 o = 119 ∨ sI S 53 o = 111
abbrev isDn (S : St) (o : Nat) : Prop := ¬ sI S 63 o = -1
abbrev eT (S : St) (o : Nat) : Int := (sJ S 5 o).toInt
abbrev gD (S : St) (o : Nat) : Int := (sJ S 4 o).toInt
/-- parts' components -/
def IPart (S : St) : Prop := ∀ p j, p < nPc S → j < sN S 4 p → sN S 8 (4 * p + j) < p ∧ 1 ≤ (sI S 30 (4 * p + j)).toInt ∧ (sI S 30 (4 * p + j)).toInt ≤ 9
/-- lots: bounds; pieces taken; pieces reserved; none of a held lot -/
def ILB (S : St) : Prop := ∀ i, i < nLc S → (0 ≤ vT S i ∧ vT S i ≤ rT S i ∧ 0 ≤ dT S i ∧ qT S i ≤ 500) ∧ 0 ≤ cT S i ∧ (rT S i = 0 → cT S i = 0)
def ILQ (S : St) : Prop := ∀ i, i < nLc S → qT S i = rT S i + dT S i + sm (fun o => pK S o i) (nOc S)
def ILV (S : St) : Prop := ∀ i, i < nLc S → vT S i = sm (fun o => pR S o i) (nOc S)
def ILH (S : St) : Prop := ∀ i, i < nLc S → 0 < vT S i → barred S i = false
/-- orders: state, pieces -/
def IOrd (S : St) : Prop := ∀ o, o < nOc S → (sI S 53 o = 45 ∨ sI S 53 o = 112 ∨ sI S 53 o = 119 ∨ sI S 53 o = 111 ∨ sI S 53 o = 102 ∨ sI S 53 o = 100) ∧ (∀ i, 0 ≤ pT S o i ∧ (0 < pT S o i → i < nLc S ∧ sN S 6 i < sN S 7 o)) ∧ (sI S 53 o = 45 → ∀ i, sP S o i = 0) ∧ (1 ≤ (sI S 50 o).toInt ∧ (sI S 50 o).toInt ≤ 100) ∧ (sI S 20 (sN S 7 o) = 0 → sI S 53 o = 45 ∨ sI S 53 o = 100)
/-- jobs; of the order x where it waits is left open -/
def IJob (S : St) (x : Nat) : Prop := ∀ o, o < nOc S → (0 ≤ (sI S 60 o).toInt ∧ 0 ≤ (sI S 61 o).toInt) ∧ (inWk S o ∨ isDn S o → (sI S 60 o).toInt + (sI S 61 o).toInt = (sI S 50 o).toInt) ∧ (¬ inWk S o → ¬ isDn S o → sI S 60 o = 0 ∧ sI S 61 o = 0) ∧ (o ≠ x → (sI S 53 o = 119 ↔ ¬ sR S 3 o = none)) ∧ (isDn S o ↔ sI S 53 o = 102 ∨ sI S 53 o = 100 ∧ ¬ sI S 20 (sN S 7 o) = 0) ∧ (isDn S o → 0 ≤ (sI S 63 o).toInt) ∧ (∀ i, sR S 4 o = some i → isDn S o ∧ i < nLc S ∧ sI S 40 i = sI S 60 o) ∧ (isDn S o → (sR S 4 o = none ↔ sI S 60 o = 0)) ∧ 0 ≤ eT S o ∧ (¬ inWk S o → eT S o = 0)
/-- deliveries -/
def IDel (S : St) : Prop := (∀ o, o < nOc S → 0 ≤ gD S o ∧ (¬ sI S 53 o = 100 → gD S o = 0 ∧ sI S 55 o = 0 ∧ ∀ j, j < 128 → nsM S 13 o j = false) ∧ (sI S 53 o = 100 → sI S 55 o = sI S 50 o ∧ ∃ j, j < 128 ∧ nsM S 13 o j = true)) ∧ sm (fun o => (sI S 55 o).toInt) (nOc S) = sm (fun i => dT S i) (nLc S)
/-- machines -/
def IMach (S : St) : Prop := (∀ m, m < nMc S → sI S 10 m = 0 ∧ (sI S 14 m = 45 ∨ sI S 14 m = 111 ∨ sI S 14 m = 98) ∧ (sI S 14 m = 111 ↔ ¬ sR S 1 m = none) ∧ (∀ o, sR S 1 m = some o → sI S 53 o = 111 ∧ (sI S 19 m).toInt ≤ (sI S 17 m).toInt ∧ (sI S 17 m).toInt ≤ (sI S 2 0).toInt ∧ ∀ m2, m2 < nMc S → sR S 1 m2 = some o → m2 = m) ∧ 0 ≤ (sI S 19 m).toInt ∧ (sI S 19 m).toInt ≤ (sI S 2 0).toInt) ∧ sm (fun m => bZ (sI S 14 m == 111)) (nMc S) = sm (fun o => bZ (sI S 53 o == 111)) (nOc S)
/-- traces -/
def ITr (S : St) : Prop := (∀ i, i < nLc S → (∀ j, j < 128 → nsM S 8 i j = true → j < i ∧ sN S 6 j < sN S 6 i ∧ ∀ k, k < 128 → nsM S 8 j k = true → nsM S 8 i k = true) ∧ (∀ j, j < 128 → (nsM S 9 i j = true ↔ j < nLc S ∧ nsM S 8 j i = true)) ∧ ∀ o, o < 128 → (nsM S 10 i o = true ↔ o < nOc S ∧ nsM S 13 o i = true)) ∧ ∀ o, o < nOc S → ∀ j, j < 128 → nsM S 13 o j = true → j < nLc S ∧ ∀ k, k < 128 → nsM S 8 j k = true → nsM S 13 o k = true
def IHd (S : St) : Prop := ∀ j, j < 128 → nsM S 14 0 j = true → j < nLc S
/-- costs -/
def ICost (S : St) : Prop := sm (fun i => cT S i) (nLc S) + sm (fun o => eT S o + gD S o) (nOc S) + (sJ S 2 0).toInt = (sJ S 1 0).toInt ∧ 0 ≤ (sJ S 2 0).toInt ∧ (sJ S 1 0).toInt ≤ 499500 * (sI S 1 0).toInt ∧ (0 < (sJ S 2 0).toInt → ∃ o, o < nOc S ∧ isDn S o ∧ sR S 4 o = none)
/-- counts -/
def ICnt (S : St) : Prop := 0 ≤ (sI S 1 0).toInt ∧ (sI S 1 0).toInt ≤ 60 ∧ (nLc S : Int) = (sI S 1 0).toInt + sm (fun o => bZ (sR S 4 o).isSome) (nOc S) ∧ 0 ≤ (sI S 2 0).toInt ∧ (sI S 2 0).toInt ≤ 5000
/-- all but that no held lot is reserved -/
def Inv0 (S : St) (x : Nat) : Prop := WT S ∧ IPart S ∧ ILB S ∧ ILQ S ∧ ILV S ∧ IOrd S ∧ IJob S x ∧ IDel S ∧ IMach S ∧ ITr S ∧ IHd S ∧ ICost S ∧ ICnt S
def Inv (S : St) : Prop := Inv0 S 1000 ∧ ILH S
theorem Inv0.lots {S : St} {x : Nat} (h : Inv0 S x) : (nLc S : Int) ≤ (sI S 1 0).toInt + nOc S := by
  obtain ⟨-, -, -, -, -, -, -, -, -, -, -, -, h1⟩ := h
  have h2 := h1.2.2.1
  have h3 := sm_bound (f := fun o => bZ (sR S 4 o).isSome) (n := nOc S) (b := 1) (fun i _ => by show bZ _ ≤ 1; cases (sR S 4 i).isSome <;> decide)
  rw [Int.mul_one] at h3
  omega
/-- no cost is more than what came in -/
theorem Inv0.cost {S : St} {x : Nat} (h : Inv0 S x) : (∀ i, i < nLc S → cT S i ≤ 29970000) ∧ (∀ o, o < nOc S → eT S o + gD S o ≤ 29970000) ∧ (sJ S 1 0).toInt ≤ 29970000 ∧ (sJ S 2 0).toInt ≤ 29970000 ∧ 0 ≤ (sJ S 1 0).toInt := by
  obtain ⟨-, -, hB, -, -, -, hJ, hD, -, -, -, hC, hN⟩ := h
  have c0 : ∀ i, i < nLc S → 0 ≤ cT S i := fun i hi => (hB i hi).2.1
  have e0 : ∀ o, o < nOc S → 0 ≤ eT S o + gD S o := fun o ho => by
    have h1 := (hJ o ho).2.2.2.2.2.2.2.2.1
    have h2 := (hD.1 o ho).1
    omega
  have s1 : 0 ≤ sm (fun i => cT S i) (nLc S) := sm_nonneg c0
  have s2 : 0 ≤ sm (fun o => eT S o + gD S o) (nOc S) := sm_nonneg e0
  obtain ⟨k1, k2, k3, -⟩ := hC
  obtain ⟨n1, n2, -⟩ := hN
  refine ⟨fun i hi => ?_, fun o ho => ?_, by omega, by omega, by omega⟩
  · have : cT S i ≤ sm (fun i => cT S i) (nLc S) := sm_one (f := fun i => cT S i) hi c0
    omega
  · have : eT S o + gD S o ≤ sm (fun o => eT S o + gD S o) (nOc S) := sm_one (f := fun o => eT S o + gD S o) ho e0
    omega
/-- what a promise, or taking it back, leaves as it is -/
def PF (S T : St) : Prop := sN T = sN S ∧ sR T = sR S ∧ (∀ k i, k ≠ 42 → k ≠ 53 → sI T k i = sI S k i) ∧ (∀ k i, sJ T k i = sJ S k i) ∧ ∀ o, sI T 53 o = sI S 53 o ∨ (sI S 53 o = 45 ∨ sI S 53 o = 112) ∧ (sI T 53 o = 45 ∨ sI T 53 o = 112)
theorem PF.st {S T : St} (h : PF S T) (o : Nat) (c : Int32) (h1 : c ≠ 45) (h2 : c ≠ 112) : sI T 53 o = c ↔ sI S 53 o = c := by
  rcases h.2.2.2.2 o with e | ⟨e1, e2⟩
  · rw [e]
  · constructor
    · intro q; rw [q] at e2; rcases e2 with z | z
      · exact absurd z h1
      · exact absurd z h2
    · intro q; rw [q] at e1; rcases e1 with z | z
      · exact absurd z h1
      · exact absurd z h2
theorem PF.wk {S T : St} (h : PF S T) (o : Nat) : inWk T o ↔ inWk S o := by
  unfold inWk
  rw [h.st o 119 (by decide) (by decide), h.st o 111 (by decide) (by decide)]
theorem PF.inv {S T : St} {x : Nat} (h : PF S T) (hI : Inv0 S x) (hB : ILB T) (hQ : ILQ T) (hV : ILV T) (hO : IOrd T) : Inv0 T x := by
  obtain ⟨hW, hP, -, -, -, -, hJ, hD, hM, hTr, hHd, hC, hN⟩ := hI
  have h0 := h
  obtain ⟨hn, hr, hi, hj, -⟩ := h
  have eW : WT T := by
    obtain ⟨t1, t2, t3, t4, t5⟩ := T
    obtain ⟨s1, s2, s3, s4, s5⟩ := S
    dsimp only at hn hr
    subst hn; subst hr
    exact hW
  have i2 : ∀ k i, k ≠ 42 → k ≠ 53 → sI T k i = sI S k i := hi
  have eM : ∀ k i j, nsM T k i j = nsM S k i j := fun k i j => nsM_congr hj k i j
  refine ⟨eW, ?_, hB, hQ, hV, hO, ?_, ?_, ?_, ?_, ?_, ?_, ?_⟩
  · intro p j hp hj2
    rw [hn] at hp hj2
    rw [hn, i2 30 _ (by decide) (by decide)]
    exact hP p j hp hj2
  · intro o ho
    rw [hn] at ho
    have k := hJ o ho
    unfold isDn eT
    rw [h0.wk o, i2 60 o (by decide) (by decide), i2 61 o (by decide) (by decide), i2 63 o (by decide) (by decide), i2 50 o (by decide) (by decide), h0.st o 119 (by decide) (by decide), h0.st o 102 (by decide) (by decide), h0.st o 100 (by decide) (by decide), hn, hr, hj, i2 20 _ (by decide) (by decide)]
    refine ⟨k.1, k.2.1, k.2.2.1, k.2.2.2.1, k.2.2.2.2.1, k.2.2.2.2.2.1, fun i e => ?_, k.2.2.2.2.2.2.2⟩
    rw [i2 40 i (by decide) (by decide)]
    exact k.2.2.2.2.2.2.1 i e
  · refine ⟨fun o ho => ?_, ?_⟩
    · rw [hn] at ho
      have k := hD.1 o ho
      unfold gD
      rw [h0.st o 100 (by decide) (by decide), hj, i2 55 o (by decide) (by decide), i2 50 o (by decide) (by decide)]
      refine ⟨k.1, fun q => ⟨(k.2.1 q).1, (k.2.1 q).2.1, fun j hj2 => by rw [eM]; exact (k.2.1 q).2.2 j hj2⟩, fun q => ⟨(k.2.2 q).1, ?_⟩⟩
      obtain ⟨j, hj2, e⟩ := (k.2.2 q).2
      exact ⟨j, hj2, by rw [eM]; exact e⟩
    · have e1 : sm (fun o => (sI T 55 o).toInt) (nOc T) = sm (fun o => (sI S 55 o).toInt) (nOc S) := by
        rw [show nOc T = nOc S from by rw [hn]]
        exact sm_congr (fun o _ => by rw [i2 55 o (by decide) (by decide)])
      have e2 : sm (fun i => dT T i) (nLc T) = sm (fun i => dT S i) (nLc S) := by
        rw [show nLc T = nLc S from by rw [hn]]
        exact sm_congr (fun o _ => by show (sI T 43 o).toInt = (sI S 43 o).toInt; rw [i2 43 o (by decide) (by decide)])
      rw [e1, e2]; exact hD.2
  · refine ⟨fun m hm => ?_, ?_⟩
    · rw [hn] at hm
      have k := hM.1 m hm
      rw [i2 10 m (by decide) (by decide), i2 14 m (by decide) (by decide), i2 17 m (by decide) (by decide), i2 19 m (by decide) (by decide), i2 2 0 (by decide) (by decide), hr, hn]
      exact ⟨k.1, k.2.1, k.2.2.1, fun o e => ⟨(h0.st o 111 (by decide) (by decide)).mpr (k.2.2.2.1 o e).1, (k.2.2.2.1 o e).2⟩, k.2.2.2.2⟩
    · have e1 : sm (fun m => bZ (sI T 14 m == 111)) (nMc T) = sm (fun m => bZ (sI S 14 m == 111)) (nMc S) := by
        rw [show nMc T = nMc S from by rw [hn]]
        exact sm_congr (fun o _ => by rw [i2 14 o (by decide) (by decide)])
      have e2 : sm (fun o => bZ (sI T 53 o == 111)) (nOc T) = sm (fun o => bZ (sI S 53 o == 111)) (nOc S) := by
        rw [show nOc T = nOc S from by rw [hn]]
        refine sm_congr (fun o _ => ?_)
        have q := h0.st o 111 (by decide) (by decide)
        by_cases z : sI S 53 o = 111
        · rw [z, q.mpr z]
        · rw [beq_false_of_ne z, beq_false_of_ne (fun y => z (q.mp y))]
      rw [e1, e2]; exact hM.2
  · simp only [ITr, nLc, nOc, eM, hn]
    exact hTr
  · simp only [IHd, nLc, eM, hn]
    exact hHd
  · have e1 : sI T 1 0 = sI S 1 0 := i2 1 0 (by decide) (by decide)
    have e2 : ∀ o, sI T 63 o = sI S 63 o := fun o => i2 63 o (by decide) (by decide)
    simp only [ICost, isDn, eT, gD, cT, nLc, nOc, hn, hr, hj, e1, e2]
    exact hC
  · have e1 : sI T 1 0 = sI S 1 0 := i2 1 0 (by decide) (by decide)
    have e2 : sI T 2 0 = sI S 2 0 := i2 2 0 (by decide) (by decide)
    simp only [ICnt, nLc, nOc, hn, hr, e1, e2]
    exact hN
