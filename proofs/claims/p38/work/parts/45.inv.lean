/-! PURE: what holds of every state of p38's runs -/
abbrev nMc (S : St) : Nat := sN S 0 0
abbrev nPc (S : St) : Nat := sN S 1 0
abbrev nLc (S : St) : Nat := sN S 2 0
abbrev nOc (S : St) : Nat := sN S 3 0
/-- pieces of lot i in the order o, reserved or taken -/
abbrev pR (S : St) (o i : Nat) : Int := if sI S 53 o = 112 then pT S o i else 0
abbrev pK (S : St) (o i : Nat) : Int := if sI S 53 o = 112 then 0 else pT S o i
abbrev inWk (S : St) (o : Nat) : Prop := sI S 53 o = 119 ∨ sI S 53 o = 111
abbrev isDn (S : St) (o : Nat) : Prop := ¬ sI S 63 o = -1
abbrev eT (S : St) (o : Nat) : Int := (sJ S 5 o).toInt
abbrev gD (S : St) (o : Nat) : Int := (sJ S 4 o).toInt
/-- parts, their components and operations -/
def IPart (S : St) : Prop := (∀ p j, p < nPc S → j < sN S 4 p → sN S 8 (4 * p + j) < p ∧ 1 ≤ (sI S 30 (4 * p + j)).toInt ∧ (sI S 30 (4 * p + j)).toInt ≤ 9) ∧ (∀ q, V S 5 q → 1 ≤ (sI S 32 q).toInt ∧ (sI S 32 q).toInt ≤ 20) ∧ ∀ p, p < nPc S → sI S 20 p = 0 → sN S 4 p = 0 ∧ sN S 5 p = 0
/-- lots -/
def ILot (S : St) : Prop := ∀ i, i < nLc S → (0 ≤ vT S i ∧ vT S i ≤ rT S i ∧ rT S i ≤ qT S i ∧ qT S i ≤ 500 ∧ 0 ≤ dT S i ∧ dT S i ≤ 500) ∧ (0 ≤ cT S i ∧ cT S i ≤ 1000000000 ∧ (rT S i = 0 → cT S i = 0)) ∧ qT S i = rT S i + dT S i + sm (fun o => pK S o i) (nOc S) ∧ vT S i = sm (fun o => pR S o i) (nOc S) ∧ (0 < vT S i → barred S i = false)
/-- orders: state, pieces -/
def IOrd (S : St) : Prop := ∀ o, o < nOc S → (sI S 53 o = 45 ∨ sI S 53 o = 112 ∨ sI S 53 o = 119 ∨ sI S 53 o = 111 ∨ sI S 53 o = 102 ∨ sI S 53 o = 100) ∧ (∀ i, i < nLc S → 0 ≤ pT S o i ∧ (0 < pT S o i → sN S 6 i < sN S 7 o)) ∧ (sI S 53 o = 45 → ∀ i, i < nLc S → sP S o i = 0) ∧ (1 ≤ (sI S 50 o).toInt ∧ (sI S 50 o).toInt ≤ 100) ∧ (sI S 20 (sN S 7 o) = 0 → (sI S 53 o = 45 ∨ sI S 53 o = 100) ∧ ¬ isDn S o ∧ ∀ i, i < nLc S → sP S o i = 0)
/-- jobs -/
def IJob (S : St) : Prop := ∀ o, o < nOc S → (0 ≤ (sI S 60 o).toInt ∧ 0 ≤ (sI S 61 o).toInt ∧ 0 ≤ (sI S 62 o).toInt ∧ (sI S 62 o).toInt ≤ 3) ∧ (inWk S o ∨ isDn S o → (sI S 60 o).toInt + (sI S 61 o).toInt = (sI S 50 o).toInt) ∧ (¬ inWk S o → ¬ isDn S o → sI S 60 o = 0 ∧ sI S 61 o = 0 ∧ sI S 62 o = 0) ∧ (sI S 53 o = 119 ↔ ¬ sR S 3 o = none) ∧ (isDn S o ↔ sI S 53 o = 102 ∨ sI S 53 o = 100 ∧ ¬ sI S 20 (sN S 7 o) = 0) ∧ (isDn S o → 0 ≤ (sI S 63 o).toInt) ∧ (∀ i, sR S 4 o = some i → isDn S o ∧ i < nLc S ∧ qT S i = (sI S 60 o).toInt ∧ sN S 6 i = sN S 7 o) ∧ (isDn S o → (sR S 4 o = none ↔ sI S 60 o = 0)) ∧ (0 ≤ eT S o ∧ eT S o ≤ 1000000000 ∧ (¬ inWk S o → eT S o = 0))
/-- deliveries -/
def IDel (S : St) : Prop := (∀ o, o < nOc S → 0 ≤ gD S o ∧ gD S o ≤ 1000000000 ∧ (¬ sI S 53 o = 100 → gD S o = 0 ∧ sI S 55 o = 0 ∧ ∀ j, j < 128 → nsM S 13 o j = false) ∧ (sI S 53 o = 100 → sI S 55 o = sI S 50 o ∧ ∃ j, j < 128 ∧ nsM S 13 o j = true)) ∧ sm (fun o => (sI S 55 o).toInt) (nOc S) = sm (fun i => dT S i) (nLc S)
/-- machines -/
def IMach (S : St) : Prop := (∀ m, m < nMc S → sI S 10 m = 0 ∧ (sI S 14 m = 45 ∨ sI S 14 m = 111 ∨ sI S 14 m = 98) ∧ (sI S 14 m = 111 ↔ ¬ sR S 1 m = none) ∧ (∀ o, sR S 1 m = some o → sI S 53 o = 111 ∧ (sI S 19 m).toInt ≤ (sI S 17 m).toInt ∧ (sI S 17 m).toInt ≤ (sI S 2 0).toInt ∧ ∀ m2, m2 < nMc S → sR S 1 m2 = some o → m2 = m) ∧ 0 ≤ (sI S 19 m).toInt ∧ (sI S 19 m).toInt ≤ (sI S 2 0).toInt) ∧ sm (fun m => bZ (sI S 14 m == 111)) (nMc S) = sm (fun o => bZ (sI S 53 o == 111)) (nOc S)
/-- traces -/
def ITr (S : St) : Prop := (∀ i, i < nLc S → (∀ j, j < 128 → nsM S 8 i j = true → j < i ∧ sN S 6 j < sN S 6 i ∧ ∀ k, k < 128 → nsM S 8 j k = true → nsM S 8 i k = true) ∧ (∀ j, j < 128 → (nsM S 9 i j = true ↔ j < nLc S ∧ nsM S 8 j i = true)) ∧ ∀ o, o < 128 → (nsM S 10 i o = true ↔ o < nOc S ∧ nsM S 13 o i = true)) ∧ (∀ o, o < nOc S → ∀ j, j < 128 → nsM S 13 o j = true → j < nLc S ∧ ∀ k, k < 128 → nsM S 8 j k = true → nsM S 13 o k = true) ∧ ∀ j, j < 128 → nsM S 14 0 j = true → j < nLc S
/-- costs -/
def ICost (S : St) : Prop := sm (fun i => cT S i) (nLc S) + sm (fun o => eT S o + gD S o) (nOc S) + (sJ S 2 0).toInt = (sJ S 1 0).toInt ∧ 0 ≤ (sJ S 2 0).toInt ∧ (sJ S 1 0).toInt ≤ 1000000000 ∧ (0 < (sJ S 2 0).toInt → ∃ o, o < nOc S ∧ isDn S o ∧ sR S 4 o = none)
/-- counts -/
def ICnt (S : St) : Prop := 0 ≤ (sI S 1 0).toInt ∧ (sI S 1 0).toInt ≤ 60 ∧ (nLc S : Int) = (sI S 1 0).toInt + sm (fun o => bZ (sR S 4 o).isSome) (nOc S) ∧ 0 ≤ (sI S 2 0).toInt ∧ (sI S 2 0).toInt ≤ 5000
def Inv (S : St) : Prop := WT S ∧ IPart S ∧ ILot S ∧ IOrd S ∧ IJob S ∧ IDel S ∧ IMach S ∧ ITr S ∧ ICost S ∧ ICnt S
