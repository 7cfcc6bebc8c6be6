/-! LOOPS, and what a state keeps: its references show objects that are there -/
/-- a step done for 0, 1 .. n - 1 -/
def it {α : Type} (g : Nat → α → α) : Nat → α → α
  | 0, a => a
  | n + 1, a => g n (it g n a)
theorem it_0 {α : Type} (g : Nat → α → α) (a : α) : it g 0 a = a := rfl
theorem it_s {α : Type} (g : Nat → α → α) (n : Nat) (a : α) : it g (n + 1) a = g n (it g n a) := rfl
/-- a loop over 0 .. N: what holds at its head, a turn, its end -/
theorem loop_g {σ : Type} {Wg : σ → Prop} (N : Nat) (I : Nat → σ → Prop) (step : ∀ j, j < N → (∀ z, I (j + 1) z → Wg z) → ∀ z, I j z → Wg z) (exit : ∀ z, I N z → Wg z) : ∀ z, I 0 z → Wg z := by
  have h : ∀ n j, j + n = N → ∀ z, I j z → Wg z := by
    intro n
    induction n with
    | zero => intro j hj z hz; exact exit z (by rw [Nat.add_zero] at hj; exact hj ▸ hz)
    | succ n ih => intro j hj z hz; exact step j (by omega) (fun z2 h2 => ih (j + 1) (by omega) z2 h2) z hz
  exact fun z hz => h N 0 (by omega) z hz
/-- references of a state show what is there, its numbers are in their bounds (it speaks of sN and sR alone) -/
def WT (S : St) : Prop := (∀ i, i < sN S 2 0 → sN S 6 i < sN S 1 0) ∧ (∀ o, o < sN S 3 0 → sN S 7 o < sN S 1 0) ∧ (∀ q, V S 4 q → sN S 8 q < sN S 1 0) ∧ (∀ q, V S 5 q → sN S 9 q < sN S 0 0) ∧ (∀ q a, V S 5 q → sR S 2 q = some a → a < sN S 0 0) ∧ (∀ i o, i < sN S 0 0 → sR S 1 i = some o → o < sN S 3 0) ∧ (∀ o i, o < sN S 3 0 → sR S 3 o = some i → i < sN S 0 0) ∧ (∀ o i, o < sN S 3 0 → sR S 4 o = some i → i < sN S 2 0) ∧ sN S 0 0 ≤ 5 ∧ sN S 1 0 ≤ 12 ∧ sN S 2 0 ≤ 90 ∧ sN S 3 0 ≤ 30 ∧ (∀ p, p < sN S 1 0 → sN S 4 p ≤ 4) ∧ (∀ p, p < sN S 1 0 → sN S 5 p ≤ 3)
theorem WT.lotPart {S : St} (h : WT S) {i : Nat} (hi : i < sN S 2 0) : sN S 6 i < sN S 1 0 := h.1 i hi
theorem WT.ordPart {S : St} (h : WT S) {i : Nat} (hi : i < sN S 3 0) : sN S 7 i < sN S 1 0 := h.2.1 i hi
theorem WT.compPart {S : St} (h : WT S) {q : Nat} (hq : V S 4 q) : sN S 8 q < sN S 1 0 := h.2.2.1 q hq
theorem WT.opMach {S : St} (h : WT S) {q : Nat} (hq : V S 5 q) : sN S 9 q < sN S 0 0 := h.2.2.2.1 q hq
theorem WT.alt {S : St} (h : WT S) {q a : Nat} (hq : V S 5 q) (ha : sR S 2 q = some a) : a < sN S 0 0 := h.2.2.2.2.1 q a hq ha
theorem WT.doing {S : St} (h : WT S) {i o : Nat} (hq : i < sN S 0 0) (ha : sR S 1 i = some o) : o < sN S 3 0 := h.2.2.2.2.2.1 i o hq ha
theorem WT.waits {S : St} (h : WT S) {o i : Nat} (hq : o < sN S 3 0) (ha : sR S 3 o = some i) : i < sN S 0 0 := h.2.2.2.2.2.2.1 o i hq ha
theorem WT.jlot {S : St} (h : WT S) {o i : Nat} (hq : o < sN S 3 0) (ha : sR S 4 o = some i) : i < sN S 2 0 := h.2.2.2.2.2.2.2.1 o i hq ha
theorem WT.nM {S : St} (h : WT S) : sN S 0 0 ≤ 5 := h.2.2.2.2.2.2.2.2.1
theorem WT.nP {S : St} (h : WT S) : sN S 1 0 ≤ 12 := h.2.2.2.2.2.2.2.2.2.1
theorem WT.nL {S : St} (h : WT S) : sN S 2 0 ≤ 90 := h.2.2.2.2.2.2.2.2.2.2.1
theorem WT.nO {S : St} (h : WT S) : sN S 3 0 ≤ 30 := h.2.2.2.2.2.2.2.2.2.2.2.1
theorem WT.nC {S : St} (h : WT S) {p : Nat} (hp : p < sN S 1 0) : sN S 4 p ≤ 4 := h.2.2.2.2.2.2.2.2.2.2.2.2.1 p hp
theorem WT.nOp {S : St} (h : WT S) {p : Nat} (hp : p < sN S 1 0) : sN S 5 p ≤ 3 := h.2.2.2.2.2.2.2.2.2.2.2.2.2 p hp
theorem vcomp {S : St} (hW : WT S) {p j : Nat} (hp : p < sN S 1 0) (hj : j < sN S 4 p) : V S 4 (4 * p + j) := by
  have := hW.nC hp
  have e1 : (4 * p + j) / 4 = p := by omega
  have e2 : (4 * p + j) % 4 = j := by omega
  show (4 * p + j) / 4 < sN S 1 0 ∧ (4 * p + j) % 4 < sN S 4 ((4 * p + j) / 4)
  rw [e1, e2]
  exact ⟨hp, hj⟩
theorem vop {S : St} (hW : WT S) {p j : Nat} (hp : p < sN S 1 0) (hj : j < sN S 5 p) : V S 5 (4 * p + j) := by
  have := hW.nOp hp
  have e1 : (4 * p + j) / 4 = p := by omega
  have e2 : (4 * p + j) % 4 = j := by omega
  show (4 * p + j) / 4 < sN S 1 0 ∧ (4 * p + j) % 4 < sN S 5 ((4 * p + j) / 4)
  rw [e1, e2]
  exact ⟨hp, hj⟩
/-- two references of a kind: the same place, the same number -/
theorem Rep.eq {tA : Nat → ClassId} {S : St} {ad : Nat → Nat → Nat} {L : List Nat} {f : Nat → va_E} (h : Rep tA S ad L f) {k i j : Nat} (h1 : V S k i) (h2 : V S k j) (q : some (ad k i) = some (ad k j)) : i = j := (h.2 _ _ _ _ h1 h2 (Option.some.inj q)).2
theorem Rep.neq {k i j : Nat} {ad : Nat → Nat → Nat} (q : ¬ some (ad k i) = some (ad k j)) : ¬ i = j := fun h => q (by rw [h])
theorem Rep.oeq {tA : Nat → ClassId} {S : St} {ad : Nat → Nat → Nat} {L : List Nat} {f : Nat → va_E} (h : Rep tA S ad L f) {k j : Nat} {o : Option Nat} (h1 : ∀ i, o = some i → V S k i) (h2 : V S k j) (q : Option.map (ad k) o = some (ad k j)) : o = some j := by
  cases o with
  | none => cases q
  | some i => exact congrArg some (h.eq (h1 i rfl) h2 q)
theorem Rep.noeq {k j : Nat} {ad : Nat → Nat → Nat} {o : Option Nat} (q : ¬ Option.map (ad k) o = some (ad k j)) : ¬ o = some j := fun h => q (by rw [h]; rfl)
