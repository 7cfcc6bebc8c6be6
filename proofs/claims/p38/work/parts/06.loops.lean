/-! LOOPS, and what a state keeps: its references show objects that are there -/
/-- a step done for 0, 1 .. n - 1 -/
def it {α : Type} (g : Nat → α → α) : Nat → α → α
  | 0, a => a
  | n + 1, a => g n (it g n a)
theorem it_0 {α : Type} (g : Nat → α → α) (a : α) : it g 0 a = a := rfl
theorem it_s {α : Type} (g : Nat → α → α) (n : Nat) (a : α) : it g (n + 1) a = g n (it g n a) := rfl
/-- a loop over 0 .. N: what holds at its head, a turn, its end -/
theorem loop_g {σ : Type} {Wg : σ → Prop} (N : Nat) (I : Nat → σ → Prop) (step : ∀ j, j < N → (∀ z, I (j + 1) z → Wg z) → ∀ z, I j z → Wg z) (exit : ∀ z, I N z → Wg z) : ∀ z, I 0 z → Wg z := by
  have h : ∀ n j, j + n = N → ∀ z, I j z → Wg z := by
    intro n
    induction n with
    | zero => intro j hj z hz; exact exit z (by rw [Nat.add_zero] at hj; exact hj ▸ hz)
    | succ n ih => intro j hj z hz; exact step j (by omega) (fun z2 h2 => ih (j + 1) (by omega) z2 h2) z hz
  exact fun z hz => h N 0 (by omega) z hz
/-- references of a state show what is there, its numbers are in their bounds (it speaks of sN and sR alone) -/
def WT (S : St) : Prop := (∀ i, i < sN S 2 0 → sN S 6 i < sN S 1 0) ∧ (∀ o, o < sN S 3 0 → sN S 7 o < sN S 1 0) ∧ (∀ q, V S 4 q → sN S 8 q < sN S 1 0) ∧ (∀ q, V S 5 q → sN S 9 q < sN S 0 0) ∧ (∀ q a, V S 5 q → sR S 2 q = some a → a < sN S 0 0) ∧ (∀ i o, i < sN S 0 0 → sR S 1 i = some o → o < sN S 3 0) ∧ (∀ o i, o < sN S 3 0 → sR S 3 o = some i → i < sN S 0 0) ∧ (∀ o i, o < sN S 3 0 → sR S 4 o = some i → i < sN S 2 0) ∧ sN S 0 0 ≤ 5 ∧ sN S 1 0 ≤ 12 ∧ sN S 2 0 ≤ 90 ∧ sN S 3 0 ≤ 30 ∧ (∀ p, p < sN S 1 0 → sN S 4 p ≤ 4) ∧ (∀ p, p < sN S 1 0 → sN S 5 p ≤ 3)
theorem WT.lotPart {S : St} (h : WT S) {i : Nat} (hi : i < sN S 2 0) : sN S 6 i < sN S 1 0 := h.1 i hi
theorem WT.ordPart {S : St} (h : WT S) {i : Nat} (hi : i < sN S 3 0) : sN S 7 i < sN S 1 0 := h.2.1 i hi
theorem WT.compPart {S : St} (h : WT S) {q : Nat} (hq : V S 4 q) : sN S 8 q < sN S 1 0 := h.2.2.1 q hq
theorem WT.opMach {S : St} (h : WT S) {q : Nat} (hq : V S 5 q) : sN S 9 q < sN S 0 0 := h.2.2.2.1 q hq
theorem WT.alt {S : St} (h : WT S) {q a : Nat} (hq : V S 5 q) (ha : sR S 2 q = some a) : a < sN S 0 0 := h.2.2.2.2.1 q a hq ha
theorem WT.doing {S : St} (h : WT S) {i o : Nat} (hq : i < sN S 0 0) (ha : sR S 1 i = some o) : o < sN S 3 0 := h.2.2.2.2.2.1 i o hq ha
theorem WT.waits {S : St} (h : WT S) {o i : Nat} (hq : o < sN S 3 0) (ha : sR S 3 o = some i) : i < sN S 0 0 := h.2.2.2.2.2.2.1 o i hq ha
theorem WT.jlot {S : St} (h : WT S) {o i : Nat} (hq : o < sN S 3 0) (ha : sR S 4 o = some i) : i < sN S 2 0 := h.2.2.2.2.2.2.2.1 o i hq ha
theorem WT.nM {S : St} (h : WT S) : sN S 0 0 ≤ 5 := h.2.2.2.2.2.2.2.2.1
theorem WT.nP {S : St} (h : WT S) : sN S 1 0 ≤ 12 := h.2.2.2.2.2.2.2.2.2.1
theorem WT.nL {S : St} (h : WT S) : sN S 2 0 ≤ 90 := h.2.2.2.2.2.2.2.2.2.2.1
theorem WT.nO {S : St} (h : WT S) : sN S 3 0 ≤ 30 := h.2.2.2.2.2.2.2.2.2.2.2.1
theorem WT.nC {S : St} (h : WT S) {p : Nat} (hp : p < sN S 1 0) : sN S 4 p ≤ 4 := h.2.2.2.2.2.2.2.2.2.2.2.2.1 p hp
theorem WT.nOp {S : St} (h : WT S) {p : Nat} (hp : p < sN S 1 0) : sN S 5 p ≤ 3 := h.2.2.2.2.2.2.2.2.2.2.2.2.2 p hp
theorem vcomp {S : St} (hW : WT S) {p j : Nat} (hp : p < sN S 1 0) (hj : j < sN S 4 p) : V S 4 (4 * p + j) := by
  have := hW.nC hp
  have e1 : (4 * p + j) / 4 = p := by omega
  have e2 : (4 * p + j) % 4 = j := by omega
  show (4 * p + j) / 4 < sN S 1 0 ∧ (4 * p + j) % 4 < sN S 4 ((4 * p + j) / 4)
  rw [e1, e2]
  exact ⟨hp, hj⟩
theorem vop {S : St} (hW : WT S) {p j : Nat} (hp : p < sN S 1 0) (hj : j < sN S 5 p) : V S 5 (4 * p + j) := by
  have := hW.nOp hp
  have e1 : (4 * p + j) / 4 = p := by omega
  have e2 : (4 * p + j) % 4 = j := by omega
  show (4 * p + j) / 4 < sN S 1 0 ∧ (4 * p + j) % 4 < sN S 5 ((4 * p + j) / 4)
  rw [e1, e2]
  exact ⟨hp, hj⟩
/-- two references of a kind: the same place, the same number -/
theorem Rep.eq {tA : Nat → ClassId} {S : St} {ad : Nat → Nat → Nat} {L : List Nat} {f : Nat → va_E} (h : Rep tA S ad L f) {k i j : Nat} (h1 : V S k i) (h2 : V S k j) (q : some (ad k i) = some (ad k j)) : i = j := (h.2 _ _ _ _ h1 h2 (Option.some.inj q)).2
theorem Rep.neq {k i j : Nat} {ad : Nat → Nat → Nat} (q : ¬ some (ad k i) = some (ad k j)) : ¬ i = j := fun h => q (by rw [h])
theorem Rep.oeq {tA : Nat → ClassId} {S : St} {ad : Nat → Nat → Nat} {L : List Nat} {f : Nat → va_E} (h : Rep tA S ad L f) {k j : Nat} {o : Option Nat} (h1 : ∀ i, o = some i → V S k i) (h2 : V S k j) (q : Option.map (ad k) o = some (ad k j)) : o = some j := by
  cases o with
  | none => cases q
  | some i => exact congrArg some (h.eq (h1 i rfl) h2 q)
theorem Rep.noeq {k j : Nat} {ad : Nat → Nat → Nat} {o : Option Nat} (q : ¬ Option.map (ad k) o = some (ad k j)) : ¬ o = some j := fun h => q (by rw [h]; rfl)
def imin (x y : Int32) : Int32 := if y < x then y else x
def imax (x y : Int32) : Int32 := if x < y then y else x
def allN (g : Nat → Bool) : Nat → Bool
  | 0 => true
  | n + 1 => allN g n && g n
def anyN (g : Nat → Bool) : Nat → Bool
  | 0 => false
  | n + 1 => anyN g n || g n
theorem allN_iff {g : Nat → Bool} {n : Nat} : allN g n = true ↔ ∀ i, i < n → g i = true := by
  induction n with
  | zero => exact ⟨fun _ i h => absurd h (Nat.not_lt_zero i), fun _ => rfl⟩
  | succ n ih =>
    rw [allN, Bool.and_eq_true, ih]
    constructor
    · rintro ⟨h1, h2⟩ i hi
      rcases Nat.lt_or_ge i n with q | q
      · exact h1 i q
      · have : i = n := by omega
        rw [this]; exact h2
    · intro h
      exact ⟨fun i hi => h i (by omega), h n (by omega)⟩
theorem anyN_iff {g : Nat → Bool} {n : Nat} : anyN g n = true ↔ ∃ i, i < n ∧ g i = true := by
  induction n with
  | zero => exact ⟨fun h => (by cases h), fun ⟨i, h, _⟩ => absurd h (Nat.not_lt_zero i)⟩
  | succ n ih =>
    rw [anyN, Bool.or_eq_true, ih]
    constructor
    · rintro (⟨i, h1, h2⟩ | h)
      · exact ⟨i, by omega, h2⟩
      · exact ⟨n, by omega, h⟩
    · rintro ⟨i, h1, h2⟩
      rcases Nat.lt_or_ge i n with q | q
      · exact Or.inl ⟨i, q, h2⟩
      · have : i = n := by omega
        rw [this] at h2; exact Or.inr h2
theorem allN_stop {g : Nat → Bool} {j n : Nat} (hj : j < n) (h : g j = false) : allN g n = false := by
  cases q : allN g n with
  | false => rfl
  | true => rw [allN_iff.mp q j hj] at h; cases h
theorem anyN_stop {g : Nat → Bool} {j n : Nat} (hj : j < n) (h : g j = true) : anyN g n = true := anyN_iff.mpr ⟨j, hj, h⟩
theorem allN_s {g : Nat → Bool} {j : Nat} (h : allN g j = true) (h2 : g j = true) : allN g (j + 1) = true := by rw [allN, h, h2]; rfl
theorem anyN_s {g : Nat → Bool} {j : Nat} (h : anyN g j = false) (h2 : g j = false) : anyN g (j + 1) = false := by rw [anyN, h, h2]; rfl
theorem idx_of {x : Int32} {N : Nat} (hN : N < 2 ^ 31) (h1 : ¬ x < 0) (h2 : ¬ nI N ≤ x) : ∃ j : Nat, j < N ∧ x = nI j := by
  obtain ⟨j, hj, rfl⟩ := nI_of h1
  rcases Nat.lt_or_ge j N with q | q
  · exact ⟨j, q, rfl⟩
  · exact absurd (nI_le q hj) h2
theorem it_stop {α : Type} {g : Nat → α × Bool → α × Bool} (hg : ∀ j x, x.2 = true → g j x = x) {j n : Nat} {a : α × Bool} (hj : j ≤ n) (h : (it g j a).2 = true) : it g n a = it g j a := by
  induction n with
  | zero => have : j = 0 := by omega
            rw [this]
  | succ n ih =>
    rcases Nat.lt_or_ge n j with q | q
    · have : j = n + 1 := by omega
      rw [this]
    · rw [it_s, ih q, hg _ _ h]
