/-! PURE: what the folds of parts 08 to 17 do, place by place (drafted without Lean at hand) -/
theorem up2_if {α : Type} (f : Nat → Nat → α) (k i : Nat) (v : α) (k' i' : Nat) : up2 f k i v k' i' = if k' = k ∧ i' = i then v else f k' i' := rfl
/-- a promise is taken back: of the lots below n -/
theorem dpL_at (S : St) (o n : Nat) :
    (∀ k i, sI (sM S (dpL S o n).1) k i = if k = 42 ∧ i < n ∧ i < sN S 2 0 then sI S 42 i - sP S o i else sI S k i) ∧
    (∀ o' i, sP (sM S (dpL S o n).1) o' i = if o' = o ∧ i < n ∧ i < sN S 2 0 then 0 else sP S o' i) ∧
    (∀ k i, sJ (sM S (dpL S o n).1) k i = sJ S k i) := by
  induction n with
  | zero =>
    refine ⟨fun k i => ?_, fun o' i => ?_, fun k i => rfl⟩
    · rw [if_neg (fun h => Nat.not_lt_zero i h.2.1)]; rfl
    · rw [if_neg (fun h => Nat.not_lt_zero i h.2.1)]; rfl
  | succ n ih =>
    obtain ⟨h1, h2, h3⟩ := ih
    rw [dpL_s]
    unfold dp1
    by_cases hn : n < sN S 2 0
    · rw [if_pos hn]
      refine ⟨fun k i => ?_, fun o' i => ?_, fun k i => h3 k i⟩
      · show up2 (sI (sM S (dpL S o n).1)) 42 n (sI (sM S (dpL S o n).1) 42 n - sP (sM S (dpL S o n).1) o n) k i = _
        have e1 : sI (sM S (dpL S o n).1) 42 n = sI S 42 n := by rw [h1 42 n, if_neg (fun h => Nat.lt_irrefl n h.2.1)]
        have e2 : sP (sM S (dpL S o n).1) o n = sP S o n := by rw [h2 o n, if_neg (fun h => Nat.lt_irrefl n h.2.1)]
        rw [up2_if, e1, e2, h1 k i]
        by_cases e : k = 42 ∧ i = n
        · rw [if_pos e, e.1, e.2, if_pos ⟨rfl, Nat.lt_succ_self n, hn⟩]
        · rw [if_neg e]
          by_cases e2 : k = 42 ∧ i < n ∧ i < sN S 2 0
          · rw [if_pos e2, if_pos ⟨e2.1, Nat.lt_succ_of_lt e2.2.1, e2.2.2⟩]
          · rw [if_neg e2, if_neg (fun h => e2 ⟨h.1, by have := h.2.1; have : i ≠ n := fun q => e ⟨h.1, q⟩; omega, h.2.2⟩)]
      · show up2 (sP (sM S (dpL S o n).1)) o n (sP (sM S (dpL S o n).1) o n + -(sP (sM S (dpL S o n).1) o n)) o' i = _
        rw [up2_if, i32_neg_self, h2 o' i]
        by_cases e : o' = o ∧ i = n
        · rw [if_pos e, e.1, e.2, if_pos ⟨rfl, Nat.lt_succ_self n, hn⟩]
        · rw [if_neg e]
          by_cases e2 : o' = o ∧ i < n ∧ i < sN S 2 0
          · rw [if_pos e2, if_pos ⟨e2.1, Nat.lt_succ_of_lt e2.2.1, e2.2.2⟩]
          · rw [if_neg e2, if_neg (fun h => e2 ⟨h.1, by have := h.2.1; have : i ≠ n := fun q => e ⟨h.1, q⟩; omega, h.2.2⟩)]
    · rw [if_neg hn]
      refine ⟨fun k i => ?_, fun o' i => ?_, h3⟩
      · rw [h1 k i]
        by_cases e2 : k = 42 ∧ i < n ∧ i < sN S 2 0
        · rw [if_pos e2, if_pos ⟨e2.1, Nat.lt_succ_of_lt e2.2.1, e2.2.2⟩]
        · rw [if_neg e2, if_neg (fun h => e2 ⟨h.1, by have := h.2.1; have := h.2.2; omega, h.2.2⟩)]
      · rw [h2 o' i]
        by_cases e2 : o' = o ∧ i < n ∧ i < sN S 2 0
        · rw [if_pos e2, if_pos ⟨e2.1, Nat.lt_succ_of_lt e2.2.1, e2.2.2⟩]
        · rw [if_neg e2, if_neg (fun h => e2 ⟨h.1, by have := h.2.1; have := h.2.2; omega, h.2.2⟩)]
/-- dropPromise, place by place -/
theorem dpS_at (S : St) (o : Nat) (hL : sN S 2 0 ≤ 90) :
    (∀ k i, sI (dpS S o) k i = if k = 53 ∧ i = o then 45 else if k = 42 ∧ i < sN S 2 0 then sI S 42 i - sP S o i else sI S k i) ∧
    (∀ o' i, sP (dpS S o) o' i = if o' = o ∧ i < sN S 2 0 then 0 else sP S o' i) ∧
    (∀ k i, sJ (dpS S o) k i = sJ S k i) ∧ sN (dpS S o) = sN S ∧ sR (dpS S o) = sR S := by
  obtain ⟨h1, h2, h3⟩ := dpL_at S o 90
  refine ⟨fun k i => ?_, fun o' i => ?_, h3, rfl, rfl⟩
  · show up2 (sI (sM S (dpL S o 90).1)) 53 o 45 k i = _
    rw [up2_if, h1 k i]
    by_cases e : k = 53 ∧ i = o
    · rw [if_pos e, if_pos e]
    · rw [if_neg e, if_neg e]
      by_cases e2 : k = 42 ∧ i < sN S 2 0
      · rw [if_pos e2, if_pos ⟨e2.1, by have := e2.2; omega, e2.2⟩]
      · rw [if_neg e2, if_neg (fun h => e2 ⟨h.1, h.2.2⟩)]
  · rw [show sP (dpS S o) o' i = sP (sM S (dpL S o 90).1) o' i from rfl, h2 o' i]
    by_cases e2 : o' = o ∧ i < sN S 2 0
    · rw [if_pos e2, if_pos ⟨e2.1, by have := e2.2; omega, e2.2⟩]
    · rw [if_neg e2, if_neg (fun h => e2 ⟨h.1, h.2.2⟩)]
