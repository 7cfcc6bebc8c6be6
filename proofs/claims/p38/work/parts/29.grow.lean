/-! NEW OBJECTS come into the state: orders, machines, parts (made by wip/gen/grow.py) -/
/-- the state with one order more -/
def nwOS (S : St) (p : Nat) (qy op du : Int32) : St :=
  (up2 (up2 S.1 3 (0) (sN S 3 0 + 1)) 7 (sN S 3 0) (p),
   up2 (up2 (up2 (up2 (up2 (up2 (up2 (up2 (up2 (up2 S.2.1 50 (sN S 3 0) (qy)) 51 (sN S 3 0) (op)) 52 (sN S 3 0) (du)) 53 (sN S 3 0) (45)) 54 (sN S 3 0) (0)) 55 (sN S 3 0) (0)) 60 (sN S 3 0) (0)) 61 (sN S 3 0) (0)) 62 (sN S 3 0) (0)) 63 (sN S 3 0) (-1),
   up2 (up2 (up2 (up2 S.2.2.1 4 (sN S 3 0) (0)) 5 (sN S 3 0) (0)) 26 (sN S 3 0) (0)) 27 (sN S 3 0) (0),
   up2 (up2 S.2.2.2.1 3 (sN S 3 0) (none)) 4 (sN S 3 0) (none), fun k i => if k = sN S 3 0 then 0 else S.2.2.2.2 k i)
def nwOA (ad : Nat → Nat → Nat) (n q11 q12 q13 q22 : Nat) : Nat → Nat → Nat := fun k i => if i = n ∧ k = 11 then q11 else if i = n ∧ k = 12 then q12 else if i = n ∧ k = 13 then q13 else if i = n ∧ k = 22 then q22 else ad k i
theorem nwOA_old {ad : Nat → Nat → Nat} {n q11 q12 q13 q22 k i : Nat} (h : i = n → k ≠ 11 ∧ k ≠ 12 ∧ k ≠ 13 ∧ k ≠ 22) : nwOA ad n q11 q12 q13 q22 k i = ad k i := by
  unfold nwOA
  by_cases e : i = n
  · have := h e
    simp [e, this]
  · simp [e]
theorem nwOA_fun {ad : Nat → Nat → Nat} {n q11 q12 q13 q22 k : Nat} (h : k ≠ 11 ∧ k ≠ 12 ∧ k ≠ 13 ∧ k ≠ 22) : nwOA ad n q11 q12 q13 q22 k = ad k := funext (fun _ => nwOA_old (fun _ => h))
theorem nwOA_rf {ad : Nat → Nat → Nat} {n q11 q12 q13 q22 k : Nat} {o : Option Nat} (h : k ≠ 11 ∧ k ≠ 12 ∧ k ≠ 13 ∧ k ≠ 22) : rf (nwOA ad n q11 q12 q13 q22) k o = rf ad k o := by unfold rf; rw [nwOA_fun h]
theorem nwOA_ne {ad : Nat → Nat → Nat} {n q11 q12 q13 q22 k i : Nat} (h : i ≠ n) : nwOA ad n q11 q12 q13 q22 k i = ad k i := nwOA_old (fun e => absurd e h)
theorem nwOS_V {S : St} {p : Nat} {qy op du : Int32} {k i : Nat} (h : V (nwOS S p qy op du) k i) : V S k i ∨ (i = sN S 3 0 ∧ (k = 11 ∨ k = 12 ∨ k = 13 ∨ k = 22)) := by
  have key : ∀ n : Nat, n < 23 → V (nwOS S p qy op du) n i → V S n i ∨ (i = sN S 3 0 ∧ (n = 11 ∨ n = 12 ∨ n = 13 ∨ n = 22)) := by
    intro n hn hv
    match n, hn, hv with
    | 0, _, hv => exact Or.inl hv
    | 1, _, hv => exact Or.inl (by first | exact hv | simpa [V, nwOS, sN, up2] using hv)
    | 2, _, hv => exact Or.inl (by first | exact hv | simpa [V, nwOS, sN, up2] using hv)
    | 3, _, hv => exact Or.inl (by first | exact hv | simpa [V, nwOS, sN, up2] using hv)
    | 4, _, hv => exact Or.inl (by first | exact hv | simpa [V, nwOS, sN, up2] using hv)
    | 5, _, hv => exact Or.inl (by first | exact hv | simpa [V, nwOS, sN, up2] using hv)
    | 6, _, hv => exact Or.inl hv
    | 7, _, hv => exact Or.inl (by first | exact hv | simpa [V, nwOS, sN, up2] using hv)
    | 8, _, hv => exact Or.inl (by first | exact hv | simpa [V, nwOS, sN, up2] using hv)
    | 9, _, hv => exact Or.inl (by first | exact hv | simpa [V, nwOS, sN, up2] using hv)
    | 10, _, hv => exact Or.inl (by first | exact hv | simpa [V, nwOS, sN, up2] using hv)
    | 11, _, hv => simp [V, nwOS, sN, up2] at hv ⊢; omega
    | 12, _, hv => simp [V, nwOS, sN, up2] at hv ⊢; omega
    | 13, _, hv => simp [V, nwOS, sN, up2] at hv ⊢; omega
    | 14, _, hv => exact Or.inl hv
    | 15, _, hv => exact Or.inl hv
    | 16, _, hv => exact Or.inl hv
    | 17, _, hv => exact Or.inl hv
    | 18, _, hv => exact Or.inl hv
    | 19, _, hv => exact Or.inl hv
    | 20, _, hv => exact Or.inl (by first | exact hv | simpa [V, nwOS, sN, up2] using hv)
    | 21, _, hv => exact Or.inl (by first | exact hv | simpa [V, nwOS, sN, up2] using hv)
    | 22, _, hv => simp [V, nwOS, sN, up2] at hv ⊢; omega
    | n + 23, hn, _ => exact absurd hn (by omega)
  rcases Nat.lt_or_ge k 23 with hk | hk
  · exact key k hk h
  · exact False.elim (by
      obtain ⟨n, rfl⟩ : ∃ n, k = n + 23 := ⟨k - 23, by omega⟩
      exact h)
theorem nwOS_C {tA : Nat → ClassId} {S : St} {ad : Nat → Nat → Nat} {p : Nat} {qy op du : Int32} {q11 q12 q13 q22 : Nat} (hW : WT S) {k i : Nat} (hv : V S k i) (h0 : ¬ (k = 0 ∧ i = 0)) (h1 : ¬ (k = 19 ∧ i = 0)) : C tA (nwOS S p qy op du) (nwOA ad (sN S 3 0) q11 q12 q13 q22) k i = C tA S ad k i := by
  have key : ∀ n : Nat, n < 23 → V S n i → ¬ (n = 0 ∧ i = 0) → ¬ (n = 19 ∧ i = 0) → C tA (nwOS S p qy op du) (nwOA ad (sN S 3 0) q11 q12 q13 q22) n i = C tA S ad n i := by
    intro n hn hv h0 h1
    match n, hn, hv, h0, h1 with
    | 0, _, hv, h0, h1 => exact absurd ⟨rfl, hv⟩ h0
    | 1, _, hv, h0, h1 =>
      have er1 : rf (nwOA ad (sN S 3 0) q11 q12 q13 q22) 11 (sR S 1 i) = rf ad 11 (sR S 1 i) := by
        cases ej : sR S 1 i with
        | none => rfl
        | some j => rw [rf_some, rf_some, nwOA_ne (Nat.ne_of_lt (hW.doing hv ej))]
      have t1 : sR (nwOS S p qy op du) 1 i = sR S 1 i := by first | rfl | simp [nwOS, sR, up2]
      first | rfl | (simp only [C, t1, er1]; done) | (simp only [C, t1, er1]; simp [nwOS, sN, sI, sJ, sR, sP, up2]) | (simp [C, nwOS, sN, sI, sJ, sR, sP, up2])
    | 2, _, hv, h0, h1 =>
      first | rfl | (simp only [C, nwOA_fun (show (20 : Nat) ≠ 11 ∧ (20 : Nat) ≠ 12 ∧ (20 : Nat) ≠ 13 ∧ (20 : Nat) ≠ 22 by decide), nwOA_fun (show (21 : Nat) ≠ 11 ∧ (21 : Nat) ≠ 12 ∧ (21 : Nat) ≠ 13 ∧ (21 : Nat) ≠ 22 by decide), nwOA_fun (show (3 : Nat) ≠ 11 ∧ (3 : Nat) ≠ 12 ∧ (3 : Nat) ≠ 13 ∧ (3 : Nat) ≠ 22 by decide)]; done) | (simp only [C, nwOA_fun (show (20 : Nat) ≠ 11 ∧ (20 : Nat) ≠ 12 ∧ (20 : Nat) ≠ 13 ∧ (20 : Nat) ≠ 22 by decide), nwOA_fun (show (21 : Nat) ≠ 11 ∧ (21 : Nat) ≠ 12 ∧ (21 : Nat) ≠ 13 ∧ (21 : Nat) ≠ 22 by decide), nwOA_fun (show (3 : Nat) ≠ 11 ∧ (3 : Nat) ≠ 12 ∧ (3 : Nat) ≠ 13 ∧ (3 : Nat) ≠ 22 by decide)]; simp [nwOS, sN, sI, sJ, sR, sP, up2]) | (simp [C, nwOS, sN, sI, sJ, sR, sP, up2])
    | 3, _, hv, h0, h1 =>
      first | rfl | (simp only [C]; done) | (simp only [C]; simp [nwOS, sN, sI, sJ, sR, sP, up2]) | (simp [C, nwOS, sN, sI, sJ, sR, sP, up2])
    | 4, _, hv, h0, h1 =>
      have s8 : sN (nwOS S p qy op du) 8 i = sN S 8 i := by simp [nwOS, sN, up2]
      first | rfl | (simp only [C, s8, nwOA_fun (show (2 : Nat) ≠ 11 ∧ (2 : Nat) ≠ 12 ∧ (2 : Nat) ≠ 13 ∧ (2 : Nat) ≠ 22 by decide)]; done) | (simp only [C, s8, nwOA_fun (show (2 : Nat) ≠ 11 ∧ (2 : Nat) ≠ 12 ∧ (2 : Nat) ≠ 13 ∧ (2 : Nat) ≠ 22 by decide)]; simp [nwOS, sN, sI, sJ, sR, sP, up2]) | (simp [C, nwOS, sN, sI, sJ, sR, sP, up2])
    | 5, _, hv, h0, h1 =>
      have s9 : sN (nwOS S p qy op du) 9 i = sN S 9 i := by simp [nwOS, sN, up2]
      have t2 : sR (nwOS S p qy op du) 2 i = sR S 2 i := by first | rfl | simp [nwOS, sR, up2]
      first | rfl | (simp only [C, t2, s9, nwOA_fun (show (1 : Nat) ≠ 11 ∧ (1 : Nat) ≠ 12 ∧ (1 : Nat) ≠ 13 ∧ (1 : Nat) ≠ 22 by decide), nwOA_rf (show (1 : Nat) ≠ 11 ∧ (1 : Nat) ≠ 12 ∧ (1 : Nat) ≠ 13 ∧ (1 : Nat) ≠ 22 by decide)]; done) | (simp only [C, t2, s9, nwOA_fun (show (1 : Nat) ≠ 11 ∧ (1 : Nat) ≠ 12 ∧ (1 : Nat) ≠ 13 ∧ (1 : Nat) ≠ 22 by decide), nwOA_rf (show (1 : Nat) ≠ 11 ∧ (1 : Nat) ≠ 12 ∧ (1 : Nat) ≠ 13 ∧ (1 : Nat) ≠ 22 by decide)]; simp [nwOS, sN, sI, sJ, sR, sP, up2]) | (simp [C, nwOS, sN, sI, sJ, sR, sP, up2])
    | 6, _, hv, h0, h1 =>
      first | rfl | (simp only [C]; done) | (simp only [C]; simp [nwOS, sN, sI, sJ, sR, sP, up2]) | (simp [C, nwOS, sN, sI, sJ, sR, sP, up2])
    | 7, _, hv, h0, h1 =>
      have s6 : sN (nwOS S p qy op du) 6 i = sN S 6 i := by simp [nwOS, sN, up2]
      first | rfl | (simp only [C, s6, nwOA_fun (show (2 : Nat) ≠ 11 ∧ (2 : Nat) ≠ 12 ∧ (2 : Nat) ≠ 13 ∧ (2 : Nat) ≠ 22 by decide), nwOA_fun (show (8 : Nat) ≠ 11 ∧ (8 : Nat) ≠ 12 ∧ (8 : Nat) ≠ 13 ∧ (8 : Nat) ≠ 22 by decide), nwOA_fun (show (9 : Nat) ≠ 11 ∧ (9 : Nat) ≠ 12 ∧ (9 : Nat) ≠ 13 ∧ (9 : Nat) ≠ 22 by decide), nwOA_fun (show (10 : Nat) ≠ 11 ∧ (10 : Nat) ≠ 12 ∧ (10 : Nat) ≠ 13 ∧ (10 : Nat) ≠ 22 by decide)]; done) | (simp only [C, s6, nwOA_fun (show (2 : Nat) ≠ 11 ∧ (2 : Nat) ≠ 12 ∧ (2 : Nat) ≠ 13 ∧ (2 : Nat) ≠ 22 by decide), nwOA_fun (show (8 : Nat) ≠ 11 ∧ (8 : Nat) ≠ 12 ∧ (8 : Nat) ≠ 13 ∧ (8 : Nat) ≠ 22 by decide), nwOA_fun (show (9 : Nat) ≠ 11 ∧ (9 : Nat) ≠ 12 ∧ (9 : Nat) ≠ 13 ∧ (9 : Nat) ≠ 22 by decide), nwOA_fun (show (10 : Nat) ≠ 11 ∧ (10 : Nat) ≠ 12 ∧ (10 : Nat) ≠ 13 ∧ (10 : Nat) ≠ 22 by decide)]; simp [nwOS, sN, sI, sJ, sR, sP, up2]) | (simp [C, nwOS, sN, sI, sJ, sR, sP, up2])
    | 8, _, hv, h0, h1 =>
      first | rfl | (simp only [C]; done) | (simp only [C]; simp [nwOS, sN, sI, sJ, sR, sP, up2]) | (simp [C, nwOS, sN, sI, sJ, sR, sP, up2])
    | 9, _, hv, h0, h1 =>
      first | rfl | (simp only [C]; done) | (simp only [C]; simp [nwOS, sN, sI, sJ, sR, sP, up2]) | (simp [C, nwOS, sN, sI, sJ, sR, sP, up2])
    | 10, _, hv, h0, h1 =>
      first | rfl | (simp only [C]; done) | (simp only [C]; simp [nwOS, sN, sI, sJ, sR, sP, up2]) | (simp [C, nwOS, sN, sI, sJ, sR, sP, up2])
    | 11, _, hv, h0, h1 =>
      have hne : i ≠ sN S 3 0 := Nat.ne_of_lt hv
      have hne' : ¬ i = S.1 3 0 := hne
      have s7 : sN (nwOS S p qy op du) 7 i = sN S 7 i := by simp [nwOS, sN, up2, hne']
      first | rfl | (simp only [C, s7, nwOA_fun (show (2 : Nat) ≠ 11 ∧ (2 : Nat) ≠ 12 ∧ (2 : Nat) ≠ 13 ∧ (2 : Nat) ≠ 22 by decide), nwOA_ne hne, nwOA_ne hne, nwOA_ne hne]; done) | (simp only [C, s7, nwOA_fun (show (2 : Nat) ≠ 11 ∧ (2 : Nat) ≠ 12 ∧ (2 : Nat) ≠ 13 ∧ (2 : Nat) ≠ 22 by decide), nwOA_ne hne, nwOA_ne hne, nwOA_ne hne]; simp [nwOS, sN, sI, sJ, sR, sP, up2, hne']) | (simp [C, nwOS, sN, sI, sJ, sR, sP, up2, hne'])
    | 12, _, hv, h0, h1 =>
      have hne : i ≠ sN S 3 0 := Nat.ne_of_lt hv
      have hne' : ¬ i = S.1 3 0 := hne
      have t3 : sR (nwOS S p qy op du) 3 i = sR S 3 i := by first | rfl | simp [nwOS, sR, up2, hne']
      have t4 : sR (nwOS S p qy op du) 4 i = sR S 4 i := by first | rfl | simp [nwOS, sR, up2, hne']
      first | rfl | (simp only [C, t4, t3, nwOA_rf (show (1 : Nat) ≠ 11 ∧ (1 : Nat) ≠ 12 ∧ (1 : Nat) ≠ 13 ∧ (1 : Nat) ≠ 22 by decide), nwOA_rf (show (7 : Nat) ≠ 11 ∧ (7 : Nat) ≠ 12 ∧ (7 : Nat) ≠ 13 ∧ (7 : Nat) ≠ 22 by decide)]; done) | (simp only [C, t4, t3, nwOA_rf (show (1 : Nat) ≠ 11 ∧ (1 : Nat) ≠ 12 ∧ (1 : Nat) ≠ 13 ∧ (1 : Nat) ≠ 22 by decide), nwOA_rf (show (7 : Nat) ≠ 11 ∧ (7 : Nat) ≠ 12 ∧ (7 : Nat) ≠ 13 ∧ (7 : Nat) ≠ 22 by decide)]; simp [nwOS, sN, sI, sJ, sR, sP, up2, hne']) | (simp [C, nwOS, sN, sI, sJ, sR, sP, up2, hne'])
    | 13, _, hv, h0, h1 =>
      have hne : i ≠ sN S 3 0 := Nat.ne_of_lt hv
      have hne' : ¬ i = S.1 3 0 := hne
      first | rfl | (simp only [C]; done) | (simp only [C]; simp [nwOS, sN, sI, sJ, sR, sP, up2, hne']) | (simp [C, nwOS, sN, sI, sJ, sR, sP, up2, hne'])
    | 14, _, hv, h0, h1 =>
      first | rfl | (simp only [C]; done) | (simp only [C]; simp [nwOS, sN, sI, sJ, sR, sP, up2]) | (simp [C, nwOS, sN, sI, sJ, sR, sP, up2])
    | 15, _, hv, h0, h1 =>
      first | rfl | (simp only [C, nwOA_fun (show (1 : Nat) ≠ 11 ∧ (1 : Nat) ≠ 12 ∧ (1 : Nat) ≠ 13 ∧ (1 : Nat) ≠ 22 by decide)]; done) | (simp only [C, nwOA_fun (show (1 : Nat) ≠ 11 ∧ (1 : Nat) ≠ 12 ∧ (1 : Nat) ≠ 13 ∧ (1 : Nat) ≠ 22 by decide)]; simp [nwOS, sN, sI, sJ, sR, sP, up2]) | (simp [C, nwOS, sN, sI, sJ, sR, sP, up2])
    | 16, _, hv, h0, h1 =>
      first | rfl | (simp only [C, nwOA_fun (show (2 : Nat) ≠ 11 ∧ (2 : Nat) ≠ 12 ∧ (2 : Nat) ≠ 13 ∧ (2 : Nat) ≠ 22 by decide)]; done) | (simp only [C, nwOA_fun (show (2 : Nat) ≠ 11 ∧ (2 : Nat) ≠ 12 ∧ (2 : Nat) ≠ 13 ∧ (2 : Nat) ≠ 22 by decide)]; simp [nwOS, sN, sI, sJ, sR, sP, up2]) | (simp [C, nwOS, sN, sI, sJ, sR, sP, up2])
    | 17, _, hv, h0, h1 =>
      first | rfl | (simp only [C, nwOA_fun (show (6 : Nat) ≠ 11 ∧ (6 : Nat) ≠ 12 ∧ (6 : Nat) ≠ 13 ∧ (6 : Nat) ≠ 22 by decide)]; done) | (simp only [C, nwOA_fun (show (6 : Nat) ≠ 11 ∧ (6 : Nat) ≠ 12 ∧ (6 : Nat) ≠ 13 ∧ (6 : Nat) ≠ 22 by decide)]; simp [nwOS, sN, sI, sJ, sR, sP, up2]) | (simp [C, nwOS, sN, sI, sJ, sR, sP, up2])
    | 18, _, hv, h0, h1 =>
      first | rfl | (simp only [C, nwOA_fun (show (7 : Nat) ≠ 11 ∧ (7 : Nat) ≠ 12 ∧ (7 : Nat) ≠ 13 ∧ (7 : Nat) ≠ 22 by decide)]; done) | (simp only [C, nwOA_fun (show (7 : Nat) ≠ 11 ∧ (7 : Nat) ≠ 12 ∧ (7 : Nat) ≠ 13 ∧ (7 : Nat) ≠ 22 by decide)]; simp [nwOS, sN, sI, sJ, sR, sP, up2]) | (simp [C, nwOS, sN, sI, sJ, sR, sP, up2])
    | 19, _, hv, h0, h1 => exact absurd ⟨rfl, hv⟩ h1
    | 20, _, hv, h0, h1 =>
      first | rfl | (simp only [C, nwOA_fun (show (4 : Nat) ≠ 11 ∧ (4 : Nat) ≠ 12 ∧ (4 : Nat) ≠ 13 ∧ (4 : Nat) ≠ 22 by decide)]; done) | (simp only [C, nwOA_fun (show (4 : Nat) ≠ 11 ∧ (4 : Nat) ≠ 12 ∧ (4 : Nat) ≠ 13 ∧ (4 : Nat) ≠ 22 by decide)]; simp [nwOS, sN, sI, sJ, sR, sP, up2]) | (simp [C, nwOS, sN, sI, sJ, sR, sP, up2])
    | 21, _, hv, h0, h1 =>
      first | rfl | (simp only [C, nwOA_fun (show (5 : Nat) ≠ 11 ∧ (5 : Nat) ≠ 12 ∧ (5 : Nat) ≠ 13 ∧ (5 : Nat) ≠ 22 by decide)]; done) | (simp only [C, nwOA_fun (show (5 : Nat) ≠ 11 ∧ (5 : Nat) ≠ 12 ∧ (5 : Nat) ≠ 13 ∧ (5 : Nat) ≠ 22 by decide)]; simp [nwOS, sN, sI, sJ, sR, sP, up2]) | (simp [C, nwOS, sN, sI, sJ, sR, sP, up2])
    | 22, _, hv, h0, h1 =>
      have hne : i ≠ sN S 3 0 := Nat.ne_of_lt hv
      have hne' : ¬ i = S.1 3 0 := hne
      first | rfl | (simp only [C]; done) | (simp only [C]; simp [nwOS, sN, sI, sJ, sR, sP, up2, hne']) | (simp [C, nwOS, sN, sI, sJ, sR, sP, up2, hne'])
    | n + 23, hn, _, _, _ => exact absurd hn (by omega)
  rcases Nat.lt_or_ge k 23 with hk | hk
  · exact key k hk hv h0 h1
  · exact False.elim (by
      obtain ⟨n, rfl⟩ : ∃ n, k = n + 23 := ⟨k - 23, by omega⟩
      exact hv)
theorem Rep.newnwOS {tA : Nat → ClassId} {S : St} {ad : Nat → Nat → Nat} {L L' : List Nat} {f f' : Nat → va_E} (h : Rep tA S ad L f) (hW : WT S) {p : Nat} {qy op du : Int32} {q11 q12 q13 q22 : Nat} (hL : ∀ a, a ∈ L → a ∈ L') (h11 : f' q11 = .inr (9, [.int (nI (sN S 3 0)), .ref (ad 2 p), .int qy, .int op, .int du, .ref q12, .ref q13, .ref q22, .int 45, .int 0, .int 0, .long 0]) ∧ q11 ∉ L ∧ q11 ∈ L') (h12 : f' q12 = .inr (4, [.int 0, .int 0, .int 0, .int (-1), .long 0, .null, .null]) ∧ q12 ∉ L ∧ q12 ∈ L') (h13 : f' q13 = .inr (7, [.long 0, .long 0]) ∧ q13 ∉ L ∧ q13 ∈ L') (h22 : f' q22 = .inl (tA 0, 90, .inl (fun _ => 0)) ∧ q22 ∉ L ∧ q22 ∈ L') (n11_12 : q11 ≠ q12) (n11_13 : q11 ≠ q13) (n11_22 : q11 ≠ q22) (n12_13 : q12 ≠ q13) (n12_22 : q12 ≠ q22) (n13_22 : q13 ≠ q22)
    (hf : ∀ a, a ∈ L → a ≠ ad 0 0 → a ≠ ad 19 0 → f' a = f a) (hx : f' (ad 0 0) = .inr (12, [.ref (ad 15 0), .ref (ad 16 0), .ref (ad 17 0), .ref (ad 18 0), .ref (ad 19 0), .ref (ad 14 0), .int (nI (sN S 0 0)), .int (nI (sN S 1 0)), .int (nI (sN S 2 0)), .int (sI S 1 0), .int (nI (sN S 3 0 + 1)), .int (sI S 2 0), .long (sJ S 1 0), .long (sJ S 2 0)])) (ha : f' (ad 19 0) = .inl (tA 5, 30, .inr (.inr (.inr (.inr (va_up (fun j => if j < sN S 3 0 then some (ad 11 j) else none) (sN S 3 0) (some q11))))))) : Rep tA (nwOS S p qy op du) (nwOA ad (sN S 3 0) q11 q12 q13 q22) L' f' := by
  have a11 : nwOA ad (sN S 3 0) q11 q12 q13 q22 11 (sN S 3 0) = q11 := by simp [nwOA]
  have a12 : nwOA ad (sN S 3 0) q11 q12 q13 q22 12 (sN S 3 0) = q12 := by simp [nwOA]
  have a13 : nwOA ad (sN S 3 0) q11 q12 q13 q22 13 (sN S 3 0) = q13 := by simp [nwOA]
  have a22 : nwOA ad (sN S 3 0) q11 q12 q13 q22 22 (sN S 3 0) = q22 := by simp [nwOA]
  have nv : ∀ k, (k = 11 ∨ k = 12 ∨ k = 13 ∨ k = 22) → ¬ V S k (sN S 3 0) := by
    rintro k (rfl | rfl | rfl | rfl) hv <;> exact absurd hv (Nat.lt_irrefl _)
  have old : ∀ k i, V S k i → nwOA ad (sN S 3 0) q11 q12 q13 q22 k i = ad k i := fun k i hv => nwOA_old (fun e => by
    subst e
    have key : ∀ z, (z = k ∧ (z = 11 ∨ z = 12 ∨ z = 13 ∨ z = 22)) → False := fun z q => nv z q.2 (q.1 ▸ hv)
    refine ⟨fun z => key k ⟨rfl, Or.inl z⟩, fun z => key k ⟨rfl, Or.inr (Or.inl z)⟩, fun z => key k ⟨rfl, Or.inr (Or.inr (Or.inl z))⟩, fun z => key k ⟨rfl, Or.inr (Or.inr (Or.inr (z)))⟩⟩)
  have one : ∀ k i, V (nwOS S p qy op du) k i → ¬ V S k i → i = sN S 3 0 ∧ (k = 11 ∨ k = 12 ∨ k = 13 ∨ k = 22) := fun k i hv hn => (nwOS_V hv).resolve_left hn
  refine h.grow hL (fun k i hv => ?_) (fun k i k' i' hv hv' hn hn' e => ?_)
  · rcases nwOS_V hv with hv0 | ⟨rfl, hk⟩
    · refine Or.inl ⟨hv0, old k i hv0, ?_⟩
      by_cases k0 : k = 0 ∧ i = 0
      · obtain ⟨rfl, ki⟩ := k0
        obtain rfl := ki
        rw [hx]
        simp only [C, nwOA_fun (show (14 : Nat) ≠ 11 ∧ (14 : Nat) ≠ 12 ∧ (14 : Nat) ≠ 13 ∧ (14 : Nat) ≠ 22 by decide), nwOA_fun (show (15 : Nat) ≠ 11 ∧ (15 : Nat) ≠ 12 ∧ (15 : Nat) ≠ 13 ∧ (15 : Nat) ≠ 22 by decide), nwOA_fun (show (16 : Nat) ≠ 11 ∧ (16 : Nat) ≠ 12 ∧ (16 : Nat) ≠ 13 ∧ (16 : Nat) ≠ 22 by decide), nwOA_fun (show (17 : Nat) ≠ 11 ∧ (17 : Nat) ≠ 12 ∧ (17 : Nat) ≠ 13 ∧ (17 : Nat) ≠ 22 by decide), nwOA_fun (show (18 : Nat) ≠ 11 ∧ (18 : Nat) ≠ 12 ∧ (18 : Nat) ≠ 13 ∧ (18 : Nat) ≠ 22 by decide), nwOA_fun (show (19 : Nat) ≠ 11 ∧ (19 : Nat) ≠ 12 ∧ (19 : Nat) ≠ 13 ∧ (19 : Nat) ≠ 22 by decide)]
        simp [nwOS, sN, sI, sJ, sR, sP, up2, rf_none, nI_0]
      · by_cases k18 : k = 19 ∧ i = 0
        · obtain ⟨rfl, ki⟩ := k18
          obtain rfl := ki
          rw [ha]
          have e1 : sN (nwOS S p qy op du) 3 0 = sN S 3 0 + 1 := by simp [nwOS, sN, up2]
          show (Sum.inl _ : va_E) = Sum.inl _
          congr 7
          funext j
          show va_up _ _ _ j = (if j < sN (nwOS S p qy op du) 3 0 then some (nwOA ad (sN S 3 0) q11 q12 q13 q22 11 (j)) else none)
          rw [e1]
          by_cases hj : j = sN S 3 0
          · rw [hj, va_up_self, if_pos (Nat.lt_succ_self _), a11]
          · rw [va_up_ne _ _ hj, nwOA_ne hj]
            by_cases hl : j < sN S 3 0
            · rw [if_pos hl, if_pos (by omega)]
            · rw [if_neg hl, if_neg (by omega)]
        · rw [hf _ (h.1 k i hv0).1 (h.ne hv0 (show V S 0 0 from rfl) k0) (h.ne hv0 (show V S 19 0 from rfl) k18), (h.1 k i hv0).2, nwOS_C hW hv0 k0 k18]
    · refine Or.inr ⟨nv k hk, ?_⟩
      rcases hk with rfl | rfl | rfl | rfl
      · rw [a11]
        refine ⟨h11.2.2, h11.2.1, h11.1.trans ?_⟩
        first | (simp only [C, nwOA_fun (show (2 : Nat) ≠ 11 ∧ (2 : Nat) ≠ 12 ∧ (2 : Nat) ≠ 13 ∧ (2 : Nat) ≠ 22 by decide), a12, a13, a22]; simp [nwOS, sN, sI, sJ, sR, sP, up2, rf_none, nI_0]; done) | (simp [C, nwOS, sN, sI, sJ, sR, sP, up2, rf_none, nI_0]; done) | (simp only [C]; simp [nwOS, sN, sI, sJ, sR, sP, up2, rf_none, nI_0]; done) | (simp [C, nwOS, sN, sI, sJ, sR, sP, up2, rf_none, nI_0, rf])
      · rw [a12]
        refine ⟨h12.2.2, h12.2.1, h12.1.trans ?_⟩
        first | (simp only [C, nwOA_fun (show (1 : Nat) ≠ 11 ∧ (1 : Nat) ≠ 12 ∧ (1 : Nat) ≠ 13 ∧ (1 : Nat) ≠ 22 by decide), nwOA_fun (show (7 : Nat) ≠ 11 ∧ (7 : Nat) ≠ 12 ∧ (7 : Nat) ≠ 13 ∧ (7 : Nat) ≠ 22 by decide), nwOA_rf (show (1 : Nat) ≠ 11 ∧ (1 : Nat) ≠ 12 ∧ (1 : Nat) ≠ 13 ∧ (1 : Nat) ≠ 22 by decide), nwOA_rf (show (7 : Nat) ≠ 11 ∧ (7 : Nat) ≠ 12 ∧ (7 : Nat) ≠ 13 ∧ (7 : Nat) ≠ 22 by decide)]; simp [nwOS, sN, sI, sJ, sR, sP, up2, rf_none, nI_0]; done) | (simp [C, nwOS, sN, sI, sJ, sR, sP, up2, rf_none, nI_0]; done) | (simp only [C]; simp [nwOS, sN, sI, sJ, sR, sP, up2, rf_none, nI_0]; done) | (simp [C, nwOS, sN, sI, sJ, sR, sP, up2, rf_none, nI_0, rf])
      · rw [a13]
        refine ⟨h13.2.2, h13.2.1, h13.1.trans ?_⟩
        first | (simp only [C]; simp [nwOS, sN, sI, sJ, sR, sP, up2, rf_none, nI_0]; done) | (simp [C, nwOS, sN, sI, sJ, sR, sP, up2, rf_none, nI_0]; done) | (simp only [C]; simp [nwOS, sN, sI, sJ, sR, sP, up2, rf_none, nI_0]; done) | (simp [C, nwOS, sN, sI, sJ, sR, sP, up2, rf_none, nI_0, rf])
      · rw [a22]
        refine ⟨h22.2.2, h22.2.1, h22.1.trans ?_⟩
        first | (simp only [C]; simp [nwOS, sN, sI, sJ, sR, sP, up2, rf_none, nI_0]; done) | (simp [C, nwOS, sN, sI, sJ, sR, sP, up2, rf_none, nI_0]; done) | (simp only [C]; simp [nwOS, sN, sI, sJ, sR, sP, up2, rf_none, nI_0]; done) | (simp [C, nwOS, sN, sI, sJ, sR, sP, up2, rf_none, nI_0, rf])
  · obtain ⟨rfl, hk⟩ := one k i hv hn
    obtain ⟨rfl, hk'⟩ := one k' i' hv' hn'
    refine ⟨?_, rfl⟩
    rcases hk with rfl | rfl | rfl | rfl <;> rcases hk' with rfl | rfl | rfl | rfl <;> first | rfl | (simp only [a11, a12, a13, a22] at e; first | exact absurd e (by assumption) | exact absurd e.symm (by assumption))
/-- the state with one machine more -/
def nwMS (S : St) (ra se li re : Int32) : St :=
  (up2 S.1 0 (0) (sN S 0 0 + 1),
   up2 (up2 (up2 (up2 (up2 (up2 (up2 (up2 (up2 (up2 S.2.1 10 (sN S 0 0) (ra)) 11 (sN S 0 0) (se)) 12 (sN S 0 0) (li)) 13 (sN S 0 0) (re)) 14 (sN S 0 0) (45)) 15 (sN S 0 0) (-1)) 16 (sN S 0 0) (0)) 17 (sN S 0 0) (0)) 18 (sN S 0 0) (-1)) 19 (sN S 0 0) (0),
   S.2.2.1,
   up2 S.2.2.2.1 1 (sN S 0 0) (none), S.2.2.2.2)
def nwMA (ad : Nat → Nat → Nat) (n q1 : Nat) : Nat → Nat → Nat := fun k i => if i = n ∧ k = 1 then q1 else ad k i
theorem nwMA_old {ad : Nat → Nat → Nat} {n q1 k i : Nat} (h : i = n → k ≠ 1) : nwMA ad n q1 k i = ad k i := by
  unfold nwMA
  by_cases e : i = n
  · have := h e
    simp [e, this]
  · simp [e]
theorem nwMA_fun {ad : Nat → Nat → Nat} {n q1 k : Nat} (h : k ≠ 1) : nwMA ad n q1 k = ad k := funext (fun _ => nwMA_old (fun _ => h))
theorem nwMA_rf {ad : Nat → Nat → Nat} {n q1 k : Nat} {o : Option Nat} (h : k ≠ 1) : rf (nwMA ad n q1) k o = rf ad k o := by unfold rf; rw [nwMA_fun h]
theorem nwMA_ne {ad : Nat → Nat → Nat} {n q1 k i : Nat} (h : i ≠ n) : nwMA ad n q1 k i = ad k i := nwMA_old (fun e => absurd e h)
theorem nwMS_V {S : St} {ra se li re : Int32} {k i : Nat} (h : V (nwMS S ra se li re) k i) : V S k i ∨ (i = sN S 0 0 ∧ (k = 1)) := by
  have key : ∀ n : Nat, n < 23 → V (nwMS S ra se li re) n i → V S n i ∨ (i = sN S 0 0 ∧ (n = 1)) := by
    intro n hn hv
    match n, hn, hv with
    | 0, _, hv => exact Or.inl hv
    | 1, _, hv => simp [V, nwMS, sN, up2] at hv ⊢; omega
    | 2, _, hv => exact Or.inl (by first | exact hv | simpa [V, nwMS, sN, up2] using hv)
    | 3, _, hv => exact Or.inl (by first | exact hv | simpa [V, nwMS, sN, up2] using hv)
    | 4, _, hv => exact Or.inl (by first | exact hv | simpa [V, nwMS, sN, up2] using hv)
    | 5, _, hv => exact Or.inl (by first | exact hv | simpa [V, nwMS, sN, up2] using hv)
    | 6, _, hv => exact Or.inl hv
    | 7, _, hv => exact Or.inl (by first | exact hv | simpa [V, nwMS, sN, up2] using hv)
    | 8, _, hv => exact Or.inl (by first | exact hv | simpa [V, nwMS, sN, up2] using hv)
    | 9, _, hv => exact Or.inl (by first | exact hv | simpa [V, nwMS, sN, up2] using hv)
    | 10, _, hv => exact Or.inl (by first | exact hv | simpa [V, nwMS, sN, up2] using hv)
    | 11, _, hv => exact Or.inl (by first | exact hv | simpa [V, nwMS, sN, up2] using hv)
    | 12, _, hv => exact Or.inl (by first | exact hv | simpa [V, nwMS, sN, up2] using hv)
    | 13, _, hv => exact Or.inl (by first | exact hv | simpa [V, nwMS, sN, up2] using hv)
    | 14, _, hv => exact Or.inl hv
    | 15, _, hv => exact Or.inl hv
    | 16, _, hv => exact Or.inl hv
    | 17, _, hv => exact Or.inl hv
    | 18, _, hv => exact Or.inl hv
    | 19, _, hv => exact Or.inl hv
    | 20, _, hv => exact Or.inl (by first | exact hv | simpa [V, nwMS, sN, up2] using hv)
    | 21, _, hv => exact Or.inl (by first | exact hv | simpa [V, nwMS, sN, up2] using hv)
    | 22, _, hv => exact Or.inl (by first | exact hv | simpa [V, nwMS, sN, up2] using hv)
    | n + 23, hn, _ => exact absurd hn (by omega)
  rcases Nat.lt_or_ge k 23 with hk | hk
  · exact key k hk h
  · exact False.elim (by
      obtain ⟨n, rfl⟩ : ∃ n, k = n + 23 := ⟨k - 23, by omega⟩
      exact h)
theorem nwMS_C {tA : Nat → ClassId} {S : St} {ad : Nat → Nat → Nat} {ra se li re : Int32} {q1 : Nat} (hW : WT S) {k i : Nat} (hv : V S k i) (h0 : ¬ (k = 0 ∧ i = 0)) (h1 : ¬ (k = 15 ∧ i = 0)) : C tA (nwMS S ra se li re) (nwMA ad (sN S 0 0) q1) k i = C tA S ad k i := by
  have key : ∀ n : Nat, n < 23 → V S n i → ¬ (n = 0 ∧ i = 0) → ¬ (n = 15 ∧ i = 0) → C tA (nwMS S ra se li re) (nwMA ad (sN S 0 0) q1) n i = C tA S ad n i := by
    intro n hn hv h0 h1
    match n, hn, hv, h0, h1 with
    | 0, _, hv, h0, h1 => exact absurd ⟨rfl, hv⟩ h0
    | 1, _, hv, h0, h1 =>
      have hne : i ≠ sN S 0 0 := Nat.ne_of_lt hv
      have hne' : ¬ i = S.1 0 0 := hne
      have t1 : sR (nwMS S ra se li re) 1 i = sR S 1 i := by first | rfl | simp [nwMS, sR, up2, hne']
      first | rfl | (simp only [C, t1, nwMA_rf (show (11 : Nat) ≠ 1 by decide)]; done) | (simp only [C, t1, nwMA_rf (show (11 : Nat) ≠ 1 by decide)]; simp [nwMS, sN, sI, sJ, sR, sP, up2, hne']) | (simp [C, nwMS, sN, sI, sJ, sR, sP, up2, hne'])
    | 2, _, hv, h0, h1 =>
      first | rfl | (simp only [C, nwMA_fun (show (20 : Nat) ≠ 1 by decide), nwMA_fun (show (21 : Nat) ≠ 1 by decide), nwMA_fun (show (3 : Nat) ≠ 1 by decide)]; done) | (simp only [C, nwMA_fun (show (20 : Nat) ≠ 1 by decide), nwMA_fun (show (21 : Nat) ≠ 1 by decide), nwMA_fun (show (3 : Nat) ≠ 1 by decide)]; simp [nwMS, sN, sI, sJ, sR, sP, up2]) | (simp [C, nwMS, sN, sI, sJ, sR, sP, up2])
    | 3, _, hv, h0, h1 =>
      first | rfl | (simp only [C]; done) | (simp only [C]; simp [nwMS, sN, sI, sJ, sR, sP, up2]) | (simp [C, nwMS, sN, sI, sJ, sR, sP, up2])
    | 4, _, hv, h0, h1 =>
      have s8 : sN (nwMS S ra se li re) 8 i = sN S 8 i := by simp [nwMS, sN, up2]
      first | rfl | (simp only [C, s8, nwMA_fun (show (2 : Nat) ≠ 1 by decide)]; done) | (simp only [C, s8, nwMA_fun (show (2 : Nat) ≠ 1 by decide)]; simp [nwMS, sN, sI, sJ, sR, sP, up2]) | (simp [C, nwMS, sN, sI, sJ, sR, sP, up2])
    | 5, _, hv, h0, h1 =>
      have e1 : nwMA ad (sN S 0 0) q1 1 (sN S 9 i) = ad 1 (sN S 9 i) := nwMA_ne (Nat.ne_of_lt (hW.opMach hv))
      have s9 : sN (nwMS S ra se li re) 9 i = sN S 9 i := by simp [nwMS, sN, up2]
      have er2 : rf (nwMA ad (sN S 0 0) q1) 1 (sR S 2 i) = rf ad 1 (sR S 2 i) := by
        cases ej : sR S 2 i with
        | none => rfl
        | some j => rw [rf_some, rf_some, nwMA_ne (Nat.ne_of_lt (hW.alt hv ej))]
      have t2 : sR (nwMS S ra se li re) 2 i = sR S 2 i := by first | rfl | simp [nwMS, sR, up2]
      first | rfl | (simp only [C, t2, s9, e1, er2]; done) | (simp only [C, t2, s9, e1, er2]; simp [nwMS, sN, sI, sJ, sR, sP, up2]) | (simp [C, nwMS, sN, sI, sJ, sR, sP, up2])
    | 6, _, hv, h0, h1 =>
      first | rfl | (simp only [C]; done) | (simp only [C]; simp [nwMS, sN, sI, sJ, sR, sP, up2]) | (simp [C, nwMS, sN, sI, sJ, sR, sP, up2])
    | 7, _, hv, h0, h1 =>
      have s6 : sN (nwMS S ra se li re) 6 i = sN S 6 i := by simp [nwMS, sN, up2]
      first | rfl | (simp only [C, s6, nwMA_fun (show (2 : Nat) ≠ 1 by decide), nwMA_fun (show (8 : Nat) ≠ 1 by decide), nwMA_fun (show (9 : Nat) ≠ 1 by decide), nwMA_fun (show (10 : Nat) ≠ 1 by decide)]; done) | (simp only [C, s6, nwMA_fun (show (2 : Nat) ≠ 1 by decide), nwMA_fun (show (8 : Nat) ≠ 1 by decide), nwMA_fun (show (9 : Nat) ≠ 1 by decide), nwMA_fun (show (10 : Nat) ≠ 1 by decide)]; simp [nwMS, sN, sI, sJ, sR, sP, up2]) | (simp [C, nwMS, sN, sI, sJ, sR, sP, up2])
    | 8, _, hv, h0, h1 =>
      first | rfl | (simp only [C]; done) | (simp only [C]; simp [nwMS, sN, sI, sJ, sR, sP, up2]) | (simp [C, nwMS, sN, sI, sJ, sR, sP, up2])
    | 9, _, hv, h0, h1 =>
      first | rfl | (simp only [C]; done) | (simp only [C]; simp [nwMS, sN, sI, sJ, sR, sP, up2]) | (simp [C, nwMS, sN, sI, sJ, sR, sP, up2])
    | 10, _, hv, h0, h1 =>
      first | rfl | (simp only [C]; done) | (simp only [C]; simp [nwMS, sN, sI, sJ, sR, sP, up2]) | (simp [C, nwMS, sN, sI, sJ, sR, sP, up2])
    | 11, _, hv, h0, h1 =>
      have s7 : sN (nwMS S ra se li re) 7 i = sN S 7 i := by simp [nwMS, sN, up2]
      first | rfl | (simp only [C, s7, nwMA_fun (show (2 : Nat) ≠ 1 by decide), nwMA_fun (show (12 : Nat) ≠ 1 by decide), nwMA_fun (show (13 : Nat) ≠ 1 by decide), nwMA_fun (show (22 : Nat) ≠ 1 by decide)]; done) | (simp only [C, s7, nwMA_fun (show (2 : Nat) ≠ 1 by decide), nwMA_fun (show (12 : Nat) ≠ 1 by decide), nwMA_fun (show (13 : Nat) ≠ 1 by decide), nwMA_fun (show (22 : Nat) ≠ 1 by decide)]; simp [nwMS, sN, sI, sJ, sR, sP, up2]) | (simp [C, nwMS, sN, sI, sJ, sR, sP, up2])
    | 12, _, hv, h0, h1 =>
      have er3 : rf (nwMA ad (sN S 0 0) q1) 1 (sR S 3 i) = rf ad 1 (sR S 3 i) := by
        cases ej : sR S 3 i with
        | none => rfl
        | some j => rw [rf_some, rf_some, nwMA_ne (Nat.ne_of_lt (hW.waits hv ej))]
      have t3 : sR (nwMS S ra se li re) 3 i = sR S 3 i := by first | rfl | simp [nwMS, sR, up2]
      have t4 : sR (nwMS S ra se li re) 4 i = sR S 4 i := by first | rfl | simp [nwMS, sR, up2]
      first | rfl | (simp only [C, t4, t3, er3, nwMA_rf (show (7 : Nat) ≠ 1 by decide)]; done) | (simp only [C, t4, t3, er3, nwMA_rf (show (7 : Nat) ≠ 1 by decide)]; simp [nwMS, sN, sI, sJ, sR, sP, up2]) | (simp [C, nwMS, sN, sI, sJ, sR, sP, up2])
    | 13, _, hv, h0, h1 =>
      first | rfl | (simp only [C]; done) | (simp only [C]; simp [nwMS, sN, sI, sJ, sR, sP, up2]) | (simp [C, nwMS, sN, sI, sJ, sR, sP, up2])
    | 14, _, hv, h0, h1 =>
      first | rfl | (simp only [C]; done) | (simp only [C]; simp [nwMS, sN, sI, sJ, sR, sP, up2]) | (simp [C, nwMS, sN, sI, sJ, sR, sP, up2])
    | 15, _, hv, h0, h1 => exact absurd ⟨rfl, hv⟩ h1
    | 16, _, hv, h0, h1 =>
      first | rfl | (simp only [C, nwMA_fun (show (2 : Nat) ≠ 1 by decide)]; done) | (simp only [C, nwMA_fun (show (2 : Nat) ≠ 1 by decide)]; simp [nwMS, sN, sI, sJ, sR, sP, up2]) | (simp [C, nwMS, sN, sI, sJ, sR, sP, up2])
    | 17, _, hv, h0, h1 =>
      first | rfl | (simp only [C, nwMA_fun (show (6 : Nat) ≠ 1 by decide)]; done) | (simp only [C, nwMA_fun (show (6 : Nat) ≠ 1 by decide)]; simp [nwMS, sN, sI, sJ, sR, sP, up2]) | (simp [C, nwMS, sN, sI, sJ, sR, sP, up2])
    | 18, _, hv, h0, h1 =>
      first | rfl | (simp only [C, nwMA_fun (show (7 : Nat) ≠ 1 by decide)]; done) | (simp only [C, nwMA_fun (show (7 : Nat) ≠ 1 by decide)]; simp [nwMS, sN, sI, sJ, sR, sP, up2]) | (simp [C, nwMS, sN, sI, sJ, sR, sP, up2])
    | 19, _, hv, h0, h1 =>
      first | rfl | (simp only [C, nwMA_fun (show (11 : Nat) ≠ 1 by decide)]; done) | (simp only [C, nwMA_fun (show (11 : Nat) ≠ 1 by decide)]; simp [nwMS, sN, sI, sJ, sR, sP, up2]) | (simp [C, nwMS, sN, sI, sJ, sR, sP, up2])
    | 20, _, hv, h0, h1 =>
      first | rfl | (simp only [C, nwMA_fun (show (4 : Nat) ≠ 1 by decide)]; done) | (simp only [C, nwMA_fun (show (4 : Nat) ≠ 1 by decide)]; simp [nwMS, sN, sI, sJ, sR, sP, up2]) | (simp [C, nwMS, sN, sI, sJ, sR, sP, up2])
    | 21, _, hv, h0, h1 =>
      first | rfl | (simp only [C, nwMA_fun (show (5 : Nat) ≠ 1 by decide)]; done) | (simp only [C, nwMA_fun (show (5 : Nat) ≠ 1 by decide)]; simp [nwMS, sN, sI, sJ, sR, sP, up2]) | (simp [C, nwMS, sN, sI, sJ, sR, sP, up2])
    | 22, _, hv, h0, h1 =>
      first | rfl | (simp only [C]; done) | (simp only [C]; simp [nwMS, sN, sI, sJ, sR, sP, up2]) | (simp [C, nwMS, sN, sI, sJ, sR, sP, up2])
    | n + 23, hn, _, _, _ => exact absurd hn (by omega)
  rcases Nat.lt_or_ge k 23 with hk | hk
  · exact key k hk hv h0 h1
  · exact False.elim (by
      obtain ⟨n, rfl⟩ : ∃ n, k = n + 23 := ⟨k - 23, by omega⟩
      exact hv)
theorem Rep.newnwMS {tA : Nat → ClassId} {S : St} {ad : Nat → Nat → Nat} {L L' : List Nat} {f f' : Nat → va_E} (h : Rep tA S ad L f) (hW : WT S) {ra se li re : Int32} {q1 : Nat} (hL : ∀ a, a ∈ L → a ∈ L') (h1 : f' q1 = .inr (6, [.int ra, .int se, .int li, .int re, .int 45, .int (-1), .int 0, .int 0, .int (-1), .int 0, .null]) ∧ q1 ∉ L ∧ q1 ∈ L') 
    (hf : ∀ a, a ∈ L → a ≠ ad 0 0 → a ≠ ad 15 0 → f' a = f a) (hx : f' (ad 0 0) = .inr (12, [.ref (ad 15 0), .ref (ad 16 0), .ref (ad 17 0), .ref (ad 18 0), .ref (ad 19 0), .ref (ad 14 0), .int (nI (sN S 0 0 + 1)), .int (nI (sN S 1 0)), .int (nI (sN S 2 0)), .int (sI S 1 0), .int (nI (sN S 3 0)), .int (sI S 2 0), .long (sJ S 1 0), .long (sJ S 2 0)])) (ha : f' (ad 15 0) = .inl (tA 1, 5, .inr (.inr (.inr (.inr (va_up (fun j => if j < sN S 0 0 then some (ad 1 j) else none) (sN S 0 0) (some q1))))))) : Rep tA (nwMS S ra se li re) (nwMA ad (sN S 0 0) q1) L' f' := by
  have a1 : nwMA ad (sN S 0 0) q1 1 (sN S 0 0) = q1 := by simp [nwMA]
  have nv : ∀ k, (k = 1) → ¬ V S k (sN S 0 0) := by
    rintro k (rfl) hv <;> exact absurd hv (Nat.lt_irrefl _)
  have old : ∀ k i, V S k i → nwMA ad (sN S 0 0) q1 k i = ad k i := fun k i hv => nwMA_old (fun e => by
    subst e
    have key : ∀ z, (z = k ∧ (z = 1)) → False := fun z q => nv z q.2 (q.1 ▸ hv)
    exact fun z => key k ⟨rfl, z⟩)
  have one : ∀ k i, V (nwMS S ra se li re) k i → ¬ V S k i → i = sN S 0 0 ∧ (k = 1) := fun k i hv hn => (nwMS_V hv).resolve_left hn
  refine h.grow hL (fun k i hv => ?_) (fun k i k' i' hv hv' hn hn' e => ?_)
  · rcases nwMS_V hv with hv0 | ⟨rfl, hk⟩
    · refine Or.inl ⟨hv0, old k i hv0, ?_⟩
      by_cases k0 : k = 0 ∧ i = 0
      · obtain ⟨rfl, ki⟩ := k0
        obtain rfl := ki
        rw [hx]
        simp only [C, nwMA_fun (show (14 : Nat) ≠ 1 by decide), nwMA_fun (show (15 : Nat) ≠ 1 by decide), nwMA_fun (show (16 : Nat) ≠ 1 by decide), nwMA_fun (show (17 : Nat) ≠ 1 by decide), nwMA_fun (show (18 : Nat) ≠ 1 by decide), nwMA_fun (show (19 : Nat) ≠ 1 by decide)]
        simp [nwMS, sN, sI, sJ, sR, sP, up2, rf_none, nI_0]
      · by_cases k18 : k = 15 ∧ i = 0
        · obtain ⟨rfl, ki⟩ := k18
          obtain rfl := ki
          rw [ha]
          have e1 : sN (nwMS S ra se li re) 0 0 = sN S 0 0 + 1 := by simp [nwMS, sN, up2]
          show (Sum.inl _ : va_E) = Sum.inl _
          congr 7
          funext j
          show va_up _ _ _ j = (if j < sN (nwMS S ra se li re) 0 0 then some (nwMA ad (sN S 0 0) q1 1 (j)) else none)
          rw [e1]
          by_cases hj : j = sN S 0 0
          · rw [hj, va_up_self, if_pos (Nat.lt_succ_self _), a1]
          · rw [va_up_ne _ _ hj, nwMA_ne hj]
            by_cases hl : j < sN S 0 0
            · rw [if_pos hl, if_pos (by omega)]
            · rw [if_neg hl, if_neg (by omega)]
        · rw [hf _ (h.1 k i hv0).1 (h.ne hv0 (show V S 0 0 from rfl) k0) (h.ne hv0 (show V S 15 0 from rfl) k18), (h.1 k i hv0).2, nwMS_C hW hv0 k0 k18]
    · refine Or.inr ⟨nv k hk, ?_⟩
      rcases hk with rfl
      · rw [a1]
        refine ⟨h1.2.2, h1.2.1, h1.1.trans ?_⟩
        first | (simp only [C, nwMA_fun (show (11 : Nat) ≠ 1 by decide), nwMA_rf (show (11 : Nat) ≠ 1 by decide)]; simp [nwMS, sN, sI, sJ, sR, sP, up2, rf_none, nI_0]; done) | (simp [C, nwMS, sN, sI, sJ, sR, sP, up2, rf_none, nI_0]; done) | (simp only [C]; simp [nwMS, sN, sI, sJ, sR, sP, up2, rf_none, nI_0]; done) | (simp [C, nwMS, sN, sI, sJ, sR, sP, up2, rf_none, nI_0, rf])
  · obtain ⟨rfl, hk⟩ := one k i hv hn
    obtain ⟨rfl, hk'⟩ := one k' i' hv' hn'
    refine ⟨?_, rfl⟩
    rcases hk with rfl <;> rcases hk' with rfl <;> first | rfl | (simp only [a1] at e; first | exact absurd e (by assumption) | exact absurd e.symm (by assumption))
/-- the state with one part more -/
def nwPS (S : St) (mk fa : Int32) : St :=
  (up2 (up2 (up2 S.1 1 (0) (sN S 1 0 + 1)) 4 (sN S 1 0) (0)) 5 (sN S 1 0) (0),
   up2 (up2 (up2 (up2 (up2 (up2 (up2 S.2.1 20 (sN S 1 0) (mk)) 21 (sN S 1 0) (fa)) 22 (sN S 1 0) (100)) 23 (sN S 1 0) (10)) 24 (sN S 1 0) (0)) 25 (sN S 1 0) (0)) 26 (sN S 1 0) (0),
   S.2.2.1,
   S.2.2.2.1, S.2.2.2.2)
def nwPA (ad : Nat → Nat → Nat) (n q2 q3 q20 q21 : Nat) : Nat → Nat → Nat := fun k i => if i = n ∧ k = 2 then q2 else if i = n ∧ k = 3 then q3 else if i = n ∧ k = 20 then q20 else if i = n ∧ k = 21 then q21 else ad k i
theorem nwPA_old {ad : Nat → Nat → Nat} {n q2 q3 q20 q21 k i : Nat} (h : i = n → k ≠ 2 ∧ k ≠ 3 ∧ k ≠ 20 ∧ k ≠ 21) : nwPA ad n q2 q3 q20 q21 k i = ad k i := by
  unfold nwPA
  by_cases e : i = n
  · have := h e
    simp [e, this]
  · simp [e]
theorem nwPA_fun {ad : Nat → Nat → Nat} {n q2 q3 q20 q21 k : Nat} (h : k ≠ 2 ∧ k ≠ 3 ∧ k ≠ 20 ∧ k ≠ 21) : nwPA ad n q2 q3 q20 q21 k = ad k := funext (fun _ => nwPA_old (fun _ => h))
theorem nwPA_rf {ad : Nat → Nat → Nat} {n q2 q3 q20 q21 k : Nat} {o : Option Nat} (h : k ≠ 2 ∧ k ≠ 3 ∧ k ≠ 20 ∧ k ≠ 21) : rf (nwPA ad n q2 q3 q20 q21) k o = rf ad k o := by unfold rf; rw [nwPA_fun h]
theorem nwPA_ne {ad : Nat → Nat → Nat} {n q2 q3 q20 q21 k i : Nat} (h : i ≠ n) : nwPA ad n q2 q3 q20 q21 k i = ad k i := nwPA_old (fun e => absurd e h)
theorem nwPS_V {S : St} {mk fa : Int32} {k i : Nat} (h : V (nwPS S mk fa) k i) : V S k i ∨ (i = sN S 1 0 ∧ (k = 2 ∨ k = 3 ∨ k = 20 ∨ k = 21)) := by
  have key : ∀ n : Nat, n < 23 → V (nwPS S mk fa) n i → V S n i ∨ (i = sN S 1 0 ∧ (n = 2 ∨ n = 3 ∨ n = 20 ∨ n = 21)) := by
    intro n hn hv
    match n, hn, hv with
    | 0, _, hv => exact Or.inl hv
    | 1, _, hv => exact Or.inl (by first | exact hv | simpa [V, nwPS, sN, up2] using hv)
    | 2, _, hv => simp [V, nwPS, sN, up2] at hv ⊢; omega
    | 3, _, hv => simp [V, nwPS, sN, up2] at hv ⊢; omega
    | 4, _, hv =>
      refine Or.inl ?_
      have hv : i / 4 < sN S 1 0 + 1 ∧ i % 4 < (if i / 4 = sN S 1 0 then 0 else sN S 4 (i / 4)) := by simpa [V, nwPS, sN, up2] using hv
      by_cases e : i / 4 = sN S 1 0
      · rw [if_pos e] at hv; omega
      · rw [if_neg e] at hv; exact ⟨by omega, hv.2⟩
    | 5, _, hv =>
      refine Or.inl ?_
      have hv : i / 4 < sN S 1 0 + 1 ∧ i % 4 < (if i / 4 = sN S 1 0 then 0 else sN S 5 (i / 4)) := by simpa [V, nwPS, sN, up2] using hv
      by_cases e : i / 4 = sN S 1 0
      · rw [if_pos e] at hv; omega
      · rw [if_neg e] at hv; exact ⟨by omega, hv.2⟩
    | 6, _, hv => exact Or.inl hv
    | 7, _, hv => exact Or.inl (by first | exact hv | simpa [V, nwPS, sN, up2] using hv)
    | 8, _, hv => exact Or.inl (by first | exact hv | simpa [V, nwPS, sN, up2] using hv)
    | 9, _, hv => exact Or.inl (by first | exact hv | simpa [V, nwPS, sN, up2] using hv)
    | 10, _, hv => exact Or.inl (by first | exact hv | simpa [V, nwPS, sN, up2] using hv)
    | 11, _, hv => exact Or.inl (by first | exact hv | simpa [V, nwPS, sN, up2] using hv)
    | 12, _, hv => exact Or.inl (by first | exact hv | simpa [V, nwPS, sN, up2] using hv)
    | 13, _, hv => exact Or.inl (by first | exact hv | simpa [V, nwPS, sN, up2] using hv)
    | 14, _, hv => exact Or.inl hv
    | 15, _, hv => exact Or.inl hv
    | 16, _, hv => exact Or.inl hv
    | 17, _, hv => exact Or.inl hv
    | 18, _, hv => exact Or.inl hv
    | 19, _, hv => exact Or.inl hv
    | 20, _, hv => simp [V, nwPS, sN, up2] at hv ⊢; omega
    | 21, _, hv => simp [V, nwPS, sN, up2] at hv ⊢; omega
    | 22, _, hv => exact Or.inl (by first | exact hv | simpa [V, nwPS, sN, up2] using hv)
    | n + 23, hn, _ => exact absurd hn (by omega)
  rcases Nat.lt_or_ge k 23 with hk | hk
  · exact key k hk h
  · exact False.elim (by
      obtain ⟨n, rfl⟩ : ∃ n, k = n + 23 := ⟨k - 23, by omega⟩
      exact h)
theorem nwPS_C {tA : Nat → ClassId} {S : St} {ad : Nat → Nat → Nat} {mk fa : Int32} {q2 q3 q20 q21 : Nat} (hW : WT S) {k i : Nat} (hv : V S k i) (h0 : ¬ (k = 0 ∧ i = 0)) (h1 : ¬ (k = 16 ∧ i = 0)) : C tA (nwPS S mk fa) (nwPA ad (sN S 1 0) q2 q3 q20 q21) k i = C tA S ad k i := by
  have key : ∀ n : Nat, n < 23 → V S n i → ¬ (n = 0 ∧ i = 0) → ¬ (n = 16 ∧ i = 0) → C tA (nwPS S mk fa) (nwPA ad (sN S 1 0) q2 q3 q20 q21) n i = C tA S ad n i := by
    intro n hn hv h0 h1
    match n, hn, hv, h0, h1 with
    | 0, _, hv, h0, h1 => exact absurd ⟨rfl, hv⟩ h0
    | 1, _, hv, h0, h1 =>
      have t1 : sR (nwPS S mk fa) 1 i = sR S 1 i := by first | rfl | simp [nwPS, sR, up2]
      first | rfl | (simp only [C, t1, nwPA_rf (show (11 : Nat) ≠ 2 ∧ (11 : Nat) ≠ 3 ∧ (11 : Nat) ≠ 20 ∧ (11 : Nat) ≠ 21 by decide)]; done) | (simp only [C, t1, nwPA_rf (show (11 : Nat) ≠ 2 ∧ (11 : Nat) ≠ 3 ∧ (11 : Nat) ≠ 20 ∧ (11 : Nat) ≠ 21 by decide)]; simp [nwPS, sN, sI, sJ, sR, sP, up2]) | (simp [C, nwPS, sN, sI, sJ, sR, sP, up2])
    | 2, _, hv, h0, h1 =>
      have hne : i ≠ sN S 1 0 := Nat.ne_of_lt hv
      have hne' : ¬ i = S.1 1 0 := hne
      first | rfl | (simp only [C, nwPA_ne hne, nwPA_ne hne, nwPA_ne hne]; done) | (simp only [C, nwPA_ne hne, nwPA_ne hne, nwPA_ne hne]; simp [nwPS, sN, sI, sJ, sR, sP, up2, hne']) | (simp [C, nwPS, sN, sI, sJ, sR, sP, up2, hne'])
    | 3, _, hv, h0, h1 =>
      have hne : i ≠ sN S 1 0 := Nat.ne_of_lt hv
      have hne' : ¬ i = S.1 1 0 := hne
      first | rfl | (simp only [C]; done) | (simp only [C]; simp [nwPS, sN, sI, sJ, sR, sP, up2, hne']) | (simp [C, nwPS, sN, sI, sJ, sR, sP, up2, hne'])
    | 4, _, hv, h0, h1 =>
      have e2 : nwPA ad (sN S 1 0) q2 q3 q20 q21 2 (sN S 8 i) = ad 2 (sN S 8 i) := nwPA_ne (Nat.ne_of_lt (hW.compPart hv))
      have s8 : sN (nwPS S mk fa) 8 i = sN S 8 i := by simp [nwPS, sN, up2]
      first | rfl | (simp only [C, s8, e2]; done) | (simp only [C, s8, e2]; simp [nwPS, sN, sI, sJ, sR, sP, up2]) | (simp [C, nwPS, sN, sI, sJ, sR, sP, up2])
    | 5, _, hv, h0, h1 =>
      have s9 : sN (nwPS S mk fa) 9 i = sN S 9 i := by simp [nwPS, sN, up2]
      have t2 : sR (nwPS S mk fa) 2 i = sR S 2 i := by first | rfl | simp [nwPS, sR, up2]
      first | rfl | (simp only [C, t2, s9, nwPA_fun (show (1 : Nat) ≠ 2 ∧ (1 : Nat) ≠ 3 ∧ (1 : Nat) ≠ 20 ∧ (1 : Nat) ≠ 21 by decide), nwPA_rf (show (1 : Nat) ≠ 2 ∧ (1 : Nat) ≠ 3 ∧ (1 : Nat) ≠ 20 ∧ (1 : Nat) ≠ 21 by decide)]; done) | (simp only [C, t2, s9, nwPA_fun (show (1 : Nat) ≠ 2 ∧ (1 : Nat) ≠ 3 ∧ (1 : Nat) ≠ 20 ∧ (1 : Nat) ≠ 21 by decide), nwPA_rf (show (1 : Nat) ≠ 2 ∧ (1 : Nat) ≠ 3 ∧ (1 : Nat) ≠ 20 ∧ (1 : Nat) ≠ 21 by decide)]; simp [nwPS, sN, sI, sJ, sR, sP, up2]) | (simp [C, nwPS, sN, sI, sJ, sR, sP, up2])
    | 6, _, hv, h0, h1 =>
      first | rfl | (simp only [C]; done) | (simp only [C]; simp [nwPS, sN, sI, sJ, sR, sP, up2]) | (simp [C, nwPS, sN, sI, sJ, sR, sP, up2])
    | 7, _, hv, h0, h1 =>
      have e2 : nwPA ad (sN S 1 0) q2 q3 q20 q21 2 (sN S 6 i) = ad 2 (sN S 6 i) := nwPA_ne (Nat.ne_of_lt (hW.lotPart hv))
      have s6 : sN (nwPS S mk fa) 6 i = sN S 6 i := by simp [nwPS, sN, up2]
      first | rfl | (simp only [C, s6, e2, nwPA_fun (show (8 : Nat) ≠ 2 ∧ (8 : Nat) ≠ 3 ∧ (8 : Nat) ≠ 20 ∧ (8 : Nat) ≠ 21 by decide), nwPA_fun (show (9 : Nat) ≠ 2 ∧ (9 : Nat) ≠ 3 ∧ (9 : Nat) ≠ 20 ∧ (9 : Nat) ≠ 21 by decide), nwPA_fun (show (10 : Nat) ≠ 2 ∧ (10 : Nat) ≠ 3 ∧ (10 : Nat) ≠ 20 ∧ (10 : Nat) ≠ 21 by decide)]; done) | (simp only [C, s6, e2, nwPA_fun (show (8 : Nat) ≠ 2 ∧ (8 : Nat) ≠ 3 ∧ (8 : Nat) ≠ 20 ∧ (8 : Nat) ≠ 21 by decide), nwPA_fun (show (9 : Nat) ≠ 2 ∧ (9 : Nat) ≠ 3 ∧ (9 : Nat) ≠ 20 ∧ (9 : Nat) ≠ 21 by decide), nwPA_fun (show (10 : Nat) ≠ 2 ∧ (10 : Nat) ≠ 3 ∧ (10 : Nat) ≠ 20 ∧ (10 : Nat) ≠ 21 by decide)]; simp [nwPS, sN, sI, sJ, sR, sP, up2]) | (simp [C, nwPS, sN, sI, sJ, sR, sP, up2])
    | 8, _, hv, h0, h1 =>
      first | rfl | (simp only [C]; done) | (simp only [C]; simp [nwPS, sN, sI, sJ, sR, sP, up2]) | (simp [C, nwPS, sN, sI, sJ, sR, sP, up2])
    | 9, _, hv, h0, h1 =>
      first | rfl | (simp only [C]; done) | (simp only [C]; simp [nwPS, sN, sI, sJ, sR, sP, up2]) | (simp [C, nwPS, sN, sI, sJ, sR, sP, up2])
    | 10, _, hv, h0, h1 =>
      first | rfl | (simp only [C]; done) | (simp only [C]; simp [nwPS, sN, sI, sJ, sR, sP, up2]) | (simp [C, nwPS, sN, sI, sJ, sR, sP, up2])
    | 11, _, hv, h0, h1 =>
      have e2 : nwPA ad (sN S 1 0) q2 q3 q20 q21 2 (sN S 7 i) = ad 2 (sN S 7 i) := nwPA_ne (Nat.ne_of_lt (hW.ordPart hv))
      have s7 : sN (nwPS S mk fa) 7 i = sN S 7 i := by simp [nwPS, sN, up2]
      first | rfl | (simp only [C, s7, e2, nwPA_fun (show (12 : Nat) ≠ 2 ∧ (12 : Nat) ≠ 3 ∧ (12 : Nat) ≠ 20 ∧ (12 : Nat) ≠ 21 by decide), nwPA_fun (show (13 : Nat) ≠ 2 ∧ (13 : Nat) ≠ 3 ∧ (13 : Nat) ≠ 20 ∧ (13 : Nat) ≠ 21 by decide), nwPA_fun (show (22 : Nat) ≠ 2 ∧ (22 : Nat) ≠ 3 ∧ (22 : Nat) ≠ 20 ∧ (22 : Nat) ≠ 21 by decide)]; done) | (simp only [C, s7, e2, nwPA_fun (show (12 : Nat) ≠ 2 ∧ (12 : Nat) ≠ 3 ∧ (12 : Nat) ≠ 20 ∧ (12 : Nat) ≠ 21 by decide), nwPA_fun (show (13 : Nat) ≠ 2 ∧ (13 : Nat) ≠ 3 ∧ (13 : Nat) ≠ 20 ∧ (13 : Nat) ≠ 21 by decide), nwPA_fun (show (22 : Nat) ≠ 2 ∧ (22 : Nat) ≠ 3 ∧ (22 : Nat) ≠ 20 ∧ (22 : Nat) ≠ 21 by decide)]; simp [nwPS, sN, sI, sJ, sR, sP, up2]) | (simp [C, nwPS, sN, sI, sJ, sR, sP, up2])
    | 12, _, hv, h0, h1 =>
      have t3 : sR (nwPS S mk fa) 3 i = sR S 3 i := by first | rfl | simp [nwPS, sR, up2]
      have t4 : sR (nwPS S mk fa) 4 i = sR S 4 i := by first | rfl | simp [nwPS, sR, up2]
      first | rfl | (simp only [C, t4, t3, nwPA_rf (show (1 : Nat) ≠ 2 ∧ (1 : Nat) ≠ 3 ∧ (1 : Nat) ≠ 20 ∧ (1 : Nat) ≠ 21 by decide), nwPA_rf (show (7 : Nat) ≠ 2 ∧ (7 : Nat) ≠ 3 ∧ (7 : Nat) ≠ 20 ∧ (7 : Nat) ≠ 21 by decide)]; done) | (simp only [C, t4, t3, nwPA_rf (show (1 : Nat) ≠ 2 ∧ (1 : Nat) ≠ 3 ∧ (1 : Nat) ≠ 20 ∧ (1 : Nat) ≠ 21 by decide), nwPA_rf (show (7 : Nat) ≠ 2 ∧ (7 : Nat) ≠ 3 ∧ (7 : Nat) ≠ 20 ∧ (7 : Nat) ≠ 21 by decide)]; simp [nwPS, sN, sI, sJ, sR, sP, up2]) | (simp [C, nwPS, sN, sI, sJ, sR, sP, up2])
    | 13, _, hv, h0, h1 =>
      first | rfl | (simp only [C]; done) | (simp only [C]; simp [nwPS, sN, sI, sJ, sR, sP, up2]) | (simp [C, nwPS, sN, sI, sJ, sR, sP, up2])
    | 14, _, hv, h0, h1 =>
      first | rfl | (simp only [C]; done) | (simp only [C]; simp [nwPS, sN, sI, sJ, sR, sP, up2]) | (simp [C, nwPS, sN, sI, sJ, sR, sP, up2])
    | 15, _, hv, h0, h1 =>
      first | rfl | (simp only [C, nwPA_fun (show (1 : Nat) ≠ 2 ∧ (1 : Nat) ≠ 3 ∧ (1 : Nat) ≠ 20 ∧ (1 : Nat) ≠ 21 by decide)]; done) | (simp only [C, nwPA_fun (show (1 : Nat) ≠ 2 ∧ (1 : Nat) ≠ 3 ∧ (1 : Nat) ≠ 20 ∧ (1 : Nat) ≠ 21 by decide)]; simp [nwPS, sN, sI, sJ, sR, sP, up2]) | (simp [C, nwPS, sN, sI, sJ, sR, sP, up2])
    | 16, _, hv, h0, h1 => exact absurd ⟨rfl, hv⟩ h1
    | 17, _, hv, h0, h1 =>
      first | rfl | (simp only [C, nwPA_fun (show (6 : Nat) ≠ 2 ∧ (6 : Nat) ≠ 3 ∧ (6 : Nat) ≠ 20 ∧ (6 : Nat) ≠ 21 by decide)]; done) | (simp only [C, nwPA_fun (show (6 : Nat) ≠ 2 ∧ (6 : Nat) ≠ 3 ∧ (6 : Nat) ≠ 20 ∧ (6 : Nat) ≠ 21 by decide)]; simp [nwPS, sN, sI, sJ, sR, sP, up2]) | (simp [C, nwPS, sN, sI, sJ, sR, sP, up2])
    | 18, _, hv, h0, h1 =>
      first | rfl | (simp only [C, nwPA_fun (show (7 : Nat) ≠ 2 ∧ (7 : Nat) ≠ 3 ∧ (7 : Nat) ≠ 20 ∧ (7 : Nat) ≠ 21 by decide)]; done) | (simp only [C, nwPA_fun (show (7 : Nat) ≠ 2 ∧ (7 : Nat) ≠ 3 ∧ (7 : Nat) ≠ 20 ∧ (7 : Nat) ≠ 21 by decide)]; simp [nwPS, sN, sI, sJ, sR, sP, up2]) | (simp [C, nwPS, sN, sI, sJ, sR, sP, up2])
    | 19, _, hv, h0, h1 =>
      first | rfl | (simp only [C, nwPA_fun (show (11 : Nat) ≠ 2 ∧ (11 : Nat) ≠ 3 ∧ (11 : Nat) ≠ 20 ∧ (11 : Nat) ≠ 21 by decide)]; done) | (simp only [C, nwPA_fun (show (11 : Nat) ≠ 2 ∧ (11 : Nat) ≠ 3 ∧ (11 : Nat) ≠ 20 ∧ (11 : Nat) ≠ 21 by decide)]; simp [nwPS, sN, sI, sJ, sR, sP, up2]) | (simp [C, nwPS, sN, sI, sJ, sR, sP, up2])
    | 20, _, hv, h0, h1 =>
      have hne : i ≠ sN S 1 0 := Nat.ne_of_lt hv
      have hne' : ¬ i = S.1 1 0 := hne
      first | rfl | (simp only [C, nwPA_fun (show (4 : Nat) ≠ 2 ∧ (4 : Nat) ≠ 3 ∧ (4 : Nat) ≠ 20 ∧ (4 : Nat) ≠ 21 by decide)]; done) | (simp only [C, nwPA_fun (show (4 : Nat) ≠ 2 ∧ (4 : Nat) ≠ 3 ∧ (4 : Nat) ≠ 20 ∧ (4 : Nat) ≠ 21 by decide)]; simp [nwPS, sN, sI, sJ, sR, sP, up2, hne']) | (simp [C, nwPS, sN, sI, sJ, sR, sP, up2, hne'])
    | 21, _, hv, h0, h1 =>
      have hne : i ≠ sN S 1 0 := Nat.ne_of_lt hv
      have hne' : ¬ i = S.1 1 0 := hne
      first | rfl | (simp only [C, nwPA_fun (show (5 : Nat) ≠ 2 ∧ (5 : Nat) ≠ 3 ∧ (5 : Nat) ≠ 20 ∧ (5 : Nat) ≠ 21 by decide)]; done) | (simp only [C, nwPA_fun (show (5 : Nat) ≠ 2 ∧ (5 : Nat) ≠ 3 ∧ (5 : Nat) ≠ 20 ∧ (5 : Nat) ≠ 21 by decide)]; simp [nwPS, sN, sI, sJ, sR, sP, up2, hne']) | (simp [C, nwPS, sN, sI, sJ, sR, sP, up2, hne'])
    | 22, _, hv, h0, h1 =>
      first | rfl | (simp only [C]; done) | (simp only [C]; simp [nwPS, sN, sI, sJ, sR, sP, up2]) | (simp [C, nwPS, sN, sI, sJ, sR, sP, up2])
    | n + 23, hn, _, _, _ => exact absurd hn (by omega)
  rcases Nat.lt_or_ge k 23 with hk | hk
  · exact key k hk hv h0 h1
  · exact False.elim (by
      obtain ⟨n, rfl⟩ : ∃ n, k = n + 23 := ⟨k - 23, by omega⟩
      exact hv)
theorem Rep.newnwPS {tA : Nat → ClassId} {S : St} {ad : Nat → Nat → Nat} {L L' : List Nat} {f f' : Nat → va_E} (h : Rep tA S ad L f) (hW : WT S) {mk fa : Int32} {q2 q3 q20 q21 : Nat} (hL : ∀ a, a ∈ L → a ∈ L') (h2 : f' q2 = .inr (10, [.int (nI (sN S 1 0)), .int mk, .int fa, .ref q20, .ref q21, .ref q3, .int 0, .int 0]) ∧ q2 ∉ L ∧ q2 ∈ L') (h3 : f' q3 = .inr (2, [.int 100, .int 10, .int 0, .int 0, .int 0]) ∧ q3 ∉ L ∧ q3 ∈ L') (h20 : f' q20 = .inl (tA 6, 4, .inr (.inr (.inr (.inr (fun _ => none))))) ∧ q20 ∉ L ∧ q20 ∈ L') (h21 : f' q21 = .inl (tA 7, 3, .inr (.inr (.inr (.inr (fun _ => none))))) ∧ q21 ∉ L ∧ q21 ∈ L') (n2_3 : q2 ≠ q3) (n2_20 : q2 ≠ q20) (n2_21 : q2 ≠ q21) (n3_20 : q3 ≠ q20) (n3_21 : q3 ≠ q21) (n20_21 : q20 ≠ q21)
    (hf : ∀ a, a ∈ L → a ≠ ad 0 0 → a ≠ ad 16 0 → f' a = f a) (hx : f' (ad 0 0) = .inr (12, [.ref (ad 15 0), .ref (ad 16 0), .ref (ad 17 0), .ref (ad 18 0), .ref (ad 19 0), .ref (ad 14 0), .int (nI (sN S 0 0)), .int (nI (sN S 1 0 + 1)), .int (nI (sN S 2 0)), .int (sI S 1 0), .int (nI (sN S 3 0)), .int (sI S 2 0), .long (sJ S 1 0), .long (sJ S 2 0)])) (ha : f' (ad 16 0) = .inl (tA 2, 12, .inr (.inr (.inr (.inr (va_up (fun j => if j < sN S 1 0 then some (ad 2 j) else none) (sN S 1 0) (some q2))))))) : Rep tA (nwPS S mk fa) (nwPA ad (sN S 1 0) q2 q3 q20 q21) L' f' := by
  have a2 : nwPA ad (sN S 1 0) q2 q3 q20 q21 2 (sN S 1 0) = q2 := by simp [nwPA]
  have a3 : nwPA ad (sN S 1 0) q2 q3 q20 q21 3 (sN S 1 0) = q3 := by simp [nwPA]
  have a20 : nwPA ad (sN S 1 0) q2 q3 q20 q21 20 (sN S 1 0) = q20 := by simp [nwPA]
  have a21 : nwPA ad (sN S 1 0) q2 q3 q20 q21 21 (sN S 1 0) = q21 := by simp [nwPA]
  have nv : ∀ k, (k = 2 ∨ k = 3 ∨ k = 20 ∨ k = 21) → ¬ V S k (sN S 1 0) := by
    rintro k (rfl | rfl | rfl | rfl) hv <;> exact absurd hv (Nat.lt_irrefl _)
  have old : ∀ k i, V S k i → nwPA ad (sN S 1 0) q2 q3 q20 q21 k i = ad k i := fun k i hv => nwPA_old (fun e => by
    subst e
    have key : ∀ z, (z = k ∧ (z = 2 ∨ z = 3 ∨ z = 20 ∨ z = 21)) → False := fun z q => nv z q.2 (q.1 ▸ hv)
    refine ⟨fun z => key k ⟨rfl, Or.inl z⟩, fun z => key k ⟨rfl, Or.inr (Or.inl z)⟩, fun z => key k ⟨rfl, Or.inr (Or.inr (Or.inl z))⟩, fun z => key k ⟨rfl, Or.inr (Or.inr (Or.inr (z)))⟩⟩)
  have one : ∀ k i, V (nwPS S mk fa) k i → ¬ V S k i → i = sN S 1 0 ∧ (k = 2 ∨ k = 3 ∨ k = 20 ∨ k = 21) := fun k i hv hn => (nwPS_V hv).resolve_left hn
  refine h.grow hL (fun k i hv => ?_) (fun k i k' i' hv hv' hn hn' e => ?_)
  · rcases nwPS_V hv with hv0 | ⟨rfl, hk⟩
    · refine Or.inl ⟨hv0, old k i hv0, ?_⟩
      by_cases k0 : k = 0 ∧ i = 0
      · obtain ⟨rfl, ki⟩ := k0
        obtain rfl := ki
        rw [hx]
        simp only [C, nwPA_fun (show (14 : Nat) ≠ 2 ∧ (14 : Nat) ≠ 3 ∧ (14 : Nat) ≠ 20 ∧ (14 : Nat) ≠ 21 by decide), nwPA_fun (show (15 : Nat) ≠ 2 ∧ (15 : Nat) ≠ 3 ∧ (15 : Nat) ≠ 20 ∧ (15 : Nat) ≠ 21 by decide), nwPA_fun (show (16 : Nat) ≠ 2 ∧ (16 : Nat) ≠ 3 ∧ (16 : Nat) ≠ 20 ∧ (16 : Nat) ≠ 21 by decide), nwPA_fun (show (17 : Nat) ≠ 2 ∧ (17 : Nat) ≠ 3 ∧ (17 : Nat) ≠ 20 ∧ (17 : Nat) ≠ 21 by decide), nwPA_fun (show (18 : Nat) ≠ 2 ∧ (18 : Nat) ≠ 3 ∧ (18 : Nat) ≠ 20 ∧ (18 : Nat) ≠ 21 by decide), nwPA_fun (show (19 : Nat) ≠ 2 ∧ (19 : Nat) ≠ 3 ∧ (19 : Nat) ≠ 20 ∧ (19 : Nat) ≠ 21 by decide)]
        simp [nwPS, sN, sI, sJ, sR, sP, up2, rf_none, nI_0]
      · by_cases k18 : k = 16 ∧ i = 0
        · obtain ⟨rfl, ki⟩ := k18
          obtain rfl := ki
          rw [ha]
          have e1 : sN (nwPS S mk fa) 1 0 = sN S 1 0 + 1 := by simp [nwPS, sN, up2]
          show (Sum.inl _ : va_E) = Sum.inl _
          congr 7
          funext j
          show va_up _ _ _ j = (if j < sN (nwPS S mk fa) 1 0 then some (nwPA ad (sN S 1 0) q2 q3 q20 q21 2 (j)) else none)
          rw [e1]
          by_cases hj : j = sN S 1 0
          · rw [hj, va_up_self, if_pos (Nat.lt_succ_self _), a2]
          · rw [va_up_ne _ _ hj, nwPA_ne hj]
            by_cases hl : j < sN S 1 0
            · rw [if_pos hl, if_pos (by omega)]
            · rw [if_neg hl, if_neg (by omega)]
        · rw [hf _ (h.1 k i hv0).1 (h.ne hv0 (show V S 0 0 from rfl) k0) (h.ne hv0 (show V S 16 0 from rfl) k18), (h.1 k i hv0).2, nwPS_C hW hv0 k0 k18]
    · refine Or.inr ⟨nv k hk, ?_⟩
      rcases hk with rfl | rfl | rfl | rfl
      · rw [a2]
        refine ⟨h2.2.2, h2.2.1, h2.1.trans ?_⟩
        first | (simp only [C, a3, a20, a21]; simp [nwPS, sN, sI, sJ, sR, sP, up2, rf_none, nI_0]; done) | (simp [C, nwPS, sN, sI, sJ, sR, sP, up2, rf_none, nI_0]; done) | (simp only [C]; simp [nwPS, sN, sI, sJ, sR, sP, up2, rf_none, nI_0]; done) | (simp [C, nwPS, sN, sI, sJ, sR, sP, up2, rf_none, nI_0, rf])
      · rw [a3]
        refine ⟨h3.2.2, h3.2.1, h3.1.trans ?_⟩
        first | (simp only [C]; simp [nwPS, sN, sI, sJ, sR, sP, up2, rf_none, nI_0]; done) | (simp [C, nwPS, sN, sI, sJ, sR, sP, up2, rf_none, nI_0]; done) | (simp only [C]; simp [nwPS, sN, sI, sJ, sR, sP, up2, rf_none, nI_0]; done) | (simp [C, nwPS, sN, sI, sJ, sR, sP, up2, rf_none, nI_0, rf])
      · rw [a20]
        refine ⟨h20.2.2, h20.2.1, h20.1.trans ?_⟩
        first | (simp only [C, nwPA_fun (show (4 : Nat) ≠ 2 ∧ (4 : Nat) ≠ 3 ∧ (4 : Nat) ≠ 20 ∧ (4 : Nat) ≠ 21 by decide)]; simp [nwPS, sN, sI, sJ, sR, sP, up2, rf_none, nI_0]; done) | (simp [C, nwPS, sN, sI, sJ, sR, sP, up2, rf_none, nI_0]; done) | (simp only [C]; simp [nwPS, sN, sI, sJ, sR, sP, up2, rf_none, nI_0]; done) | (simp [C, nwPS, sN, sI, sJ, sR, sP, up2, rf_none, nI_0, rf])
      · rw [a21]
        refine ⟨h21.2.2, h21.2.1, h21.1.trans ?_⟩
        first | (simp only [C, nwPA_fun (show (5 : Nat) ≠ 2 ∧ (5 : Nat) ≠ 3 ∧ (5 : Nat) ≠ 20 ∧ (5 : Nat) ≠ 21 by decide)]; simp [nwPS, sN, sI, sJ, sR, sP, up2, rf_none, nI_0]; done) | (simp [C, nwPS, sN, sI, sJ, sR, sP, up2, rf_none, nI_0]; done) | (simp only [C]; simp [nwPS, sN, sI, sJ, sR, sP, up2, rf_none, nI_0]; done) | (simp [C, nwPS, sN, sI, sJ, sR, sP, up2, rf_none, nI_0, rf])
  · obtain ⟨rfl, hk⟩ := one k i hv hn
    obtain ⟨rfl, hk'⟩ := one k' i' hv' hn'
    refine ⟨?_, rfl⟩
    rcases hk with rfl | rfl | rfl | rfl <;> rcases hk' with rfl | rfl | rfl | rfl <;> first | rfl | (simp only [a2, a3, a20, a21] at e; first | exact absurd e (by assumption) | exact absurd e.symm (by assumption))
/-- the state with one component more -/
def nwCS (S : St) (p c : Nat) (pc op : Int32) : St :=
  (up2 (up2 S.1 4 (p) (sN S 4 p + 1)) 8 (4 * p + sN S 4 p) (c),
   up2 (up2 S.2.1 30 (4 * p + sN S 4 p) (pc)) 31 (4 * p + sN S 4 p) (op),
   S.2.2.1,
   S.2.2.2.1, S.2.2.2.2)
def nwCA (ad : Nat → Nat → Nat) (n q4 : Nat) : Nat → Nat → Nat := fun k i => if i = n ∧ k = 4 then q4 else ad k i
theorem nwCA_old {ad : Nat → Nat → Nat} {n q4 k i : Nat} (h : i = n → k ≠ 4) : nwCA ad n q4 k i = ad k i := by
  unfold nwCA
  by_cases e : i = n
  · have := h e
    simp [e, this]
  · simp [e]
theorem nwCA_fun {ad : Nat → Nat → Nat} {n q4 k : Nat} (h : k ≠ 4) : nwCA ad n q4 k = ad k := funext (fun _ => nwCA_old (fun _ => h))
theorem nwCA_rf {ad : Nat → Nat → Nat} {n q4 k : Nat} {o : Option Nat} (h : k ≠ 4) : rf (nwCA ad n q4) k o = rf ad k o := by unfold rf; rw [nwCA_fun h]
theorem nwCA_ne {ad : Nat → Nat → Nat} {n q4 k i : Nat} (h : i ≠ n) : nwCA ad n q4 k i = ad k i := nwCA_old (fun e => absurd e h)
theorem nwCS_V {S : St} {p c : Nat} {pc op : Int32} (hp : p < sN S 1 0) (hcn : sN S 4 p < 4) {k i : Nat} (h : V (nwCS S p c pc op) k i) : V S k i ∨ (i = 4 * p + sN S 4 p ∧ (k = 4)) := by
  have key : ∀ n : Nat, n < 23 → V (nwCS S p c pc op) n i → V S n i ∨ (i = 4 * p + sN S 4 p ∧ (n = 4)) := by
    intro n hn hv
    match n, hn, hv with
    | 0, _, hv => exact Or.inl hv
    | 1, _, hv => exact Or.inl (by first | exact hv | simpa [V, nwCS, sN, up2] using hv)
    | 2, _, hv => exact Or.inl (by first | exact hv | simpa [V, nwCS, sN, up2] using hv)
    | 3, _, hv => exact Or.inl (by first | exact hv | simpa [V, nwCS, sN, up2] using hv)
    | 4, _, hv =>
      have hv : i / 4 < sN S 1 0 ∧ i % 4 < (if i / 4 = p then sN S 4 p + 1 else sN S 4 (i / 4)) := by simpa [V, nwCS, sN, up2] using hv
      by_cases e : i / 4 = p
      · rw [if_pos e] at hv
        rcases Nat.lt_or_ge (i % 4) (sN S 4 p) with z | z
        · exact Or.inl ⟨hv.1, by rw [e]; exact z⟩
        · exact Or.inr ⟨by omega, rfl⟩
      · rw [if_neg e] at hv; exact Or.inl hv
    | 5, _, hv => exact Or.inl (by first | exact hv | simpa [V, nwCS, sN, up2] using hv)
    | 6, _, hv => exact Or.inl hv
    | 7, _, hv => exact Or.inl (by first | exact hv | simpa [V, nwCS, sN, up2] using hv)
    | 8, _, hv => exact Or.inl (by first | exact hv | simpa [V, nwCS, sN, up2] using hv)
    | 9, _, hv => exact Or.inl (by first | exact hv | simpa [V, nwCS, sN, up2] using hv)
    | 10, _, hv => exact Or.inl (by first | exact hv | simpa [V, nwCS, sN, up2] using hv)
    | 11, _, hv => exact Or.inl (by first | exact hv | simpa [V, nwCS, sN, up2] using hv)
    | 12, _, hv => exact Or.inl (by first | exact hv | simpa [V, nwCS, sN, up2] using hv)
    | 13, _, hv => exact Or.inl (by first | exact hv | simpa [V, nwCS, sN, up2] using hv)
    | 14, _, hv => exact Or.inl hv
    | 15, _, hv => exact Or.inl hv
    | 16, _, hv => exact Or.inl hv
    | 17, _, hv => exact Or.inl hv
    | 18, _, hv => exact Or.inl hv
    | 19, _, hv => exact Or.inl hv
    | 20, _, hv => exact Or.inl (by first | exact hv | simpa [V, nwCS, sN, up2] using hv)
    | 21, _, hv => exact Or.inl (by first | exact hv | simpa [V, nwCS, sN, up2] using hv)
    | 22, _, hv => exact Or.inl (by first | exact hv | simpa [V, nwCS, sN, up2] using hv)
    | n + 23, hn, _ => exact absurd hn (by omega)
  rcases Nat.lt_or_ge k 23 with hk | hk
  · exact key k hk h
  · exact False.elim (by
      obtain ⟨n, rfl⟩ : ∃ n, k = n + 23 := ⟨k - 23, by omega⟩
      exact h)
theorem nwCS_C {tA : Nat → ClassId} {S : St} {ad : Nat → Nat → Nat} {p c : Nat} {pc op : Int32} {q4 : Nat} (hW : WT S) (hp : p < sN S 1 0) (hcn : sN S 4 p < 4) {k i : Nat} (hv : V S k i) (h0 : ¬ (k = 2 ∧ i = p)) (h1 : ¬ (k = 20 ∧ i = p)) : C tA (nwCS S p c pc op) (nwCA ad (4 * p + sN S 4 p) q4) k i = C tA S ad k i := by
  have key : ∀ n : Nat, n < 23 → V S n i → ¬ (n = 2 ∧ i = p) → ¬ (n = 20 ∧ i = p) → C tA (nwCS S p c pc op) (nwCA ad (4 * p + sN S 4 p) q4) n i = C tA S ad n i := by
    intro n hn hv h0 h1
    match n, hn, hv, h0, h1 with
    | 0, _, hv, h0, h1 =>
      first | rfl | (simp only [C, nwCA_fun (show (15 : Nat) ≠ 4 by decide), nwCA_fun (show (16 : Nat) ≠ 4 by decide), nwCA_fun (show (17 : Nat) ≠ 4 by decide), nwCA_fun (show (18 : Nat) ≠ 4 by decide), nwCA_fun (show (19 : Nat) ≠ 4 by decide), nwCA_fun (show (14 : Nat) ≠ 4 by decide)]; done) | (simp only [C, nwCA_fun (show (15 : Nat) ≠ 4 by decide), nwCA_fun (show (16 : Nat) ≠ 4 by decide), nwCA_fun (show (17 : Nat) ≠ 4 by decide), nwCA_fun (show (18 : Nat) ≠ 4 by decide), nwCA_fun (show (19 : Nat) ≠ 4 by decide), nwCA_fun (show (14 : Nat) ≠ 4 by decide)]; simp [nwCS, sN, sI, sJ, sR, sP, up2]) | (simp [C, nwCS, sN, sI, sJ, sR, sP, up2])
    | 1, _, hv, h0, h1 =>
      have t1 : sR (nwCS S p c pc op) 1 i = sR S 1 i := by first | rfl | simp [nwCS, sR, up2]
      first | rfl | (simp only [C, t1, nwCA_rf (show (11 : Nat) ≠ 4 by decide)]; done) | (simp only [C, t1, nwCA_rf (show (11 : Nat) ≠ 4 by decide)]; simp [nwCS, sN, sI, sJ, sR, sP, up2]) | (simp [C, nwCS, sN, sI, sJ, sR, sP, up2])
    | 2, _, hv, h0, h1 =>
      have hnp : ¬ i = p := fun z => h0 ⟨rfl, z⟩
      first | rfl | (simp only [C, nwCA_fun (show (20 : Nat) ≠ 4 by decide), nwCA_fun (show (21 : Nat) ≠ 4 by decide), nwCA_fun (show (3 : Nat) ≠ 4 by decide)]; done) | (simp only [C, nwCA_fun (show (20 : Nat) ≠ 4 by decide), nwCA_fun (show (21 : Nat) ≠ 4 by decide), nwCA_fun (show (3 : Nat) ≠ 4 by decide)]; simp [nwCS, sN, sI, sJ, sR, sP, up2, hnp]) | (simp [C, nwCS, sN, sI, sJ, sR, sP, up2, hnp])
    | 3, _, hv, h0, h1 =>
      first | rfl | (simp only [C]; done) | (simp only [C]; simp [nwCS, sN, sI, sJ, sR, sP, up2]) | (simp [C, nwCS, sN, sI, sJ, sR, sP, up2])
    | 4, _, hv, h0, h1 =>
      have hne : i ≠ 4 * p + sN S 4 p := (by rintro rfl; have h9 := hv.2; rw [show (4 * p + sN S 4 p) / 4 = p by omega, show (4 * p + sN S 4 p) % 4 = sN S 4 p by omega] at h9; omega)
      have hne' : ¬ i = 4 * p + S.1 4 p := hne
      have s8 : sN (nwCS S p c pc op) 8 i = sN S 8 i := by simp [nwCS, sN, up2, hne']
      first | rfl | (simp only [C, s8, nwCA_fun (show (2 : Nat) ≠ 4 by decide)]; done) | (simp only [C, s8, nwCA_fun (show (2 : Nat) ≠ 4 by decide)]; simp [nwCS, sN, sI, sJ, sR, sP, up2, hne']) | (simp [C, nwCS, sN, sI, sJ, sR, sP, up2, hne'])
    | 5, _, hv, h0, h1 =>
      have s9 : sN (nwCS S p c pc op) 9 i = sN S 9 i := by simp [nwCS, sN, up2]
      have t2 : sR (nwCS S p c pc op) 2 i = sR S 2 i := by first | rfl | simp [nwCS, sR, up2]
      first | rfl | (simp only [C, t2, s9, nwCA_fun (show (1 : Nat) ≠ 4 by decide), nwCA_rf (show (1 : Nat) ≠ 4 by decide)]; done) | (simp only [C, t2, s9, nwCA_fun (show (1 : Nat) ≠ 4 by decide), nwCA_rf (show (1 : Nat) ≠ 4 by decide)]; simp [nwCS, sN, sI, sJ, sR, sP, up2]) | (simp [C, nwCS, sN, sI, sJ, sR, sP, up2])
    | 6, _, hv, h0, h1 =>
      first | rfl | (simp only [C]; done) | (simp only [C]; simp [nwCS, sN, sI, sJ, sR, sP, up2]) | (simp [C, nwCS, sN, sI, sJ, sR, sP, up2])
    | 7, _, hv, h0, h1 =>
      have s6 : sN (nwCS S p c pc op) 6 i = sN S 6 i := by simp [nwCS, sN, up2]
      first | rfl | (simp only [C, s6, nwCA_fun (show (2 : Nat) ≠ 4 by decide), nwCA_fun (show (8 : Nat) ≠ 4 by decide), nwCA_fun (show (9 : Nat) ≠ 4 by decide), nwCA_fun (show (10 : Nat) ≠ 4 by decide)]; done) | (simp only [C, s6, nwCA_fun (show (2 : Nat) ≠ 4 by decide), nwCA_fun (show (8 : Nat) ≠ 4 by decide), nwCA_fun (show (9 : Nat) ≠ 4 by decide), nwCA_fun (show (10 : Nat) ≠ 4 by decide)]; simp [nwCS, sN, sI, sJ, sR, sP, up2]) | (simp [C, nwCS, sN, sI, sJ, sR, sP, up2])
    | 8, _, hv, h0, h1 =>
      first | rfl | (simp only [C]; done) | (simp only [C]; simp [nwCS, sN, sI, sJ, sR, sP, up2]) | (simp [C, nwCS, sN, sI, sJ, sR, sP, up2])
    | 9, _, hv, h0, h1 =>
      first | rfl | (simp only [C]; done) | (simp only [C]; simp [nwCS, sN, sI, sJ, sR, sP, up2]) | (simp [C, nwCS, sN, sI, sJ, sR, sP, up2])
    | 10, _, hv, h0, h1 =>
      first | rfl | (simp only [C]; done) | (simp only [C]; simp [nwCS, sN, sI, sJ, sR, sP, up2]) | (simp [C, nwCS, sN, sI, sJ, sR, sP, up2])
    | 11, _, hv, h0, h1 =>
      have s7 : sN (nwCS S p c pc op) 7 i = sN S 7 i := by simp [nwCS, sN, up2]
      first | rfl | (simp only [C, s7, nwCA_fun (show (2 : Nat) ≠ 4 by decide), nwCA_fun (show (12 : Nat) ≠ 4 by decide), nwCA_fun (show (13 : Nat) ≠ 4 by decide), nwCA_fun (show (22 : Nat) ≠ 4 by decide)]; done) | (simp only [C, s7, nwCA_fun (show (2 : Nat) ≠ 4 by decide), nwCA_fun (show (12 : Nat) ≠ 4 by decide), nwCA_fun (show (13 : Nat) ≠ 4 by decide), nwCA_fun (show (22 : Nat) ≠ 4 by decide)]; simp [nwCS, sN, sI, sJ, sR, sP, up2]) | (simp [C, nwCS, sN, sI, sJ, sR, sP, up2])
    | 12, _, hv, h0, h1 =>
      have t3 : sR (nwCS S p c pc op) 3 i = sR S 3 i := by first | rfl | simp [nwCS, sR, up2]
      have t4 : sR (nwCS S p c pc op) 4 i = sR S 4 i := by first | rfl | simp [nwCS, sR, up2]
      first | rfl | (simp only [C, t4, t3, nwCA_rf (show (1 : Nat) ≠ 4 by decide), nwCA_rf (show (7 : Nat) ≠ 4 by decide)]; done) | (simp only [C, t4, t3, nwCA_rf (show (1 : Nat) ≠ 4 by decide), nwCA_rf (show (7 : Nat) ≠ 4 by decide)]; simp [nwCS, sN, sI, sJ, sR, sP, up2]) | (simp [C, nwCS, sN, sI, sJ, sR, sP, up2])
    | 13, _, hv, h0, h1 =>
      first | rfl | (simp only [C]; done) | (simp only [C]; simp [nwCS, sN, sI, sJ, sR, sP, up2]) | (simp [C, nwCS, sN, sI, sJ, sR, sP, up2])
    | 14, _, hv, h0, h1 =>
      first | rfl | (simp only [C]; done) | (simp only [C]; simp [nwCS, sN, sI, sJ, sR, sP, up2]) | (simp [C, nwCS, sN, sI, sJ, sR, sP, up2])
    | 15, _, hv, h0, h1 =>
      first | rfl | (simp only [C, nwCA_fun (show (1 : Nat) ≠ 4 by decide)]; done) | (simp only [C, nwCA_fun (show (1 : Nat) ≠ 4 by decide)]; simp [nwCS, sN, sI, sJ, sR, sP, up2]) | (simp [C, nwCS, sN, sI, sJ, sR, sP, up2])
    | 16, _, hv, h0, h1 =>
      first | rfl | (simp only [C, nwCA_fun (show (2 : Nat) ≠ 4 by decide)]; done) | (simp only [C, nwCA_fun (show (2 : Nat) ≠ 4 by decide)]; simp [nwCS, sN, sI, sJ, sR, sP, up2]) | (simp [C, nwCS, sN, sI, sJ, sR, sP, up2])
    | 17, _, hv, h0, h1 =>
      first | rfl | (simp only [C, nwCA_fun (show (6 : Nat) ≠ 4 by decide)]; done) | (simp only [C, nwCA_fun (show (6 : Nat) ≠ 4 by decide)]; simp [nwCS, sN, sI, sJ, sR, sP, up2]) | (simp [C, nwCS, sN, sI, sJ, sR, sP, up2])
    | 18, _, hv, h0, h1 =>
      first | rfl | (simp only [C, nwCA_fun (show (7 : Nat) ≠ 4 by decide)]; done) | (simp only [C, nwCA_fun (show (7 : Nat) ≠ 4 by decide)]; simp [nwCS, sN, sI, sJ, sR, sP, up2]) | (simp [C, nwCS, sN, sI, sJ, sR, sP, up2])
    | 19, _, hv, h0, h1 =>
      first | rfl | (simp only [C, nwCA_fun (show (11 : Nat) ≠ 4 by decide)]; done) | (simp only [C, nwCA_fun (show (11 : Nat) ≠ 4 by decide)]; simp [nwCS, sN, sI, sJ, sR, sP, up2]) | (simp [C, nwCS, sN, sI, sJ, sR, sP, up2])
    | 20, _, hv, h0, h1 =>
      have hnp : ¬ i = p := fun z => h1 ⟨rfl, z⟩
      have e4 : ∀ j, j < sN S 4 i → nwCA ad (4 * p + sN S 4 p) q4 4 (4 * i + j) = ad 4 (4 * i + j) := fun j hj => nwCA_ne (by have := hW.nC hv; have := hcn; have := hnp; omega)
      show (Sum.inl _ : va_E) = Sum.inl _
      have sc : sN (nwCS S p c pc op) 4 i = sN S 4 i := by simp [nwCS, sN, up2, hnp]
      congr 7
      funext j
      rw [sc]
      by_cases hj : j < sN S 4 i
      · rw [if_pos hj, if_pos hj, e4 j hj]
      · rw [if_neg hj, if_neg hj]
    | 21, _, hv, h0, h1 =>
      first | rfl | (simp only [C, nwCA_fun (show (5 : Nat) ≠ 4 by decide)]; done) | (simp only [C, nwCA_fun (show (5 : Nat) ≠ 4 by decide)]; simp [nwCS, sN, sI, sJ, sR, sP, up2]) | (simp [C, nwCS, sN, sI, sJ, sR, sP, up2])
    | 22, _, hv, h0, h1 =>
      first | rfl | (simp only [C]; done) | (simp only [C]; simp [nwCS, sN, sI, sJ, sR, sP, up2]) | (simp [C, nwCS, sN, sI, sJ, sR, sP, up2])
    | n + 23, hn, _, _, _ => exact absurd hn (by omega)
  rcases Nat.lt_or_ge k 23 with hk | hk
  · exact key k hk hv h0 h1
  · exact False.elim (by
      obtain ⟨n, rfl⟩ : ∃ n, k = n + 23 := ⟨k - 23, by omega⟩
      exact hv)
theorem Rep.newnwCS {tA : Nat → ClassId} {S : St} {ad : Nat → Nat → Nat} {L L' : List Nat} {f f' : Nat → va_E} (h : Rep tA S ad L f) (hW : WT S) {p c : Nat} {pc op : Int32} {q4 : Nat} (hp : p < sN S 1 0) (hcn : sN S 4 p < 4) (hL : ∀ a, a ∈ L → a ∈ L') (h4 : f' q4 = .inr (3, [.ref (ad 2 c), .int pc, .int op]) ∧ q4 ∉ L ∧ q4 ∈ L') 
    (hf : ∀ a, a ∈ L → a ≠ ad 2 p → a ≠ ad 20 p → f' a = f a) (hx : f' (ad 2 p) = .inr (10, [.int (nI p), .int (sI S 20 p), .int (sI S 21 p), .ref (ad 20 p), .ref (ad 21 p), .ref (ad 3 p), .int (nI (sN S 4 p + 1)), .int (nI (sN S 5 p))])) (ha : f' (ad 20 p) = .inl (tA 6, 4, .inr (.inr (.inr (.inr (va_up (fun j => if j < sN S 4 p then some (ad 4 (4 * p + j)) else none) (sN S 4 p) (some q4))))))) : Rep tA (nwCS S p c pc op) (nwCA ad (4 * p + sN S 4 p) q4) L' f' := by
  have a4 : nwCA ad (4 * p + sN S 4 p) q4 4 (4 * p + sN S 4 p) = q4 := by simp [nwCA]
  have nv : ∀ k, (k = 4) → ¬ V S k (4 * p + sN S 4 p) := by
    rintro k (rfl) hv <;> (have h9 := hv.2; rw [show (4 * p + sN S 4 p) / 4 = p by omega, show (4 * p + sN S 4 p) % 4 = sN S 4 p by omega] at h9; omega)
  have old : ∀ k i, V S k i → nwCA ad (4 * p + sN S 4 p) q4 k i = ad k i := fun k i hv => nwCA_old (fun e => by
    subst e
    have key : ∀ z, (z = k ∧ (z = 4)) → False := fun z q => nv z q.2 (q.1 ▸ hv)
    exact fun z => key k ⟨rfl, z⟩)
  have one : ∀ k i, V (nwCS S p c pc op) k i → ¬ V S k i → i = 4 * p + sN S 4 p ∧ (k = 4) := fun k i hv hn => (nwCS_V hp hcn hv).resolve_left hn
  refine h.grow hL (fun k i hv => ?_) (fun k i k' i' hv hv' hn hn' e => ?_)
  · rcases nwCS_V hp hcn hv with hv0 | ⟨rfl, hk⟩
    · refine Or.inl ⟨hv0, old k i hv0, ?_⟩
      by_cases k0 : k = 2 ∧ i = p
      · obtain ⟨rfl, ki⟩ := k0
        subst i
        rw [hx]
        simp only [C, nwCA_fun (show (3 : Nat) ≠ 4 by decide), nwCA_fun (show (20 : Nat) ≠ 4 by decide), nwCA_fun (show (21 : Nat) ≠ 4 by decide)]
        simp [nwCS, sN, sI, sJ, sR, sP, up2, rf_none, nI_0]
      · by_cases k18 : k = 20 ∧ i = p
        · obtain ⟨rfl, ki⟩ := k18
          subst i
          rw [ha]
          have e1 : sN (nwCS S p c pc op) 4 p = sN S 4 p + 1 := by simp [nwCS, sN, up2]
          show (Sum.inl _ : va_E) = Sum.inl _
          congr 7
          funext j
          show va_up _ _ _ j = (if j < sN (nwCS S p c pc op) 4 p then some (nwCA ad (4 * p + sN S 4 p) q4 4 (4 * p + j)) else none)
          rw [e1]
          by_cases hj : j = sN S 4 p
          · rw [hj, va_up_self, if_pos (Nat.lt_succ_self _), a4]
          · rw [va_up_ne _ _ hj, nwCA_ne (by omega)]
            by_cases hl : j < sN S 4 p
            · rw [if_pos hl, if_pos (by omega)]
            · rw [if_neg hl, if_neg (by omega)]
        · rw [hf _ (h.1 k i hv0).1 (h.ne hv0 (show V S 2 p from hp) k0) (h.ne hv0 (show V S 20 p from hp) k18), (h.1 k i hv0).2, nwCS_C hW hp hcn hv0 k0 k18]
    · refine Or.inr ⟨nv k hk, ?_⟩
      rcases hk with rfl
      · rw [a4]
        refine ⟨h4.2.2, h4.2.1, h4.1.trans ?_⟩
        first | (simp only [C, nwCA_fun (show (2 : Nat) ≠ 4 by decide)]; simp [nwCS, sN, sI, sJ, sR, sP, up2, rf_none, nI_0]; done) | (simp [C, nwCS, sN, sI, sJ, sR, sP, up2, rf_none, nI_0]; done) | (simp only [C]; simp [nwCS, sN, sI, sJ, sR, sP, up2, rf_none, nI_0]; done) | (simp [C, nwCS, sN, sI, sJ, sR, sP, up2, rf_none, nI_0, rf])
  · obtain ⟨rfl, hk⟩ := one k i hv hn
    obtain ⟨rfl, hk'⟩ := one k' i' hv' hn'
    refine ⟨?_, rfl⟩
    rcases hk with rfl <;> rcases hk' with rfl <;> first | rfl | (simp only [a4] at e; first | exact absurd e (by assumption) | exact absurd e.symm (by assumption))
/-- the state with one operation more -/
def nwWS (S : St) (p m : Nat) (al : Option Nat) (ti : Int32) : St :=
  (up2 (up2 S.1 5 (p) (sN S 5 p + 1)) 9 (4 * p + sN S 5 p) (m),
   up2 S.2.1 32 (4 * p + sN S 5 p) (ti),
   S.2.2.1,
   up2 S.2.2.2.1 2 (4 * p + sN S 5 p) (al), S.2.2.2.2)
def nwWA (ad : Nat → Nat → Nat) (n q5 : Nat) : Nat → Nat → Nat := fun k i => if i = n ∧ k = 5 then q5 else ad k i
theorem nwWA_old {ad : Nat → Nat → Nat} {n q5 k i : Nat} (h : i = n → k ≠ 5) : nwWA ad n q5 k i = ad k i := by
  unfold nwWA
  by_cases e : i = n
  · have := h e
    simp [e, this]
  · simp [e]
theorem nwWA_fun {ad : Nat → Nat → Nat} {n q5 k : Nat} (h : k ≠ 5) : nwWA ad n q5 k = ad k := funext (fun _ => nwWA_old (fun _ => h))
theorem nwWA_rf {ad : Nat → Nat → Nat} {n q5 k : Nat} {o : Option Nat} (h : k ≠ 5) : rf (nwWA ad n q5) k o = rf ad k o := by unfold rf; rw [nwWA_fun h]
theorem nwWA_ne {ad : Nat → Nat → Nat} {n q5 k i : Nat} (h : i ≠ n) : nwWA ad n q5 k i = ad k i := nwWA_old (fun e => absurd e h)
theorem nwWS_V {S : St} {p m : Nat} {al : Option Nat} {ti : Int32} (hp : p < sN S 1 0) (hcn : sN S 5 p < 3) {k i : Nat} (h : V (nwWS S p m al ti) k i) : V S k i ∨ (i = 4 * p + sN S 5 p ∧ (k = 5)) := by
  have key : ∀ n : Nat, n < 23 → V (nwWS S p m al ti) n i → V S n i ∨ (i = 4 * p + sN S 5 p ∧ (n = 5)) := by
    intro n hn hv
    match n, hn, hv with
    | 0, _, hv => exact Or.inl hv
    | 1, _, hv => exact Or.inl (by first | exact hv | simpa [V, nwWS, sN, up2] using hv)
    | 2, _, hv => exact Or.inl (by first | exact hv | simpa [V, nwWS, sN, up2] using hv)
    | 3, _, hv => exact Or.inl (by first | exact hv | simpa [V, nwWS, sN, up2] using hv)
    | 4, _, hv => exact Or.inl (by first | exact hv | simpa [V, nwWS, sN, up2] using hv)
    | 5, _, hv =>
      have hv : i / 4 < sN S 1 0 ∧ i % 4 < (if i / 4 = p then sN S 5 p + 1 else sN S 5 (i / 4)) := by simpa [V, nwWS, sN, up2] using hv
      by_cases e : i / 4 = p
      · rw [if_pos e] at hv
        rcases Nat.lt_or_ge (i % 4) (sN S 5 p) with z | z
        · exact Or.inl ⟨hv.1, by rw [e]; exact z⟩
        · exact Or.inr ⟨by omega, rfl⟩
      · rw [if_neg e] at hv; exact Or.inl hv
    | 6, _, hv => exact Or.inl hv
    | 7, _, hv => exact Or.inl (by first | exact hv | simpa [V, nwWS, sN, up2] using hv)
    | 8, _, hv => exact Or.inl (by first | exact hv | simpa [V, nwWS, sN, up2] using hv)
    | 9, _, hv => exact Or.inl (by first | exact hv | simpa [V, nwWS, sN, up2] using hv)
    | 10, _, hv => exact Or.inl (by first | exact hv | simpa [V, nwWS, sN, up2] using hv)
    | 11, _, hv => exact Or.inl (by first | exact hv | simpa [V, nwWS, sN, up2] using hv)
    | 12, _, hv => exact Or.inl (by first | exact hv | simpa [V, nwWS, sN, up2] using hv)
    | 13, _, hv => exact Or.inl (by first | exact hv | simpa [V, nwWS, sN, up2] using hv)
    | 14, _, hv => exact Or.inl hv
    | 15, _, hv => exact Or.inl hv
    | 16, _, hv => exact Or.inl hv
    | 17, _, hv => exact Or.inl hv
    | 18, _, hv => exact Or.inl hv
    | 19, _, hv => exact Or.inl hv
    | 20, _, hv => exact Or.inl (by first | exact hv | simpa [V, nwWS, sN, up2] using hv)
    | 21, _, hv => exact Or.inl (by first | exact hv | simpa [V, nwWS, sN, up2] using hv)
    | 22, _, hv => exact Or.inl (by first | exact hv | simpa [V, nwWS, sN, up2] using hv)
    | n + 23, hn, _ => exact absurd hn (by omega)
  rcases Nat.lt_or_ge k 23 with hk | hk
  · exact key k hk h
  · exact False.elim (by
      obtain ⟨n, rfl⟩ : ∃ n, k = n + 23 := ⟨k - 23, by omega⟩
      exact h)
theorem nwWS_C {tA : Nat → ClassId} {S : St} {ad : Nat → Nat → Nat} {p m : Nat} {al : Option Nat} {ti : Int32} {q5 : Nat} (hW : WT S) (hp : p < sN S 1 0) (hcn : sN S 5 p < 3) {k i : Nat} (hv : V S k i) (h0 : ¬ (k = 2 ∧ i = p)) (h1 : ¬ (k = 21 ∧ i = p)) : C tA (nwWS S p m al ti) (nwWA ad (4 * p + sN S 5 p) q5) k i = C tA S ad k i := by
  have key : ∀ n : Nat, n < 23 → V S n i → ¬ (n = 2 ∧ i = p) → ¬ (n = 21 ∧ i = p) → C tA (nwWS S p m al ti) (nwWA ad (4 * p + sN S 5 p) q5) n i = C tA S ad n i := by
    intro n hn hv h0 h1
    match n, hn, hv, h0, h1 with
    | 0, _, hv, h0, h1 =>
      first | rfl | (simp only [C, nwWA_fun (show (15 : Nat) ≠ 5 by decide), nwWA_fun (show (16 : Nat) ≠ 5 by decide), nwWA_fun (show (17 : Nat) ≠ 5 by decide), nwWA_fun (show (18 : Nat) ≠ 5 by decide), nwWA_fun (show (19 : Nat) ≠ 5 by decide), nwWA_fun (show (14 : Nat) ≠ 5 by decide)]; done) | (simp only [C, nwWA_fun (show (15 : Nat) ≠ 5 by decide), nwWA_fun (show (16 : Nat) ≠ 5 by decide), nwWA_fun (show (17 : Nat) ≠ 5 by decide), nwWA_fun (show (18 : Nat) ≠ 5 by decide), nwWA_fun (show (19 : Nat) ≠ 5 by decide), nwWA_fun (show (14 : Nat) ≠ 5 by decide)]; simp [nwWS, sN, sI, sJ, sR, sP, up2]) | (simp [C, nwWS, sN, sI, sJ, sR, sP, up2])
    | 1, _, hv, h0, h1 =>
      have t1 : sR (nwWS S p m al ti) 1 i = sR S 1 i := by first | rfl | simp [nwWS, sR, up2]
      first | rfl | (simp only [C, t1, nwWA_rf (show (11 : Nat) ≠ 5 by decide)]; done) | (simp only [C, t1, nwWA_rf (show (11 : Nat) ≠ 5 by decide)]; simp [nwWS, sN, sI, sJ, sR, sP, up2]) | (simp [C, nwWS, sN, sI, sJ, sR, sP, up2])
    | 2, _, hv, h0, h1 =>
      have hnp : ¬ i = p := fun z => h0 ⟨rfl, z⟩
      first | rfl | (simp only [C, nwWA_fun (show (20 : Nat) ≠ 5 by decide), nwWA_fun (show (21 : Nat) ≠ 5 by decide), nwWA_fun (show (3 : Nat) ≠ 5 by decide)]; done) | (simp only [C, nwWA_fun (show (20 : Nat) ≠ 5 by decide), nwWA_fun (show (21 : Nat) ≠ 5 by decide), nwWA_fun (show (3 : Nat) ≠ 5 by decide)]; simp [nwWS, sN, sI, sJ, sR, sP, up2, hnp]) | (simp [C, nwWS, sN, sI, sJ, sR, sP, up2, hnp])
    | 3, _, hv, h0, h1 =>
      first | rfl | (simp only [C]; done) | (simp only [C]; simp [nwWS, sN, sI, sJ, sR, sP, up2]) | (simp [C, nwWS, sN, sI, sJ, sR, sP, up2])
    | 4, _, hv, h0, h1 =>
      have s8 : sN (nwWS S p m al ti) 8 i = sN S 8 i := by simp [nwWS, sN, up2]
      first | rfl | (simp only [C, s8, nwWA_fun (show (2 : Nat) ≠ 5 by decide)]; done) | (simp only [C, s8, nwWA_fun (show (2 : Nat) ≠ 5 by decide)]; simp [nwWS, sN, sI, sJ, sR, sP, up2]) | (simp [C, nwWS, sN, sI, sJ, sR, sP, up2])
    | 5, _, hv, h0, h1 =>
      have hne : i ≠ 4 * p + sN S 5 p := (by rintro rfl; have h9 := hv.2; rw [show (4 * p + sN S 5 p) / 4 = p by omega, show (4 * p + sN S 5 p) % 4 = sN S 5 p by omega] at h9; omega)
      have hne' : ¬ i = 4 * p + S.1 5 p := hne
      have s9 : sN (nwWS S p m al ti) 9 i = sN S 9 i := by simp [nwWS, sN, up2, hne']
      have t2 : sR (nwWS S p m al ti) 2 i = sR S 2 i := by first | rfl | simp [nwWS, sR, up2, hne']
      first | rfl | (simp only [C, t2, s9, nwWA_fun (show (1 : Nat) ≠ 5 by decide), nwWA_rf (show (1 : Nat) ≠ 5 by decide)]; done) | (simp only [C, t2, s9, nwWA_fun (show (1 : Nat) ≠ 5 by decide), nwWA_rf (show (1 : Nat) ≠ 5 by decide)]; simp [nwWS, sN, sI, sJ, sR, sP, up2, hne']) | (simp [C, nwWS, sN, sI, sJ, sR, sP, up2, hne'])
    | 6, _, hv, h0, h1 =>
      first | rfl | (simp only [C]; done) | (simp only [C]; simp [nwWS, sN, sI, sJ, sR, sP, up2]) | (simp [C, nwWS, sN, sI, sJ, sR, sP, up2])
    | 7, _, hv, h0, h1 =>
      have s6 : sN (nwWS S p m al ti) 6 i = sN S 6 i := by simp [nwWS, sN, up2]
      first | rfl | (simp only [C, s6, nwWA_fun (show (2 : Nat) ≠ 5 by decide), nwWA_fun (show (8 : Nat) ≠ 5 by decide), nwWA_fun (show (9 : Nat) ≠ 5 by decide), nwWA_fun (show (10 : Nat) ≠ 5 by decide)]; done) | (simp only [C, s6, nwWA_fun (show (2 : Nat) ≠ 5 by decide), nwWA_fun (show (8 : Nat) ≠ 5 by decide), nwWA_fun (show (9 : Nat) ≠ 5 by decide), nwWA_fun (show (10 : Nat) ≠ 5 by decide)]; simp [nwWS, sN, sI, sJ, sR, sP, up2]) | (simp [C, nwWS, sN, sI, sJ, sR, sP, up2])
    | 8, _, hv, h0, h1 =>
      first | rfl | (simp only [C]; done) | (simp only [C]; simp [nwWS, sN, sI, sJ, sR, sP, up2]) | (simp [C, nwWS, sN, sI, sJ, sR, sP, up2])
    | 9, _, hv, h0, h1 =>
      first | rfl | (simp only [C]; done) | (simp only [C]; simp [nwWS, sN, sI, sJ, sR, sP, up2]) | (simp [C, nwWS, sN, sI, sJ, sR, sP, up2])
    | 10, _, hv, h0, h1 =>
      first | rfl | (simp only [C]; done) | (simp only [C]; simp [nwWS, sN, sI, sJ, sR, sP, up2]) | (simp [C, nwWS, sN, sI, sJ, sR, sP, up2])
    | 11, _, hv, h0, h1 =>
      have s7 : sN (nwWS S p m al ti) 7 i = sN S 7 i := by simp [nwWS, sN, up2]
      first | rfl | (simp only [C, s7, nwWA_fun (show (2 : Nat) ≠ 5 by decide), nwWA_fun (show (12 : Nat) ≠ 5 by decide), nwWA_fun (show (13 : Nat) ≠ 5 by decide), nwWA_fun (show (22 : Nat) ≠ 5 by decide)]; done) | (simp only [C, s7, nwWA_fun (show (2 : Nat) ≠ 5 by decide), nwWA_fun (show (12 : Nat) ≠ 5 by decide), nwWA_fun (show (13 : Nat) ≠ 5 by decide), nwWA_fun (show (22 : Nat) ≠ 5 by decide)]; simp [nwWS, sN, sI, sJ, sR, sP, up2]) | (simp [C, nwWS, sN, sI, sJ, sR, sP, up2])
    | 12, _, hv, h0, h1 =>
      have t3 : sR (nwWS S p m al ti) 3 i = sR S 3 i := by first | rfl | simp [nwWS, sR, up2]
      have t4 : sR (nwWS S p m al ti) 4 i = sR S 4 i := by first | rfl | simp [nwWS, sR, up2]
      first | rfl | (simp only [C, t4, t3, nwWA_rf (show (1 : Nat) ≠ 5 by decide), nwWA_rf (show (7 : Nat) ≠ 5 by decide)]; done) | (simp only [C, t4, t3, nwWA_rf (show (1 : Nat) ≠ 5 by decide), nwWA_rf (show (7 : Nat) ≠ 5 by decide)]; simp [nwWS, sN, sI, sJ, sR, sP, up2]) | (simp [C, nwWS, sN, sI, sJ, sR, sP, up2])
    | 13, _, hv, h0, h1 =>
      first | rfl | (simp only [C]; done) | (simp only [C]; simp [nwWS, sN, sI, sJ, sR, sP, up2]) | (simp [C, nwWS, sN, sI, sJ, sR, sP, up2])
    | 14, _, hv, h0, h1 =>
      first | rfl | (simp only [C]; done) | (simp only [C]; simp [nwWS, sN, sI, sJ, sR, sP, up2]) | (simp [C, nwWS, sN, sI, sJ, sR, sP, up2])
    | 15, _, hv, h0, h1 =>
      first | rfl | (simp only [C, nwWA_fun (show (1 : Nat) ≠ 5 by decide)]; done) | (simp only [C, nwWA_fun (show (1 : Nat) ≠ 5 by decide)]; simp [nwWS, sN, sI, sJ, sR, sP, up2]) | (simp [C, nwWS, sN, sI, sJ, sR, sP, up2])
    | 16, _, hv, h0, h1 =>
      first | rfl | (simp only [C, nwWA_fun (show (2 : Nat) ≠ 5 by decide)]; done) | (simp only [C, nwWA_fun (show (2 : Nat) ≠ 5 by decide)]; simp [nwWS, sN, sI, sJ, sR, sP, up2]) | (simp [C, nwWS, sN, sI, sJ, sR, sP, up2])
    | 17, _, hv, h0, h1 =>
      first | rfl | (simp only [C, nwWA_fun (show (6 : Nat) ≠ 5 by decide)]; done) | (simp only [C, nwWA_fun (show (6 : Nat) ≠ 5 by decide)]; simp [nwWS, sN, sI, sJ, sR, sP, up2]) | (simp [C, nwWS, sN, sI, sJ, sR, sP, up2])
    | 18, _, hv, h0, h1 =>
      first | rfl | (simp only [C, nwWA_fun (show (7 : Nat) ≠ 5 by decide)]; done) | (simp only [C, nwWA_fun (show (7 : Nat) ≠ 5 by decide)]; simp [nwWS, sN, sI, sJ, sR, sP, up2]) | (simp [C, nwWS, sN, sI, sJ, sR, sP, up2])
    | 19, _, hv, h0, h1 =>
      first | rfl | (simp only [C, nwWA_fun (show (11 : Nat) ≠ 5 by decide)]; done) | (simp only [C, nwWA_fun (show (11 : Nat) ≠ 5 by decide)]; simp [nwWS, sN, sI, sJ, sR, sP, up2]) | (simp [C, nwWS, sN, sI, sJ, sR, sP, up2])
    | 20, _, hv, h0, h1 =>
      first | rfl | (simp only [C, nwWA_fun (show (4 : Nat) ≠ 5 by decide)]; done) | (simp only [C, nwWA_fun (show (4 : Nat) ≠ 5 by decide)]; simp [nwWS, sN, sI, sJ, sR, sP, up2]) | (simp [C, nwWS, sN, sI, sJ, sR, sP, up2])
    | 21, _, hv, h0, h1 =>
      have hnp : ¬ i = p := fun z => h1 ⟨rfl, z⟩
      have e4 : ∀ j, j < sN S 5 i → nwWA ad (4 * p + sN S 5 p) q5 5 (4 * i + j) = ad 5 (4 * i + j) := fun j hj => nwWA_ne (by have := hW.nOp hv; have := hcn; have := hnp; omega)
      show (Sum.inl _ : va_E) = Sum.inl _
      have sc : sN (nwWS S p m al ti) 5 i = sN S 5 i := by simp [nwWS, sN, up2, hnp]
      congr 7
      funext j
      rw [sc]
      by_cases hj : j < sN S 5 i
      · rw [if_pos hj, if_pos hj, e4 j hj]
      · rw [if_neg hj, if_neg hj]
    | 22, _, hv, h0, h1 =>
      first | rfl | (simp only [C]; done) | (simp only [C]; simp [nwWS, sN, sI, sJ, sR, sP, up2]) | (simp [C, nwWS, sN, sI, sJ, sR, sP, up2])
    | n + 23, hn, _, _, _ => exact absurd hn (by omega)
  rcases Nat.lt_or_ge k 23 with hk | hk
  · exact key k hk hv h0 h1
  · exact False.elim (by
      obtain ⟨n, rfl⟩ : ∃ n, k = n + 23 := ⟨k - 23, by omega⟩
      exact hv)
theorem Rep.newnwWS {tA : Nat → ClassId} {S : St} {ad : Nat → Nat → Nat} {L L' : List Nat} {f f' : Nat → va_E} (h : Rep tA S ad L f) (hW : WT S) {p m : Nat} {al : Option Nat} {ti : Int32} {q5 : Nat} (hp : p < sN S 1 0) (hcn : sN S 5 p < 3) (hL : ∀ a, a ∈ L → a ∈ L') (h5 : f' q5 = .inr (8, [.ref (ad 1 m), rf ad 1 al, .int ti]) ∧ q5 ∉ L ∧ q5 ∈ L') 
    (hf : ∀ a, a ∈ L → a ≠ ad 2 p → a ≠ ad 21 p → f' a = f a) (hx : f' (ad 2 p) = .inr (10, [.int (nI p), .int (sI S 20 p), .int (sI S 21 p), .ref (ad 20 p), .ref (ad 21 p), .ref (ad 3 p), .int (nI (sN S 4 p)), .int (nI (sN S 5 p + 1))])) (ha : f' (ad 21 p) = .inl (tA 7, 3, .inr (.inr (.inr (.inr (va_up (fun j => if j < sN S 5 p then some (ad 5 (4 * p + j)) else none) (sN S 5 p) (some q5))))))) : Rep tA (nwWS S p m al ti) (nwWA ad (4 * p + sN S 5 p) q5) L' f' := by
  have a5 : nwWA ad (4 * p + sN S 5 p) q5 5 (4 * p + sN S 5 p) = q5 := by simp [nwWA]
  have nv : ∀ k, (k = 5) → ¬ V S k (4 * p + sN S 5 p) := by
    rintro k (rfl) hv <;> (have h9 := hv.2; rw [show (4 * p + sN S 5 p) / 4 = p by omega, show (4 * p + sN S 5 p) % 4 = sN S 5 p by omega] at h9; omega)
  have old : ∀ k i, V S k i → nwWA ad (4 * p + sN S 5 p) q5 k i = ad k i := fun k i hv => nwWA_old (fun e => by
    subst e
    have key : ∀ z, (z = k ∧ (z = 5)) → False := fun z q => nv z q.2 (q.1 ▸ hv)
    exact fun z => key k ⟨rfl, z⟩)
  have one : ∀ k i, V (nwWS S p m al ti) k i → ¬ V S k i → i = 4 * p + sN S 5 p ∧ (k = 5) := fun k i hv hn => (nwWS_V hp hcn hv).resolve_left hn
  refine h.grow hL (fun k i hv => ?_) (fun k i k' i' hv hv' hn hn' e => ?_)
  · rcases nwWS_V hp hcn hv with hv0 | ⟨rfl, hk⟩
    · refine Or.inl ⟨hv0, old k i hv0, ?_⟩
      by_cases k0 : k = 2 ∧ i = p
      · obtain ⟨rfl, ki⟩ := k0
        subst i
        rw [hx]
        simp only [C, nwWA_fun (show (3 : Nat) ≠ 5 by decide), nwWA_fun (show (20 : Nat) ≠ 5 by decide), nwWA_fun (show (21 : Nat) ≠ 5 by decide)]
        simp [nwWS, sN, sI, sJ, sR, sP, up2, rf_none, nI_0]
      · by_cases k18 : k = 21 ∧ i = p
        · obtain ⟨rfl, ki⟩ := k18
          subst i
          rw [ha]
          have e1 : sN (nwWS S p m al ti) 5 p = sN S 5 p + 1 := by simp [nwWS, sN, up2]
          show (Sum.inl _ : va_E) = Sum.inl _
          congr 7
          funext j
          show va_up _ _ _ j = (if j < sN (nwWS S p m al ti) 5 p then some (nwWA ad (4 * p + sN S 5 p) q5 5 (4 * p + j)) else none)
          rw [e1]
          by_cases hj : j = sN S 5 p
          · rw [hj, va_up_self, if_pos (Nat.lt_succ_self _), a5]
          · rw [va_up_ne _ _ hj, nwWA_ne (by omega)]
            by_cases hl : j < sN S 5 p
            · rw [if_pos hl, if_pos (by omega)]
            · rw [if_neg hl, if_neg (by omega)]
        · rw [hf _ (h.1 k i hv0).1 (h.ne hv0 (show V S 2 p from hp) k0) (h.ne hv0 (show V S 21 p from hp) k18), (h.1 k i hv0).2, nwWS_C hW hp hcn hv0 k0 k18]
    · refine Or.inr ⟨nv k hk, ?_⟩
      rcases hk with rfl
      · rw [a5]
        refine ⟨h5.2.2, h5.2.1, h5.1.trans ?_⟩
        first | (simp only [C, nwWA_fun (show (1 : Nat) ≠ 5 by decide), nwWA_rf (show (1 : Nat) ≠ 5 by decide)]; simp [nwWS, sN, sI, sJ, sR, sP, up2, rf_none, nI_0]; done) | (simp [C, nwWS, sN, sI, sJ, sR, sP, up2, rf_none, nI_0]; done) | (simp only [C]; simp [nwWS, sN, sI, sJ, sR, sP, up2, rf_none, nI_0]; done) | (simp [C, nwWS, sN, sI, sJ, sR, sP, up2, rf_none, nI_0, rf])
  · obtain ⟨rfl, hk⟩ := one k i hv hn
    obtain ⟨rfl, hk'⟩ := one k' i' hv' hn'
    refine ⟨?_, rfl⟩
    rcases hk with rfl <;> rcases hk' with rfl <;> first | rfl | (simp only [a5] at e; first | exact absurd e (by assumption) | exact absurd e.symm (by assumption))

