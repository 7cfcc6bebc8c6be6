/-! A NEW OBJECT comes into the state -/
theorem Rep.grow {tA : Nat → ClassId} {S S' : St} {ad ad' : Nat → Nat → Nat} {L L' : List Nat} {f f' : Nat → va_E} (h : Rep tA S ad L f) (hL : ∀ a, a ∈ L → a ∈ L')
    (h2 : ∀ k i, V S' k i → (V S k i ∧ ad' k i = ad k i ∧ f' (ad k i) = C tA S' ad' k i) ∨ (¬ V S k i ∧ ad' k i ∈ L' ∧ ad' k i ∉ L ∧ f' (ad' k i) = C tA S' ad' k i))
    (h3 : ∀ k i k' i', V S' k i → V S' k' i' → ¬ V S k i → ¬ V S k' i' → ad' k i = ad' k' i' → k = k' ∧ i = i') : Rep tA S' ad' L' f' := by
  refine ⟨fun k i hv => ?_, fun k i k' i' hv hv' e => ?_⟩
  · rcases h2 k i hv with ⟨a, b, c⟩ | ⟨a, b, c, d⟩
    · rw [b]; exact ⟨hL _ (h.1 k i a).1, c⟩
    · exact ⟨b, d⟩
  · rcases h2 k i hv with ⟨a, b, c⟩ | ⟨a, b, c, d⟩ <;> rcases h2 k' i' hv' with ⟨a', b', c'⟩ | ⟨a', b', c', d'⟩
    · rw [b, b'] at e; exact h.2 _ _ _ _ a a' e
    · rw [b] at e; exact absurd (e ▸ (h.1 k i a).1) c'
    · rw [b'] at e; exact absurd (e ▸ (h.1 k' i' a').1) c
    · exact h3 _ _ _ _ hv hv' a a' e
/-- the state with one lot more, of a part, with a quantity and a cost -/
def nlS (S : St) (p : Nat) (qy : Int32) (co : Int64) : St :=
  (up2 (up2 S.1 2 0 (sN S 2 0 + 1)) 6 (sN S 2 0) p,
   up2 (up2 (up2 (up2 S.2.1 40 (sN S 2 0) qy) 41 (sN S 2 0) qy) 42 (sN S 2 0) 0) 43 (sN S 2 0) 0,
   up2 (up2 (up2 (up2 (up2 (up2 (up2 S.2.2.1 3 (sN S 2 0) co) 16 (sN S 2 0) 0) 17 (sN S 2 0) 0) 18 (sN S 2 0) 0) 19 (sN S 2 0) 0) 20 (sN S 2 0) 0) 21 (sN S 2 0) 0,
   S.2.2.2.1, S.2.2.2.2)
def nlA (ad : Nat → Nat → Nat) (n q q1 q2 q3 : Nat) : Nat → Nat → Nat := fun k i => if i = n ∧ k = 7 then q else if i = n ∧ k = 8 then q1 else if i = n ∧ k = 9 then q2 else if i = n ∧ k = 10 then q3 else ad k i
theorem nlA_old {ad : Nat → Nat → Nat} {n q q1 q2 q3 k i : Nat} (h : i = n → k ≠ 7 ∧ k ≠ 8 ∧ k ≠ 9 ∧ k ≠ 10) : nlA ad n q q1 q2 q3 k i = ad k i := by
  unfold nlA
  by_cases e : i = n
  · have := h e
    simp [e, this]
  · simp [e]
theorem nlS_V {S : St} {p : Nat} {qy : Int32} {co : Int64} {k i : Nat} (h : V (nlS S p qy co) k i) : V S k i ∨ (i = sN S 2 0 ∧ (k = 7 ∨ k = 8 ∨ k = 9 ∨ k = 10)) := by
  have key : ∀ n : Nat, n < 23 → V (nlS S p qy co) n i → V S n i ∨ (i = sN S 2 0 ∧ (n = 7 ∨ n = 8 ∨ n = 9 ∨ n = 10)) := by
    intro n hn hv
    match n, hn, hv with
    | 0, _, hv => exact Or.inl hv
    | 1, _, hv => exact Or.inl (by simpa [V, nlS, sN, up2] using hv)
    | 2, _, hv => exact Or.inl (by simpa [V, nlS, sN, up2] using hv)
    | 3, _, hv => exact Or.inl (by simpa [V, nlS, sN, up2] using hv)
    | 4, _, hv => exact Or.inl (by simpa [V, nlS, sN, up2] using hv)
    | 5, _, hv => exact Or.inl (by simpa [V, nlS, sN, up2] using hv)
    | 6, _, hv => exact Or.inl hv
    | 7, _, hv => simp [V, nlS, sN, up2] at hv ⊢; omega
    | 8, _, hv => simp [V, nlS, sN, up2] at hv ⊢; omega
    | 9, _, hv => simp [V, nlS, sN, up2] at hv ⊢; omega
    | 10, _, hv => simp [V, nlS, sN, up2] at hv ⊢; omega
    | 11, _, hv => exact Or.inl (by simpa [V, nlS, sN, up2] using hv)
    | 12, _, hv => exact Or.inl (by simpa [V, nlS, sN, up2] using hv)
    | 13, _, hv => exact Or.inl (by simpa [V, nlS, sN, up2] using hv)
    | 14, _, hv => exact Or.inl hv
    | 15, _, hv => exact Or.inl hv
    | 16, _, hv => exact Or.inl hv
    | 17, _, hv => exact Or.inl hv
    | 18, _, hv => exact Or.inl hv
    | 19, _, hv => exact Or.inl hv
    | 20, _, hv => exact Or.inl (by simpa [V, nlS, sN, up2] using hv)
    | 21, _, hv => exact Or.inl (by simpa [V, nlS, sN, up2] using hv)
    | 22, _, hv => exact Or.inl (by simpa [V, nlS, sN, up2] using hv)
    | n + 23, hn, _ => exact absurd hn (by omega)
  rcases Nat.lt_or_ge k 23 with hk | hk
  · exact key k hk h
  · exact False.elim (by
      obtain ⟨n, rfl⟩ : ∃ n, k = n + 23 := ⟨k - 23, by omega⟩
      exact h)
theorem nlA_fun {ad : Nat → Nat → Nat} {n q q1 q2 q3 k : Nat} (h : k ≠ 7 ∧ k ≠ 8 ∧ k ≠ 9 ∧ k ≠ 10) : nlA ad n q q1 q2 q3 k = ad k := funext (fun _ => nlA_old (fun _ => h))
theorem nlA_rf {ad : Nat → Nat → Nat} {n q q1 q2 q3 k : Nat} {o : Option Nat} (h : k ≠ 7 ∧ k ≠ 8 ∧ k ≠ 9 ∧ k ≠ 10) : rf (nlA ad n q q1 q2 q3) k o = rf ad k o := by unfold rf; rw [nlA_fun h]
theorem nlA_ne {ad : Nat → Nat → Nat} {n q q1 q2 q3 k i : Nat} (h : i ≠ n) : nlA ad n q q1 q2 q3 k i = ad k i := nlA_old (fun e => absurd e h)
theorem nlS_C {tA : Nat → ClassId} {S : St} {ad : Nat → Nat → Nat} {p : Nat} {qy : Int32} {co : Int64} {q q1 q2 q3 : Nat} (hW : WT S) {k i : Nat} (hv : V S k i) (h0 : k ≠ 0) (h18 : k ≠ 18) : C tA (nlS S p qy co) (nlA ad (sN S 2 0) q q1 q2 q3) k i = C tA S ad k i := by
  have key : ∀ n : Nat, n < 23 → n ≠ 0 → n ≠ 18 → V S n i → C tA (nlS S p qy co) (nlA ad (sN S 2 0) q q1 q2 q3) n i = C tA S ad n i := by
    intro n hn hn0 hn18 hv
    match n, hn, hn0, hn18, hv with
    | 0, _, hz, _, _ => exact absurd rfl hz
    | 1, _, _, _, _ => simp only [C, nlA_rf (show (11 : Nat) ≠ 7 ∧ 11 ≠ 8 ∧ 11 ≠ 9 ∧ 11 ≠ 10 by decide)]; simp [nlS, sN, sI, sJ, sR, up2]
    | 2, _, _, _, _ => simp only [C, nlA_fun (show (20 : Nat) ≠ 7 ∧ 20 ≠ 8 ∧ 20 ≠ 9 ∧ 20 ≠ 10 by decide), nlA_fun (show (21 : Nat) ≠ 7 ∧ 21 ≠ 8 ∧ 21 ≠ 9 ∧ 21 ≠ 10 by decide), nlA_fun (show (3 : Nat) ≠ 7 ∧ 3 ≠ 8 ∧ 3 ≠ 9 ∧ 3 ≠ 10 by decide)]; simp [nlS, sN, sI, sJ, sR, up2]
    | 3, _, _, _, _ => simp [C, nlS, sN, sI, sJ, sR, up2]
    | 4, _, _, _, _ => simp only [C, nlA_fun (show (2 : Nat) ≠ 7 ∧ 2 ≠ 8 ∧ 2 ≠ 9 ∧ 2 ≠ 10 by decide)]; simp [nlS, sN, sI, sJ, sR, up2]
    | 5, _, _, _, _ => simp only [C, nlA_rf (show (1 : Nat) ≠ 7 ∧ 1 ≠ 8 ∧ 1 ≠ 9 ∧ 1 ≠ 10 by decide), nlA_fun (show (1 : Nat) ≠ 7 ∧ 1 ≠ 8 ∧ 1 ≠ 9 ∧ 1 ≠ 10 by decide)]; simp [nlS, sN, sI, sJ, sR, up2]
    | 6, _, _, _, _ => simp [C, nlS, sN, sI, sJ, sR, up2]
    | 7, _, _, _, hv =>
      have hne : i ≠ sN S 2 0 := Nat.ne_of_lt hv
      have hne' : ¬ i = S.1 2 0 := hne
      simp only [C, nlA_fun (show (2 : Nat) ≠ 7 ∧ 2 ≠ 8 ∧ 2 ≠ 9 ∧ 2 ≠ 10 by decide), nlA_ne hne]; simp [nlS, sN, sI, sJ, sR, up2, hne']
    | 8, _, _, _, hv => have hne' : ¬ i = S.1 2 0 := Nat.ne_of_lt hv
                        simp [C, nlS, sN, sI, sJ, sR, up2, hne']
    | 9, _, _, _, hv => have hne' : ¬ i = S.1 2 0 := Nat.ne_of_lt hv
                        simp [C, nlS, sN, sI, sJ, sR, up2, hne']
    | 10, _, _, _, hv => have hne' : ¬ i = S.1 2 0 := Nat.ne_of_lt hv
                         simp [C, nlS, sN, sI, sJ, sR, up2, hne']
    | 11, _, _, _, _ => simp only [C, nlA_fun (show (2 : Nat) ≠ 7 ∧ 2 ≠ 8 ∧ 2 ≠ 9 ∧ 2 ≠ 10 by decide), nlA_fun (show (12 : Nat) ≠ 7 ∧ 12 ≠ 8 ∧ 12 ≠ 9 ∧ 12 ≠ 10 by decide), nlA_fun (show (13 : Nat) ≠ 7 ∧ 13 ≠ 8 ∧ 13 ≠ 9 ∧ 13 ≠ 10 by decide), nlA_fun (show (22 : Nat) ≠ 7 ∧ 22 ≠ 8 ∧ 22 ≠ 9 ∧ 22 ≠ 10 by decide)]; simp [nlS, sN, sI, sJ, sR, up2]
    | 12, _, _, _, hv =>
      have e : rf (nlA ad (sN S 2 0) q q1 q2 q3) 7 (sR S 4 i) = rf ad 7 (sR S 4 i) := by
        cases ej : sR S 4 i with
        | none => rfl
        | some j => rw [rf_some, rf_some, nlA_ne (Nat.ne_of_lt (hW.jlot hv ej))]
      have e2 : sR (nlS S p qy co) = sR S := rfl
      simp only [C, nlA_rf (show (1 : Nat) ≠ 7 ∧ 1 ≠ 8 ∧ 1 ≠ 9 ∧ 1 ≠ 10 by decide), e2, e]; simp [nlS, sN, sI, sJ, sR, up2]
    | 13, _, _, _, _ => simp [C, nlS, sN, sI, sJ, sR, up2]
    | 14, _, _, _, _ => simp [C, nlS, sN, sI, sJ, sR, up2]
    | 15, _, _, _, _ => simp only [C, nlA_fun (show (1 : Nat) ≠ 7 ∧ 1 ≠ 8 ∧ 1 ≠ 9 ∧ 1 ≠ 10 by decide)]; simp [nlS, sN, sI, sJ, sR, up2]
    | 16, _, _, _, _ => simp only [C, nlA_fun (show (2 : Nat) ≠ 7 ∧ 2 ≠ 8 ∧ 2 ≠ 9 ∧ 2 ≠ 10 by decide)]; simp [nlS, sN, sI, sJ, sR, up2]
    | 17, _, _, _, _ => simp only [C, nlA_fun (show (6 : Nat) ≠ 7 ∧ 6 ≠ 8 ∧ 6 ≠ 9 ∧ 6 ≠ 10 by decide)]
    | 18, _, _, hz, _ => exact absurd rfl hz
    | 19, _, _, _, _ => simp only [C, nlA_fun (show (11 : Nat) ≠ 7 ∧ 11 ≠ 8 ∧ 11 ≠ 9 ∧ 11 ≠ 10 by decide)]; simp [nlS, sN, sI, sJ, sR, up2]
    | 20, _, _, _, _ => simp only [C, nlA_fun (show (4 : Nat) ≠ 7 ∧ 4 ≠ 8 ∧ 4 ≠ 9 ∧ 4 ≠ 10 by decide)]; simp [nlS, sN, sI, sJ, sR, up2]
    | 21, _, _, _, _ => simp only [C, nlA_fun (show (5 : Nat) ≠ 7 ∧ 5 ≠ 8 ∧ 5 ≠ 9 ∧ 5 ≠ 10 by decide)]; simp [nlS, sN, sI, sJ, sR, up2]
    | 22, _, _, _, _ => rfl
    | n + 23, hn, _, _, _ => exact absurd hn (by omega)
  rcases Nat.lt_or_ge k 23 with hk | hk
  · exact key k hk h0 h18 hv
  · exact False.elim (by
      obtain ⟨n, rfl⟩ : ∃ n, k = n + 23 := ⟨k - 23, by omega⟩
      exact hv)
/-- a lot's cells, made and put into the row of lots: the new state -/
theorem Rep.newLot {tA : Nat → ClassId} {S : St} {ad : Nat → Nat → Nat} {L L' : List Nat} {f f' : Nat → va_E} (h : Rep tA S ad L f) (hW : WT S) {p : Nat} {qy : Int32} {co : Int64} {q q1 q2 q3 : Nat} (hL : ∀ a, a ∈ L → a ∈ L')
    (hq : f' q = .inr (5, [.int (nI (sN S 2 0)), .ref (ad 2 p), .int qy, .ref q1, .ref q2, .ref q3, .int qy, .int 0, .int 0, .long co]) ∧ q ∉ L ∧ q ∈ L') (h1 : f' q1 = .inr (7, [.long 0, .long 0]) ∧ q1 ∉ L ∧ q1 ∈ L') (h2 : f' q2 = .inr (7, [.long 0, .long 0]) ∧ q2 ∉ L ∧ q2 ∈ L') (h3 : f' q3 = .inr (7, [.long 0, .long 0]) ∧ q3 ∉ L ∧ q3 ∈ L')
    (hne : q1 ≠ q ∧ q2 ≠ q ∧ q3 ≠ q ∧ q1 ≠ q2 ∧ q1 ≠ q3 ∧ q2 ≠ q3) (hf : ∀ a, a ∈ L → a ≠ ad 0 0 → a ≠ ad 18 0 → f' a = f a)
    (hx : f' (ad 0 0) = .inr (12, [.ref (ad 15 0), .ref (ad 16 0), .ref (ad 17 0), .ref (ad 18 0), .ref (ad 19 0), .ref (ad 14 0), .int (nI (sN S 0 0)), .int (nI (sN S 1 0)), .int (nI (sN S 2 0 + 1)), .int (sI S 1 0), .int (nI (sN S 3 0)), .int (sI S 2 0), .long (sJ S 1 0), .long (sJ S 2 0)]))
    (ha : f' (ad 18 0) = .inl (tA 4, 90, .inr (.inr (.inr (.inr (va_up (fun j => if j < sN S 2 0 then some (ad 7 j) else none) (sN S 2 0) (some q))))))) :
    Rep tA (nlS S p qy co) (nlA ad (sN S 2 0) q q1 q2 q3) L' f' := by
  obtain ⟨n1, n2, n3, n4, n5, n6⟩ := hne
  have a7 : nlA ad (sN S 2 0) q q1 q2 q3 7 (sN S 2 0) = q := by simp [nlA]
  have a8 : nlA ad (sN S 2 0) q q1 q2 q3 8 (sN S 2 0) = q1 := by simp [nlA]
  have a9 : nlA ad (sN S 2 0) q q1 q2 q3 9 (sN S 2 0) = q2 := by simp [nlA]
  have a10 : nlA ad (sN S 2 0) q q1 q2 q3 10 (sN S 2 0) = q3 := by simp [nlA]
  have nv : ∀ k, (k = 7 ∨ k = 8 ∨ k = 9 ∨ k = 10) → ¬ V S k (sN S 2 0) := by
    rintro k (rfl | rfl | rfl | rfl) hv <;> exact absurd hv (Nat.lt_irrefl _)
  have old : ∀ k i, V S k i → nlA ad (sN S 2 0) q q1 q2 q3 k i = ad k i := fun k i hv => nlA_old (fun e => by
    subst e
    exact ⟨fun z => nv k (Or.inl z) hv, fun z => nv k (Or.inr (Or.inl z)) hv, fun z => nv k (Or.inr (Or.inr (Or.inl z))) hv, fun z => nv k (Or.inr (Or.inr (Or.inr z))) hv⟩)
  have one : ∀ k i, V (nlS S p qy co) k i → ¬ V S k i → i = sN S 2 0 ∧ (k = 7 ∨ k = 8 ∨ k = 9 ∨ k = 10) := fun k i hv hn => (nlS_V hv).resolve_left hn
  refine h.grow hL (fun k i hv => ?_) (fun k i k' i' hv hv' hn hn' e => ?_)
  · rcases nlS_V hv with hv0 | ⟨rfl, hk⟩
    · refine Or.inl ⟨hv0, old k i hv0, ?_⟩
      by_cases k0 : k = 0
      · subst k0
        cases (show i = 0 from hv0)
        rw [hx]
        simp only [C, nlA_fun (show (15 : Nat) ≠ 7 ∧ 15 ≠ 8 ∧ 15 ≠ 9 ∧ 15 ≠ 10 by decide), nlA_fun (show (16 : Nat) ≠ 7 ∧ 16 ≠ 8 ∧ 16 ≠ 9 ∧ 16 ≠ 10 by decide), nlA_fun (show (17 : Nat) ≠ 7 ∧ 17 ≠ 8 ∧ 17 ≠ 9 ∧ 17 ≠ 10 by decide), nlA_fun (show (18 : Nat) ≠ 7 ∧ 18 ≠ 8 ∧ 18 ≠ 9 ∧ 18 ≠ 10 by decide), nlA_fun (show (19 : Nat) ≠ 7 ∧ 19 ≠ 8 ∧ 19 ≠ 9 ∧ 19 ≠ 10 by decide), nlA_fun (show (14 : Nat) ≠ 7 ∧ 14 ≠ 8 ∧ 14 ≠ 9 ∧ 14 ≠ 10 by decide)]
        simp [nlS, sN, sI, sJ, up2]
      · by_cases k18 : k = 18
        · subst k18
          cases (show i = 0 from hv0)
          rw [ha]
          show (Sum.inl _ : va_E) = Sum.inl _
          congr 7
          funext j
          show va_up _ _ _ j = (if j < up2 (up2 S.1 2 0 (sN S 2 0 + 1)) 6 (sN S 2 0) p 2 0 then some (nlA ad (sN S 2 0) q q1 q2 q3 7 j) else none)
          have e1 : up2 (up2 S.1 2 0 (sN S 2 0 + 1)) 6 (sN S 2 0) p 2 0 = sN S 2 0 + 1 := by simp [up2]
          rw [e1]
          by_cases hj : j = sN S 2 0
          · rw [hj, va_up_self, if_pos (Nat.lt_succ_self _), a7]
          · rw [va_up_ne _ _ hj, nlA_ne hj]
            by_cases hl : j < sN S 2 0
            · rw [if_pos hl, if_pos (by omega)]
            · rw [if_neg hl, if_neg (by omega)]
        · rw [hf _ (h.1 k i hv0).1 (h.ne hv0 (show V S 0 0 from rfl) (fun z => k0 z.1)) (h.ne hv0 (show V S 18 0 from rfl) (fun z => k18 z.1)), (h.1 k i hv0).2, nlS_C hW hv0 k0 k18]
    · refine Or.inr ⟨nv k hk, ?_⟩
      rcases hk with rfl | rfl | rfl | rfl
      · rw [a7]
        refine ⟨hq.2.2, hq.2.1, hq.1.trans ?_⟩
        simp only [C, a8, a9, a10, nlA_fun (show (2 : Nat) ≠ 7 ∧ 2 ≠ 8 ∧ 2 ≠ 9 ∧ 2 ≠ 10 by decide)]
        simp [nlS, sN, sI, sJ, up2]
      · rw [a8]
        refine ⟨h1.2.2, h1.2.1, h1.1.trans ?_⟩
        simp [C, nlS, sN, sI, sJ, up2]
      · rw [a9]
        refine ⟨h2.2.2, h2.2.1, h2.1.trans ?_⟩
        simp [C, nlS, sN, sI, sJ, up2]
      · rw [a10]
        refine ⟨h3.2.2, h3.2.1, h3.1.trans ?_⟩
        simp [C, nlS, sN, sI, sJ, up2]
  · obtain ⟨rfl, hk⟩ := one k i hv hn
    obtain ⟨rfl, hk'⟩ := one k' i' hv' hn'
    refine ⟨?_, rfl⟩
    rcases hk with rfl | rfl | rfl | rfl <;> rcases hk' with rfl | rfl | rfl | rfl <;> first | rfl | (simp only [a7, a8, a9, a10] at e; first | exact absurd e n1 | exact absurd e.symm n1 | exact absurd e n2 | exact absurd e.symm n2 | exact absurd e n3 | exact absurd e.symm n3 | exact absurd e n4 | exact absurd e.symm n4 | exact absurd e n5 | exact absurd e.symm n5 | exact absurd e n6 | exact absurd e.symm n6)
