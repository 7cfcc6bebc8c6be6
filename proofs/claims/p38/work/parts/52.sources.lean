/-! PURE: noteSources: what a new lot is made of -/
theorem ns1_spec {S : St} {o n : Nat} (hL : nLc S ≤ 90) (hn : n < nLc S) (he : ∀ m, m < 128 → nsM S 8 n m = false) (hp : pT S o n = 0) (t : Nat) :
    sI (sM S (ns1L S o n t)) = sI S ∧ sP (sM S (ns1L S o n t)) = sP S ∧ (∀ k i, ¬ ((k = 16 ∨ k = 17) ∧ i = n) → sJ (sM S (ns1L S o n t)) k i = sJ S k i) ∧
    ∀ m, m < 128 → (nsM (sM S (ns1L S o n t)) 8 n m = true ↔ ∃ j, j < t ∧ j < nLc S ∧ 0 < pT S o j ∧ (m = j ∨ nsM S 8 j m = true)) := by
  induction t with
  | zero => exact ⟨rfl, rfl, fun _ _ _ => rfl, fun m hm => ⟨fun z => absurd (show nsM S 8 n m = true from z) (by rw [he m hm]; decide), fun ⟨j, z, _⟩ => absurd z (Nat.not_lt_zero j)⟩⟩
  | succ t ih =>
    obtain ⟨h1, h2, h3, h4⟩ := ih
    rw [show ns1L S o n (t + 1) = ns1 S o n t (ns1L S o n t) from rfl]
    unfold ns1
    generalize hA : sM S (ns1L S o n t) = A at h1 h2 h3 h4 ⊢
    have ep : sP A o t = sP S o t := by rw [h2]
    by_cases ht : t < sN S 2 0
    · rw [if_pos ht, ep]
      have ht' : t < nLc S := ht
      by_cases hz : sP S o t ≤ 0
      · rw [if_pos hz]
        have hz' : ¬ 0 < pT S o t := by
          have := i32_le.mp hz
          have this : pT S o t ≤ 0 := this
          omega
        rw [hA]
        refine ⟨h1, h2, h3, fun m hm => (h4 m hm).trans ⟨fun ⟨j, a, b⟩ => ⟨j, by omega, b⟩, fun ⟨j, a, b⟩ => ⟨j, ?_, b⟩⟩⟩
        have : j ≠ t := fun z => hz' (z ▸ b.2.1)
        omega
      · rw [if_neg hz]
        have hz' : 0 < pT S o t := by
          have h9 : ¬ pT S o t ≤ 0 := fun z => hz (i32_le.mpr z)
          omega
        have hnt : n ≠ t := fun z => by rw [z] at hp; omega
        have hnt2 : t ≠ n := fun z => hnt z.symm
        have t128 : t < 128 := by omega
        have e9 : sM S (sA (sAddW A 8 n t)) = sAddW A 8 n t := sM_sA (by rw [← hA]; rfl) (by rw [← hA]; rfl)
        rw [e9]
        have e8 : ∀ m, nsM A 8 t m = nsM S 8 t m := fun m => by
          show nsb (sJ A 16 t) (sJ A 17 t) m = nsb (sJ S 16 t) (sJ S 17 t) m
          rw [h3 16 t (fun z => hnt2 z.2), h3 17 t (fun z => hnt2 z.2)]
        refine ⟨(sAddW_I A 8 n t).trans h1, (sAddW_P A 8 n t).trans h2, fun k i h => (sAddW_J A 8 n t k i (fun z => h ⟨Or.inl z.1, z.2⟩) (fun z => h ⟨Or.inr z.1, z.2⟩)).trans (h3 k i h), fun m hm => ?_⟩
        rw [sAddW_M t128 hm (fun _ => hnt), decide_eq_true (show (8 : Nat) = 8 ∧ n = n from ⟨rfl, rfl⟩), Bool.true_and, Bool.or_eq_true, h4 m hm, Bool.or_eq_true, decide_eq_true_iff, e8]
        constructor
        · rintro (⟨j, a, b⟩ | z)
          · exact ⟨j, by omega, b⟩
          · exact ⟨t, by omega, ht, hz', z⟩
        · rintro ⟨j, a, b, c, d⟩
          by_cases ej : j = t
          · subst ej; exact Or.inr d
          · exact Or.inl ⟨j, by omega, b, c, d⟩
    · rw [if_neg ht, hA]
      refine ⟨h1, h2, h3, fun m hm => (h4 m hm).trans ⟨fun ⟨j, a, b⟩ => ⟨j, by omega, b⟩, fun ⟨j, a, b⟩ => ⟨j, ?_, b⟩⟩⟩
      have := b.1
      have ht' : ¬ t < nLc S := ht
      omega
theorem ns2_spec {S : St} {o n : Nat} (hL : nLc S ≤ 90) (hn : n < nLc S) (t : Nat) :
    sI (sM S (ns2L S o n t)) = sI (sM S (ns1L S o n 90)) ∧ sP (sM S (ns2L S o n t)) = sP (sM S (ns1L S o n 90)) ∧ (∀ k i, k ≠ 18 → k ≠ 19 → sJ (sM S (ns2L S o n t)) k i = sJ (sM S (ns1L S o n 90)) k i) ∧
    ∀ j m, m < 128 → nsM (sM S (ns2L S o n t)) 9 j m = (nsM (sM S (ns1L S o n 90)) 9 j m || (decide (j < t ∧ j < nLc S) && nsM (sM S (ns1L S o n 90)) 8 n j && decide (m = n))) := by
  induction t with
  | zero => 
    refine ⟨rfl, rfl, fun _ _ _ _ => rfl, fun j m hm => ?_⟩
    rw [decide_eq_false (fun z => Nat.not_lt_zero j z.1), Bool.false_and, Bool.false_and, Bool.or_false]; rfl
  | succ t ih =>
    obtain ⟨h1, h2, h3, h4⟩ := ih
    rw [show ns2L S o n (t + 1) = ns2 S n t (ns2L S o n t) from rfl]
    unfold ns2
    have hAN : sN (sM S (ns2L S o n t)) = sN S := rfl
    have hAR : sR (sM S (ns2L S o n t)) = sR S := rfl
    generalize hB : sM S (ns2L S o n t) = B at h1 h2 h3 h4 hAN hAR ⊢
    generalize sM S (ns1L S o n 90) = A at h1 h2 h3 h4 ⊢
    have e8 : nsM B 8 n t = nsM A 8 n t := by
      show nsb (sJ B 16 n) (sJ B 17 n) t = nsb (sJ A 16 n) (sJ A 17 n) t
      rw [h3 16 n (by decide) (by decide), h3 17 n (by decide) (by decide)]
    have keep : (∀ j, (j < t + 1 ∧ j < nLc S) → nsM A 8 n j = true → j < t) → ∀ j m, m < 128 → nsM B 9 j m = (nsM A 9 j m || (decide (j < t + 1 ∧ j < nLc S) && nsM A 8 n j && decide (m = n))) := fun hk j m hm => by
      rw [h4 j m hm]
      congr 2
      cases e : nsM A 8 n j with
      | false => rw [Bool.and_false, Bool.and_false]
      | true =>
        rw [Bool.and_true, Bool.and_true]
        exact decide_eq_decide.mpr ⟨fun z => ⟨by omega, z.2⟩, fun z => ⟨hk j z e, z.2⟩⟩
    by_cases ht : t < sN S 2 0
    · rw [if_pos ht, e8]
      by_cases hz : nsM A 8 n t = true
      · rw [if_pos hz]
        have ht' : t < nLc S := ht
        have e9 : sM S (sA (sAdd B 9 t n)) = sAdd B 9 t n := sM_sA hAN hAR
        rw [e9]
        refine ⟨(sAdd_I B 9 t n).trans h1, (sAdd_P B 9 t n).trans h2, fun k i a b => (sAdd_J B 9 t n k i (fun z => a z.1) (fun z => b z.1)).trans (h3 k i a b), fun j m hm => ?_⟩
        rw [sAdd_M (by omega) hm, h4 j m hm, Bool.or_assoc]
        congr 1
        by_cases ej : j = t
        · subst ej
          rw [decide_eq_false (show ¬ (j < j ∧ j < nLc S) from fun z => Nat.lt_irrefl j z.1), decide_eq_true (show (9 : Nat) = 9 ∧ j = j from ⟨rfl, rfl⟩), decide_eq_true (show j < j + 1 ∧ j < nLc S from ⟨Nat.lt_succ_self j, ht'⟩), hz]
          rfl
        · rw [decide_eq_false (show ¬ ((9 : Nat) = 9 ∧ j = t) from fun z => ej z.2), Bool.false_and, Bool.or_false]
          congr 2
          exact decide_eq_decide.mpr ⟨fun z => ⟨by omega, z.2⟩, fun z => ⟨by omega, z.2⟩⟩
      · rw [if_neg hz, hB]
        refine ⟨h1, h2, h3, keep (fun j z e => ?_)⟩
        have : j ≠ t := fun q => hz (q ▸ e)
        omega
    · rw [if_neg ht, hB]
      have ht' : ¬ t < nLc S := ht
      exact ⟨h1, h2, h3, keep (fun j z e => by omega)⟩
theorem ns_spec {S : St} {o n : Nat} (hL : nLc S ≤ 90) (hn : nLc S = n + 1) (he : ∀ m, m < 128 → nsM S 8 n m = false) (hp0 : pT S o n = 0) (h13 : ∀ q, q < nOc S → nsM S 13 q n = false) (hp : ∀ j, 0 < pT S o j → j < nLc S ∧ sN S 6 j < sN S 6 n) (hT : ITr S) :
    sI (nsS S o n) = sI S ∧ sP (nsS S o n) = sP S ∧ (∀ k i, k ≠ 18 → k ≠ 19 → ¬ ((k = 16 ∨ k = 17) ∧ i = n) → sJ (nsS S o n) k i = sJ S k i) ∧ ITr (nsS S o n) := by
  have hn1 : n < nLc S := by omega
  obtain ⟨a1, a2, a3, a4⟩ := ns1_spec hL hn1 he hp0 90
  obtain ⟨b1, b2, b3, b4⟩ := ns2_spec (o := o) hL hn1 90
  have hUN : sN (sM S (ns2L S o n 90)) = sN S := rfl
  show sI (sM S (ns2L S o n 90)) = sI S ∧ sP (sM S (ns2L S o n 90)) = sP S ∧ (∀ k i, k ≠ 18 → k ≠ 19 → ¬ ((k = 16 ∨ k = 17) ∧ i = n) → sJ (sM S (ns2L S o n 90)) k i = sJ S k i) ∧ ITr (sM S (ns2L S o n 90))
  generalize sM S (ns2L S o n 90) = U at b1 b2 b3 b4 hUN ⊢
  generalize sM S (ns1L S o n 90) = A at a1 a2 a3 a4 b1 b2 b3 b4
  have jJ : ∀ k i, k ≠ 18 → k ≠ 19 → ¬ ((k = 16 ∨ k = 17) ∧ i = n) → sJ U k i = sJ S k i := fun k i x y z => (b3 k i x y).trans (a3 k i z)
  refine ⟨b1.trans a1, b2.trans a2, jJ, ?_⟩
  -- the sets
  have e8 : ∀ i j, i ≠ n → nsM U 8 i j = nsM S 8 i j := fun i j hi => by
    show nsb (sJ U 16 i) (sJ U 17 i) j = nsb (sJ S 16 i) (sJ S 17 i) j
    rw [jJ 16 i (by decide) (by decide) (fun z => hi z.2), jJ 17 i (by decide) (by decide) (fun z => hi z.2)]
  have e10 : ∀ i j, nsM U 10 i j = nsM S 10 i j := fun i j => by
    show nsb (sJ U 20 i) (sJ U 21 i) j = nsb (sJ S 20 i) (sJ S 21 i) j
    rw [jJ 20 i (by decide) (by decide) (by simp), jJ 21 i (by decide) (by decide) (by simp)]
  have e13 : ∀ i j, nsM U 13 i j = nsM S 13 i j := fun i j => by
    show nsb (sJ U 26 i) (sJ U 27 i) j = nsb (sJ S 26 i) (sJ S 27 i) j
    rw [jJ 26 i (by decide) (by decide) (by simp), jJ 27 i (by decide) (by decide) (by simp)]
  have eA : ∀ m, nsM U 8 n m = nsM A 8 n m := fun m => by
    show nsb (sJ U 16 n) (sJ U 17 n) m = nsb (sJ A 16 n) (sJ A 17 n) m
    rw [b3 16 n (by decide) (by decide), b3 17 n (by decide) (by decide)]
  have eA9 : ∀ i j, nsM A 9 i j = nsM S 9 i j := fun i j => by
    show nsb (sJ A 18 i) (sJ A 19 i) j = nsb (sJ S 18 i) (sJ S 19 i) j
    rw [a3 18 i (by simp), a3 19 i (by simp)]
  have u8 : ∀ m, m < 128 → (nsM U 8 n m = true ↔ ∃ j, j < nLc S ∧ 0 < pT S o j ∧ (m = j ∨ nsM S 8 j m = true)) := fun m hm => by
    rw [eA, a4 m hm]
    exact ⟨fun ⟨j, _, b⟩ => ⟨j, b⟩, fun ⟨j, b⟩ => ⟨j, by have := b.1; omega, b⟩⟩
  have u9 : ∀ j m, m < 128 → j < nLc S → (nsM U 9 j m = true ↔ nsM S 9 j m = true ∨ nsM U 8 n j = true ∧ m = n) := fun j m hm hj => by
    rw [b4 j m hm, eA9, decide_eq_true (show j < 90 ∧ j < nLc S from ⟨by omega, hj⟩), Bool.true_and, Bool.or_eq_true, Bool.and_eq_true, decide_eq_true_iff, eA]
  have hin : ∀ m, m < 128 → nsM U 8 n m = true → m < n := fun m hm z => by
    obtain ⟨j, c1, c2, c3⟩ := (u8 m hm).mp z
    have hjn : j ≠ n := fun q => by rw [q] at c2; omega
    rcases c3 with rfl | c3
    · omega
    · have := ((hT.1 j c1).1 m hm c3).1
      omega
  refine ⟨fun i hi => ?_, fun q hq j hj hm => ?_⟩
  · have hi : i < nLc S := by have : nLc U = nLc S := by show sN U 2 0 = _; rw [hUN]
                              omega
    have hUL : nLc U = nLc S := by show sN U 2 0 = _; rw [hUN]
    have hUO : nOc U = nOc S := by show sN U 3 0 = _; rw [hUN]
    rw [hUL, hUO, hUN]
    obtain ⟨k1, k2, k3⟩ := hT.1 i hi
    refine ⟨fun j hj hm => ?_, fun j hj => ?_, fun q hq => by rw [e10, e13]; exact k3 q hq⟩
    · by_cases ei : i = n
      · subst ei
        have hjn := hin j hj hm
        obtain ⟨w, c1, c2, c3⟩ := (u8 j hj).mp hm
        have hw := hp w c2
        have hwn : w ≠ i := fun q => by rw [q] at c2; omega
        refine ⟨hjn, ?_, fun k hk hkm => ?_⟩
        · rcases c3 with rfl | c3
          · exact hw.2
          · exact Nat.lt_trans ((hT.1 w c1).1 j hj c3).2.1 hw.2
        · rw [e8 j k (by omega)] at hkm
          refine (u8 k hk).mpr ⟨w, c1, c2, Or.inr ?_⟩
          rcases c3 with rfl | c3
          · exact hkm
          · exact ((hT.1 w c1).1 j hj c3).2.2 k hk hkm
      · rw [e8 i j ei] at hm
        obtain ⟨d1, d2, d3⟩ := k1 j hj hm
        refine ⟨d1, d2, fun k hk hkm => ?_⟩
        rw [e8 j k (by omega)] at hkm
        rw [e8 i k ei]; exact d3 k hk hkm
    · rw [u9 i j hj hi, k2 j hj]
      by_cases ej : j = n
      · subst ej
        rw [he i (by omega)]
        exact ⟨fun z => z.elim (fun z => absurd z.2 (by decide)) (fun z => ⟨hn1, z.1⟩), fun z => Or.inr ⟨z.2, rfl⟩⟩
      · rw [e8 j i ej]
        exact ⟨fun z => z.elim id (fun z => absurd z.2 ej), Or.inl⟩
  · rw [e13] at hm
    have hUO : nOc U = nOc S := by show sN U 3 0 = _; rw [hUN]
    have hUL : nLc U = nLc S := by show sN U 2 0 = _; rw [hUN]
    rw [hUO] at hq
    obtain ⟨d1, d2⟩ := hT.2 q hq j hj hm
    rw [hUL]
    refine ⟨d1, fun k hk hkm => ?_⟩
    rw [e13]
    by_cases ej : j = n
    · subst ej
      rw [h13 q hq] at hm; exact absurd hm (by decide)
    · rw [e8 j k ej] at hkm
      exact d2 k hk hkm
