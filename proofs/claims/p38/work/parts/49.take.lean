/-! PURE: taking pieces of a lot; a job takes what was reserved -/
theorem tk_spec {S : St} {i : Nat} {k : Int32} (hk0 : 0 ≤ k.toInt) (hkr : k.toInt ≤ rT S i) (hr : rT S i ≤ 500) (hc0 : 0 ≤ cT S i) (hc : cT S i ≤ 29970000) (hz : rT S i = 0 → cT S i = 0) :
    (0 ≤ (tkC S i k).toInt ∧ (tkC S i k).toInt ≤ cT S i ∧ (k.toInt = 0 → (tkC S i k).toInt = 0) ∧ (rT S i - k.toInt = 0 → (tkC S i k).toInt = cT S i)) ∧
    (∀ k' i', ¬ (k' = 41 ∧ i' = i) → sI (tkS S i k) k' i' = sI S k' i') ∧ rT (tkS S i k) i = rT S i - k.toInt ∧ (∀ k' i', ¬ (k' = 3 ∧ i' = i) → sJ (tkS S i k) k' i' = sJ S k' i') ∧ cT (tkS S i k) i = cT S i - (tkC S i k).toInt ∧ sP (tkS S i k) = sP S := by
  by_cases h1 : sI S 41 i ≤ 0
  · have h1' : rT S i ≤ 0 := i32_le.mp h1
    have e : tkC S i k = 0 := by unfold tkC; rw [if_pos h1]
    have e2 : tkS S i k = S := by unfold tkS tkA; rw [if_pos h1]
    have hc1 := hz (by omega)
    rw [e, e2, show (0 : Int64).toInt = 0 from rfl]
    exact ⟨⟨Int.le_refl _, hc0, fun _ => rfl, fun _ => hc1.symm⟩, fun _ _ _ => rfl, by omega, fun _ _ _ => rfl, by omega, rfl⟩
  · have h1' : 0 < rT S i := by
      have h9 : ¬ rT S i ≤ 0 := fun z => h1 (i32_le.mpr z)
      omega
    by_cases h2 : 0 < k
    · have h2' : 0 < k.toInt := i32_lt.mp h2
      have e : tkC S i k = sJ S 3 i * k.toInt64 / (sI S 41 i).toInt64 := by unfold tkC; rw [if_neg h1, if_pos h2]
      have e2 : tkS S i k = uJ (uI S 41 i (sI S 41 i - k)) 3 i (sJ S 3 i - sJ S 3 i * k.toInt64 / (sI S 41 i).toInt64) := by unfold tkS tkA; rw [if_neg h1, if_pos h2]
      have m0 : 0 ≤ cT S i * k.toInt := Int.mul_nonneg hc0 hk0
      have m1 : cT S i * k.toInt ≤ 29970000 * 500 := Int.mul_le_mul hc (by omega) hk0 (by decide)
      have m2 : (sJ S 3 i * k.toInt64).toInt = cT S i * k.toInt := by
        rw [Int64.toInt_mul, Int32.toInt_toInt64]
        show (cT S i * k.toInt).bmod _ = _
        exact Int.bmod_eq_of_le_mul_two (by omega) (by omega)
      have d0 : 0 ≤ cT S i * k.toInt / rT S i := Int.ediv_nonneg m0 (by omega)
      have d1 : cT S i * k.toInt / rT S i ≤ cT S i := Int.ediv_le_of_le_mul h1' (Int.mul_le_mul_of_nonneg_left hkr hc0)
      have e3 : (tkC S i k).toInt = cT S i * k.toInt / rT S i := by
        rw [e, Int64.toInt_div, m2, Int32.toInt_toInt64]
        show ((cT S i * k.toInt).tdiv (rT S i)).bmod _ = _
        rw [Int.tdiv_eq_ediv_of_nonneg m0]
        exact Int.bmod_eq_of_le_mul_two (by omega) (by omega)
      have e4 : (sJ S 3 i * k.toInt64 / (sI S 41 i).toInt64).toInt = (tkC S i k).toInt := by rw [e]
      refine ⟨⟨by rw [e3]; exact d0, by rw [e3]; exact d1, fun z => by omega, fun z => ?_⟩, fun k' i' h => ?_, ?_, fun k' i' h => ?_, ?_, ?_⟩
      · rw [e3, show k.toInt = rT S i by omega]
        exact Int.mul_ediv_cancel _ (by omega)
      · rw [e2]; exact up2_ne _ _ h
      · rw [e2]
        show (up2 (sI S) 41 i (sI S 41 i - k) 41 i).toInt = _
        rw [up2_self]
        exact i32_subV rfl rfl (by omega) (by omega)
      · rw [e2]; exact up2_ne _ _ h
      · rw [e2]
        show (up2 (sJ S) 3 i (sJ S 3 i - sJ S 3 i * k.toInt64 / (sI S 41 i).toInt64) 3 i).toInt = _
        rw [up2_self]
        rw [e3] at e4
        have := i64_subV (x := cT S i) (y := cT S i * k.toInt / rT S i) (a := sJ S 3 i) rfl e4 (by omega) (by omega)
        rw [this, e3]
      · rw [e2]
    · have h2' : k.toInt = 0 := by
        have h9 : ¬ 0 < k.toInt := fun z => h2 (i32_lt.mpr z)
        omega
      have e : tkC S i k = 0 := by unfold tkC; rw [if_neg h1, if_neg h2]
      have e2 : tkS S i k = S := by unfold tkS tkA; rw [if_neg h1, if_neg h2]
      rw [e, e2, show (0 : Int64).toInt = 0 from rfl]
      exact ⟨⟨Int.le_refl _, hc0, fun _ => rfl, fun z => by omega⟩, fun _ _ _ => rfl, by omega, fun _ _ _ => rfl, by omega, rfl⟩
/-- the share of a lot's cost -/
def shr (S : St) (o i : Nat) : Int := (tkC S i (sP S o i)).toInt
theorem tkC_congr {S T : St} {i : Nat} {k : Int32} (h1 : sI T 41 i = sI S 41 i) (h2 : sJ T 3 i = sJ S 3 i) : tkC T i k = tkC S i k := by unfold tkC; rw [h1, h2]
def TrP (S : St) (o n : Nat) (U : St) : Prop :=
  (∀ k i, k ≠ 41 → k ≠ 42 → sI U k i = sI S k i) ∧ (∀ i, rT U i = if i < n ∧ i < nLc S then rT S i - pT S o i else rT S i) ∧ (∀ i, vT U i = if i < n ∧ i < nLc S then vT S i - pT S o i else vT S i) ∧ (∀ k i, k ≠ 3 → ¬ (k = 5 ∧ i = o) → sJ U k i = sJ S k i) ∧ (∀ i, cT U i = if i < n ∧ i < nLc S then cT S i - shr S o i else cT S i) ∧ eT U o = eT S o + sm (fun i => shr S o i) (min n (nLc S)) ∧ sP U = sP S
theorem tr_spec {S : St} {o : Nat} (hb : ∀ i, i < nLc S → 0 ≤ pT S o i ∧ pT S o i ≤ vT S i ∧ vT S i ≤ rT S i ∧ rT S i ≤ 500 ∧ 0 ≤ cT S i ∧ cT S i ≤ 29970000 ∧ (rT S i = 0 → cT S i = 0)) (he : 0 ≤ eT S o) (hs : eT S o + sm (fun i => cT S i) (nLc S) ≤ 29970000) (n : Nat) : TrP S o n (sM S (trL S o n)) := by
  have hsh : ∀ i, i < nLc S → 0 ≤ shr S o i ∧ shr S o i ≤ cT S i := fun i hi => by
    obtain ⟨b1, b2, b3, b4, b5, b6, b7⟩ := hb i hi
    have q := (tk_spec (S := S) (i := i) (k := sP S o i) b1 (Int.le_trans b2 b3) b4 b5 b6 b7).1
    exact ⟨q.1, q.2.1⟩
  induction n with
  | zero => 
    refine ⟨fun _ _ _ _ => rfl, fun i => ?_, fun i => ?_, fun _ _ _ _ => rfl, fun i => ?_, ?_, rfl⟩
    · rw [if_neg (fun z => Nat.not_lt_zero _ z.1)]; rfl
    · rw [if_neg (fun z => Nat.not_lt_zero _ z.1)]; rfl
    · rw [if_neg (fun z => Nat.not_lt_zero _ z.1)]; rfl
    · rw [Nat.zero_min]; show eT S o = eT S o + 0; omega
  | succ n ih =>
    obtain ⟨h1, h2, h3, h4, h5, h6, h7⟩ := ih
    rw [trL_s]
    unfold tr1
    by_cases hn : n < sN S 2 0
    · rw [if_pos hn]
      generalize hU : sM S (trL S o n) = U at h1 h2 h3 h4 h5 h6 h7
      have hn' : n < nLc S := hn
      obtain ⟨b1, b2, b3, b4, b5, b6, b7⟩ := hb n hn
      have nn : ¬ (n < n ∧ n < nLc S) := fun z => Nat.lt_irrefl n z.1
      have r0 : rT U n = rT S n := by rw [h2 n, if_neg nn]
      have v0 : vT U n = vT S n := by rw [h3 n, if_neg nn]
      have c0 : cT U n = cT S n := by rw [h5 n, if_neg nn]
      have ep : sP U o n = sP S o n := by rw [h7]
      have t41 : sI (trT U o n) 41 n = sI S 41 n := (show sI (trT U o n) 41 n = sI U 41 n from rfl).trans (i32_ext r0)
      have t3 : sJ (trT U o n) 3 n = sJ S 3 n := i64_ext c0
      have tr : rT (trT U o n) n = rT S n := congrArg Int32.toInt t41
      have tc : cT (trT U o n) n = cT S n := congrArg Int64.toInt t3
      rw [ep]
      have hk := tkC_congr (k := sP S o n) t41 t3
      have q := tk_spec (S := trT U o n) (i := n) (k := sP S o n) b1 (by rw [tr]; exact Int.le_trans b2 b3) (by rw [tr]; exact b4) (by rw [tc]; exact b5) (by rw [tc]; exact b6) (by rw [tr, tc]; exact b7)
      rw [hk] at q ⊢
      obtain ⟨-, q1, q2, q3, q4, q5⟩ := q
      rw [tr] at q2
      rw [tc] at q4
      have hW : sM S (sA (uJ (tkS (trT U o n) n (sP S o n)) 5 o (sJ U 5 o + tkC S n (sP S o n)))) = uJ (tkS (trT U o n) n (sP S o n)) 5 o (sJ U 5 o + tkC S n (sP S o n)) := sM_sA (by rw [← hU]; rfl) (by rw [← hU]; rfl)
      rw [hW]
      generalize hX : tkS (trT U o n) n (sP S o n) = X at q1 q2 q3 q4 q5
      have k5 : sJ X 5 o = sJ U 5 o := q3 5 o (fun z => absurd z.1 (by decide))
      have k42 : vT X n = vT S n - pT S o n := by
        have : sI X 42 n = sI U 42 n - sP U o n := (q1 42 n (fun z => absurd z.1 (by decide))).trans (up2_self (sI U) 42 n (sI U 42 n - sP U o n))
        show (sI X 42 n).toInt = _
        rw [this, ep]
        exact i32_subV v0 rfl (by omega) (by omega)
      have ne3 : ∀ k i, ¬ (k = 41 ∧ i = n) → ¬ (k = 42 ∧ i = n) → sI X k i = sI U k i := fun k i z1 z2 => (q1 k i z1).trans (up2_ne (sI U) _ z2)
      have iff1 : ∀ i, i ≠ n → ((i < n + 1 ∧ i < nLc S) ↔ (i < n ∧ i < nLc S)) := fun i hne => by constructor <;> (intro z; exact ⟨by omega, z.2⟩)
      have iff2 : n < n + 1 ∧ n < nLc S := ⟨Nat.lt_succ_self n, hn⟩
      refine ⟨fun k i z1 z2 => ?_, fun i => ?_, fun i => ?_, fun k i z1 z2 => ?_, fun i => ?_, ?_, ?_⟩
      · exact (ne3 k i (fun z => z1 z.1) (fun z => z2 z.1)).trans (h1 k i z1 z2)
      · by_cases e : i = n
        · rw [e, if_pos iff2]; exact q2
        · simp only [iff1 i e]
          rw [← h2 i]
          exact congrArg Int32.toInt (ne3 41 i (fun z => e z.2) (fun z => e z.2))
      · by_cases e : i = n
        · rw [e, if_pos iff2]; exact k42
        · simp only [iff1 i e]
          rw [← h3 i]
          exact congrArg Int32.toInt (ne3 42 i (fun z => e z.2) (fun z => e z.2))
      · refine (up2_ne (sJ X) _ z2).trans ((q3 k i (fun z => z1 z.1)).trans ?_)
        exact h4 k i z1 z2
      · have a : cT (uJ X 5 o (sJ U 5 o + tkC S n (sP S o n))) i = cT X i := rfl
        rw [a]
        by_cases e : i = n
        · rw [e, if_pos iff2]; exact q4
        · simp only [iff1 i e]
          rw [← h5 i]
          exact congrArg Int64.toInt (q3 3 i (fun z => e z.2))
      · show (up2 (sJ X) 5 o (sJ U 5 o + tkC S n (sP S o n)) 5 o).toInt = _
        rw [up2_self, Nat.min_eq_left (show n + 1 ≤ nLc S from hn), sm_s]
        rw [Nat.min_eq_left (Nat.le_of_lt hn')] at h6
        have s0 : 0 ≤ sm (fun i => shr S o i) n := sm_nonneg (f := fun i => shr S o i) (fun i hi => (hsh i (by omega)).1)
        have s1 : sm (fun i => shr S o i) n ≤ sm (fun i => cT S i) n := sm_le (f := fun i => shr S o i) (g := fun i => cT S i) (fun i hi => (hsh i (by omega)).2)
        have s2 : sm (fun i => cT S i) n + cT S n ≤ sm (fun i => cT S i) (nLc S) := by
          have z := sm_le_of (f := fun i => cT S i) (n := n + 1) (m := nLc S) hn (fun i hi => (hb i hi).2.2.2.2.1)
          rw [sm_s] at z; exact z
        obtain ⟨g1, g2⟩ := hsh n hn
        have := i64_addV (x := eT S o + sm (fun i => shr S o i) n) (y := shr S o n) h6 rfl (by omega) (by omega)
        rw [this]
        show _ = _ + (_ + shr S o n)
        omega
      · show sP X = sP S
        rw [q5]; exact h7
    · rw [if_neg hn]
      have iff1 : ∀ i, ((i < n + 1 ∧ i < nLc S) ↔ (i < n ∧ i < nLc S)) := fun i => by
        have hn : ¬ n < nLc S := hn
        constructor
        · intro z; exact ⟨by omega, z.2⟩
        · intro z; exact ⟨by omega, z.2⟩
      refine ⟨h1, fun i => ?_, fun i => ?_, h4, fun i => ?_, ?_, h7⟩
      · simp only [iff1 i]; exact h2 i
      · simp only [iff1 i]; exact h3 i
      · simp only [iff1 i]; exact h5 i
      · rw [h6]
        have hn : ¬ n < nLc S := hn
        rw [Nat.min_eq_right (show nLc S ≤ n by omega), Nat.min_eq_right (show nLc S ≤ n + 1 by omega)]
