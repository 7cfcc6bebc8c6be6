-- FILE 46.promise.lean.txt
/-! PURE: promises keep Inv -/
theorem bZ_t {b : Bool} (h : b = true) : bZ b = 1 := by rw [h]; rfl
theorem bZ_f {b : Bool} (h : b = false) : bZ b = 0 := by rw [h]; rfl
theorem pR_nn {S : St} {o i : Nat} (h : 0 ≤ pT S o i) : 0 ≤ pR S o i := by unfold pR; split <;> omega
theorem pK_nn {S : St} {o i : Nat} (h : 0 ≤ pT S o i) : 0 ≤ pK S o i := by unfold pK; split <;> omega
/-- what a lot's numbers can be at most -/
theorem lot_bd {S : St} (hB : ILB S) (hQ : ILQ S) (hO : IOrd S) {i : Nat} (hi : i < nLc S) : 0 ≤ vT S i ∧ vT S i ≤ rT S i ∧ 0 ≤ dT S i ∧ rT S i + dT S i ≤ qT S i ∧ qT S i ≤ 500 := by
  obtain ⟨⟨b1, b2, b3, b4⟩, -⟩ := hB i hi
  have h1 := hQ i hi
  have h2 := sm_nonneg (f := fun o => pK S o i) (n := nOc S) (fun o ho => pK_nn ((hO o ho).2.1 i).1)
  exact ⟨b1, b2, b3, by omega, b4⟩
/-- of a promised order no more is reserved than of all -/
theorem pR_le {S : St} (hV : ILV S) (hO : IOrd S) {o i : Nat} (ho : o < nOc S) (hi : i < nLc S) (h : sI S 53 o = 112) : 0 ≤ pT S o i ∧ pT S o i ≤ vT S i := by
  have h1 := sm_one (f := fun o => pR S o i) ho (fun o ho => pR_nn ((hO o ho).2.1 i).1)
  rw [← hV i hi] at h1
  have h2 : pR S o i = pT S o i := if_pos h
  have h1 : pR S o i ≤ vT S i := h1
  exact ⟨((hO o ho).2.1 i).1, by omega⟩
/-- a promise is taken back -/
theorem Inv0.drop {S : St} {x o : Nat} (hI : Inv0 S x) (ho : o < nOc S) (h : sI S 53 o = 112) : Inv0 (dpS S o) x := by
  have hI0 := hI
  obtain ⟨hW, -, hB, hQ, hV, hO, -⟩ := hI
  have hL : sN S 2 0 ≤ 90 := hW.nL
  obtain ⟨d1, d2, d3, d4, d5⟩ := dpS_at S o hL
  have d53 : ∀ o', o' ≠ o → sI (dpS S o) 53 o' = sI S 53 o' := fun o' hne => by
    rw [d1, if_neg (fun z => hne z.2), if_neg (fun z => absurd z.1 (by decide))]
  have d53o : sI (dpS S o) 53 o = 45 := by rw [d1, if_pos ⟨rfl, rfl⟩]
  have dk : ∀ k i, k ≠ 42 → k ≠ 53 → sI (dpS S o) k i = sI S k i := fun k i h1 h2 => by
    rw [d1, if_neg (fun z => h2 z.1), if_neg (fun z => h1 z.1)]
  have d42 : ∀ i, i < nLc S → vT (dpS S o) i = vT S i - pT S o i := fun i hi => by
    obtain ⟨a1, a2⟩ := pR_le hV hO ho hi h
    obtain ⟨b1, b2, b3, b4, b5⟩ := lot_bd hB hQ hO hi
    show (sI (dpS S o) 42 i).toInt = _
    rw [d1, if_neg (fun z => absurd z.1 (by decide)), if_pos ⟨rfl, hi⟩]
    exact i32_subV rfl rfl (by omega) (by omega)
  have dP : ∀ o' i, o' ≠ o → sP (dpS S o) o' i = sP S o' i := fun o' i hne => by rw [d2, if_neg (fun z => hne z.1)]
  have dPo : ∀ i, sP (dpS S o) o i = 0 := fun i => by
    rw [d2]
    by_cases hi : i < sN S 2 0
    · rw [if_pos ⟨rfl, hi⟩]
    · rw [if_neg (fun z => hi z.2)]
      have h1 := (hO o ho).2.1 i
      have h2 : ¬ 0 < pT S o i := fun q => hi (h1.2 q).1
      exact i32_ext (by show pT S o i = 0; omega)
  have hF : PF S (dpS S o) := ⟨d4, d5, dk, d3, fun o' => by
    by_cases e : o' = o
    · rw [e]; exact Or.inr ⟨Or.inr h, Or.inl d53o⟩
    · exact Or.inl (d53 o' e)⟩
  have dTo : ∀ i, pT (dpS S o) o i = 0 := fun i => by show (sP (dpS S o) o i).toInt = 0; rw [dPo]; rfl
  have dTn : ∀ o' i, o' ≠ o → pT (dpS S o) o' i = pT S o' i := fun o' i hne => by show (sP (dpS S o) o' i).toInt = _; rw [dP o' i hne]
  have eR : ∀ o' i, o' ≠ o → pR (dpS S o) o' i = pR S o' i := fun o' i hne => by unfold pR; rw [d53 o' hne, dTn o' i hne]
  have eK : ∀ o' i, pK (dpS S o) o' i = pK S o' i := fun o' i => by
    by_cases e : o' = o
    · subst e
      unfold pK; rw [d53o, h, dTo, if_pos rfl]; rfl
    · unfold pK; rw [d53 o' e, dTn o' i e]
  have en : nLc (dpS S o) = nLc S := by show sN (dpS S o) 2 0 = _; rw [d4]
  have eo : nOc (dpS S o) = nOc S := by show sN (dpS S o) 3 0 = _; rw [d4]
  refine hF.inv hI0 ?_ ?_ ?_ ?_
  · intro i hi
    rw [en] at hi
    obtain ⟨⟨b1, b2, b3, b4⟩, b5, b6⟩ := hB i hi
    obtain ⟨a1, a2⟩ := pR_le hV hO ho hi h
    have q1 : rT (dpS S o) i = rT S i := congrArg Int32.toInt (dk 41 i (by decide) (by decide))
    have q2 : dT (dpS S o) i = dT S i := congrArg Int32.toInt (dk 43 i (by decide) (by decide))
    have q3 : qT (dpS S o) i = qT S i := congrArg Int32.toInt (dk 40 i (by decide) (by decide))
    have q4 : cT (dpS S o) i = cT S i := congrArg Int64.toInt (d3 3 i)
    rw [q1, q2, q3, q4, d42 i hi]
    exact ⟨⟨by omega, by omega, b3, b4⟩, b5, b6⟩
  · intro i hi
    rw [en] at hi
    have q1 : rT (dpS S o) i = rT S i := congrArg Int32.toInt (dk 41 i (by decide) (by decide))
    have q2 : dT (dpS S o) i = dT S i := congrArg Int32.toInt (dk 43 i (by decide) (by decide))
    have q3 : qT (dpS S o) i = qT S i := congrArg Int32.toInt (dk 40 i (by decide) (by decide))
    rw [q1, q2, q3, eo, hQ i hi]
    congr 1
    exact sm_congr (fun o' _ => (eK o' i).symm)
  · intro i hi
    rw [en] at hi
    rw [d42 i hi, eo, hV i hi, sm_upd (f := fun o => pR S o i) (g := fun o' => pR (dpS S o) o' i) ho (fun o' _ hne => eR o' i hne)]
    have z1 : pR (dpS S o) o i = 0 := by unfold pR; rw [d53o]; rfl
    have z2 : pR S o i = pT S o i := if_pos h
    show _ = _ + (pR (dpS S o) o i - pR S o i)
    rw [z1, z2]; omega
  · intro o' ho'
    rw [eo] at ho'
    have k := hO o' ho'
    rw [dk 50 o' (by decide) (by decide), dk 20 _ (by decide) (by decide), d4, en]
    by_cases e : o' = o
    · subst e
      rw [d53o]
      refine ⟨Or.inl rfl, fun i => ?_, fun _ i => dPo i, k.2.2.2.1, fun _ => Or.inl rfl⟩
      rw [dTo]; exact ⟨Int.le_refl _, fun q => absurd q (Int.lt_irrefl _)⟩
    · rw [d53 o' e]
      refine ⟨k.1, fun i => ?_, fun q i => by rw [dP o' i e]; exact k.2.2.1 q i, k.2.2.2⟩
      rw [dTn o' i e]; exact k.2.1 i
theorem ILH.drop {S : St} {x o : Nat} (hI : Inv0 S x) (ho : o < nOc S) (h : sI S 53 o = 112) (hH : ILH S) : ILH (dpS S o) := by
  obtain ⟨hW, -, hB, hQ, hV, hO, -⟩ := hI
  have hL : sN S 2 0 ≤ 90 := hW.nL
  obtain ⟨d1, d2, d3, d4, d5⟩ := dpS_at S o hL
  intro i hi hv
  rw [show nLc (dpS S o) = nLc S from congrFun (congrFun d4 2) 0] at hi
  rw [barred_congr d3]
  refine hH i hi ?_
  obtain ⟨a1, a2⟩ := pR_le hV hO ho hi h
  obtain ⟨b1, b2, b3, b4, b5⟩ := lot_bd hB hQ hO hi
  have : vT (dpS S o) i = vT S i - pT S o i := by
    show (sI (dpS S o) 42 i).toInt = _
    rw [d1, if_neg (fun z => absurd z.1 (by decide)), if_pos ⟨rfl, hi⟩]
    exact i32_subV rfl rfl (by omega) (by omega)
  omega
theorem Inv.drop {S : St} {o : Nat} (hI : Inv S) (ho : o < nOc S) (h : sI S 53 o = 112) : Inv (dpS S o) := ⟨hI.1.drop ho h, ILH.drop hI.1 ho h hI.2⟩
/-- what reserving asks -/
theorem Inv0.rsv {S : St} {x o : Nat} (hI : Inv0 S x) (ho : o < nOc S) (h : sI S 53 o = 45) : RsvOK S o := fun i hi => by
  obtain ⟨hW, -, hB, hQ, hV, hO, -⟩ := hI
  obtain ⟨b1, b2, b3, b4, b5⟩ := lot_bd hB hQ hO hi
  have e : pT S o i = 0 := by show (sP S o i).toInt = 0; rw [(hO o ho).2.2.1 h i]; rfl
  rw [e]; exact ⟨Int.le_refl _, b1, b2, by omega⟩
theorem Inv0.rsvK {S : St} {x o : Nat} (hI : Inv0 S x) (ho : o < nOc S) : ∀ j, j < sN S 4 (sN S 7 o) → (fun p => p < sN S 7 o) (sN S 8 (4 * sN S 7 o + j)) ∧ 0 ≤ (sI S 50 o * sI S 30 (4 * sN S 7 o + j)).toInt := fun j hj => by
  obtain ⟨hW, hP, -, -, -, hO, -⟩ := hI
  obtain ⟨k1, k2, k3⟩ := hP.1 _ j (hW.ordPart ho) hj
  obtain ⟨q1, q2⟩ := (hO o ho).2.2.2.1
  refine ⟨k1, ?_⟩
  have hm : 0 ≤ (sI S 50 o).toInt * (sI S 30 (4 * sN S 7 o + j)).toInt := Int.mul_nonneg (by omega) (by omega)
  have hm2 : (sI S 50 o).toInt * (sI S 30 (4 * sN S 7 o + j)).toInt ≤ 100 * 9 := Int.mul_le_mul q2 k3 (by omega) (by omega)
  rw [Int32.toInt_mul, Int.bmod_eq_of_le_mul_two (by omega) (by omega)]
  exact hm
/-- a promise is tried: it fails, and all is as it was; or the order has it -/
theorem Inv.promise {S : St} {o : Nat} (hI : Inv S) (ho : o < nOc S) (h : sI S 53 o = 45) (hm : ¬ sI S 20 (sN S 7 o) = 0) :
    (raR S o = false ∧ raS S o = S) ∨ (raR S o = true ∧ Inv (raS S o) ∧ sI (raS S o) 53 o = 112 ∧ PF S (raS S o) ∧ (∀ o', o' ≠ o → sI (raS S o) 53 o' = sI S 53 o') ∧ dpS (raS S o) o = S ∧ ∀ i, i < nLc S → vT (raS S o) i - vT S i = pT (raS S o) o i) := by
  obtain ⟨hI0, hH⟩ := hI
  have hI1 := hI0
  obtain ⟨hW, -, hB, hQ, hV, hO, -⟩ := hI1
  have hS := hI0.rsv ho h
  have hL : sN S 2 0 ≤ 90 := hW.nL
  have hp0 : ∀ i, i < sN S 2 0 → sP S o i = 0 := fun i _ => (hO o ho).2.2.1 h i
  obtain ⟨T, hT, q⟩ := ra_spec (K := fun p => p < sN S 7 o) hS (hI0.rsvK ho) hL 4
  have hTs := hT
  rcases q with ⟨q1, q2⟩ | ⟨q1, q2⟩
  · refine Or.inr ?_
    have eS : raS S o = uI T 53 o 112 := by
      unfold raS
      rw [if_neg (by rw [q1]; decide), q2]
      exact sM_sA (S := S) (T := uI T 53 o 112) hT.2.2.2.2.1.1 hT.2.2.2.2.1.2
    obtain ⟨h1, h2, h3, h4, ⟨h5, h5'⟩, h6⟩ := hT
    have b0 := hTs.back hS hL h hp0 (x := 112)
    rw [eS]
    have d53o : sI (uI T 53 o 112) 53 o = 112 := up2_self _ _ _ _
    have d53 : ∀ o', o' ≠ o → sI (uI T 53 o 112) 53 o' = sI S 53 o' := fun o' hne => (up2_ne _ _ (fun z => hne z.2)).trans (h1 53 o' (by decide))
    have dk : ∀ k i, k ≠ 42 → k ≠ 53 → sI (uI T 53 o 112) k i = sI S k i := fun k i a1 a2 => (up2_ne _ _ (fun z => a2 z.1)).trans (h1 k i a1)
    have dv : ∀ i, sI (uI T 53 o 112) 42 i = sI T 42 i := fun i => rfl
    have p0 : ∀ i, pT S o i = 0 := fun i => by show (sP S o i).toInt = 0; rw [(hO o ho).2.2.1 h i]; rfl
    have pge : ∀ i, nLc S ≤ i → pT T o i = 0 := fun i hi => by show (sP T o i).toInt = 0; rw [(h4 i hi).2, (hO o ho).2.2.1 h i]; rfl
    have pnn : ∀ i, 0 ≤ pT T o i ∧ (0 < pT T o i → i < nLc S ∧ sN S 6 i < sN S 7 o) := fun i => by
      rcases Nat.lt_or_ge i (nLc S) with hi | hi
      · obtain ⟨a1, a2, a3, a4⟩ := h6 i hi
        have := p0 i
        exact ⟨by omega, fun z => ⟨hi, (a4 (by omega)).2⟩⟩
      · rw [pge i hi]; exact ⟨Int.le_refl _, fun z => absurd z (Int.lt_irrefl _)⟩
    have hF : PF S (uI T 53 o 112) := ⟨h5, h5', dk, h3, fun o' => by
      by_cases e : o' = o
      · rw [e]; exact Or.inr ⟨Or.inl h, Or.inr d53o⟩
      · exact Or.inl (d53 o' e)⟩
    have en : nLc (uI T 53 o 112) = nLc S := congrFun (congrFun h5 2) 0
    have eo : nOc (uI T 53 o 112) = nOc S := congrFun (congrFun h5 3) 0
    have ev : ∀ i, i < nLc S → vT (uI T 53 o 112) i = vT S i + pT T o i := fun i hi => by
      obtain ⟨a1, a2, a3, a4⟩ := h6 i hi
      have := p0 i
      show (sI (uI T 53 o 112) 42 i).toInt = _
      rw [dv]
      have : vT T i = (sI T 42 i).toInt := rfl
      omega
    have dTn : ∀ o' i, o' ≠ o → pT (uI T 53 o 112) o' i = pT S o' i := fun o' i hne => congrArg Int32.toInt (h2 o' i hne)
    have q1' : ∀ i, rT (uI T 53 o 112) i = rT S i := fun i => congrArg Int32.toInt (dk 41 i (by decide) (by decide))
    have q2' : ∀ i, dT (uI T 53 o 112) i = dT S i := fun i => congrArg Int32.toInt (dk 43 i (by decide) (by decide))
    have q3' : ∀ i, qT (uI T 53 o 112) i = qT S i := fun i => congrArg Int32.toInt (dk 40 i (by decide) (by decide))
    have q4' : ∀ i, cT (uI T 53 o 112) i = cT S i := fun i => congrArg Int64.toInt (h3 3 i)
    refine ⟨by unfold raR; rw [q1]; rfl, ⟨?_, ?_⟩, d53o, hF, d53, b0.1, fun i hi => by rw [ev i hi]; show _ = pT T o i; omega⟩
    · refine hF.inv hI0 ?_ ?_ ?_ ?_
      · intro i hi
        rw [en] at hi
        obtain ⟨⟨b1, b2, b3, b4⟩, b5, b6⟩ := hB i hi
        obtain ⟨a1, a2, a3, a4⟩ := h6 i hi
        have := p0 i
        rw [q1', q2', q3', q4', ev i hi]
        exact ⟨⟨by omega, by omega, b3, b4⟩, b5, b6⟩
      · intro i hi
        rw [en] at hi
        rw [q1', q2', q3', eo, hQ i hi]
        congr 1
        refine sm_congr (fun o' _ => ?_)
        by_cases e : o' = o
        · subst e
          unfold pK
          rw [d53o, h, p0]; rfl
        · unfold pK; rw [d53 o' e, dTn o' i e]
      · intro i hi
        rw [en] at hi
        rw [ev i hi, eo, hV i hi, sm_upd (f := fun o => pR S o i) (g := fun o' => pR (uI T 53 o 112) o' i) ho (fun o' _ hne => by show pR (uI T 53 o 112) o' i = pR S o' i; unfold pR; rw [d53 o' hne, dTn o' i hne])]
        have z1 : pR (uI T 53 o 112) o i = pT T o i := if_pos d53o
        have z2 : pR S o i = 0 := by unfold pR; rw [h]; rfl
        show _ = _ + (pR (uI T 53 o 112) o i - pR S o i)
        rw [z1, z2]; omega
      · intro o' ho'
        rw [eo] at ho'
        have k := hO o' ho'
        rw [dk 50 o' (by decide) (by decide), dk 20 _ (by decide) (by decide), en]
        show _ ∧ _ ∧ _ ∧ _ ∧ (sI S 20 (sN T 7 o') = 0 → _)
        rw [h5]
        by_cases e : o' = o
        · subst e
          rw [d53o]
          refine ⟨Or.inr (Or.inl rfl), fun i => ?_, fun z => absurd z (by decide), k.2.2.2.1, fun z => absurd z hm⟩
          exact pnn i
        · rw [d53 o' e]
          refine ⟨k.1, fun i => ?_, fun z i => (h2 o' i e).trans (k.2.2.1 z i), k.2.2.2⟩
          rw [dTn o' i e]
          exact k.2.1 i
    · intro i hi hv
      rw [en] at hi
      rw [ev i hi] at hv
      rw [show barred (uI T 53 o 112) i = barred S i from barred_congr (T := uI T 53 o 112) h3 i]
      obtain ⟨a1, a2, a3, a4⟩ := h6 i hi
      have := p0 i
      rcases Int.lt_or_le 0 (vT S i) with z | z
      · exact hH i hi z
      · exact (a4 (by omega)).1
  · refine Or.inl ⟨by unfold raR; rw [q1]; rfl, ?_⟩
    have b0 := hT.back hS hL h hp0 (x := 112)
    unfold raS
    rw [if_pos q1, q2]
    exact b0.2
/-- how many pieces a promise that is taken back had -/
theorem dpR_sm {S : St} (hI : Inv S) {o : Nat} (ho : o < nOc S) (h : sI S 53 o = 112) : (dpR S o).toInt = sm (fun i => pT S o i) (nLc S) := by
  obtain ⟨⟨hW, -, hB, hQ, hV, hO, -⟩, -⟩ := hI
  have hL : nLc S ≤ 90 := hW.nL
  have bd : ∀ i, i < nLc S → 0 ≤ pT S o i ∧ pT S o i ≤ 500 := fun i hi => by
    obtain ⟨a1, a2⟩ := pR_le hV hO ho hi h
    obtain ⟨b1, b2, b3, b4, b5⟩ := lot_bd hB hQ hO hi
    omega
  have key : ∀ n, n ≤ 90 → (dpL S o n).2.toInt = sm (fun i => pT S o i) (min n (nLc S)) := by
    intro n
    induction n with
    | zero => intro _; rw [Nat.zero_min]; rfl
    | succ n ih =>
      intro hn
      have ih := ih (by omega)
      rw [dpL_s]
      unfold dp1
      by_cases hl : n < sN S 2 0
      · rw [if_pos hl]
        show ((dpL S o n).2 + sP (sM S (dpL S o n).1) o n).toInt = _
        rw [(dpL_at S o n).2.1 o n, if_neg (fun z => Nat.lt_irrefl n z.2.1)]
        have m1 : min n (nLc S) = n := Nat.min_eq_left (Nat.le_of_lt hl)
        have m2 : min (n + 1) (nLc S) = n + 1 := Nat.min_eq_left hl
        rw [m1] at ih
        rw [m2, sm_s]
        have b1 := sm_nonneg (f := fun i => pT S o i) (n := n) (fun i hi => (bd i (by omega)).1)
        have b2 := sm_bound (f := fun i => pT S o i) (n := n) (b := 500) (fun i hi => (bd i (by omega)).2)
        obtain ⟨c1, c2⟩ := bd n hl
        have c1 : 0 ≤ (sP S o n).toInt := c1
        have c2 : (sP S o n).toInt ≤ 500 := c2
        rw [i32_addV (x := sm (fun i => pT S o i) n) (y := (sP S o n).toInt) ih rfl (by omega) (by omega)]
      · have hl' : ¬ n < nLc S := hl
        rw [if_neg hl, ih, Nat.min_eq_right (by omega), Nat.min_eq_right (by omega)]
  have := key 90 (Nat.le_refl _)
  rw [Nat.min_eq_right hL] at this
  exact this
-- FILE 47.hold.lean.txt
/-! PURE: sets of numbers, place by place; holding keeps Inv -/
theorem sAdd_M {S : St} {k i j k' i' m : Nat} (hj : j < 128) (hm : m < 128) : nsM (sAdd S k i j) k' i' m = (nsM S k' i' m || (decide (k' = k ∧ i' = i) && decide (m = j))) := by
  have q := nsb_add (lo := sJ S (2 * k) i) (hi := sJ S (2 * k + 1) i) hj hm
  unfold nsAdd at q
  unfold sAdd sAddA
  by_cases h : j < 64
  · rw [if_pos h] at q ⊢
    show nsb (up2 (sJ S) (2 * k) i _ (2 * k') i') (up2 (sJ S) (2 * k) i _ (2 * k' + 1) i') m = _
    rw [up2_nk (sJ S) (k := 2 * k) (k' := 2 * k' + 1) _ (by omega)]
    by_cases e : k' = k ∧ i' = i
    · rw [e.1, e.2, up2_self, decide_eq_true (show k = k ∧ i = i from ⟨rfl, rfl⟩), Bool.true_and]; exact q
    · rw [up2_ne (sJ S) _ (fun z => e ⟨by omega, z.2⟩), decide_eq_false e, Bool.false_and, Bool.or_false]
  · rw [if_neg h] at q ⊢
    show nsb (up2 (sJ S) (2 * k + 1) i _ (2 * k') i') (up2 (sJ S) (2 * k + 1) i _ (2 * k' + 1) i') m = _
    rw [up2_nk (sJ S) (k := 2 * k + 1) (k' := 2 * k') _ (by omega)]
    by_cases e : k' = k ∧ i' = i
    · rw [e.1, e.2, up2_self, decide_eq_true (show k = k ∧ i = i from ⟨rfl, rfl⟩), Bool.true_and]; exact q
    · rw [up2_ne (sJ S) _ (fun z => e ⟨by omega, z.2⟩), decide_eq_false e, Bool.false_and, Bool.or_false]
theorem sDel_M {S : St} {k i j k' i' m : Nat} (hj : j < 128) (hm : m < 128) : nsM (sDel S k i j) k' i' m = (nsM S k' i' m && !(decide (k' = k ∧ i' = i) && decide (m = j))) := by
  have q := nsb_del (lo := sJ S (2 * k) i) (hi := sJ S (2 * k + 1) i) hj hm
  unfold nsDel at q
  unfold sDel sDelA
  by_cases h : j < 64
  · rw [if_pos h] at q ⊢
    show nsb (up2 (sJ S) (2 * k) i _ (2 * k') i') (up2 (sJ S) (2 * k) i _ (2 * k' + 1) i') m = _
    rw [up2_nk (sJ S) (k := 2 * k) (k' := 2 * k' + 1) _ (by omega)]
    by_cases e : k' = k ∧ i' = i
    · rw [e.1, e.2, up2_self, decide_eq_true (show k = k ∧ i = i from ⟨rfl, rfl⟩), Bool.true_and]; exact q
    · rw [up2_ne (sJ S) _ (fun z => e ⟨by omega, z.2⟩), decide_eq_false e, Bool.false_and, Bool.not_false, Bool.and_true]
  · rw [if_neg h] at q ⊢
    show nsb (up2 (sJ S) (2 * k + 1) i _ (2 * k') i') (up2 (sJ S) (2 * k + 1) i _ (2 * k' + 1) i') m = _
    rw [up2_nk (sJ S) (k := 2 * k + 1) (k' := 2 * k') _ (by omega)]
    by_cases e : k' = k ∧ i' = i
    · rw [e.1, e.2, up2_self, decide_eq_true (show k = k ∧ i = i from ⟨rfl, rfl⟩), Bool.true_and]; exact q
    · rw [up2_ne (sJ S) _ (fun z => e ⟨by omega, z.2⟩), decide_eq_false e, Bool.false_and, Bool.not_false, Bool.and_true]
theorem sAdd_I (S : St) (k i j : Nat) : sI (sAdd S k i j) = sI S := by unfold sAdd sAddA; split <;> rfl
theorem sAdd_P (S : St) (k i j : Nat) : sP (sAdd S k i j) = sP S := by unfold sAdd sAddA; split <;> rfl
theorem sAdd_J (S : St) (k i j k' i' : Nat) (h : ¬ (k' = 2 * k ∧ i' = i)) (h2 : ¬ (k' = 2 * k + 1 ∧ i' = i)) : sJ (sAdd S k i j) k' i' = sJ S k' i' := by
  unfold sAdd sAddA
  split
  · exact up2_ne _ _ h
  · exact up2_ne _ _ h2
theorem sDel_I (S : St) (k i j : Nat) : sI (sDel S k i j) = sI S := by unfold sDel sDelA; split <;> rfl
theorem sDel_P (S : St) (k i j : Nat) : sP (sDel S k i j) = sP S := by unfold sDel sDelA; split <;> rfl
theorem sDel_J (S : St) (k i j k' i' : Nat) (h : ¬ (k' = 2 * k ∧ i' = i)) (h2 : ¬ (k' = 2 * k + 1 ∧ i' = i)) : sJ (sDel S k i j) k' i' = sJ S k' i' := by
  unfold sDel sDelA
  split
  · exact up2_ne _ _ h
  · exact up2_ne _ _ h2
theorem sAddW_I (S : St) (k i j : Nat) : sI (sAddW S k i j) = sI S := sAdd_I S k i j
theorem sAddW_P (S : St) (k i j : Nat) : sP (sAddW S k i j) = sP S := sAdd_P S k i j
theorem sAddW_J (S : St) (k i j k' i' : Nat) (h : ¬ (k' = 2 * k ∧ i' = i)) (h2 : ¬ (k' = 2 * k + 1 ∧ i' = i)) : sJ (sAddW S k i j) k' i' = sJ S k' i' := by
  unfold sAddW
  show up2 (up2 (sJ (sAdd S k i j)) (2 * k) i _) (2 * k + 1) i _ k' i' = _
  rw [up2_ne _ _ h2, up2_ne _ _ h, sAdd_J S k i j k' i' h h2]
theorem sAddW_M {S : St} {k i j k' i' m : Nat} (hj : j < 128) (hm : m < 128) (hne : k = 8 → i ≠ j) : nsM (sAddW S k i j) k' i' m = (nsM S k' i' m || (decide (k' = k ∧ i' = i) && (decide (m = j) || nsM S 8 j m))) := by
  unfold sAddW
  by_cases e : k' = k ∧ i' = i
  · rw [e.1, e.2, decide_eq_true (show k = k ∧ i = i from ⟨rfl, rfl⟩), Bool.true_and]
    show nsb (up2 (up2 (sJ (sAdd S k i j)) (2 * k) i _) (2 * k + 1) i _ (2 * k) i) (up2 (up2 (sJ (sAdd S k i j)) (2 * k) i _) (2 * k + 1) i _ (2 * k + 1) i) m = _
    rw [up2_self, up2_nk _ (k := 2 * k + 1) (k' := 2 * k) _ (by omega), up2_self, nsb_or]
    have a1 := sAdd_M (S := S) (k := k) (i := i) (k' := k) (i' := i) hj hm
    have a2 := sAdd_M (S := S) (k := k) (i := i) (k' := 8) (i' := j) hj hm
    rw [decide_eq_true (show k = k ∧ i = i from ⟨rfl, rfl⟩), Bool.true_and] at a1
    rw [decide_eq_false (fun z => hne z.1.symm z.2.symm), Bool.false_and, Bool.or_false] at a2
    show (nsM (sAdd S k i j) k i m || nsM (sAdd S k i j) 8 j m) = _
    rw [a1, a2, Bool.or_assoc]
  · rw [decide_eq_false e, Bool.false_and, Bool.or_false]
    show nsb (up2 (up2 (sJ (sAdd S k i j)) (2 * k) i _) (2 * k + 1) i _ (2 * k') i') (up2 (up2 (sJ (sAdd S k i j)) (2 * k) i _) (2 * k + 1) i _ (2 * k' + 1) i') m = _
    rw [up2_ne _ _ (fun z => absurd z.1 (by omega)), up2_ne _ _ (fun z => e ⟨by omega, z.2⟩), up2_ne _ _ (fun z => e ⟨by omega, z.2⟩), up2_ne _ _ (fun z => absurd z.1 (by omega))]
    have a1 := sAdd_M (S := S) (k := k) (i := i) (k' := k') (i' := i') hj hm
    rw [decide_eq_false e, Bool.false_and, Bool.or_false] at a1
    exact a1
theorem barred_iff (S : St) (i : Nat) : barred S i = true ↔ nsM S 14 0 i = true ∨ ∃ j, j < 128 ∧ nsM S 8 i j = true ∧ nsM S 14 0 j = true := by
  unfold barred
  rw [Bool.or_eq_true, nsMeets_iff]
theorem PF.refl (S : St) : PF S S := ⟨rfl, rfl, fun _ _ _ _ => rfl, fun _ _ => rfl, fun _ => Or.inl rfl⟩
theorem PF.trans {S T U : St} (h : PF S T) (g : PF T U) : PF S U := by
  obtain ⟨h1, h2, h3, h4, h5⟩ := h
  obtain ⟨g1, g2, g3, g4, g5⟩ := g
  refine ⟨g1.trans h1, g2.trans h2, fun k i a b => (g3 k i a b).trans (h3 k i a b), fun k i => (g4 k i).trans (h4 k i), fun o => ?_⟩
  rcases g5 o with e | ⟨e1, e2⟩
  · rcases h5 o with z | z
    · exact Or.inl (e.trans z)
    · exact Or.inr (by rw [e]; exact z)
  · rcases h5 o with z | ⟨z1, z2⟩
    · exact Or.inr ⟨by rw [← z]; exact e1, e2⟩
    · exact Or.inr ⟨z1, e2⟩
theorem PF.drop {S : St} {o : Nat} (hL : sN S 2 0 ≤ 90) (h : sI S 53 o = 112) : PF S (dpS S o) ∧ sI (dpS S o) 53 o = 45 ∧ ∀ o', o' ≠ o → sI (dpS S o) 53 o' = sI S 53 o' ∧ ∀ i, sP (dpS S o) o' i = sP S o' i := by
  obtain ⟨d1, d2, d3, d4, d5⟩ := dpS_at S o hL
  have a : sI (dpS S o) 53 o = 45 := by rw [d1, if_pos ⟨rfl, rfl⟩]
  have b : ∀ o', o' ≠ o → sI (dpS S o) 53 o' = sI S 53 o' := fun o' hne => by
    rw [d1, if_neg (fun z => hne z.2), if_neg (fun z => absurd z.1 (by decide))]
  refine ⟨⟨d4, d5, fun k i h1 h2 => by rw [d1, if_neg (fun z => h2 z.1), if_neg (fun z => h1 z.1)], d3, fun o' => ?_⟩, a, fun o' hne => ⟨b o' hne, fun i => by rw [d2, if_neg (fun z => hne z.1)]⟩⟩
  by_cases e : o' = o
  · rw [e]; exact Or.inr ⟨Or.inr h, Or.inl a⟩
  · exact Or.inl (b o' e)
/-- only what is on hold differs -/
theorem Inv0.held {S T : St} {x : Nat} (hI : Inv0 S x) (hn : sN T = sN S) (hi : sI T = sI S) (hr : sR T = sR S) (hp : sP T = sP S) (hj : ∀ k i, k ≠ 28 → k ≠ 29 → sJ T k i = sJ S k i) (hH : IHd T) : Inv0 T x := by
  obtain ⟨hW, hP, hB, hQ, hV, hO, hJ, hD, hM, hTr, hHd, hC, hN⟩ := hI
  have i2 : ∀ k i, sI T k i = sI S k i := fun k i => by rw [hi]
  have r2 : ∀ k i, sR T k i = sR S k i := fun k i => by rw [hr]
  have p2 : ∀ k i, sP T k i = sP S k i := fun k i => by rw [hp]
  have j2 : ∀ k, k ≠ 28 → k ≠ 29 → ∀ i, sJ T k i = sJ S k i := fun k a b i => hj k i a b
  have q : ∀ c i, sI T 53 i = c ↔ sI S 53 i = c := fun c i => by rw [hi]
  exact ⟨hW.fr hn hr, hP.fr hn (i2 30) (i2 20), hB.fr hn (i2 40) (i2 41) (i2 42) (i2 43) (j2 3 (by decide) (by decide)), hQ.fr hn (i2 40) (i2 41) (i2 43) (q 112) p2, hV.fr hn (i2 42) (q 112) p2, hO.fr hn (i2 20) (i2 50) (i2 53) p2,
    hJ.fr hn (i2 20) (i2 40) (i2 50) (q 119) (q 111) (q 102) (q 100) (i2 60) (i2 61) (i2 63) (r2 3) (r2 4) (j2 5 (by decide) (by decide)), hD.fr hn (i2 43) (i2 50) (i2 55) (q 100) (j2 4 (by decide) (by decide)) (j2 26 (by decide) (by decide)) (j2 27 (by decide) (by decide)),
    hM.fr hn (r2 1) (i2 2 0) (i2 10) (i2 14) (i2 17) (i2 19) (q 111), hTr.fr hn (fun k hk i j => nsM_fr (j2 (2 * k) (by omega) (by omega)) (j2 (2 * k + 1) (by omega) (by omega)) i j), hH, hC.fr hn (j2 3 (by decide) (by decide)) (j2 5 (by decide) (by decide)) (j2 4 (by decide) (by decide)) (j2 1 (by decide) (by decide) 0) (j2 2 (by decide) (by decide) 0) (i2 1 0) (i2 63) (r2 4), hN.fr hn (r2 4) (i2 1 0) (i2 2 0)⟩
/-- of a held lot no promise is left -/
theorem poh_spec {S : St} (hI : Inv0 S 1000) (n : Nat) :
    Inv0 (sM S (pohL S n).1) 1000 ∧ PF S (sM S (pohL S n).1) ∧ (∀ i, i < nLc S → barred S i = true → ∀ o, o < n → o < nOc S → sI (sM S (pohL S n).1) 53 o = 112 → pT (sM S (pohL S n).1) o i = 0) ∧ ∃ c : Nat, (pohL S n).2 = nI c ∧ c ≤ n ∧ c ≤ nOc S := by
  induction n with
  | zero => exact ⟨hI, PF.refl S, fun i _ _ o ho => absurd ho (Nat.not_lt_zero o), 0, rfl, Nat.le_refl _, Nat.zero_le _⟩
  | succ n ih =>
    obtain ⟨h1, h2, h3, c, h4, h5, h6⟩ := ih
    rw [pohL_s]
    unfold poh1
    by_cases hn : n < sN S 3 0
    · rw [if_pos hn]
      have h7 : c ≤ n := h5
      by_cases hs : sI (sM S (pohL S n).1) 53 n = 112
      · rw [if_pos hs]
        by_cases hb : hasB (sM S (pohL S n).1) n = true
        · rw [if_pos hb]
          have eN : sN (dpS (sM S (pohL S n).1) n) = sN S := rfl
          have e : sM S (sA (dpS (sM S (pohL S n).1) n)) = dpS (sM S (pohL S n).1) n := sM_sA rfl rfl
          have hL : sN (sM S (pohL S n).1) 2 0 ≤ 90 := h1.1.nL
          obtain ⟨p1, p2, p3⟩ := PF.drop (o := n) hL hs
          refine ⟨?_, ?_, ?_, c + 1, ?_, by omega, Nat.lt_of_le_of_lt h7 hn⟩
          · show Inv0 (sM S (sA (dpS (sM S (pohL S n).1) n))) 1000
            rw [e]; exact h1.drop hn hs
          · show PF S (sM S (sA (dpS (sM S (pohL S n).1) n)))
            rw [e]; exact h2.trans p1
          · show ∀ i, i < nLc S → barred S i = true → ∀ o, o < n + 1 → o < nOc S → sI (sM S (sA (dpS (sM S (pohL S n).1) n))) 53 o = 112 → pT (sM S (sA (dpS (sM S (pohL S n).1) n))) o i = 0
            rw [e]
            intro i hi hbi o ho ho2 h112
            by_cases eo : o = n
            · subst eo; rw [p2] at h112; exact absurd h112 (by decide)
            · rw [(p3 o eo).1] at h112
              show (sP (dpS (sM S (pohL S n).1) n) o i).toInt = 0
              rw [(p3 o eo).2 i]
              exact h3 i hi hbi o (by omega) ho2 h112
          · show (pohL S n).2 + 1 = nI (c + 1)
            rw [h4, nI_1]
        · rw [if_neg hb]
          refine ⟨h1, h2, fun i hi hbi o ho ho2 h112 => ?_, c, h4, by omega, h6⟩
          by_cases eo : o = n
          · subst eo
            refine Classical.byContradiction (fun hne => hb ?_)
            unfold hasB
            refine anyN_iff.mpr ⟨i, Nat.lt_of_lt_of_le hi h1.1.nL, ?_⟩
            unfold hbp
            have hi' : i < sN (sM S (pohL S o).1) 2 0 := hi
            have hp := (h1.2.2.2.2.2.1 o hn).2.1 i
            rw [if_pos hi', if_neg (fun z => hne (by have z := i32_le.mp z; have z : pT (sM S (pohL S o).1) o i ≤ 0 := z; omega))]
            rw [barred_congr (S := S) h2.2.2.2.1]; exact hbi
          · exact h3 i hi hbi o (by omega) ho2 h112
      · rw [if_neg hs]
        refine ⟨h1, h2, fun i hi hbi o ho ho2 h112 => ?_, c, h4, by omega, h6⟩
        by_cases eo : o = n
        · subst eo; exact absurd h112 hs
        · exact h3 i hi hbi o (by omega) ho2 h112
    · rw [if_neg hn]
      exact ⟨h1, h2, fun i hi hbi o ho ho2 h112 => h3 i hi hbi o (by have : o < sN S 3 0 := ho2; omega) ho2 h112, c, h4, by omega, h6⟩
/-- a lot is put on hold -/
theorem Inv.hold1 {S : St} (hI : Inv S) {i : Nat} (hi : i < nLc S) : Inv (pohS S i) ∧ barred (pohS S i) i = true ∧ (sN (pohS S i) = sN S ∧ sI (pohS S i) 1 0 = sI S 1 0 ∧ sI (pohS S i) 2 0 = sI S 2 0 ∧ sJ (pohS S i) 1 0 = sJ S 1 0) ∧ ∃ c : Nat, pohR S i = nI c ∧ c ≤ nOc S := by
  have hi128 : i < 128 := Nat.lt_of_lt_of_le hi (Nat.le_trans hI.1.1.nL (by decide))
  have h1 : Inv0 (sAdd S 14 0 i) 1000 := by
    refine hI.1.held rfl (sAdd_I S 14 0 i) rfl (sAdd_P S 14 0 i) (fun k z a b => sAdd_J S 14 0 i k z (fun q => a (by omega)) (fun q => b (by omega))) ?_
    intro j hj hm
    rw [sAdd_M hi128 hj] at hm
    show j < nLc S
    rcases (Bool.or_eq_true _ _).mp hm with z | z
    · exact hI.1.2.2.2.2.2.2.2.2.2.2.1 j hj z
    · rw [Bool.and_eq_true] at z
      have := of_decide_eq_true z.2
      rw [this]; exact hi
  obtain ⟨k1, k2, k3, c, k4, k5, k6⟩ := poh_spec h1 30
  have e : sM (sAdd S 14 0 i) (pohL (sAdd S 14 0 i) 30).1 = pohS S i := rfl
  rw [e] at k1 k2 k3
  have eb : ∀ z, barred (pohS S i) z = barred (sAdd S 14 0 i) z := fun z => barred_congr k2.2.2.2.1 z
  refine ⟨⟨k1, ?_⟩, ?_, ⟨k2.1, ?_, ?_, ?_⟩, c, k4, k6⟩
  · intro z hz hv
    rcases hb : barred (pohS S i) z with _ | _
    · rfl
    · exfalso
      have hz2 : z < nLc S := hz
      have hV := k1.2.2.2.2.1 z hz
      rw [sm_zero (f := fun o => pR (pohS S i) o z) (fun o ho => ?_)] at hV
      · omega
      · show pR (pohS S i) o z = 0
        unfold pR
        split
        · rename_i h112
          exact k3 z hz2 (by rw [← eb]; exact hb) o (Nat.lt_of_lt_of_le ho k1.1.nO) ho h112
        · rfl
  · rw [eb, barred_iff]
    refine Or.inl ?_
    rw [sAdd_M hi128 hi128]
    simp
  · rw [k2.2.2.1 1 0 (by decide) (by decide), sAdd_I]
  · rw [k2.2.2.1 2 0 (by decide) (by decide), sAdd_I]
  · rw [k2.2.2.2.1, sAdd_J _ _ _ _ _ _ (by omega) (by omega)]
/-- a lot is taken from hold -/
theorem Inv.hold0 {S : St} (hI : Inv S) {i : Nat} (hi : i < nLc S) : Inv (sDel S 14 0 i) := by
  have hi128 : i < 128 := Nat.lt_of_lt_of_le hi (Nat.le_trans hI.1.1.nL (by decide))
  have hsub : ∀ j, j < 128 → nsM (sDel S 14 0 i) 14 0 j = true → nsM S 14 0 j = true := fun j hj hm => by
    rw [sDel_M hi128 hj, Bool.and_eq_true] at hm
    exact hm.1
  refine ⟨?_, ?_⟩
  · refine hI.1.held rfl (sDel_I S 14 0 i) rfl (sDel_P S 14 0 i) (fun k z a b => sDel_J S 14 0 i k z (fun q => a (by omega)) (fun q => b (by omega))) ?_
    exact fun j hj hm => hI.1.2.2.2.2.2.2.2.2.2.2.1 j hj (hsub j hj hm)
  · intro z hz hv
    have hv : 0 < vT S z := by
      have : vT (sDel S 14 0 i) z = vT S z := by show (sI (sDel S 14 0 i) 42 z).toInt = _; rw [sDel_I]
      omega
    have h0 := hI.2 z hz hv
    rcases hb : barred (sDel S 14 0 i) z with _ | _
    · rfl
    · exfalso
      have : barred S z = true := (barred_iff S z).mpr (((barred_iff _ z).mp hb).imp (hsub z (Nat.lt_of_lt_of_le hz (Nat.le_trans hI.1.1.nL (by decide)))) (fun ⟨j, a, b, c⟩ => ⟨j, a, by
        have : nsM (sDel S 14 0 i) 8 z j = nsM S 8 z j := by rw [sDel_M hi128 a]; simp
        rw [← this]; exact b, hsub j a c⟩))
      rw [this] at h0; exact absurd h0 (by decide)
-- FILE 49.take.lean.txt
/-! PURE: taking pieces of a lot; a job takes what was reserved -/
theorem tk_spec {S : St} {i : Nat} {k : Int32} (hk0 : 0 ≤ k.toInt) (hkr : k.toInt ≤ rT S i) (hr : rT S i ≤ 500) (hc0 : 0 ≤ cT S i) (hc : cT S i ≤ 29970000) (hz : rT S i = 0 → cT S i = 0) :
    (0 ≤ (tkC S i k).toInt ∧ (tkC S i k).toInt ≤ cT S i ∧ (k.toInt = 0 → (tkC S i k).toInt = 0) ∧ (rT S i - k.toInt = 0 → (tkC S i k).toInt = cT S i)) ∧
    (∀ k' i', ¬ (k' = 41 ∧ i' = i) → sI (tkS S i k) k' i' = sI S k' i') ∧ rT (tkS S i k) i = rT S i - k.toInt ∧ (∀ k' i', ¬ (k' = 3 ∧ i' = i) → sJ (tkS S i k) k' i' = sJ S k' i') ∧ cT (tkS S i k) i = cT S i - (tkC S i k).toInt ∧ sP (tkS S i k) = sP S := by
  by_cases h1 : sI S 41 i ≤ 0
  · have h1' : rT S i ≤ 0 := i32_le.mp h1
    have e : tkC S i k = 0 := by unfold tkC; rw [if_pos h1]
    have e2 : tkS S i k = S := by unfold tkS tkA; rw [if_pos h1]
    have hc1 := hz (by omega)
    rw [e, e2, show (0 : Int64).toInt = 0 from rfl]
    exact ⟨⟨Int.le_refl _, hc0, fun _ => rfl, fun _ => hc1.symm⟩, fun _ _ _ => rfl, by omega, fun _ _ _ => rfl, by omega, rfl⟩
  · have h1' : 0 < rT S i := by
      have h9 : ¬ rT S i ≤ 0 := fun z => h1 (i32_le.mpr z)
      omega
    by_cases h2 : 0 < k
    · have h2' : 0 < k.toInt := i32_lt.mp h2
      have e : tkC S i k = sJ S 3 i * k.toInt64 / (sI S 41 i).toInt64 := by unfold tkC; rw [if_neg h1, if_pos h2]
      have e2 : tkS S i k = uJ (uI S 41 i (sI S 41 i - k)) 3 i (sJ S 3 i - sJ S 3 i * k.toInt64 / (sI S 41 i).toInt64) := by unfold tkS tkA; rw [if_neg h1, if_pos h2]
      have m0 : 0 ≤ cT S i * k.toInt := Int.mul_nonneg hc0 hk0
      have m1 : cT S i * k.toInt ≤ 29970000 * 500 := Int.mul_le_mul hc (by omega) hk0 (by decide)
      have m2 : (sJ S 3 i * k.toInt64).toInt = cT S i * k.toInt := by
        rw [Int64.toInt_mul, Int32.toInt_toInt64]
        show (cT S i * k.toInt).bmod _ = _
        exact Int.bmod_eq_of_le_mul_two (by omega) (by omega)
      have d0 : 0 ≤ cT S i * k.toInt / rT S i := Int.ediv_nonneg m0 (by omega)
      have d1 : cT S i * k.toInt / rT S i ≤ cT S i := Int.ediv_le_of_le_mul h1' (Int.mul_le_mul_of_nonneg_left hkr hc0)
      have e3 : (tkC S i k).toInt = cT S i * k.toInt / rT S i := by
        rw [e, Int64.toInt_div, m2, Int32.toInt_toInt64]
        show ((cT S i * k.toInt).tdiv (rT S i)).bmod _ = _
        rw [Int.tdiv_eq_ediv_of_nonneg m0]
        exact Int.bmod_eq_of_le_mul_two (by omega) (by omega)
      have e4 : (sJ S 3 i * k.toInt64 / (sI S 41 i).toInt64).toInt = (tkC S i k).toInt := by rw [e]
      refine ⟨⟨by rw [e3]; exact d0, by rw [e3]; exact d1, fun z => by omega, fun z => ?_⟩, fun k' i' h => ?_, ?_, fun k' i' h => ?_, ?_, ?_⟩
      · rw [e3, show k.toInt = rT S i by omega]
        exact Int.mul_ediv_cancel _ (by omega)
      · rw [e2]; exact up2_ne _ _ h
      · rw [e2]
        show (up2 (sI S) 41 i (sI S 41 i - k) 41 i).toInt = _
        rw [up2_self]
        exact i32_subV rfl rfl (by omega) (by omega)
      · rw [e2]; exact up2_ne _ _ h
      · rw [e2]
        show (up2 (sJ S) 3 i (sJ S 3 i - sJ S 3 i * k.toInt64 / (sI S 41 i).toInt64) 3 i).toInt = _
        rw [up2_self]
        rw [e3] at e4
        have := i64_subV (x := cT S i) (y := cT S i * k.toInt / rT S i) (a := sJ S 3 i) rfl e4 (by omega) (by omega)
        rw [this, e3]
      · rw [e2]
    · have h2' : k.toInt = 0 := by
        have h9 : ¬ 0 < k.toInt := fun z => h2 (i32_lt.mpr z)
        omega
      have e : tkC S i k = 0 := by unfold tkC; rw [if_neg h1, if_neg h2]
      have e2 : tkS S i k = S := by unfold tkS tkA; rw [if_neg h1, if_neg h2]
      rw [e, e2, show (0 : Int64).toInt = 0 from rfl]
      exact ⟨⟨Int.le_refl _, hc0, fun _ => rfl, fun z => by omega⟩, fun _ _ _ => rfl, by omega, fun _ _ _ => rfl, by omega, rfl⟩
/-- the share of a lot's cost -/
def shr (S : St) (o i : Nat) : Int := (tkC S i (sP S o i)).toInt
theorem tkC_congr {S T : St} {i : Nat} {k : Int32} (h1 : sI T 41 i = sI S 41 i) (h2 : sJ T 3 i = sJ S 3 i) : tkC T i k = tkC S i k := by unfold tkC; rw [h1, h2]
def TrP (S : St) (o n : Nat) (U : St) : Prop :=
  (∀ k i, k ≠ 41 → k ≠ 42 → sI U k i = sI S k i) ∧ (∀ i, rT U i = if i < n ∧ i < nLc S then rT S i - pT S o i else rT S i) ∧ (∀ i, vT U i = if i < n ∧ i < nLc S then vT S i - pT S o i else vT S i) ∧ (∀ k i, k ≠ 3 → ¬ (k = 5 ∧ i = o) → sJ U k i = sJ S k i) ∧ (∀ i, cT U i = if i < n ∧ i < nLc S then cT S i - shr S o i else cT S i) ∧ eT U o = eT S o + sm (fun i => shr S o i) (min n (nLc S)) ∧ sP U = sP S
theorem tr_spec {S : St} {o : Nat} (hb : ∀ i, i < nLc S → 0 ≤ pT S o i ∧ pT S o i ≤ vT S i ∧ vT S i ≤ rT S i ∧ rT S i ≤ 500 ∧ 0 ≤ cT S i ∧ cT S i ≤ 29970000 ∧ (rT S i = 0 → cT S i = 0)) (he : 0 ≤ eT S o) (hs : eT S o + sm (fun i => cT S i) (nLc S) ≤ 29970000) (n : Nat) : TrP S o n (sM S (trL S o n)) := by
  have hsh : ∀ i, i < nLc S → 0 ≤ shr S o i ∧ shr S o i ≤ cT S i := fun i hi => by
    obtain ⟨b1, b2, b3, b4, b5, b6, b7⟩ := hb i hi
    have q := (tk_spec (S := S) (i := i) (k := sP S o i) b1 (Int.le_trans b2 b3) b4 b5 b6 b7).1
    exact ⟨q.1, q.2.1⟩
  induction n with
  | zero => 
    refine ⟨fun _ _ _ _ => rfl, fun i => ?_, fun i => ?_, fun _ _ _ _ => rfl, fun i => ?_, ?_, rfl⟩
    · rw [if_neg (fun z => Nat.not_lt_zero _ z.1)]; rfl
    · rw [if_neg (fun z => Nat.not_lt_zero _ z.1)]; rfl
    · rw [if_neg (fun z => Nat.not_lt_zero _ z.1)]; rfl
    · rw [Nat.zero_min]; show eT S o = eT S o + 0; omega
  | succ n ih =>
    obtain ⟨h1, h2, h3, h4, h5, h6, h7⟩ := ih
    rw [trL_s]
    unfold tr1
    by_cases hn : n < sN S 2 0
    · rw [if_pos hn]
      generalize hU : sM S (trL S o n) = U at h1 h2 h3 h4 h5 h6 h7
      have hn' : n < nLc S := hn
      obtain ⟨b1, b2, b3, b4, b5, b6, b7⟩ := hb n hn
      have nn : ¬ (n < n ∧ n < nLc S) := fun z => Nat.lt_irrefl n z.1
      have r0 : rT U n = rT S n := by rw [h2 n, if_neg nn]
      have v0 : vT U n = vT S n := by rw [h3 n, if_neg nn]
      have c0 : cT U n = cT S n := by rw [h5 n, if_neg nn]
      have ep : sP U o n = sP S o n := by rw [h7]
      have t41 : sI (trT U o n) 41 n = sI S 41 n := (show sI (trT U o n) 41 n = sI U 41 n from rfl).trans (i32_ext r0)
      have t3 : sJ (trT U o n) 3 n = sJ S 3 n := i64_ext c0
      have tr : rT (trT U o n) n = rT S n := congrArg Int32.toInt t41
      have tc : cT (trT U o n) n = cT S n := congrArg Int64.toInt t3
      rw [ep]
      have hk := tkC_congr (k := sP S o n) t41 t3
      have q := tk_spec (S := trT U o n) (i := n) (k := sP S o n) b1 (by rw [tr]; exact Int.le_trans b2 b3) (by rw [tr]; exact b4) (by rw [tc]; exact b5) (by rw [tc]; exact b6) (by rw [tr, tc]; exact b7)
      rw [hk] at q ⊢
      obtain ⟨-, q1, q2, q3, q4, q5⟩ := q
      rw [tr] at q2
      rw [tc] at q4
      have hW : sM S (sA (uJ (tkS (trT U o n) n (sP S o n)) 5 o (sJ U 5 o + tkC S n (sP S o n)))) = uJ (tkS (trT U o n) n (sP S o n)) 5 o (sJ U 5 o + tkC S n (sP S o n)) := sM_sA (by rw [← hU]; rfl) (by rw [← hU]; rfl)
      rw [hW]
      generalize hX : tkS (trT U o n) n (sP S o n) = X at q1 q2 q3 q4 q5
      have k5 : sJ X 5 o = sJ U 5 o := q3 5 o (fun z => absurd z.1 (by decide))
      have k42 : vT X n = vT S n - pT S o n := by
        have : sI X 42 n = sI U 42 n - sP U o n := (q1 42 n (fun z => absurd z.1 (by decide))).trans (up2_self (sI U) 42 n (sI U 42 n - sP U o n))
        show (sI X 42 n).toInt = _
        rw [this, ep]
        exact i32_subV v0 rfl (by omega) (by omega)
      have ne3 : ∀ k i, ¬ (k = 41 ∧ i = n) → ¬ (k = 42 ∧ i = n) → sI X k i = sI U k i := fun k i z1 z2 => (q1 k i z1).trans (up2_ne (sI U) _ z2)
      have iff1 : ∀ i, i ≠ n → ((i < n + 1 ∧ i < nLc S) ↔ (i < n ∧ i < nLc S)) := fun i hne => by constructor <;> (intro z; exact ⟨by omega, z.2⟩)
      have iff2 : n < n + 1 ∧ n < nLc S := ⟨Nat.lt_succ_self n, hn⟩
      refine ⟨fun k i z1 z2 => ?_, fun i => ?_, fun i => ?_, fun k i z1 z2 => ?_, fun i => ?_, ?_, ?_⟩
      · exact (ne3 k i (fun z => z1 z.1) (fun z => z2 z.1)).trans (h1 k i z1 z2)
      · by_cases e : i = n
        · rw [e, if_pos iff2]; exact q2
        · simp only [iff1 i e]
          rw [← h2 i]
          exact congrArg Int32.toInt (ne3 41 i (fun z => e z.2) (fun z => e z.2))
      · by_cases e : i = n
        · rw [e, if_pos iff2]; exact k42
        · simp only [iff1 i e]
          rw [← h3 i]
          exact congrArg Int32.toInt (ne3 42 i (fun z => e z.2) (fun z => e z.2))
      · refine (up2_ne (sJ X) _ z2).trans ((q3 k i (fun z => z1 z.1)).trans ?_)
        exact h4 k i z1 z2
      · have a : cT (uJ X 5 o (sJ U 5 o + tkC S n (sP S o n))) i = cT X i := rfl
        rw [a]
        by_cases e : i = n
        · rw [e, if_pos iff2]; exact q4
        · simp only [iff1 i e]
          rw [← h5 i]
          exact congrArg Int64.toInt (q3 3 i (fun z => e z.2))
      · show (up2 (sJ X) 5 o (sJ U 5 o + tkC S n (sP S o n)) 5 o).toInt = _
        rw [up2_self, Nat.min_eq_left (show n + 1 ≤ nLc S from hn), sm_s]
        rw [Nat.min_eq_left (Nat.le_of_lt hn')] at h6
        have s0 : 0 ≤ sm (fun i => shr S o i) n := sm_nonneg (f := fun i => shr S o i) (fun i hi => (hsh i (by omega)).1)
        have s1 : sm (fun i => shr S o i) n ≤ sm (fun i => cT S i) n := sm_le (f := fun i => shr S o i) (g := fun i => cT S i) (fun i hi => (hsh i (by omega)).2)
        have s2 : sm (fun i => cT S i) n + cT S n ≤ sm (fun i => cT S i) (nLc S) := by
          have z := sm_le_of (f := fun i => cT S i) (n := n + 1) (m := nLc S) hn (fun i hi => (hb i hi).2.2.2.2.1)
          rw [sm_s] at z; exact z
        obtain ⟨g1, g2⟩ := hsh n hn
        have := i64_addV (x := eT S o + sm (fun i => shr S o i) n) (y := shr S o n) h6 rfl (by omega) (by omega)
        rw [this]
        show _ = _ + (_ + shr S o n)
        omega
      · show sP X = sP S
        rw [q5]; exact h7
    · rw [if_neg hn]
      have iff1 : ∀ i, ((i < n + 1 ∧ i < nLc S) ↔ (i < n ∧ i < nLc S)) := fun i => by
        have hn : ¬ n < nLc S := hn
        constructor
        · intro z; exact ⟨by omega, z.2⟩
        · intro z; exact ⟨by omega, z.2⟩
      refine ⟨h1, fun i => ?_, fun i => ?_, h4, fun i => ?_, ?_, h7⟩
      · simp only [iff1 i]; exact h2 i
      · simp only [iff1 i]; exact h3 i
      · simp only [iff1 i]; exact h5 i
      · rw [h6]
        have hn : ¬ n < nLc S := hn
        rw [Nat.min_eq_right (show nLc S ≤ n by omega), Nat.min_eq_right (show nLc S ≤ n + 1 by omega)]
-- FILE 50.taken.lean.txt
/-! PURE: a promised order's pieces are taken for its job: Inv but for where the job waits -/
theorem Inv.take {S : St} {o : Nat} (hI : Inv S) (ho : o < nOc S) (h : sI S 53 o = 112) : Inv0 (uI (trS S o) 53 o 119) o ∧ ILH (uI (trS S o) 53 o 119) ∧ (sI (trS S o) 1 0 = sI S 1 0 ∧ sI (trS S o) 2 0 = sI S 2 0 ∧ sJ (trS S o) 1 0 = sJ S 1 0 ∧ sR S 3 o = none ∧ sR S 4 o = none) := by
  obtain ⟨hI0, hH⟩ := hI
  have hI1 := hI0
  obtain ⟨hW, hP, hB, hQ, hV, hO, hJ, hD, hM, hTr, hHd, hC, hN⟩ := hI1
  obtain ⟨k1, k2, k3, k4, k5⟩ := hI0.cost
  have hL : nLc S ≤ 90 := hW.nL
  have hmade : ¬ sI S 20 (sN S 7 o) = 0 := fun z => by
    rcases (hO o ho).2.2.2.2 z with e | e <;> (rw [h] at e; exact absurd e (by decide))
  have hnw : ¬ inWk S o := fun z => by
    rcases z with e | e <;> (rw [h] at e; exact absurd e (by decide))
  have hnd : ¬ isDn S o := fun z => by
    rcases (hJ o ho).2.2.2.2.1.mp z with e | ⟨e, -⟩ <;> (rw [h] at e; exact absurd e (by decide))
  have h4n : sR S 4 o = none := by
    cases e : sR S 4 o with
    | none => rfl
    | some i => exact absurd ((hJ o ho).2.2.2.2.2.2.1 i e).1 hnd
  have he0 : 0 ≤ eT S o := (hJ o ho).2.2.2.2.2.2.2.2.1
  have bd : ∀ i, i < nLc S → 0 ≤ pT S o i ∧ pT S o i ≤ vT S i ∧ vT S i ≤ rT S i ∧ rT S i ≤ 500 ∧ 0 ≤ cT S i ∧ cT S i ≤ 29970000 ∧ (rT S i = 0 → cT S i = 0) := fun i hi => by
    obtain ⟨a1, a2⟩ := pR_le hV hO ho hi h
    obtain ⟨b1, b2, b3, b4, b5⟩ := lot_bd hB hQ hO hi
    exact ⟨a1, a2, b2, by omega, (hB i hi).2.1, k1 i hi, (hB i hi).2.2⟩
  have eg : ∀ o, o < nOc S → 0 ≤ eT S o + gD S o := fun o ho => by
    have h1 := (hJ o ho).2.2.2.2.2.2.2.2.1
    have h2 := (hD.1 o ho).1
    omega
  have hs : eT S o + sm (fun i => cT S i) (nLc S) ≤ 29970000 := by
    have a : eT S o + gD S o ≤ sm (fun o => eT S o + gD S o) (nOc S) := sm_one (f := fun o => eT S o + gD S o) ho eg
    have b := (hD.1 o ho).1
    have c1 := hC.1
    have c2 := hC.2.1
    omega
  have hU := tr_spec bd he0 hs 90
  have hn0 : sN (sM S (trL S o 90)) = sN S := rfl
  have hr0 : sR (sM S (trL S o 90)) = sR S := rfl
  have eT0 : uI (trS S o) 53 o 119 = uI (uI (sM S (trL S o 90)) 60 o (sI (sM S (trL S o 90)) 50 o)) 53 o 119 := rfl
  have eT1 : trS S o = uI (sM S (trL S o 90)) 60 o (sI (sM S (trL S o 90)) 50 o) := rfl
  rw [eT1]
  have hWU : WT (sM S (trL S o 90)) := hW
  generalize hUe : sM S (trL S o 90) = U at hU hn0 hr0 hWU
  obtain ⟨u1, u2, u3, u4, u5, u6, u7⟩ := hU
  have c90 : ∀ i, i < nLc S → (i < 90 ∧ i < nLc S) := fun i hi => ⟨by omega, hi⟩
  rw [Nat.min_eq_right hL] at u6
  have y1 : sI (uI U 60 o (sI U 50 o)) 1 0 = sI S 1 0 := (show _ = sI U 1 0 from rfl).trans (u1 1 0 (by decide) (by decide))
  have y2 : sI (uI U 60 o (sI U 50 o)) 2 0 = sI S 2 0 := (show _ = sI U 2 0 from rfl).trans (u1 2 0 (by decide) (by decide))
  have y3 : sJ (uI U 60 o (sI U 50 o)) 1 0 = sJ S 1 0 := u4 1 0 (by decide) (fun z => absurd z.1 (by decide))
  have y4 : sR S 3 o = none := by
    have q := (hJ o ho).2.2.2.1
    have ne : o ≠ 1000 := by have := hW.nO; have ho : o < sN S 3 0 := ho; omega
    refine Classical.byContradiction (fun z => ?_)
    have := (q ne).mpr z
    rw [h] at this; exact absurd this (by decide)
  suffices hT : Inv0 (uI (uI U 60 o (sI U 50 o)) 53 o 119) o ∧ ILH (uI (uI U 60 o (sI U 50 o)) 53 o 119) from ⟨hT.1, hT.2, y1, y2, y3, y4, h4n⟩
  generalize hTe : uI (uI U 60 o (sI U 50 o)) 53 o 119 = T
  have tn : sN T = sN S := by rw [← hTe]; exact hn0
  have tr : sR T = sR S := by rw [← hTe]; exact hr0
  have tp : sP T = sP S := by rw [← hTe]; exact u7
  have tW : WT T := by rw [← hTe]; exact hWU
  have tJ : ∀ k i, k ≠ 3 → ¬ (k = 5 ∧ i = o) → sJ T k i = sJ S k i := fun k i a b => by rw [← hTe]; exact u4 k i a b
  have t53 : sI T 53 o = 119 := by rw [← hTe]; exact up2_self _ _ _ _
  have t60 : sI T 60 o = sI S 50 o := by
    rw [← hTe]
    exact (up2_self (sI U) 60 o (sI U 50 o)).trans (u1 50 o (by decide) (by decide))
  have tU : ∀ k i, ¬ (k = 53 ∧ i = o) → ¬ (k = 60 ∧ i = o) → sI T k i = sI U k i := fun k i a b => by
    rw [← hTe]; exact (up2_ne _ _ a).trans (up2_ne _ _ b)
  have tI : ∀ k i, k ≠ 41 → k ≠ 42 → ¬ (k = 53 ∧ i = o) → ¬ (k = 60 ∧ i = o) → sI T k i = sI S k i := fun k i a b c d => (tU k i c d).trans (u1 k i a b)
  have tK : ∀ k, k ≠ 41 → k ≠ 42 → k ≠ 53 → k ≠ 60 → ∀ i, sI T k i = sI S k i := fun k a b c d i => tI k i a b (fun z => c z.1) (fun z => d z.1)
  have tr1 : ∀ i, i < nLc S → rT T i = rT S i - pT S o i := fun i hi => by
    have : rT T i = rT U i := congrArg Int32.toInt (tU 41 i (fun z => absurd z.1 (by decide)) (fun z => absurd z.1 (by decide)))
    rw [this, u2 i, if_pos (c90 i hi)]
  have tv1 : ∀ i, i < nLc S → vT T i = vT S i - pT S o i := fun i hi => by
    have : vT T i = vT U i := congrArg Int32.toInt (tU 42 i (fun z => absurd z.1 (by decide)) (fun z => absurd z.1 (by decide)))
    rw [this, u3 i, if_pos (c90 i hi)]
  have tc1 : ∀ i, i < nLc S → cT T i = cT S i - shr S o i := fun i hi => by
    have : cT T i = cT U i := by rw [← hTe]
    rw [this, u5 i, if_pos (c90 i hi)]
  have te1 : eT T o = eT S o + sm (fun i => shr S o i) (nLc S) := by
    have : eT T o = eT U o := by rw [← hTe]
    rw [this, u6]
  have t53n : ∀ o', o' ≠ o → sI T 53 o' = sI S 53 o' := fun o' e => tI 53 o' (by decide) (by decide) (fun z => e z.2) (fun z => absurd z.1 (by decide))
  have t60n : ∀ o', o' ≠ o → sI T 60 o' = sI S 60 o' := fun o' e => tI 60 o' (by decide) (by decide) (fun z => absurd z.1 (by decide)) (fun z => e z.2)
  have hsh : ∀ i, i < nLc S → 0 ≤ shr S o i ∧ shr S o i ≤ cT S i ∧ (rT S i - pT S o i = 0 → shr S o i = cT S i) := fun i hi => by
    obtain ⟨b1, b2, b3, b4, b5, b6, b7⟩ := bd i hi
    have q := (tk_spec (S := S) (i := i) (k := sP S o i) b1 (Int.le_trans b2 b3) b4 b5 b6 b7).1
    exact ⟨q.1, q.2.1, q.2.2.2⟩
  have tq : ∀ i, qT T i = qT S i := fun i => congrArg Int32.toInt (tK 40 (by decide) (by decide) (by decide) (by decide) i)
  have td : ∀ i, dT T i = dT S i := fun i => congrArg Int32.toInt (tK 43 (by decide) (by decide) (by decide) (by decide) i)
  have ep : ∀ o' i, pT T o' i = pT S o' i := fun o' i => by show (sP T o' i).toInt = _; rw [tp]
  have en : nLc T = nLc S := by show sN T 2 0 = _; rw [tn]
  have eo : nOc T = nOc S := by show sN T 3 0 = _; rw [tn]
  have p100 : ∀ i, sI T 53 i = 100 ↔ sI S 53 i = 100 := fun i => by
    by_cases e : i = o
    · rw [e, t53, h]; exact ⟨fun z => absurd z (by decide), fun z => absurd z (by decide)⟩
    · rw [t53n i e]
  have p111 : ∀ i, sI T 53 i = 111 ↔ sI S 53 i = 111 := fun i => by
    by_cases e : i = o
    · rw [e, t53, h]; exact ⟨fun z => absurd z (by decide), fun z => absurd z (by decide)⟩
    · rw [t53n i e]
  have nJ : ∀ k, k ≠ 3 → k ≠ 5 → ∀ i, sJ T k i = sJ S k i := fun k a b i => tJ k i a (fun z => b z.1)
  refine ⟨⟨tW, hP.fr tn (tK 30 (by decide) (by decide) (by decide) (by decide)) (tK 20 (by decide) (by decide) (by decide) (by decide)), ?_, ?_, ?_, ?_, ?_, hD.fr tn (tK 43 (by decide) (by decide) (by decide) (by decide)) (tK 50 (by decide) (by decide) (by decide) (by decide)) (tK 55 (by decide) (by decide) (by decide) (by decide)) p100 (nJ 4 (by decide) (by decide)) (nJ 26 (by decide) (by decide)) (nJ 27 (by decide) (by decide)), hM.fr tn (fun i => by rw [tr]) (tK 2 (by decide) (by decide) (by decide) (by decide) 0) (tK 10 (by decide) (by decide) (by decide) (by decide)) (tK 14 (by decide) (by decide) (by decide) (by decide)) (tK 17 (by decide) (by decide) (by decide) (by decide)) (tK 19 (by decide) (by decide) (by decide) (by decide)) p111, hTr.fr tn (fun k hk i j => nsM_fr (nJ (2 * k) (by omega) (by omega)) (nJ (2 * k + 1) (by omega) (by omega)) i j), hHd.fr (by rw [tn]; exact Nat.le_refl _) (fun j => nsM_fr (nJ (2 * 14) (by decide) (by decide)) (nJ (2 * 14 + 1) (by decide) (by decide)) 0 j), ?_, hN.fr tn (fun i => by rw [tr]) (tK 1 (by decide) (by decide) (by decide) (by decide) 0) (tK 2 (by decide) (by decide) (by decide) (by decide) 0)⟩, ?_⟩
  · intro i hi
    rw [en] at hi
    obtain ⟨b1, b2, b3, b4, b5, b6, b7⟩ := bd i hi
    obtain ⟨g1, g2, g3⟩ := hsh i hi
    obtain ⟨⟨c1, c2, c3, c4⟩, c5, c6⟩ := hB i hi
    rw [tr1 i hi, tv1 i hi, td, tq, tc1 i hi]
    exact ⟨⟨by omega, by omega, c3, c4⟩, by omega, fun z => by have := g3 z; omega⟩
  · intro i hi
    rw [en] at hi
    rw [tr1 i hi, td, tq, eo, hQ i hi]
    have q := sm_upd (f := fun o => pK S o i) (g := fun o' => pK T o' i) ho (fun o' _ hne => by show pK T o' i = pK S o' i; unfold pK; rw [t53n o' hne, ep])
    have z1 : pK T o i = pT S o i := by unfold pK; rw [t53, ep]; rfl
    have z2 : pK S o i = 0 := if_pos h
    rw [q]
    show _ = _ + (_ + (pK T o i - pK S o i))
    rw [z1, z2]; omega
  · intro i hi
    rw [en] at hi
    rw [tv1 i hi, eo, hV i hi]
    have q := sm_upd (f := fun o => pR S o i) (g := fun o' => pR T o' i) ho (fun o' _ hne => by show pR T o' i = pR S o' i; unfold pR; rw [t53n o' hne, ep])
    have z1 : pR T o i = 0 := by unfold pR; rw [t53]; rfl
    have z2 : pR S o i = pT S o i := if_pos h
    rw [q]
    show _ = _ + (pR T o i - pR S o i)
    rw [z1, z2]; omega
  · intro o' ho'
    rw [eo] at ho'
    have k := hO o' ho'
    rw [tK 50 (by decide) (by decide) (by decide) (by decide), tK 20 (by decide) (by decide) (by decide) (by decide), tn, tp, en]
    by_cases e : o' = o
    · subst e
      rw [t53]
      refine ⟨Or.inr (Or.inr (Or.inl rfl)), fun i => ?_, fun z => absurd z (by decide), k.2.2.2.1, fun z => absurd z hmade⟩
      rw [ep]; exact k.2.1 i
    · rw [t53n o' e]
      refine ⟨k.1, fun i => ?_, k.2.2⟩
      rw [ep]; exact k.2.1 i
  · intro o' ho'
    rw [eo] at ho'
    have k := hJ o' ho'
    unfold isDn inWk
    rw [tK 61 (by decide) (by decide) (by decide) (by decide), tK 63 (by decide) (by decide) (by decide) (by decide), tK 50 (by decide) (by decide) (by decide) (by decide), tK 20 (by decide) (by decide) (by decide) (by decide), tn, tr]
    by_cases e : o' = o
    · subst e
      have z61 : sI S 61 o' = 0 := (k.2.2.1 hnw hnd).2
      rw [t53, t60, z61]
      have q50 := (hO o' ho').2.2.2.1
      refine ⟨⟨by omega, by decide⟩, fun _ => by rw [show (0 : Int32).toInt = 0 from rfl]; omega, fun z => absurd (Or.inl rfl) z, fun z => absurd rfl z, ⟨fun z => absurd z hnd, fun z => ?_⟩, fun z => absurd z hnd, fun i z => by rw [h4n] at z; exact absurd z (by simp), fun z => absurd z hnd, ?_, fun z => absurd (Or.inl rfl) z⟩
      · rcases z with z | z
        · exact absurd z (by decide)
        · exact absurd z.1 (by decide)
      · rw [te1]
        have : 0 ≤ sm (fun i => shr S o' i) (nLc S) := sm_nonneg (f := fun i => shr S o' i) (fun i hi => (hsh i hi).1)
        omega
    · have hne : o' ≠ 1000 := by have := hW.nO; have ho : o' < sN S 3 0 := ho'; omega
      have e5 : eT T o' = eT S o' := congrArg Int64.toInt (tJ 5 o' (by decide) (fun z => e z.2))
      rw [t53n o' e, t60n o' e, e5]
      refine ⟨k.1, k.2.1, k.2.2.1, fun _ => k.2.2.2.1 hne, k.2.2.2.2.1, k.2.2.2.2.2.1, fun i z => ?_, k.2.2.2.2.2.2.2⟩
      obtain ⟨a1, a2, a3⟩ := k.2.2.2.2.2.2.1 i z
      exact ⟨a1, by rw [en]; exact a2, by rw [tK 40 (by decide) (by decide) (by decide) (by decide)]; exact a3⟩
  · obtain ⟨c1, c2, c3, c4⟩ := hC
    have j1 : sJ T 1 0 = sJ S 1 0 := nJ 1 (by decide) (by decide) 0
    have j2 : sJ T 2 0 = sJ S 2 0 := nJ 2 (by decide) (by decide) 0
    refine ⟨?_, by rw [j2]; exact c2, by rw [j1, tK 1 (by decide) (by decide) (by decide) (by decide)]; exact c3, fun z => ?_⟩
    · rw [j1, j2, en, eo]
      have q1 : sm (fun i => cT T i) (nLc S) = sm (fun i => cT S i - shr S o i) (nLc S) := sm_congr (fun i hi => tc1 i hi)
      have q2 := sm_sub (fun i => cT S i) (fun i => shr S o i) (nLc S)
      have g4 : ∀ o', gD T o' = gD S o' := fun o' => congrArg Int64.toInt (nJ 4 (by decide) (by decide) o')
      have q3 := sm_upd (f := fun o => eT S o + gD S o) (g := fun o' => eT T o' + gD T o') ho (fun o' _ hne => by
        have e5 : eT T o' = eT S o' := congrArg Int64.toInt (tJ 5 o' (by decide) (fun z => hne z.2))
        show eT T o' + gD T o' = eT S o' + gD S o'
        rw [e5, g4])
      have q3 : sm (fun o' => eT T o' + gD T o') (nOc S) = sm (fun o => eT S o + gD S o) (nOc S) + (eT T o + gD T o - (eT S o + gD S o)) := q3
      rw [te1, g4] at q3
      omega
    · rw [j2] at z
      obtain ⟨o', a1, a2, a3⟩ := c4 z
      refine ⟨o', by rw [eo]; exact a1, ?_, by rw [tr]; exact a3⟩
      unfold isDn
      rw [tK 63 (by decide) (by decide) (by decide) (by decide)]; exact a2
  · intro i hi hv
    rw [en] at hi
    have hb : barred T i = barred S i := by
      unfold barred
      rw [show nsM T 14 0 i = nsM S 14 0 i from nsM_fr (nJ (2 * 14) (by decide) (by decide)) (nJ (2 * 14 + 1) (by decide) (by decide)) 0 i, show nsLo T 8 i = nsLo S 8 i from nJ (2 * 8) (by decide) (by decide) i, show nsHi T 8 i = nsHi S 8 i from nJ (2 * 8 + 1) (by decide) (by decide) i, show nsLo T 14 0 = nsLo S 14 0 from nJ (2 * 14) (by decide) (by decide) 0, show nsHi T 14 0 = nsHi S 14 0 from nJ (2 * 14 + 1) (by decide) (by decide) 0]
    rw [hb]
    refine hH i hi ?_
    have b1 := (bd i hi).1
    have := tv1 i hi
    omega
-- FILE 51.newlot.lean.txt
/-! PURE: a new lot, a lot that comes in, a new order keep Inv -/
section NL
variable {S : St} {p : Nat} {qy : Int32} {co : Int64}
theorem nl_I {k i : Nat} (h : i ≠ sN S 2 0) : sI (nlS S p qy co) k i = sI S k i := by
  show up2 (up2 (up2 (up2 S.2.1 40 (sN S 2 0) qy) 41 (sN S 2 0) qy) 42 (sN S 2 0) 0) 43 (sN S 2 0) 0 k i = _
  rw [up2_ne _ _ (fun z => h z.2), up2_ne _ _ (fun z => h z.2), up2_ne _ _ (fun z => h z.2), up2_ne _ _ (fun z => h z.2)]
theorem nl_Ik {k i : Nat} (h : k ≠ 40 ∧ k ≠ 41 ∧ k ≠ 42 ∧ k ≠ 43) : sI (nlS S p qy co) k i = sI S k i := by
  show up2 (up2 (up2 (up2 S.2.1 40 (sN S 2 0) qy) 41 (sN S 2 0) qy) 42 (sN S 2 0) 0) 43 (sN S 2 0) 0 k i = _
  rw [up2_nk _ _ h.2.2.2, up2_nk _ _ h.2.2.1, up2_nk _ _ h.2.1, up2_nk _ _ h.1]
theorem nl_J {k i : Nat} (h : i ≠ sN S 2 0) : sJ (nlS S p qy co) k i = sJ S k i := by
  show up2 (up2 (up2 (up2 (up2 (up2 (up2 S.2.2.1 3 (sN S 2 0) co) 16 (sN S 2 0) 0) 17 (sN S 2 0) 0) 18 (sN S 2 0) 0) 19 (sN S 2 0) 0) 20 (sN S 2 0) 0) 21 (sN S 2 0) 0 k i = _
  rw [up2_ne _ _ (fun z => h z.2), up2_ne _ _ (fun z => h z.2), up2_ne _ _ (fun z => h z.2), up2_ne _ _ (fun z => h z.2), up2_ne _ _ (fun z => h z.2), up2_ne _ _ (fun z => h z.2), up2_ne _ _ (fun z => h z.2)]
theorem nl_Jk {k i : Nat} (h : k ≠ 3 ∧ k ≠ 16 ∧ k ≠ 17 ∧ k ≠ 18 ∧ k ≠ 19 ∧ k ≠ 20 ∧ k ≠ 21) : sJ (nlS S p qy co) k i = sJ S k i := by
  show up2 (up2 (up2 (up2 (up2 (up2 (up2 S.2.2.1 3 (sN S 2 0) co) 16 (sN S 2 0) 0) 17 (sN S 2 0) 0) 18 (sN S 2 0) 0) 19 (sN S 2 0) 0) 20 (sN S 2 0) 0) 21 (sN S 2 0) 0 k i = _
  obtain ⟨h1, h2, h3, h4, h5, h6, h7⟩ := h
  rw [up2_nk _ _ h7, up2_nk _ _ h6, up2_nk _ _ h5, up2_nk _ _ h4, up2_nk _ _ h3, up2_nk _ _ h2, up2_nk _ _ h1]
theorem nl_N6 {i : Nat} (h : i ≠ sN S 2 0) : sN (nlS S p qy co) 6 i = sN S 6 i := by
  show up2 (up2 S.1 2 0 (sN S 2 0 + 1)) 6 (sN S 2 0) p 6 i = _
  rw [up2_ne _ _ (fun z => h z.2), up2_nk _ _ (by decide)]
theorem nl_N6n : sN (nlS S p qy co) 6 (sN S 2 0) = p := up2_self _ _ _ _
theorem nl_40 : sI (nlS S p qy co) 40 (sN S 2 0) = qy := by simp [nlS, sI, sJ, sN, up2]
theorem nl_41 : sI (nlS S p qy co) 41 (sN S 2 0) = qy := by simp [nlS, sI, sJ, sN, up2]
theorem nl_42 : sI (nlS S p qy co) 42 (sN S 2 0) = 0 := by simp [nlS, sI, sJ, sN, up2]
theorem nl_43 : sI (nlS S p qy co) 43 (sN S 2 0) = 0 := by simp [nlS, sI, sJ, sN, up2]
theorem nl_3 : sJ (nlS S p qy co) 3 (sN S 2 0) = co := by simp [nlS, sI, sJ, sN, up2]
theorem nl_s {k : Nat} (h : k = 8 ∨ k = 9 ∨ k = 10) (j : Nat) : nsM (nlS S p qy co) k (sN S 2 0) j = false := by
  have e : sJ (nlS S p qy co) (2 * k) (sN S 2 0) = 0 ∧ sJ (nlS S p qy co) (2 * k + 1) (sN S 2 0) = 0 := by
    rcases h with rfl | rfl | rfl <;> (constructor <;> simp [nlS, sJ, up2])
  show nsb (sJ (nlS S p qy co) (2 * k) (sN S 2 0)) (sJ (nlS S p qy co) (2 * k + 1) (sN S 2 0)) j = false
  rw [e.1, e.2]
  unfold nsb
  split <;> exact lb_0 _
theorem nl_M {k i : Nat} (h : i ≠ sN S 2 0) (j : Nat) : nsM (nlS S p qy co) k i j = nsM S k i j := by
  show nsb (sJ (nlS S p qy co) (2 * k) i) (sJ (nlS S p qy co) (2 * k + 1) i) j = _
  rw [nl_J h, nl_J h]
theorem nl_Mk {k i : Nat} (h : k = 13 ∨ k = 14) (j : Nat) : nsM (nlS S p qy co) k i j = nsM S k i j := by
  show nsb (sJ (nlS S p qy co) (2 * k) i) (sJ (nlS S p qy co) (2 * k + 1) i) j = _
  rw [nl_Jk (by omega), nl_Jk (by omega)]
theorem nl_nL : nLc (nlS S p qy co) = nLc S + 1 := nlS_nL
theorem nl_nO : nOc (nlS S p qy co) = nOc S := nlS_n (by decide) (by decide)
theorem p_out {o : Nat} (hO : IOrd S) (ho : o < nOc S) {i : Nat} (hi : nLc S ≤ i) : pT S o i = 0 := by
  have k := (hO o ho).2.1 i
  have h : ¬ 0 < pT S o i := fun z => by have := (k.2 z).1; omega
  omega
theorem IPart.nl (h : IPart S) : IPart (nlS S p qy co) := by
  have e1 : nPc (nlS S p qy co) = nPc S := nlS_n (by decide) (by decide)
  refine ⟨fun q j hq hj => ?_, by rw [e1]; exact h.2.1, by rw [nl_Ik (by decide)]; exact h.2.2.1, by rw [nl_Ik (by decide)]; exact h.2.2.2⟩
  rw [e1] at hq
  rw [nlS_n (by decide) (by decide)] at hj
  rw [nlS_n (by decide) (by decide), nl_Ik (by decide)]
  exact h.1 q j hq hj
theorem ILB.nl (h : ILB S) (h1 : 0 ≤ qy.toInt) (h2 : qy.toInt ≤ 500) (h3 : 0 ≤ co.toInt) (h4 : qy.toInt = 0 → co.toInt = 0) : ILB (nlS S p qy co) := by
  intro i hi
  rw [nl_nL] at hi
  by_cases e : i = sN S 2 0
  · subst e
    unfold vT rT dT qT cT
    rw [nl_40, nl_41, nl_42, nl_43, nl_3]
    exact ⟨⟨by decide, h1, by decide, h2⟩, h3, h4⟩
  · have hi2 : i < nLc S := by have : nLc S = sN S 2 0 := rfl; omega
    unfold vT rT dT qT cT
    rw [nl_I e, nl_I e, nl_I e, nl_I e, nl_J e]
    exact h i hi2
theorem ILQ.nl (h : ILQ S) (hO : IOrd S) : ILQ (nlS S p qy co) := by
  intro i hi
  rw [nl_nL] at hi
  rw [nl_nO]
  have ek : ∀ o, pK (nlS S p qy co) o i = pK S o i := fun o => by
    unfold pK pT
    rw [nl_Ik (by decide)]
    rfl
  by_cases e : i = sN S 2 0
  · have z : sm (fun o => pK (nlS S p qy co) o i) (nOc S) = 0 := sm_zero (f := fun o => pK (nlS S p qy co) o i) (fun o ho => by
      show pK (nlS S p qy co) o i = 0
      rw [ek]; unfold pK
      rw [p_out hO ho (by rw [e]; exact Nat.le_refl _)]
      split <;> rfl)
    rw [z]
    subst e
    unfold qT rT dT
    rw [nl_40, nl_41, nl_43]
    show qy.toInt = qy.toInt + 0 + 0
    omega
  · have hi2 : i < nLc S := by have : nLc S = sN S 2 0 := rfl; omega
    rw [sm_congr (f := fun o => pK (nlS S p qy co) o i) (g := fun o => pK S o i) (fun o _ => ek o)]
    unfold qT rT dT
    rw [nl_I e, nl_I e, nl_I e]
    exact h i hi2
theorem ILV.nl (h : ILV S) (hO : IOrd S) : ILV (nlS S p qy co) := by
  intro i hi
  rw [nl_nL] at hi
  rw [nl_nO]
  have ek : ∀ o, pR (nlS S p qy co) o i = pR S o i := fun o => by
    unfold pR pT
    rw [nl_Ik (by decide)]
    rfl
  by_cases e : i = sN S 2 0
  · have z : sm (fun o => pR (nlS S p qy co) o i) (nOc S) = 0 := sm_zero (f := fun o => pR (nlS S p qy co) o i) (fun o ho => by
      show pR (nlS S p qy co) o i = 0
      rw [ek]; unfold pR
      rw [p_out hO ho (by rw [e]; exact Nat.le_refl _)]
      split <;> rfl)
    rw [z]
    subst e
    unfold vT
    rw [nl_42]; rfl
  · have hi2 : i < nLc S := by have : nLc S = sN S 2 0 := rfl; omega
    rw [sm_congr (f := fun o => pR (nlS S p qy co) o i) (g := fun o => pR S o i) (fun o _ => ek o)]
    unfold vT
    rw [nl_I e]
    exact h i hi2
theorem nl_barred {i : Nat} (h : i ≠ sN S 2 0) : barred (nlS S p qy co) i = barred S i := by
  unfold barred
  rw [nl_Mk (Or.inr rfl), show nsLo (nlS S p qy co) 8 i = nsLo S 8 i from nl_J h, show nsHi (nlS S p qy co) 8 i = nsHi S 8 i from nl_J h, show nsLo (nlS S p qy co) 14 0 = nsLo S 14 0 from nl_Jk (by decide), show nsHi (nlS S p qy co) 14 0 = nsHi S 14 0 from nl_Jk (by decide)]
theorem ILH.nl (h : ILH S) : ILH (nlS S p qy co) := by
  intro i hi hv
  rw [nl_nL] at hi
  by_cases e : i = sN S 2 0
  · subst e
    unfold vT at hv
    rw [nl_42] at hv
    exact absurd hv (by decide)
  · have hi2 : i < nLc S := by have : nLc S = sN S 2 0 := rfl; omega
    unfold vT at hv
    rw [nl_I e] at hv
    rw [nl_barred e]
    exact h i hi2 hv
theorem IOrd.nl (h : IOrd S) : IOrd (nlS S p qy co) := by
  intro o ho
  rw [nl_nO] at ho
  have k := h o ho
  rw [nl_nL, nl_Ik (k := 53) (by decide), nl_Ik (k := 50) (by decide), nl_Ik (k := 20) (by decide), nlS_n (k := 7) (by decide) (by decide)]
  refine ⟨k.1, fun i => ⟨(k.2.1 i).1, fun z => ?_⟩, k.2.2⟩
  obtain ⟨a, b⟩ := (k.2.1 i).2 z
  have ne : i ≠ sN S 2 0 := by have : nLc S = sN S 2 0 := rfl; omega
  rw [nl_N6 ne]
  exact ⟨by omega, b⟩
theorem IJob.nl {x : Nat} (h : IJob S x) : IJob (nlS S p qy co) x := by
  intro o ho
  rw [nl_nO] at ho
  have k := h o ho
  unfold inWk isDn eT
  rw [nl_nL, nl_Ik (k := 53) (by decide), nl_Ik (k := 50) (by decide), nl_Ik (k := 20) (by decide), nl_Ik (k := 60) (by decide), nl_Ik (k := 61) (by decide), nl_Ik (k := 63) (by decide), nlS_n (k := 7) (by decide) (by decide), nl_Jk (k := 5) (by decide)]
  refine ⟨k.1, k.2.1, k.2.2.1, k.2.2.2.1, k.2.2.2.2.1, k.2.2.2.2.2.1, fun i z => ?_, k.2.2.2.2.2.2.2⟩
  obtain ⟨a1, a2, a3⟩ := k.2.2.2.2.2.2.1 i z
  have ne : i ≠ sN S 2 0 := by have : nLc S = sN S 2 0 := rfl; omega
  rw [nl_I ne]
  exact ⟨a1, by omega, a3⟩
theorem IDel.nl (h : IDel S) : IDel (nlS S p qy co) := by
  refine ⟨fun o ho => ?_, ?_⟩
  · rw [nl_nO] at ho
    have k := h.1 o ho
    unfold gD
    simp only [nl_Ik (S := S) (p := p) (qy := qy) (co := co) (k := 53) (by decide), nl_Ik (S := S) (p := p) (qy := qy) (co := co) (k := 50) (by decide), nl_Ik (S := S) (p := p) (qy := qy) (co := co) (k := 55) (by decide), nl_Jk (S := S) (p := p) (qy := qy) (co := co) (k := 4) (by decide), nl_Mk (S := S) (p := p) (qy := qy) (co := co) (k := 13) (Or.inl rfl)]
    exact k
  · have e1 : sm (fun o => (sI (nlS S p qy co) 55 o).toInt) (nOc (nlS S p qy co)) = sm (fun o => (sI S 55 o).toInt) (nOc S) := by
      rw [nl_nO]
      exact sm_congr (fun o _ => by rw [nl_Ik (by decide)])
    have e2 : sm (fun i => dT (nlS S p qy co) i) (nLc (nlS S p qy co)) = sm (fun i => dT S i) (nLc S) := by
      rw [nl_nL, sm_s]
      have z : dT (nlS S p qy co) (nLc S) = 0 := by unfold dT; rw [show nLc S = sN S 2 0 from rfl, nl_43]; rfl
      rw [z, sm_congr (f := fun i => dT (nlS S p qy co) i) (g := fun i => dT S i) (fun i hi => by
        show dT (nlS S p qy co) i = dT S i
        unfold dT
        rw [nl_I (Nat.ne_of_lt hi)])]
      omega
    rw [e1, e2]; exact h.2
theorem IMach.nl (h : IMach S) : IMach (nlS S p qy co) := by
  have e0 : nMc (nlS S p qy co) = nMc S := nlS_n (by decide) (by decide)
  refine ⟨fun m hm => ?_, ?_⟩
  · rw [e0] at hm
    have k := h.1 m hm
    simp only [nl_Ik (S := S) (p := p) (qy := qy) (co := co) (k := 10) (by decide), nl_Ik (S := S) (p := p) (qy := qy) (co := co) (k := 14) (by decide), nl_Ik (S := S) (p := p) (qy := qy) (co := co) (k := 53) (by decide), nl_Ik (S := S) (p := p) (qy := qy) (co := co) (k := 17) (by decide), nl_Ik (S := S) (p := p) (qy := qy) (co := co) (k := 19) (by decide), nl_Ik (S := S) (p := p) (qy := qy) (co := co) (k := 2) (by decide), e0]
    exact k
  · have e1 : sm (fun m => bZ (sI (nlS S p qy co) 14 m == 111)) (nMc (nlS S p qy co)) = sm (fun m => bZ (sI S 14 m == 111)) (nMc S) := by
      rw [e0]
      exact sm_congr (fun o _ => by rw [nl_Ik (by decide)])
    have e2 : sm (fun o => bZ (sI (nlS S p qy co) 53 o == 111)) (nOc (nlS S p qy co)) = sm (fun o => bZ (sI S 53 o == 111)) (nOc S) := by
      rw [nl_nO]
      exact sm_congr (fun o _ => by rw [nl_Ik (by decide)])
    rw [e1, e2]; exact h.2
theorem ITr.nl (h : ITr S) (hn : nLc S < 90) : ITr (nlS S p qy co) := by
  have e0 : nLc S = sN S 2 0 := rfl
  refine ⟨fun i hi => ?_, fun o ho j hj hm => ?_⟩
  · rw [nl_nL] at hi
    rw [nl_nL, nl_nO]
    by_cases e : i = sN S 2 0
    · subst e
      refine ⟨fun j hj hm => ?_, fun j hj => ?_, fun o ho => ?_⟩
      · rw [nl_s (Or.inl rfl)] at hm; exact absurd hm (by decide)
      · rw [nl_s (Or.inr (Or.inl rfl))]
        refine ⟨fun z => absurd z (by decide), fun z => ?_⟩
        exfalso
        by_cases ej : j = sN S 2 0
        · rw [ej, nl_s (Or.inl rfl)] at z; exact absurd z.2 (by decide)
        · rw [nl_M ej] at z
          have := ((h.1 j (by omega)).1 _ (by omega) z.2).1
          omega
      · rw [nl_s (Or.inr (Or.inr rfl)), nl_Mk (Or.inl rfl)]
        refine ⟨fun z => absurd z (by decide), fun z => ?_⟩
        exfalso
        have := (h.2 o z.1 _ (by omega) z.2).1
        omega
    · have hi2 : i < nLc S := by omega
      obtain ⟨k1, k2, k3⟩ := h.1 i hi2
      refine ⟨fun j hj hm => ?_, fun j hj => ?_, fun o ho => ?_⟩
      · rw [nl_M e] at hm
        obtain ⟨a1, a2, a3⟩ := k1 j hj hm
        have ej : j ≠ sN S 2 0 := by omega
        rw [nl_N6 e, nl_N6 ej]
        refine ⟨a1, a2, fun k hk hkm => ?_⟩
        rw [nl_M ej] at hkm
        rw [nl_M e]; exact a3 k hk hkm
      · rw [nl_M e, k2 j hj]
        by_cases ej : j = sN S 2 0
        · rw [ej, nl_s (Or.inl rfl)]
          exact ⟨fun z => absurd z.1 (Nat.lt_irrefl _), fun z => absurd z.2 (by decide)⟩
        · rw [nl_M ej]
          exact ⟨fun z => ⟨by omega, z.2⟩, fun z => ⟨by omega, z.2⟩⟩
      · rw [nl_M e, nl_Mk (Or.inl rfl)]; exact k3 o ho
  · rw [nl_nO] at ho
    rw [nl_Mk (Or.inl rfl)] at hm
    obtain ⟨a1, a2⟩ := h.2 o ho j hj hm
    rw [nl_nL]
    refine ⟨by omega, fun k hk hkm => ?_⟩
    rw [nl_M (by omega)] at hkm
    rw [nl_Mk (Or.inl rfl)]; exact a2 k hk hkm
theorem IHd.nl (h : IHd S) : IHd (nlS S p qy co) := by
  intro j hj hm
  rw [nl_Mk (Or.inr rfl)] at hm
  rw [nl_nL]
  have := h j hj hm
  omega
theorem sm_c_nl : sm (fun i => cT (nlS S p qy co) i) (nLc (nlS S p qy co)) = sm (fun i => cT S i) (nLc S) + co.toInt := by
  rw [nl_nL, sm_s]
  have z : cT (nlS S p qy co) (nLc S) = co.toInt := by unfold cT; rw [show nLc S = sN S 2 0 from rfl, nl_3]
  rw [z, sm_congr (f := fun i => cT (nlS S p qy co) i) (g := fun i => cT S i) (fun i hi => by
    show cT (nlS S p qy co) i = cT S i
    unfold cT
    rw [nl_J (Nat.ne_of_lt hi)])]
end NL
-- FILE 52.sources.lean.txt
/-! PURE: noteSources: what a new lot is made of -/
theorem ns1_spec {S : St} {o n : Nat} (hL : nLc S ≤ 90) (hn : n < nLc S) (he : ∀ m, m < 128 → nsM S 8 n m = false) (hp : pT S o n = 0) (t : Nat) :
    sI (sM S (ns1L S o n t)) = sI S ∧ sP (sM S (ns1L S o n t)) = sP S ∧ (∀ k i, ¬ ((k = 16 ∨ k = 17) ∧ i = n) → sJ (sM S (ns1L S o n t)) k i = sJ S k i) ∧
    ∀ m, m < 128 → (nsM (sM S (ns1L S o n t)) 8 n m = true ↔ ∃ j, j < t ∧ j < nLc S ∧ 0 < pT S o j ∧ (m = j ∨ nsM S 8 j m = true)) := by
  induction t with
  | zero => exact ⟨rfl, rfl, fun _ _ _ => rfl, fun m hm => ⟨fun z => absurd (show nsM S 8 n m = true from z) (by rw [he m hm]; decide), fun ⟨j, z, _⟩ => absurd z (Nat.not_lt_zero j)⟩⟩
  | succ t ih =>
    obtain ⟨h1, h2, h3, h4⟩ := ih
    rw [show ns1L S o n (t + 1) = ns1 S o n t (ns1L S o n t) from rfl]
    unfold ns1
    generalize hA : sM S (ns1L S o n t) = A at h1 h2 h3 h4 ⊢
    have ep : sP A o t = sP S o t := by rw [h2]
    by_cases ht : t < sN S 2 0
    · rw [if_pos ht, ep]
      have ht' : t < nLc S := ht
      by_cases hz : sP S o t ≤ 0
      · rw [if_pos hz]
        have hz' : ¬ 0 < pT S o t := by
          have := i32_le.mp hz
          have this : pT S o t ≤ 0 := this
          omega
        rw [hA]
        refine ⟨h1, h2, h3, fun m hm => (h4 m hm).trans ⟨fun ⟨j, a, b⟩ => ⟨j, by omega, b⟩, fun ⟨j, a, b⟩ => ⟨j, ?_, b⟩⟩⟩
        have : j ≠ t := fun z => hz' (z ▸ b.2.1)
        omega
      · rw [if_neg hz]
        have hz' : 0 < pT S o t := by
          have h9 : ¬ pT S o t ≤ 0 := fun z => hz (i32_le.mpr z)
          omega
        have hnt : n ≠ t := fun z => by rw [z] at hp; omega
        have hnt2 : t ≠ n := fun z => hnt z.symm
        have t128 : t < 128 := by omega
        have e9 : sM S (sA (sAddW A 8 n t)) = sAddW A 8 n t := sM_sA (by rw [← hA]; rfl) (by rw [← hA]; rfl)
        rw [e9]
        have e8 : ∀ m, nsM A 8 t m = nsM S 8 t m := fun m => by
          show nsb (sJ A 16 t) (sJ A 17 t) m = nsb (sJ S 16 t) (sJ S 17 t) m
          rw [h3 16 t (fun z => hnt2 z.2), h3 17 t (fun z => hnt2 z.2)]
        refine ⟨(sAddW_I A 8 n t).trans h1, (sAddW_P A 8 n t).trans h2, fun k i h => (sAddW_J A 8 n t k i (fun z => h ⟨Or.inl z.1, z.2⟩) (fun z => h ⟨Or.inr z.1, z.2⟩)).trans (h3 k i h), fun m hm => ?_⟩
        rw [sAddW_M t128 hm (fun _ => hnt), decide_eq_true (show (8 : Nat) = 8 ∧ n = n from ⟨rfl, rfl⟩), Bool.true_and, Bool.or_eq_true, h4 m hm, Bool.or_eq_true, decide_eq_true_iff, e8]
        constructor
        · rintro (⟨j, a, b⟩ | z)
          · exact ⟨j, by omega, b⟩
          · exact ⟨t, by omega, ht, hz', z⟩
        · rintro ⟨j, a, b, c, d⟩
          by_cases ej : j = t
          · subst ej; exact Or.inr d
          · exact Or.inl ⟨j, by omega, b, c, d⟩
    · rw [if_neg ht, hA]
      refine ⟨h1, h2, h3, fun m hm => (h4 m hm).trans ⟨fun ⟨j, a, b⟩ => ⟨j, by omega, b⟩, fun ⟨j, a, b⟩ => ⟨j, ?_, b⟩⟩⟩
      have := b.1
      have ht' : ¬ t < nLc S := ht
      omega
theorem ns2_spec {S : St} {o n : Nat} (hL : nLc S ≤ 90) (hn : n < nLc S) (t : Nat) :
    sI (sM S (ns2L S o n t)) = sI (sM S (ns1L S o n 90)) ∧ sP (sM S (ns2L S o n t)) = sP (sM S (ns1L S o n 90)) ∧ (∀ k i, k ≠ 18 → k ≠ 19 → sJ (sM S (ns2L S o n t)) k i = sJ (sM S (ns1L S o n 90)) k i) ∧
    ∀ j m, m < 128 → nsM (sM S (ns2L S o n t)) 9 j m = (nsM (sM S (ns1L S o n 90)) 9 j m || (decide (j < t ∧ j < nLc S) && nsM (sM S (ns1L S o n 90)) 8 n j && decide (m = n))) := by
  induction t with
  | zero => 
    refine ⟨rfl, rfl, fun _ _ _ _ => rfl, fun j m hm => ?_⟩
    rw [decide_eq_false (fun z => Nat.not_lt_zero j z.1), Bool.false_and, Bool.false_and, Bool.or_false]; rfl
  | succ t ih =>
    obtain ⟨h1, h2, h3, h4⟩ := ih
    rw [show ns2L S o n (t + 1) = ns2 S n t (ns2L S o n t) from rfl]
    unfold ns2
    have hAN : sN (sM S (ns2L S o n t)) = sN S := rfl
    have hAR : sR (sM S (ns2L S o n t)) = sR S := rfl
    generalize hB : sM S (ns2L S o n t) = B at h1 h2 h3 h4 hAN hAR ⊢
    generalize sM S (ns1L S o n 90) = A at h1 h2 h3 h4 ⊢
    have e8 : nsM B 8 n t = nsM A 8 n t := by
      show nsb (sJ B 16 n) (sJ B 17 n) t = nsb (sJ A 16 n) (sJ A 17 n) t
      rw [h3 16 n (by decide) (by decide), h3 17 n (by decide) (by decide)]
    have keep : (∀ j, (j < t + 1 ∧ j < nLc S) → nsM A 8 n j = true → j < t) → ∀ j m, m < 128 → nsM B 9 j m = (nsM A 9 j m || (decide (j < t + 1 ∧ j < nLc S) && nsM A 8 n j && decide (m = n))) := fun hk j m hm => by
      rw [h4 j m hm]
      congr 2
      cases e : nsM A 8 n j with
      | false => rw [Bool.and_false, Bool.and_false]
      | true =>
        rw [Bool.and_true, Bool.and_true]
        exact decide_eq_decide.mpr ⟨fun z => ⟨by omega, z.2⟩, fun z => ⟨hk j z e, z.2⟩⟩
    by_cases ht : t < sN S 2 0
    · rw [if_pos ht, e8]
      by_cases hz : nsM A 8 n t = true
      · rw [if_pos hz]
        have ht' : t < nLc S := ht
        have e9 : sM S (sA (sAdd B 9 t n)) = sAdd B 9 t n := sM_sA hAN hAR
        rw [e9]
        refine ⟨(sAdd_I B 9 t n).trans h1, (sAdd_P B 9 t n).trans h2, fun k i a b => (sAdd_J B 9 t n k i (fun z => a z.1) (fun z => b z.1)).trans (h3 k i a b), fun j m hm => ?_⟩
        rw [sAdd_M (by omega) hm, h4 j m hm, Bool.or_assoc]
        congr 1
        by_cases ej : j = t
        · subst ej
          rw [decide_eq_false (show ¬ (j < j ∧ j < nLc S) from fun z => Nat.lt_irrefl j z.1), decide_eq_true (show (9 : Nat) = 9 ∧ j = j from ⟨rfl, rfl⟩), decide_eq_true (show j < j + 1 ∧ j < nLc S from ⟨Nat.lt_succ_self j, ht'⟩), hz]
          rfl
        · rw [decide_eq_false (show ¬ ((9 : Nat) = 9 ∧ j = t) from fun z => ej z.2), Bool.false_and, Bool.or_false]
          congr 2
          exact decide_eq_decide.mpr ⟨fun z => ⟨by omega, z.2⟩, fun z => ⟨by omega, z.2⟩⟩
      · rw [if_neg hz, hB]
        refine ⟨h1, h2, h3, keep (fun j z e => ?_)⟩
        have : j ≠ t := fun q => hz (q ▸ e)
        omega
    · rw [if_neg ht, hB]
      have ht' : ¬ t < nLc S := ht
      exact ⟨h1, h2, h3, keep (fun j z e => by omega)⟩
theorem ns_spec {S : St} {o n : Nat} (hL : nLc S ≤ 90) (hn : nLc S = n + 1) (he : ∀ m, m < 128 → nsM S 8 n m = false) (hp0 : pT S o n = 0) (h13 : ∀ q, q < nOc S → nsM S 13 q n = false) (hp : ∀ j, 0 < pT S o j → j < nLc S ∧ sN S 6 j < sN S 6 n) (hT : ITr S) :
    sI (nsS S o n) = sI S ∧ sP (nsS S o n) = sP S ∧ (∀ k i, k ≠ 18 → k ≠ 19 → ¬ ((k = 16 ∨ k = 17) ∧ i = n) → sJ (nsS S o n) k i = sJ S k i) ∧ ITr (nsS S o n) := by
  have hn1 : n < nLc S := by omega
  obtain ⟨a1, a2, a3, a4⟩ := ns1_spec hL hn1 he hp0 90
  obtain ⟨b1, b2, b3, b4⟩ := ns2_spec (o := o) hL hn1 90
  have hUN : sN (sM S (ns2L S o n 90)) = sN S := rfl
  show sI (sM S (ns2L S o n 90)) = sI S ∧ sP (sM S (ns2L S o n 90)) = sP S ∧ (∀ k i, k ≠ 18 → k ≠ 19 → ¬ ((k = 16 ∨ k = 17) ∧ i = n) → sJ (sM S (ns2L S o n 90)) k i = sJ S k i) ∧ ITr (sM S (ns2L S o n 90))
  generalize sM S (ns2L S o n 90) = U at b1 b2 b3 b4 hUN ⊢
  generalize sM S (ns1L S o n 90) = A at a1 a2 a3 a4 b1 b2 b3 b4
  have jJ : ∀ k i, k ≠ 18 → k ≠ 19 → ¬ ((k = 16 ∨ k = 17) ∧ i = n) → sJ U k i = sJ S k i := fun k i x y z => (b3 k i x y).trans (a3 k i z)
  refine ⟨b1.trans a1, b2.trans a2, jJ, ?_⟩
  -- the sets
  have e8 : ∀ i j, i ≠ n → nsM U 8 i j = nsM S 8 i j := fun i j hi => by
    show nsb (sJ U 16 i) (sJ U 17 i) j = nsb (sJ S 16 i) (sJ S 17 i) j
    rw [jJ 16 i (by decide) (by decide) (fun z => hi z.2), jJ 17 i (by decide) (by decide) (fun z => hi z.2)]
  have e10 : ∀ i j, nsM U 10 i j = nsM S 10 i j := fun i j => by
    show nsb (sJ U 20 i) (sJ U 21 i) j = nsb (sJ S 20 i) (sJ S 21 i) j
    rw [jJ 20 i (by decide) (by decide) (by simp), jJ 21 i (by decide) (by decide) (by simp)]
  have e13 : ∀ i j, nsM U 13 i j = nsM S 13 i j := fun i j => by
    show nsb (sJ U 26 i) (sJ U 27 i) j = nsb (sJ S 26 i) (sJ S 27 i) j
    rw [jJ 26 i (by decide) (by decide) (by simp), jJ 27 i (by decide) (by decide) (by simp)]
  have eA : ∀ m, nsM U 8 n m = nsM A 8 n m := fun m => by
    show nsb (sJ U 16 n) (sJ U 17 n) m = nsb (sJ A 16 n) (sJ A 17 n) m
    rw [b3 16 n (by decide) (by decide), b3 17 n (by decide) (by decide)]
  have eA9 : ∀ i j, nsM A 9 i j = nsM S 9 i j := fun i j => by
    show nsb (sJ A 18 i) (sJ A 19 i) j = nsb (sJ S 18 i) (sJ S 19 i) j
    rw [a3 18 i (by simp), a3 19 i (by simp)]
  have u8 : ∀ m, m < 128 → (nsM U 8 n m = true ↔ ∃ j, j < nLc S ∧ 0 < pT S o j ∧ (m = j ∨ nsM S 8 j m = true)) := fun m hm => by
    rw [eA, a4 m hm]
    exact ⟨fun ⟨j, _, b⟩ => ⟨j, b⟩, fun ⟨j, b⟩ => ⟨j, by have := b.1; omega, b⟩⟩
  have u9 : ∀ j m, m < 128 → j < nLc S → (nsM U 9 j m = true ↔ nsM S 9 j m = true ∨ nsM U 8 n j = true ∧ m = n) := fun j m hm hj => by
    rw [b4 j m hm, eA9, decide_eq_true (show j < 90 ∧ j < nLc S from ⟨by omega, hj⟩), Bool.true_and, Bool.or_eq_true, Bool.and_eq_true, decide_eq_true_iff, eA]
  have hin : ∀ m, m < 128 → nsM U 8 n m = true → m < n := fun m hm z => by
    obtain ⟨j, c1, c2, c3⟩ := (u8 m hm).mp z
    have hjn : j ≠ n := fun q => by rw [q] at c2; omega
    rcases c3 with rfl | c3
    · omega
    · have := ((hT.1 j c1).1 m hm c3).1
      omega
  refine ⟨fun i hi => ?_, fun q hq j hj hm => ?_⟩
  · have hi : i < nLc S := by have : nLc U = nLc S := by show sN U 2 0 = _; rw [hUN]
                              omega
    have hUL : nLc U = nLc S := by show sN U 2 0 = _; rw [hUN]
    have hUO : nOc U = nOc S := by show sN U 3 0 = _; rw [hUN]
    rw [hUL, hUO, hUN]
    obtain ⟨k1, k2, k3⟩ := hT.1 i hi
    refine ⟨fun j hj hm => ?_, fun j hj => ?_, fun q hq => by rw [e10, e13]; exact k3 q hq⟩
    · by_cases ei : i = n
      · subst ei
        have hjn := hin j hj hm
        obtain ⟨w, c1, c2, c3⟩ := (u8 j hj).mp hm
        have hw := hp w c2
        have hwn : w ≠ i := fun q => by rw [q] at c2; omega
        refine ⟨hjn, ?_, fun k hk hkm => ?_⟩
        · rcases c3 with rfl | c3
          · exact hw.2
          · exact Nat.lt_trans ((hT.1 w c1).1 j hj c3).2.1 hw.2
        · rw [e8 j k (by omega)] at hkm
          refine (u8 k hk).mpr ⟨w, c1, c2, Or.inr ?_⟩
          rcases c3 with rfl | c3
          · exact hkm
          · exact ((hT.1 w c1).1 j hj c3).2.2 k hk hkm
      · rw [e8 i j ei] at hm
        obtain ⟨d1, d2, d3⟩ := k1 j hj hm
        refine ⟨d1, d2, fun k hk hkm => ?_⟩
        rw [e8 j k (by omega)] at hkm
        rw [e8 i k ei]; exact d3 k hk hkm
    · rw [u9 i j hj hi, k2 j hj]
      by_cases ej : j = n
      · subst ej
        rw [he i (by omega)]
        exact ⟨fun z => z.elim (fun z => absurd z.2 (by decide)) (fun z => ⟨hn1, z.1⟩), fun z => Or.inr ⟨z.2, rfl⟩⟩
      · rw [e8 j i ej]
        exact ⟨fun z => z.elim id (fun z => absurd z.2 ej), Or.inl⟩
  · rw [e13] at hm
    have hUO : nOc U = nOc S := by show sN U 3 0 = _; rw [hUN]
    have hUL : nLc U = nLc S := by show sN U 2 0 = _; rw [hUN]
    rw [hUO] at hq
    obtain ⟨d1, d2⟩ := hT.2 q hq j hj hm
    rw [hUL]
    refine ⟨d1, fun k hk hkm => ?_⟩
    rw [e13]
    by_cases ej : j = n
    · subst ej
      rw [h13 q hq] at hm; exact absurd hm (by decide)
    · rw [e8 j k ej] at hkm
      exact d2 k hk hkm
-- FILE 53.finish.lean.txt
/-! PURE: a job is finished -/
theorem fiT_53 {Y : St} {o : Nat} {c : Int32} : fiT (uI Y 53 o c) o = fiT Y o := by
  have e : up2 (up2 (sI Y) 53 o c) 53 o 102 = up2 (sI Y) 53 o 102 := by
    funext k i
    simp only [up2]
    by_cases h : k = 53 ∧ i = o
    · rw [if_pos h, if_pos h]
    · rw [if_neg h, if_neg h, if_neg h]
  show (Y.1, up2 (up2 (up2 (sI Y) 53 o c) 53 o 102) 63 o (up2 (sI Y) 53 o c 2 0), Y.2.2) = _
  rw [e, up2_nk _ _ (by decide)]
  rfl
theorem fiS_53 {Y : St} {o : Nat} {c : Int32} : fiS (uI Y 53 o c) o = fiS Y o := by
  unfold fiS fiU
  rw [fiT_53, show sI (uI Y 53 o c) 60 o = sI Y 60 o from rfl]
theorem IJob.fin {Y T : St} {o : Nat} (hJ : IJob Y o) (hm : ¬ sI Y 20 (sN Y 7 o) = 0) (h119 : sI Y 53 o = 119) (hnow : 0 ≤ (sI Y 2 0).toInt) (ho : o < nOc Y) (hO : nOc T = nOc Y) (hL : nLc Y ≤ nLc T) (h7 : ∀ i, sN T 7 i = sN Y 7 i)
    (hI : ∀ k, k = 20 ∨ k = 50 ∨ k = 60 ∨ k = 61 → ∀ i, sI T k i = sI Y k i) (h40 : ∀ i, i < nLc Y → sI T 40 i = sI Y 40 i) (h53 : sI T 53 o = 102) (h53n : ∀ i, i ≠ o → sI T 53 i = sI Y 53 i) (h63 : sI T 63 o = sI Y 2 0) (h63n : ∀ i, i ≠ o → sI T 63 i = sI Y 63 i)
    (hr3 : sR T 3 o = none) (hr3n : ∀ i, i ≠ o → sR T 3 i = sR Y 3 i) (hr4 : (sR T 4 o = none ∧ sI Y 60 o = 0) ∨ ∃ n, sR T 4 o = some n ∧ ¬ sI Y 60 o = 0 ∧ n < nLc T ∧ sI T 40 n = sI Y 60 o) (hr4n : ∀ i, i ≠ o → sR T 4 i = sR Y 4 i) (h5 : sJ T 5 o = 0) (h5n : ∀ i, i ≠ o → sJ T 5 i = sJ Y 5 i) : IJob T 1000 := by
  intro o' ho'
  rw [hO] at ho'
  have k := hJ o' ho'
  unfold inWk isDn eT
  rw [hI 20 (by decide), hI 50 (by decide), hI 60 (by decide), hI 61 (by decide), h7]
  by_cases e : o' = o
  · subst e
    have hw : inWk Y o' := Or.inl h119
    rw [h53, h63, hr3, h5]
    have nn : ¬ sI Y 2 0 = -1 := fun z => by rw [z] at hnow; exact absurd hnow (by decide)
    refine ⟨k.1, fun _ => k.2.1 (Or.inl hw), fun _ z => absurd nn z, fun _ => ⟨fun z => absurd z (by decide), fun z => absurd rfl z⟩, ⟨fun _ => Or.inl rfl, fun _ => nn⟩, fun _ => hnow, fun i z => ?_, fun _ => ?_, by decide, fun _ => rfl⟩
    · rcases hr4 with ⟨a, -⟩ | ⟨n, a, b, c, d⟩
      · rw [a] at z; exact absurd z (by simp)
      · rw [a] at z; cases z; exact ⟨nn, c, d⟩
    · rcases hr4 with ⟨a, b⟩ | ⟨n, a, b, -⟩
      · rw [a]; exact ⟨fun _ => b, fun _ => rfl⟩
      · rw [a]; exact ⟨fun z => absurd z (by simp), fun z => absurd z b⟩
  · rw [h53n o' e, h63n o' e, hr3n o' e, hr4n o' e, h5n o' e]
    refine ⟨k.1, k.2.1, k.2.2.1, fun _ => k.2.2.2.1 e, k.2.2.2.2.1, k.2.2.2.2.2.1, fun i z => ?_, k.2.2.2.2.2.2.2⟩
    obtain ⟨a, b, c⟩ := k.2.2.2.2.2.2.1 i z
    rw [h40 i b]
    exact ⟨a, Nat.lt_of_lt_of_le b hL, c⟩
/-- what stays where a job is finished -/
def FinK (Y T : St) (o : Nat) : Prop := sI T 53 o = 102 ∧ (∀ i, i ≠ o → sI T 53 i = sI Y 53 i) ∧ sI T 1 0 = sI Y 1 0 ∧ sI T 2 0 = sI Y 2 0 ∧ sJ T 1 0 = sJ Y 1 0 ∧ (∀ k, k ≠ 2 → k ≠ 6 → ∀ i, sN T k i = sN Y k i) ∧ (∀ i, i ≠ o → ∀ k, sR T k i = sR Y k i) ∧ (∀ i, sR T 1 i = sR Y 1 i) ∧ (∀ k, k = 14 ∨ k = 18 ∨ k = 19 ∨ k = 17 → ∀ i, sI T k i = sI Y k i)
theorem Inv0.fin {Y : St} {o : Nat} (hI : Inv0 Y o) (hH : ILH Y) (ho : o < nOc Y) (h119 : sI Y 53 o = 119) (h3 : sR Y 3 o = none) (hn : nLc Y < 90) : Inv (fiS Y o) ∧ FinK Y (fiS Y o) o := by
  have hI0 := hI
  obtain ⟨hW, hP, hB, hQ, hV, hO, hJ, hD, hM, hTr, hHd, hC, hN⟩ := hI
  obtain ⟨k1, k2, k3, k4, k5⟩ := hI0.cost
  have hm : ¬ sI Y 20 (sN Y 7 o) = 0 := fun z => by
    rcases (hO o ho).2.2.2.2 z with e | e <;> (rw [h119] at e; exact absurd e (by decide))
  have hw : inWk Y o := Or.inl h119
  have hnd : ¬ isDn Y o := fun z => by
    rcases (hJ o ho).2.2.2.2.1.mp z with e | ⟨e, -⟩ <;> (rw [h119] at e; exact absurd e (by decide))
  have h4n : sR Y 4 o = none := by
    cases e : sR Y 4 o with
    | none => rfl
    | some i => exact absurd ((hJ o ho).2.2.2.2.2.2.1 i e).1 hnd
  have hnow : 0 ≤ (sI Y 2 0).toInt := hN.2.2.2.1
  have he0 : 0 ≤ eT Y o := (hJ o ho).2.2.2.2.2.2.2.2.1
  have hg0 := (hD.1 o ho).1
  have heg := k2 o ho
  -- the state with the order finished
  have f53 : sI (fiT Y o) 53 o = 102 := by simp [fiT, sI, up2]
  have f63 : sI (fiT Y o) 63 o = sI Y 2 0 := by simp [fiT, sI, up2]
  have fI : ∀ k i, ¬ (k = 53 ∧ i = o) → ¬ (k = 63 ∧ i = o) → sI (fiT Y o) k i = sI Y k i := fun k i a b => (up2_ne (up2 (sI Y) 53 o 102) _ b).trans (up2_ne (sI Y) _ a)
  have fK : ∀ k, k ≠ 53 → k ≠ 63 → ∀ i, sI (fiT Y o) k i = sI Y k i := fun k a b i => fI k i (fun z => a z.1) (fun z => b z.1)
  have f53n : ∀ i, i ≠ o → sI (fiT Y o) 53 i = sI Y 53 i := fun i e => fI 53 i (fun z => e z.2) (fun z => absurd z.1 (by decide))
  have f63n : ∀ i, i ≠ o → sI (fiT Y o) 63 i = sI Y 63 i := fun i e => fI 63 i (fun z => absurd z.1 (by decide)) (fun z => e z.2)
  have fc : ∀ c : Int32, c ≠ 102 → c ≠ 119 → ∀ i, sI (fiT Y o) 53 i = c ↔ sI Y 53 i = c := fun c a b i => by
    by_cases e : i = o
    · rw [e, f53, h119]; exact ⟨fun z => absurd z.symm a, fun z => absurd z.symm b⟩
    · rw [f53n i e]
  have gP : IPart (fiT Y o) := hP.fr rfl (fK 30 (by decide) (by decide)) (fK 20 (by decide) (by decide))
  have gB : ILB (fiT Y o) := hB.fr rfl (fK 40 (by decide) (by decide)) (fK 41 (by decide) (by decide)) (fK 42 (by decide) (by decide)) (fK 43 (by decide) (by decide)) (fun _ => rfl)
  have gQ : ILQ (fiT Y o) := hQ.fr rfl (fK 40 (by decide) (by decide)) (fK 41 (by decide) (by decide)) (fK 43 (by decide) (by decide)) (fc 112 (by decide) (by decide)) (fun _ _ => rfl)
  have gV : ILV (fiT Y o) := hV.fr rfl (fK 42 (by decide) (by decide)) (fc 112 (by decide) (by decide)) (fun _ _ => rfl)
  have gH : ILH (fiT Y o) := hH.fr rfl (fK 42 (by decide) (by decide)) (fun _ _ _ => ⟨rfl, rfl⟩)
  have gO : IOrd (fiT Y o) := by
    intro o' ho'
    have k := hO o' ho'
    rw [fK 50 (by decide) (by decide), fK 20 (by decide) (by decide)]
    by_cases e : o' = o
    · subst e
      rw [f53]
      exact ⟨Or.inr (Or.inr (Or.inr (Or.inr (Or.inl rfl)))), k.2.1, fun z => absurd z (by decide), k.2.2.2.1, fun z => absurd z hm⟩
    · rw [f53n o' e]; exact k
  have gD9 : IDel (fiT Y o) := hD.fr rfl (fK 43 (by decide) (by decide)) (fK 50 (by decide) (by decide)) (fK 55 (by decide) (by decide)) (fc 100 (by decide) (by decide)) (fun _ => rfl) (fun _ => rfl) (fun _ => rfl)
  have gM : IMach (fiT Y o) := hM.fr rfl (fun _ => rfl) (fK 2 (by decide) (by decide) 0) (fK 10 (by decide) (by decide)) (fK 14 (by decide) (by decide)) (fK 17 (by decide) (by decide)) (fK 19 (by decide) (by decide)) (fc 111 (by decide) (by decide))
  have gT9 : ITr (fiT Y o) := hTr.fr rfl (fun _ _ _ _ => rfl)
  have gHd : IHd (fiT Y o) := hHd
  by_cases h60 : sI Y 60 o = 0
  · -- no pieces are left
    have eS : fiS Y o = uJ (uJ (fiT Y o) 2 0 (sJ Y 2 0 + sJ Y 5 o)) 5 o 0 := by unfold fiS; rw [if_pos h60]
    rw [eS]
    have tJ : ∀ k i, ¬ (k = 2 ∧ i = 0) → ¬ (k = 5 ∧ i = o) → sJ (uJ (uJ (fiT Y o) 2 0 (sJ Y 2 0 + sJ Y 5 o)) 5 o 0) k i = sJ Y k i := fun k i a b => (up2_ne _ _ b).trans (up2_ne _ _ a)
    have t5 : sJ (uJ (uJ (fiT Y o) 2 0 (sJ Y 2 0 + sJ Y 5 o)) 5 o 0) 5 o = 0 := up2_self _ _ _ _
    have t2 : sJ (uJ (uJ (fiT Y o) 2 0 (sJ Y 2 0 + sJ Y 5 o)) 5 o 0) 2 0 = sJ Y 2 0 + sJ Y 5 o := by simp [sJ, up2]
    have tn : sN (uJ (uJ (fiT Y o) 2 0 (sJ Y 2 0 + sJ Y 5 o)) 5 o 0) = sN Y := rfl
    have ti : sI (uJ (uJ (fiT Y o) 2 0 (sJ Y 2 0 + sJ Y 5 o)) 5 o 0) = sI (fiT Y o) := rfl
    have tr : sR (uJ (uJ (fiT Y o) 2 0 (sJ Y 2 0 + sJ Y 5 o)) 5 o 0) = sR Y := rfl
    have tp : sP (uJ (uJ (fiT Y o) 2 0 (sJ Y 2 0 + sJ Y 5 o)) 5 o 0) = sP Y := rfl
    have tW : WT (uJ (uJ (fiT Y o) 2 0 (sJ Y 2 0 + sJ Y 5 o)) 5 o 0) := hW
    generalize uJ (uJ (fiT Y o) 2 0 (sJ Y 2 0 + sJ Y 5 o)) 5 o 0 = T at tJ t5 t2 tn ti tr tp tW ⊢
    have fN : sN T = sN (fiT Y o) := tn
    have jk : ∀ k, k ≠ 2 → k ≠ 5 → ∀ i, sJ T k i = sJ (fiT Y o) k i := fun k a b i => tJ k i (fun z => a z.1) (fun z => b z.1)
    have iI : ∀ k i, sI T k i = sI (fiT Y o) k i := fun k i => by rw [ti]
    refine ⟨⟨⟨tW, gP.fr fN (iI 30) (iI 20), gB.fr fN (iI 40) (iI 41) (iI 42) (iI 43) (jk 3 (by decide) (by decide)), gQ.fr fN (iI 40) (iI 41) (iI 43) (fun i => by rw [ti]) (fun o i => by rw [tp]; rfl), gV.fr fN (iI 42) (fun i => by rw [ti]) (fun o i => by rw [tp]; rfl), gO.fr fN (iI 20) (iI 50) (iI 53) (fun o i => by rw [tp]; rfl), ?_, gD9.fr fN (iI 43) (iI 50) (iI 55) (fun i => by rw [ti]) (jk 4 (by decide) (by decide)) (jk 26 (by decide) (by decide)) (jk 27 (by decide) (by decide)), gM.fr fN (fun i => by rw [tr]; rfl) (iI 2 0) (iI 10) (iI 14) (iI 17) (iI 19) (fun i => by rw [ti]), gT9.fr fN (fun k hk i j => nsM_fr (jk (2 * k) (by omega) (by omega)) (jk (2 * k + 1) (by omega) (by omega)) i j), gHd.fr (by rw [fN]; exact Nat.le_refl _) (fun j => nsM_fr (jk (2 * 14) (by decide) (by decide)) (jk (2 * 14 + 1) (by decide) (by decide)) 0 j), ?_, ?_⟩, gH.fr fN (iI 42) (fun k hk i => ⟨jk (2 * k) (by omega) (by omega) i, jk (2 * k + 1) (by omega) (by omega) i⟩)⟩, ?_⟩
    · exact hJ.fin hm h119 hnow ho (congrFun (congrFun tn 3) 0) (Nat.le_of_eq (congrFun (congrFun tn 2) 0).symm) (fun i => by rw [tn]) (fun k hk i => by rw [ti]; exact fK k (by omega) (by omega) i) (fun i _ => by rw [ti]; exact fK 40 (by decide) (by decide) i) (by rw [ti]; exact f53) (fun i e => by rw [ti]; exact f53n i e) (by rw [ti]; exact f63) (fun i e => by rw [ti]; exact f63n i e) (by rw [tr]; exact h3) (fun i _ => by rw [tr]) (Or.inl ⟨by rw [tr]; exact h4n, h60⟩) (fun i _ => by rw [tr]) t5 (fun i e => tJ 5 i (fun z => absurd z.1 (by decide)) (fun z => e z.2))
    · obtain ⟨c1, c2, c3, c4⟩ := hC
      have j1 : sJ T 1 0 = sJ Y 1 0 := tJ 1 0 (fun z => absurd z.1 (by decide)) (fun z => absurd z.1 (by decide))
      have l2 : (sJ T 2 0).toInt = (sJ Y 2 0).toInt + eT Y o := by rw [t2]; exact i64_addV rfl rfl (by omega) (by omega)
      have q1 : sm (fun i => cT T i) (nLc Y) = sm (fun i => cT Y i) (nLc Y) := sm_congr (fun i _ => congrArg Int64.toInt (jk 3 (by decide) (by decide) i))
      have g4 : ∀ o', gD T o' = gD Y o' := fun o' => congrArg Int64.toInt (jk 4 (by decide) (by decide) o')
      have e5 : eT T o = 0 := by show (sJ T 5 o).toInt = 0; rw [t5]; rfl
      have q3 : sm (fun o' => eT T o' + gD T o') (nOc Y) = sm (fun o => eT Y o + gD Y o) (nOc Y) + (eT T o + gD T o - (eT Y o + gD Y o)) := sm_upd (f := fun o => eT Y o + gD Y o) (g := fun o' => eT T o' + gD T o') ho (fun o' _ hne => by
        have e5 : eT T o' = eT Y o' := congrArg Int64.toInt (tJ 5 o' (fun z => absurd z.1 (by decide)) (fun z => hne z.2))
        show eT T o' + gD T o' = eT Y o' + gD Y o'
        rw [e5, g4])
      rw [e5, g4] at q3
      have en : nLc T = nLc Y := congrFun (congrFun tn 2) 0
      have eo : nOc T = nOc Y := congrFun (congrFun tn 3) 0
      refine ⟨?_, by omega, by rw [j1, ti, fK 1 (by decide) (by decide)]; exact c3, fun _ => ⟨o, by rw [eo]; exact ho, ?_, by rw [tr]; exact h4n⟩⟩
      · rw [en, eo, l2, j1, q1]; omega
      · unfold isDn
        rw [ti, f63]
        intro z; rw [z] at hnow; exact absurd hnow (by decide)
    · exact hN.fr tn (fun i => by rw [tr]) (by rw [ti]; exact fK 1 (by decide) (by decide) 0) (by rw [ti]; exact fK 2 (by decide) (by decide) 0)
    · exact ⟨by rw [ti]; exact f53, fun i e => by rw [ti]; exact f53n i e, by rw [ti]; exact fK 1 (by decide) (by decide) 0, by rw [ti]; exact fK 2 (by decide) (by decide) 0, tJ 1 0 (fun z => absurd z.1 (by decide)) (fun z => absurd z.1 (by decide)), fun k _ _ i => by rw [tn], fun i _ k => by rw [tr], fun i => by rw [tr], fun k hk i => by rw [ti]; exact fK k (by omega) (by omega) i⟩
  · -- its lot
    have eS : fiS Y o = uJ (nsS (fiU Y o) o (sN Y 2 0)) 5 o 0 := by unfold fiS; rw [if_neg h60]
    rw [eS]
    have hsc := (hJ o ho).1
    have hqu := (hJ o ho).2.1 (Or.inl hw)
    have h100 := (hO o ho).2.2.2.1
    have q0 : 0 < (sI Y 60 o).toInt := by
      have : ¬ (sI Y 60 o).toInt = 0 := fun z => h60 (i32_ext z)
      omega
    -- the state with the new lot
    have zI : ∀ k i, sI (fiU Y o) k i = sI (nlS (fiT Y o) (sN Y 7 o) (sI Y 60 o) (sJ Y 5 o)) k i := fun _ _ => rfl
    have zR : ∀ k i, ¬ (k = 4 ∧ i = o) → sR (fiU Y o) k i = sR Y k i := fun k i a => up2_ne _ _ a
    have zR4 : sR (fiU Y o) 4 o = some (sN Y 2 0) := up2_self _ _ _ _
    have zB : ILB (fiU Y o) := ILB.nl (S := fiT Y o) (p := sN Y 7 o) gB hsc.1 (by omega) he0 (fun z => by omega)
    have zQ : ILQ (fiU Y o) := ILQ.nl (S := fiT Y o) (p := sN Y 7 o) (qy := sI Y 60 o) (co := sJ Y 5 o) gQ gO
    have zV : ILV (fiU Y o) := ILV.nl (S := fiT Y o) (p := sN Y 7 o) (qy := sI Y 60 o) (co := sJ Y 5 o) gV gO
    have zH : ILH (fiU Y o) := ILH.nl (S := fiT Y o) (p := sN Y 7 o) (qy := sI Y 60 o) (co := sJ Y 5 o) gH
    have zO : IOrd (fiU Y o) := IOrd.nl (S := fiT Y o) (p := sN Y 7 o) (qy := sI Y 60 o) (co := sJ Y 5 o) gO
    have zP : IPart (fiU Y o) := IPart.nl (S := fiT Y o) (p := sN Y 7 o) (qy := sI Y 60 o) (co := sJ Y 5 o) gP
    have zD : IDel (fiU Y o) := IDel.nl (S := fiT Y o) (p := sN Y 7 o) (qy := sI Y 60 o) (co := sJ Y 5 o) gD9
    have zM : IMach (fiU Y o) := (IMach.nl (S := fiT Y o) (p := sN Y 7 o) (qy := sI Y 60 o) (co := sJ Y 5 o) gM).fr rfl (fun i => rfl) rfl (fun _ => rfl) (fun _ => rfl) (fun _ => rfl) (fun _ => rfl) (fun _ => Iff.rfl)
    have zT : ITr (fiU Y o) := ITr.nl (S := fiT Y o) (p := sN Y 7 o) (qy := sI Y 60 o) (co := sJ Y 5 o) gT9 hn
    have zHd : IHd (fiU Y o) := IHd.nl (S := fiT Y o) (p := sN Y 7 o) (qy := sI Y 60 o) (co := sJ Y 5 o) gHd
    have zL : nLc (fiU Y o) = nLc Y + 1 := nl_nL (S := fiT Y o) (p := sN Y 7 o) (qy := sI Y 60 o) (co := sJ Y 5 o)
    have zO3 : nOc (fiU Y o) = nOc Y := nl_nO (S := fiT Y o) (p := sN Y 7 o) (qy := sI Y 60 o) (co := sJ Y 5 o)
    have zc : sm (fun i => cT (fiU Y o) i) (nLc (fiU Y o)) = sm (fun i => cT Y i) (nLc Y) + eT Y o := sm_c_nl (S := fiT Y o) (p := sN Y 7 o) (qy := sI Y 60 o) (co := sJ Y 5 o)
    have z6 : sN (fiU Y o) 6 (sN Y 2 0) = sN Y 7 o := nl_N6n (S := fiT Y o) (p := sN Y 7 o) (qy := sI Y 60 o) (co := sJ Y 5 o)
    have zP0 : pT (fiU Y o) o (sN Y 2 0) = 0 := p_out (S := Y) hO ho (Nat.le_refl _)
    have hNS := ns_spec (S := fiU Y o) (o := o) (n := sN Y 2 0) (by rw [zL]; omega) zL (fun m hm => nl_s (S := fiT Y o) (p := sN Y 7 o) (qy := sI Y 60 o) (co := sJ Y 5 o) (Or.inl rfl) m) zP0 (fun q hq => by
      rw [zO3] at hq
      show nsM (nlS (fiT Y o) (sN Y 7 o) (sI Y 60 o) (sJ Y 5 o)) 13 q (sN Y 2 0) = false
      rw [nl_Mk (Or.inl rfl)]
      show nsM Y 13 q (sN Y 2 0) = false
      rcases hh : nsM Y 13 q (sN Y 2 0) with _ | _
      · rfl
      · have := (hTr.2 q hq (sN Y 2 0) (by have : nLc Y = sN Y 2 0 := rfl; omega) hh).1
        exact absurd this (Nat.lt_irrefl _)) (fun j hj => by
      have hj : 0 < pT Y o j := hj
      obtain ⟨a, b⟩ := ((hO o ho).2.1 j).2 hj
      have ne : j ≠ sN (fiT Y o) 2 0 := Nat.ne_of_lt a
      rw [zL, z6]
      refine ⟨by omega, ?_⟩
      show sN (nlS (fiT Y o) (sN Y 7 o) (sI Y 60 o) (sJ Y 5 o)) 6 j < _
      rw [nl_N6 ne]; exact b) zT
    obtain ⟨s1, s2, s3, s4⟩ := hNS
    have sW0 : WT (fiU Y o) := by
      have hWn : WT (nlS (fiT Y o) (sN Y 7 o) (sI Y 60 o) (sJ Y 5 o)) := WT.nl (S := fiT Y o) hW (hW.ordPart ho) hn
      have hln : sN Y 2 0 < sN (nlS (fiT Y o) (sN Y 7 o) (sI Y 60 o) (sJ Y 5 o)) 2 0 := Nat.lt_of_lt_of_le (Nat.lt_succ_self _) (Nat.le_of_eq (nlS_nL (S := fiT Y o)).symm)
      exact WT.setR hWn (fun a z => by cases z; exact ⟨fun q => by omega, fun q => by omega, fun q => by omega, fun _ => hln⟩)
    have sn : sN (nsS (fiU Y o) o (sN Y 2 0)) = sN (fiU Y o) := rfl
    have sr : sR (nsS (fiU Y o) o (sN Y 2 0)) = sR (fiU Y o) := rfl
    generalize nsS (fiU Y o) o (sN Y 2 0) = X at s1 s2 s3 s4 sn sr ⊢
    have t5 : sJ (uJ X 5 o 0) 5 o = 0 := up2_self _ _ _ _
    have tJ : ∀ k i, ¬ (k = 5 ∧ i = o) → sJ (uJ X 5 o 0) k i = sJ X k i := fun k i a => up2_ne _ _ a
    have tT : ITr (uJ X 5 o 0) := s4.fr rfl (fun k hk i j => nsM_fr (fun i => tJ (2 * k) i (by omega)) (fun i => tJ (2 * k + 1) i (by omega)) i j)
    have tn : sN (uJ X 5 o 0) = sN (fiU Y o) := sn
    have tr : sR (uJ X 5 o 0) = sR (fiU Y o) := sr
    have ti : sI (uJ X 5 o 0) = sI (fiU Y o) := s1
    have tp : sP (uJ X 5 o 0) = sP (fiU Y o) := s2
    have jk : ∀ k, k ≠ 5 → k ≠ 16 → k ≠ 17 → k ≠ 18 → k ≠ 19 → ∀ i, sJ (uJ X 5 o 0) k i = sJ (fiU Y o) k i := fun k a b c d e i => (tJ k i (fun z => a z.1)).trans (s3 k i d e (fun z => z.1.elim b c))
    have j16 : ∀ k, k = 16 ∨ k = 17 → ∀ i, i ≠ sN Y 2 0 → sJ (uJ X 5 o 0) k i = sJ (fiU Y o) k i := fun k a i b => (tJ k i (by omega)).trans (s3 k i (by omega) (by omega) (fun z => b z.2))
    have t5n : ∀ i, i ≠ o → sJ (uJ X 5 o 0) 5 i = sJ Y 5 i := fun i e => (tJ 5 i (fun z => e z.2)).trans ((s3 5 i (by decide) (by decide) (by simp)).trans (nl_Jk (S := fiT Y o) (p := sN Y 7 o) (qy := sI Y 60 o) (co := sJ Y 5 o) (k := 5) (i := i) (by decide)))
    generalize uJ X 5 o 0 = T at t5 tJ tT tn tr ti tp jk j16 t5n ⊢
    have iI : ∀ k i, sI T k i = sI (fiU Y o) k i := fun k i => by rw [ti]
    have uK : ∀ k, k ≠ 40 → k ≠ 41 → k ≠ 42 → k ≠ 43 → ∀ i, sI T k i = sI (fiT Y o) k i := fun k a b c d i => (iI k i).trans (nl_Ik (S := fiT Y o) (p := sN Y 7 o) (qy := sI Y 60 o) (co := sJ Y 5 o) ⟨a, b, c, d⟩)
    have jY : ∀ k, k ≠ 3 → k ≠ 5 → k ≠ 16 → k ≠ 17 → k ≠ 18 → k ≠ 19 → k ≠ 20 → k ≠ 21 → ∀ i, sJ T k i = sJ Y k i := fun k a b c d e f g h i => (jk k b c d e f i).trans (nl_Jk (S := fiT Y o) (p := sN Y 7 o) (qy := sI Y 60 o) (co := sJ Y 5 o) ⟨a, c, d, e, f, g, h⟩)
    have en : nLc T = nLc Y + 1 := (congrFun (congrFun tn 2) 0).trans zL
    have eo : nOc T = nOc Y := (congrFun (congrFun tn 3) 0).trans zO3
    have tNk : ∀ k, k ≠ 2 → k ≠ 6 → ∀ i, sN T k i = sN Y k i := fun k a b i => (congrFun (congrFun tn k) i).trans (nlS_n (S := fiT Y o) (p := sN Y 7 o) (qy := sI Y 60 o) (co := sJ Y 5 o) a b)
    have tr4 : sR T 4 o = some (nLc Y) := by rw [tr]; exact zR4
    have trn : ∀ k i, ¬ (k = 4 ∧ i = o) → sR T k i = sR Y k i := fun k i a => by rw [tr]; exact zR k i a
    refine ⟨⟨⟨sW0.fr tn tr, zP.fr tn (iI 30) (iI 20), zB.fr tn (iI 40) (iI 41) (iI 42) (iI 43) (jk 3 (by decide) (by decide) (by decide) (by decide) (by decide)), zQ.fr tn (iI 40) (iI 41) (iI 43) (fun i => by rw [ti]) (fun a b => by rw [tp]), zV.fr tn (iI 42) (fun i => by rw [ti]) (fun a b => by rw [tp]), zO.fr tn (iI 20) (iI 50) (iI 53) (fun a b => by rw [tp]), ?_, zD.fr tn (iI 43) (iI 50) (iI 55) (fun i => by rw [ti]) (jk 4 (by decide) (by decide) (by decide) (by decide) (by decide)) (jk 26 (by decide) (by decide) (by decide) (by decide) (by decide)) (jk 27 (by decide) (by decide) (by decide) (by decide) (by decide)), zM.fr tn (fun i => by rw [tr]) (iI 2 0) (iI 10) (iI 14) (iI 17) (iI 19) (fun i => by rw [ti]), tT, zHd.fr (by rw [tn]; exact Nat.le_refl _) (fun j => nsM_fr (jk (2 * 14) (by decide) (by decide) (by decide) (by decide) (by decide)) (jk (2 * 14 + 1) (by decide) (by decide) (by decide) (by decide) (by decide)) 0 j), ?_, ?_⟩, ?_⟩, ?_⟩
    · exact hJ.fin hm h119 hnow ho eo (by omega) (tNk 7 (by decide) (by decide)) (fun k hk i => (uK k (by omega) (by omega) (by omega) (by omega) i).trans (fK k (by omega) (by omega) i)) (fun i hi => (iI 40 i).trans ((nl_I (S := fiT Y o) (p := sN Y 7 o) (qy := sI Y 60 o) (co := sJ Y 5 o) (Nat.ne_of_lt hi)).trans (fK 40 (by decide) (by decide) i))) ((uK 53 (by decide) (by decide) (by decide) (by decide) o).trans f53) (fun i e => (uK 53 (by decide) (by decide) (by decide) (by decide) i).trans (f53n i e)) ((uK 63 (by decide) (by decide) (by decide) (by decide) o).trans f63) (fun i e => (uK 63 (by decide) (by decide) (by decide) (by decide) i).trans (f63n i e)) ((trn 3 o (fun z => absurd z.1 (by decide))).trans h3) (fun i e => trn 3 i (fun z => e z.2)) (Or.inr ⟨nLc Y, tr4, h60, by omega, (iI 40 _).trans (nl_40 (S := fiT Y o) (p := sN Y 7 o) (qy := sI Y 60 o) (co := sJ Y 5 o))⟩) (fun i e => trn 4 i (fun z => e z.2)) t5 t5n
    · obtain ⟨c1, c2, c3, c4⟩ := hC
      have j1 : sJ T 1 0 = sJ Y 1 0 := jY 1 (by decide) (by decide) (by decide) (by decide) (by decide) (by decide) (by decide) (by decide) 0
      have j2 : sJ T 2 0 = sJ Y 2 0 := jY 2 (by decide) (by decide) (by decide) (by decide) (by decide) (by decide) (by decide) (by decide) 0
      have g4 : ∀ o', gD T o' = gD Y o' := fun o' => congrArg Int64.toInt (jY 4 (by decide) (by decide) (by decide) (by decide) (by decide) (by decide) (by decide) (by decide) o')
      have e5 : eT T o = 0 := by show (sJ T 5 o).toInt = 0; rw [t5]; rfl
      have q1 : sm (fun i => cT T i) (nLc T) = sm (fun i => cT Y i) (nLc Y) + eT Y o := by
        rw [show nLc T = nLc (fiU Y o) from congrFun (congrFun tn 2) 0, ← zc]
        exact sm_congr (fun i _ => congrArg Int64.toInt (jk 3 (by decide) (by decide) (by decide) (by decide) (by decide) i))
      have q3 : sm (fun o' => eT T o' + gD T o') (nOc Y) = sm (fun o => eT Y o + gD Y o) (nOc Y) + (eT T o + gD T o - (eT Y o + gD Y o)) := sm_upd (f := fun o => eT Y o + gD Y o) (g := fun o' => eT T o' + gD T o') ho (fun o' _ hne => by
        have e5 : eT T o' = eT Y o' := congrArg Int64.toInt (t5n o' hne)
        show eT T o' + gD T o' = eT Y o' + gD Y o'
        rw [e5, g4])
      rw [e5, g4] at q3
      refine ⟨?_, by rw [j2]; exact c2, by rw [j1, (uK 1 (by decide) (by decide) (by decide) (by decide) 0).trans (fK 1 (by decide) (by decide) 0)]; exact c3, fun z => ?_⟩
      · rw [q1, eo, j1, j2]; omega
      · rw [j2] at z
        obtain ⟨o', a1, a2, a3⟩ := c4 z
        have ne : o' ≠ o := fun q => hnd (q ▸ a2)
        refine ⟨o', by rw [eo]; exact a1, ?_, (trn 4 o' (fun z => ne z.2)).trans a3⟩
        unfold isDn
        rw [(uK 63 (by decide) (by decide) (by decide) (by decide) o').trans (f63n o' ne)]; exact a2
    · obtain ⟨n1, n2, n3, n4, n5⟩ := hN
      have b1 : sI T 1 0 = sI Y 1 0 := (uK 1 (by decide) (by decide) (by decide) (by decide) 0).trans (fK 1 (by decide) (by decide) 0)
      have b2 : sI T 2 0 = sI Y 2 0 := (uK 2 (by decide) (by decide) (by decide) (by decide) 0).trans (fK 2 (by decide) (by decide) 0)
      have q : sm (fun o => bZ (sR T 4 o).isSome) (nOc Y) = sm (fun o => bZ (sR Y 4 o).isSome) (nOc Y) + (bZ (sR T 4 o).isSome - bZ (sR Y 4 o).isSome) := sm_upd (f := fun o => bZ (sR Y 4 o).isSome) (g := fun o => bZ (sR T 4 o).isSome) ho (fun o' _ hne => by
        show bZ (sR T 4 o').isSome = bZ (sR Y 4 o').isSome
        rw [trn 4 o' (fun z => hne z.2)])
      rw [tr4, h4n] at q
      have q : sm (fun o => bZ (sR T 4 o).isSome) (nOc Y) = sm (fun o => bZ (sR Y 4 o).isSome) (nOc Y) + (1 - 0) := q
      refine ⟨by rw [b1]; exact n1, by rw [b1]; exact n2, ?_, by rw [b2]; exact n4, by rw [b2]; exact n5⟩
      rw [b1, eo, en, q]
      omega
    · intro i hi hv
      have vv : vT T i = vT (fiU Y o) i := congrArg Int32.toInt (iI 42 i)
      rw [vv] at hv
      have hi2 : i < nLc (fiU Y o) := by rw [zL]; omega
      have ne : i ≠ sN Y 2 0 := fun z => by
        have : vT (fiU Y o) i = 0 := by rw [z]; exact congrArg Int32.toInt (nl_42 (S := fiT Y o) (p := sN Y 7 o) (qy := sI Y 60 o) (co := sJ Y 5 o))
        omega
      have eb : barred T i = barred (fiU Y o) i := by
        unfold barred
        rw [show nsM T 14 0 i = nsM (fiU Y o) 14 0 i from nsM_fr (jk (2 * 14) (by decide) (by decide) (by decide) (by decide) (by decide)) (jk (2 * 14 + 1) (by decide) (by decide) (by decide) (by decide) (by decide)) 0 i, show nsLo T 8 i = nsLo (fiU Y o) 8 i from j16 16 (Or.inl rfl) i ne, show nsHi T 8 i = nsHi (fiU Y o) 8 i from j16 17 (Or.inr rfl) i ne, show nsLo T 14 0 = nsLo (fiU Y o) 14 0 from jk (2 * 14) (by decide) (by decide) (by decide) (by decide) (by decide) 0, show nsHi T 14 0 = nsHi (fiU Y o) 14 0 from jk (2 * 14 + 1) (by decide) (by decide) (by decide) (by decide) (by decide) 0]
      rw [eb]
      exact zH i hi2 hv
    · exact ⟨(uK 53 (by decide) (by decide) (by decide) (by decide) o).trans f53, fun i e => (uK 53 (by decide) (by decide) (by decide) (by decide) i).trans (f53n i e), (uK 1 (by decide) (by decide) (by decide) (by decide) 0).trans (fK 1 (by decide) (by decide) 0), (uK 2 (by decide) (by decide) (by decide) (by decide) 0).trans (fK 2 (by decide) (by decide) 0), jY 1 (by decide) (by decide) (by decide) (by decide) (by decide) (by decide) (by decide) (by decide) 0, tNk, fun i e k => trn k i (fun z => e z.2), fun i => trn 1 i (fun z => absurd z.1 (by decide)), fun k hk i => (uK k (by omega) (by omega) (by omega) (by omega) i).trans (fK k (by omega) (by omega) i)⟩
-- FILE 54.work.lean.txt
/-! PURE: what machines do keeps Inv -/
def Keep (S T : St) : Prop := nOc T = nOc S ∧ nMc T = nMc S ∧ sI T 1 0 = sI S 1 0 ∧ sI T 2 0 = sI S 2 0 ∧ sJ T 1 0 = sJ S 1 0
theorem Keep.refl (S : St) : Keep S S := ⟨rfl, rfl, rfl, rfl, rfl⟩
theorem Keep.trans {S T U : St} (h : Keep S T) (g : Keep T U) : Keep S U := ⟨g.1.trans h.1, g.2.1.trans h.2.1, g.2.2.1.trans h.2.2.1, g.2.2.2.1.trans h.2.2.2.1, g.2.2.2.2.trans h.2.2.2.2⟩
theorem FinK.keep {Y T : St} {o : Nat} (h : FinK Y T o) : Keep Y T := ⟨h.2.2.2.2.2.1 3 (by decide) (by decide) 0, h.2.2.2.2.2.1 0 (by decide) (by decide) 0, h.2.2.1, h.2.2.2.1, h.2.2.2.2.1⟩
theorem up2_R {S : St} {k i : Nat} {v : Option Nat} (k' i' : Nat) (h : ¬ (k' = k ∧ i' = i)) : sR (uR S k i v) k' i' = sR S k' i' := up2_ne _ _ h
/-- where an order in transit goes -/
theorem Inv0.wait {T : St} {o i : Nat} (hI : Inv0 T o) (hH : ILH T) (ho : o < nOc T) (h119 : sI T 53 o = 119) (hi : i < nMc T) : Inv (uR T 3 o (some i)) := by
  obtain ⟨hW, hP, hB, hQ, hV, hO, hJ, hD, hM, hTr, hHd, hC, hN⟩ := hI
  have w : ∀ k j, k ≠ 3 → sR (uR T 3 o (some i)) k j = sR T k j := fun k j a => up2_nk _ _ a
  have w3 : sR (uR T 3 o (some i)) 3 o = some i := up2_self _ _ _ _
  refine ⟨⟨hW.setR (fun a z => by cases z; exact ⟨fun q => by omega, fun q => by omega, fun _ => hi, fun q => by omega⟩), hP, hB, hQ, hV, hO, ?_, hD, ?_, hTr, hHd, ?_, ?_⟩, hH⟩
  · intro o' ho'
    have k := hJ o' ho'
    refine ⟨k.1, k.2.1, k.2.2.1, fun _ => ?_, k.2.2.2.2.1, k.2.2.2.2.2.1, fun j z => ?_, ?_, k.2.2.2.2.2.2.2.2⟩
    · by_cases e : o' = o
      · subst e
        rw [w3]
        exact ⟨fun _ z => absurd z (by simp), fun _ => h119⟩
      · rw [up2_R 3 o' (fun z => e z.2)]
        exact k.2.2.2.1 e
    · rw [w 4 o' (by decide)] at z; exact k.2.2.2.2.2.2.1 j z
    · rw [w 4 o' (by decide)]; exact k.2.2.2.2.2.2.2.1
  · exact hM.fr rfl (fun j => w 1 j (by decide)) rfl (fun _ => rfl) (fun _ => rfl) (fun _ => rfl) (fun _ => rfl) (fun _ => Iff.rfl)
  · exact hC.fr rfl (fun _ => rfl) (fun _ => rfl) (fun _ => rfl) rfl rfl rfl (fun _ => rfl) (fun j => w 4 j (by decide))
  · exact hN.fr rfl (fun j => w 4 j (by decide)) rfl rfl
theorem Inv0.nowait {T : St} {o : Nat} (hI : Inv0 T o) : Inv0 (uR T 3 o none) o := by
  obtain ⟨hW, hP, hB, hQ, hV, hO, hJ, hD, hM, hTr, hHd, hC, hN⟩ := hI
  have w : ∀ k j, k ≠ 3 → sR (uR T 3 o none) k j = sR T k j := fun k j a => up2_nk _ _ a
  refine ⟨hW.setRn, hP, hB, hQ, hV, hO, ?_, hD, ?_, hTr, hHd, ?_, ?_⟩
  · intro o' ho'
    have k := hJ o' ho'
    refine ⟨k.1, k.2.1, k.2.2.1, fun e => ?_, k.2.2.2.2.1, k.2.2.2.2.2.1, fun j z => ?_, ?_, k.2.2.2.2.2.2.2.2⟩
    · rw [up2_R 3 o' (fun z => e z.2)]
      exact k.2.2.2.1 e
    · rw [w 4 o' (by decide)] at z; exact k.2.2.2.2.2.2.1 j z
    · rw [w 4 o' (by decide)]; exact k.2.2.2.2.2.2.2.1
  · exact hM.fr rfl (fun j => w 1 j (by decide)) rfl (fun _ => rfl) (fun _ => rfl) (fun _ => rfl) (fun _ => rfl) (fun _ => Iff.rfl)
  · exact hC.fr rfl (fun _ => rfl) (fun _ => rfl) (fun _ => rfl) rfl rfl rfl (fun _ => rfl) (fun j => w 4 j (by decide))
  · exact hN.fr rfl (fun j => w 4 j (by decide)) rfl rfl
/-- an order in transit goes on, or is finished -/
theorem Inv0.go {X : St} {o : Nat} (hI : Inv0 (uI X 53 o 119) o) (hH : ILH (uI X 53 o 119)) (ho : o < nOc X) (hn : nLc X < 90) :
    (∀ i, snM X o = some i → Inv (snS X o) ∧ Keep X (snS X o) ∧ sI (snS X o) 53 o = 119 ∧ i < nMc X) ∧ (snM X o = none → Inv (fiS (snS X o) o) ∧ Keep X (fiS (snS X o) o) ∧ sI (fiS (snS X o) o) 53 o = 102) := by
  have h119 : sI (uI X 53 o 119) 53 o = 119 := up2_self _ _ _ _
  refine ⟨fun i e => ?_, fun e => ?_⟩
  · have hi : i < nMc X := snM_lt (S := X) hI.1 ho e
    rw [snS_some e]
    exact ⟨hI.wait hH ho h119 hi, ⟨rfl, rfl, rfl, rfl, rfl⟩, h119, hi⟩
  · rw [snS_none e]
    have h1 := hI.nowait
    have e2 : fiS (uR (uI X 53 o 119) 3 o none) o = fiS (uR X 3 o none) o := fiS_53 (Y := uR X 3 o none) (o := o) (c := 119)
    have h2 := h1.fin hH ho h119 (up2_self _ _ _ _) hn
    rw [e2] at h2
    have k := h2.2.keep
    refine ⟨h2.1, ⟨k.1, k.2.1, k.2.2.1.trans rfl, k.2.2.2.1.trans rfl, k.2.2.2.2⟩, h2.2.1⟩
/-- a machine that is free begins the next job -/
theorem Inv.begin {S : St} (hI : Inv S) {m : Nat} (hm : m < nMc S) : Inv (bnS S m) ∧ Keep S (bnS S m) ∧ ∀ o, sI (bnS S m) 53 o = sI S 53 o ∨ sI S 53 o = 119 ∧ sI (bnS S m) 53 o = 111 := by
  have hWT : WT (bnS S m) := hI.1.1.bn
  have triv : Inv S ∧ Keep S S ∧ ∀ o, sI S 53 o = sI S 53 o ∨ sI S 53 o = 119 ∧ sI S 53 o = 111 := ⟨hI, Keep.refl S, fun _ => Or.inl rfl⟩
  unfold bnS at hWT ⊢
  by_cases h45 : sI S 14 m = 45
  · rw [if_pos h45] at hWT ⊢
    cases ef : fwO S m with
    | none => exact triv
    | some o =>
      rw [ef] at hWT
      dsimp only at hWT ⊢
      cases eq : opAt S (sN S 7 o) (sI S 62 o) with
      | none => exact triv
      | some q =>
        rw [eq] at hWT
        dsimp only at hWT ⊢
        obtain ⟨ho, h3⟩ := fwL_in (j := 30) ef
        have ho : o < nOc S := ho
        obtain ⟨⟨hW, hP, hB, hQ, hV, hO, hJ, hD, hM, hTr, hHd, hC, hN⟩, hH⟩ := hI
        have hne : o ≠ 1000 := by have := hW.nO; have ho : o < sN S 3 0 := ho; omega
        have h119 : sI S 53 o = 119 := ((hJ o ho).2.2.2.1 hne).mpr (by rw [h3]; simp)
        generalize hwk : sI S 32 q * sI S 60 o = wk at hWT ⊢
        have b1 : ∀ k i, k ≠ 15 → sI (sM S (if sI S 15 m = sI S 21 (sN S 7 o) then sA S else sA (uI S 15 m (sI S 21 (sN S 7 o))))) k i = sI S k i := fun k i h => by
          split
          · rfl
          · exact up2_nk _ _ h
        have b2 : sJ (sM S (if sI S 15 m = sI S 21 (sN S 7 o) then sA S else sA (uI S 15 m (sI S 21 (sN S 7 o))))) = sJ S := by split <;> rfl
        have b3 : sP (sM S (if sI S 15 m = sI S 21 (sN S 7 o) then sA S else sA (uI S 15 m (sI S 21 (sN S 7 o))))) = sP S := by split <;> rfl
        have tn : sN (uR (uI (mbS S m o wk (sI S 2 0)) 53 o 111) 3 o none) = sN S := rfl
        have tJ : sJ (uR (uI (mbS S m o wk (sI S 2 0)) 53 o 111) 3 o none) = sJ S := b2
        have tp : sP (uR (uI (mbS S m o wk (sI S 2 0)) 53 o 111) 3 o none) = sP S := b3
        have tI0 : ∃ v, ∀ k i, sI (uR (uI (mbS S m o wk (sI S 2 0)) 53 o 111) 3 o none) k i = up2 (up2 (up2 (up2 (sI (sM S (if sI S 15 m = sI S 21 (sN S 7 o) then sA S else sA (uI S 15 m (sI S 21 (sN S 7 o)))))) 14 m 111) 17 m (sI S 2 0)) 18 m v) 53 o 111 k i := ⟨_, fun _ _ => rfl⟩
        obtain ⟨v18, tI0⟩ := tI0
        generalize sM S (if sI S 15 m = sI S 21 (sN S 7 o) then sA S else sA (uI S 15 m (sI S 21 (sN S 7 o)))) = B at b1 tI0
        have tI : ∀ k, k ≠ 53 → k ≠ 18 → k ≠ 17 → k ≠ 14 → k ≠ 15 → ∀ i, sI (uR (uI (mbS S m o wk (sI S 2 0)) 53 o 111) 3 o none) k i = sI S k i := fun k a b c d e i => by rw [tI0, up2_nk _ _ a, up2_nk _ _ b, up2_nk _ _ c, up2_nk _ _ d, b1 k i e]
        have t53 : sI (uR (uI (mbS S m o wk (sI S 2 0)) 53 o 111) 3 o none) 53 o = 111 := by rw [tI0, up2_self]
        have t53n : ∀ i, i ≠ o → sI (uR (uI (mbS S m o wk (sI S 2 0)) 53 o 111) 3 o none) 53 i = sI S 53 i := fun i e => by rw [tI0, up2_ne _ _ (fun z => e z.2), up2_nk _ _ (by decide), up2_nk _ _ (by decide), up2_nk _ _ (by decide), b1 53 i (by decide)]
        have t14 : sI (uR (uI (mbS S m o wk (sI S 2 0)) 53 o 111) 3 o none) 14 m = 111 := by rw [tI0, up2_nk _ _ (by decide), up2_nk _ _ (by decide), up2_nk _ _ (by decide), up2_self]
        have t14n : ∀ i, i ≠ m → sI (uR (uI (mbS S m o wk (sI S 2 0)) 53 o 111) 3 o none) 14 i = sI S 14 i := fun i e => by rw [tI0, up2_nk _ _ (by decide), up2_nk _ _ (by decide), up2_nk _ _ (by decide), up2_ne _ _ (fun z => e z.2), b1 14 i (by decide)]
        have t17 : sI (uR (uI (mbS S m o wk (sI S 2 0)) 53 o 111) 3 o none) 17 m = sI S 2 0 := by rw [tI0, up2_nk _ _ (by decide), up2_nk _ _ (by decide), up2_self]
        have t17n : ∀ i, i ≠ m → sI (uR (uI (mbS S m o wk (sI S 2 0)) 53 o 111) 3 o none) 17 i = sI S 17 i := fun i e => by rw [tI0, up2_nk _ _ (by decide), up2_nk _ _ (by decide), up2_ne _ _ (fun z => e z.2), up2_nk _ _ (by decide), b1 17 i (by decide)]
        have tr0 : ∀ k i, sR (uR (uI (mbS S m o wk (sI S 2 0)) 53 o 111) 3 o none) k i = up2 (up2 (sR S) 1 m (some o)) 3 o none k i := fun _ _ => rfl
        have tr1 : sR (uR (uI (mbS S m o wk (sI S 2 0)) 53 o 111) 3 o none) 1 m = some o := by rw [tr0, up2_nk _ _ (by decide), up2_self]
        have tr3 : sR (uR (uI (mbS S m o wk (sI S 2 0)) 53 o 111) 3 o none) 3 o = none := by rw [tr0, up2_self]
        have trn : ∀ k i, ¬ (k = 1 ∧ i = m) → ¬ (k = 3 ∧ i = o) → sR (uR (uI (mbS S m o wk (sI S 2 0)) 53 o 111) 3 o none) k i = sR S k i := fun k i a b => by rw [tr0, up2_ne _ _ b, up2_ne _ _ a]
        generalize uR (uI (mbS S m o wk (sI S 2 0)) 53 o 111) 3 o none = T at hWT tn tJ tp tI0 tr0 tI t53 t53n t14 t14n t17 t17n tr1 tr3 trn ⊢
        have jj : ∀ k i, sJ T k i = sJ S k i := fun k i => by rw [tJ]
        have pp : ∀ k i, sP T k i = sP S k i := fun k i => by rw [tp]
        have fc : ∀ c : Int32, c ≠ 111 → c ≠ 119 → ∀ i, sI T 53 i = c ↔ sI S 53 i = c := fun c a b i => by
          by_cases e : i = o
          · rw [e, t53, h119]; exact ⟨fun z => absurd z.symm a, fun z => absurd z.symm b⟩
          · rw [t53n i e]
        have hmade : ¬ sI S 20 (sN S 7 o) = 0 := fun z => by
          rcases (hO o ho).2.2.2.2 z with e | e <;> (rw [h119] at e; exact absurd e (by decide))
        have tI' : ∀ k, k ≠ 53 ∧ k ≠ 18 ∧ k ≠ 17 ∧ k ≠ 14 ∧ k ≠ 15 → ∀ i, sI T k i = sI S k i := fun k h => tI k h.1 h.2.1 h.2.2.1 h.2.2.2.1 h.2.2.2.2
        have notS : ∀ m2, m2 < nMc S → sR S 1 m2 ≠ some o := fun m2 h2 z => by
          have := ((hM.1 m2 h2).2.2.2.1 o z).1
          rw [h119] at this; exact absurd this (by decide)
        refine ⟨⟨⟨hWT, hP.fr tn (tI' 30 (by decide)) (tI' 20 (by decide)), hB.fr tn (tI' 40 (by decide)) (tI' 41 (by decide)) (tI' 42 (by decide)) (tI' 43 (by decide)) (jj 3), hQ.fr tn (tI' 40 (by decide)) (tI' 41 (by decide)) (tI' 43 (by decide)) (fc 112 (by decide) (by decide)) pp, hV.fr tn (tI' 42 (by decide)) (fc 112 (by decide) (by decide)) pp, ?_, ?_, hD.fr tn (tI' 43 (by decide)) (tI' 50 (by decide)) (tI' 55 (by decide)) (fc 100 (by decide) (by decide)) (jj 4) (jj 26) (jj 27), ?_, hTr.fr tn (fun k _ i j => nsM_congr jj k i j), hHd.fr (by rw [tn]; exact Nat.le_refl _) (fun j => nsM_congr jj 14 0 j), hC.fr tn (jj 3) (jj 5) (jj 4) (jj 1 0) (jj 2 0) (tI' 1 (by decide) 0) (tI' 63 (by decide)) (fun i => trn 4 i (by simp) (by simp)), hN.fr tn (fun i => trn 4 i (by simp) (by simp)) (tI' 1 (by decide) 0) (tI' 2 (by decide) 0)⟩, hH.fr tn (tI' 42 (by decide)) (fun k _ i => ⟨jj _ i, jj _ i⟩)⟩, ⟨congrFun (congrFun tn 3) 0, congrFun (congrFun tn 0) 0, tI' 1 (by decide) 0, tI' 2 (by decide) 0, jj 1 0⟩, fun o' => ?_⟩
        · intro o' ho'
          rw [show nOc T = nOc S from congrFun (congrFun tn 3) 0] at ho'
          have k := hO o' ho'
          rw [show nLc T = nLc S from congrFun (congrFun tn 2) 0, tI' 50 (by decide), tI' 20 (by decide), tn, tp]
          by_cases e : o' = o
          · subst e
            rw [t53]
            refine ⟨Or.inr (Or.inr (Or.inr (Or.inl rfl))), fun i => ?_, fun z => absurd z (by decide), k.2.2.2.1, fun z => absurd z hmade⟩
            show 0 ≤ (sP T o' i).toInt ∧ (0 < (sP T o' i).toInt → _)
            rw [tp]; exact k.2.1 i
          · rw [t53n o' e]
            refine ⟨k.1, fun i => ?_, k.2.2⟩
            show 0 ≤ (sP T o' i).toInt ∧ (0 < (sP T o' i).toInt → _)
            rw [tp]; exact k.2.1 i
        · intro o' ho'
          rw [show nOc T = nOc S from congrFun (congrFun tn 3) 0] at ho'
          have k := hJ o' ho'
          unfold inWk isDn eT
          rw [show nLc T = nLc S from congrFun (congrFun tn 2) 0, tI' 50 (by decide), tI' 20 (by decide), tI' 60 (by decide), tI' 61 (by decide), tI' 63 (by decide), tn, tJ, trn 4 o' (by simp) (by simp)]
          simp only [tI' 40 (by decide)]
          by_cases e : o' = o
          · subst e
            have w1 : inWk S o' := Or.inl h119
            rw [t53, tr3]
            refine ⟨k.1, fun _ => k.2.1 (Or.inl w1), fun z => absurd (Or.inr rfl) z, fun _ => ⟨fun z => absurd z (by decide), fun z => absurd rfl z⟩, ⟨fun z => ?_, fun z => ?_⟩, k.2.2.2.2.2.1, k.2.2.2.2.2.2.1, k.2.2.2.2.2.2.2.1, k.2.2.2.2.2.2.2.2.1, fun z => absurd (Or.inr rfl) z⟩
            · have := k.2.2.2.2.1.mp z
              rw [h119] at this
              rcases this with y | y
              · exact absurd y (by decide)
              · exact absurd y.1 (by decide)
            · rcases z with y | y
              · exact absurd y (by decide)
              · exact absurd y.1 (by decide)
          · rw [t53n o' e, trn 3 o' (by simp) (fun z => e z.2)]
            exact k
        · refine ⟨fun m' hm' => ?_, ?_⟩
          · rw [show nMc T = nMc S from congrFun (congrFun tn 0) 0] at hm' ⊢
            have k := hM.1 m' hm'
            rw [tI' 10 (by decide), tI' 19 (by decide), tI' 2 (by decide)]
            by_cases e : m' = m
            · subst e
              rw [t14, t17, tr1]
              refine ⟨k.1, Or.inr (Or.inl rfl), ⟨fun _ z => absurd z (by simp), fun _ => rfl⟩, fun o' z => ?_, k.2.2.2.2⟩
              cases z
              refine ⟨t53, k.2.2.2.2.2, Int.le_refl _, fun m2 h2 z2 => ?_⟩
              refine Classical.byContradiction (fun y => notS m2 h2 ?_)
              rw [← trn 1 m2 (fun z => y z.2) (by simp)]; exact z2
            · rw [t14n m' e, t17n m' e, trn 1 m' (fun z => e z.2) (by simp)]
              refine ⟨k.1, k.2.1, k.2.2.1, fun o' z => ?_, k.2.2.2.2⟩
              obtain ⟨a1, a2, a3, a4⟩ := k.2.2.2.1 o' z
              have eo : o' ≠ o := fun y => notS m' hm' (by rw [← y]; exact z)
              rw [t53n o' eo]
              refine ⟨a1, a2, a3, fun m2 h2 z2 => ?_⟩
              by_cases e2 : m2 = m
              · rw [e2, tr1] at z2; cases z2; exact absurd rfl eo
              · rw [trn 1 m2 (fun z => e2 z.2) (by simp)] at z2
                exact a4 m2 h2 z2
          · rw [show nMc T = nMc S from congrFun (congrFun tn 0) 0, show nOc T = nOc S from congrFun (congrFun tn 3) 0]
            have q1 := sm_upd (f := fun m => bZ (sI S 14 m == 111)) (g := fun m => bZ (sI T 14 m == 111)) hm (fun i _ hne => by
              show bZ (sI T 14 i == 111) = bZ (sI S 14 i == 111)
              rw [t14n i hne])
            have q2 := sm_upd (f := fun o => bZ (sI S 53 o == 111)) (g := fun o => bZ (sI T 53 o == 111)) ho (fun i _ hne => by
              show bZ (sI T 53 i == 111) = bZ (sI S 53 i == 111)
              rw [t53n i hne])
            have q1 : sm (fun m => bZ (sI T 14 m == 111)) (nMc S) = sm (fun m => bZ (sI S 14 m == 111)) (nMc S) + (bZ (sI T 14 m == 111) - bZ (sI S 14 m == 111)) := q1
            have q2 : sm (fun o => bZ (sI T 53 o == 111)) (nOc S) = sm (fun o => bZ (sI S 53 o == 111)) (nOc S) + (bZ (sI T 53 o == 111) - bZ (sI S 53 o == 111)) := q2
            rw [t14, h45] at q1
            rw [t53, h119] at q2
            have q1 : sm (fun m => bZ (sI T 14 m == 111)) (nMc S) = sm (fun m => bZ (sI S 14 m == 111)) (nMc S) + (1 - 0) := q1
            have q2 : sm (fun o => bZ (sI T 53 o == 111)) (nOc S) = sm (fun o => bZ (sI S 53 o == 111)) (nOc S) + (1 - 0) := q2
            rw [q1, q2, hM.2]
        · by_cases e : o' = o
          · rw [e]; exact Or.inr ⟨h119, t53⟩
          · exact Or.inl (t53n o' e)
  · rw [if_neg h45]; exact triv
/-- a promised order is released -/
theorem Inv.rel2 {S : St} (hI : Inv S) {o : Nat} (ho : o < nOc S) (h : sI S 53 o = 112) (hn : nLc S < 90) : Inv (rl2 S o) ∧ Keep S (rl2 S o) ∧ (sI (rl2 S o) 53 o = 119 ∨ sI (rl2 S o) 53 o = 111 ∨ sI (rl2 S o) 53 o = 102) := by
  obtain ⟨t1, t2, t3, t4, t5, t6, t7⟩ := hI.take ho h
  have hk : Keep S (trS S o) := ⟨rfl, rfl, t3, t4, t5⟩
  have g := Inv0.go (X := trS S o) t1 t2 ho hn
  unfold rl2
  cases e : snM (trS S o) o with
  | none =>
    obtain ⟨a, b, c⟩ := g.2 e
    exact ⟨a, hk.trans b, Or.inr (Or.inr c)⟩
  | some i =>
    obtain ⟨a, b, c, d⟩ := g.1 i e
    have hi : i < nMc (snS (trS S o) o) := by rw [b.2.1]; exact d
    obtain ⟨u, v, w⟩ := a.begin hi
    refine ⟨u, (hk.trans b).trans v, ?_⟩
    rcases w o with z | z
    · exact Or.inl (z.trans c)
    · exact Or.inr (Or.inl z.2)
theorem Inv.rel1 {S : St} (hI : Inv S) {o : Nat} (ho : o < nOc S) (h : sI S 53 o = 45) (hm : ¬ sI S 20 (sN S 7 o) = 0) (hn : nLc S < 90) : (raR S o = false ∧ rl1 S o = S) ∨ (raR S o = true ∧ Inv (rl1 S o) ∧ Keep S (rl1 S o) ∧ (sI (rl1 S o) 53 o = 119 ∨ sI (rl1 S o) 53 o = 111 ∨ sI (rl1 S o) 53 o = 102)) := by
  unfold rl1
  rcases hI.promise ho h hm with ⟨a, b⟩ | ⟨a, b, c, d, -⟩
  · refine Or.inl ⟨a, ?_⟩
    rw [if_neg (by rw [a]; decide)]; exact b
  · refine Or.inr ⟨a, ?_⟩
    rw [if_pos a]
    have hk : Keep S (raS S o) := ⟨congrFun (congrFun d.1 3) 0, congrFun (congrFun d.1 0) 0, d.2.2.1 1 0 (by decide) (by decide), d.2.2.1 2 0 (by decide) (by decide), d.2.2.2.1 1 0⟩
    obtain ⟨u, v, w⟩ := Inv.rel2 b (by rw [hk.1]; exact ho) c (by rw [show nLc (raS S o) = nLc S from congrFun (congrFun d.1 2) 0]; exact hn)
    exact ⟨u, hk.trans v, w⟩
-- FILE 55.time.lean.txt
/-! PURE: time keeps Inv -/
def EwP (S : St) (m o : Nat) (E : St) : Prop := (∀ k, k ≠ 62 → k ≠ 19 → k ≠ 14 → k ≠ 16 → k ≠ 18 → ∀ i, sI E k i = sI S k i) ∧ sI E 19 m = sI S 19 m + (sI S 2 0 - sI S 17 m) ∧ (∀ i, i ≠ m → sI E 19 i = sI S 19 i) ∧ (sI E 14 m = 45 ∨ sI E 14 m = 98) ∧ (∀ i, i ≠ m → sI E 14 i = sI S 14 i) ∧ sR E 1 m = none ∧ (∀ k i, ¬ (k = 1 ∧ i = m) → sR E k i = sR S k i) ∧ (∀ k i, sJ E k i = sJ S k i) ∧ sN E = sN S ∧ sP E = sP S
theorem ewC_0 {S : St} {m : Nat} (h : sI S 10 m = 0) : ewC S m = 0 := by
  unfold ewC
  rw [h, show (0 : Int32).toInt64 = 0 from by decide, Int64.mul_zero]
theorem ew_spec {S : St} {m o : Nat} (h10 : sI S 10 m = 0) : EwP S m o (ewT S m o) := by
  have hz := ewC_0 h10
  unfold ewT
  rw [hz, Int64.add_zero, Int64.add_zero]
  have zJ : ∀ k i, up2 (up2 (sJ S) 1 0 (sJ S 1 0)) 5 o (sJ S 5 o) k i = sJ S k i := fun k i => by
    rw [up2_if, up2_if]
    by_cases a : k = 5 ∧ i = o
    · rw [if_pos a, a.1, a.2]
    · rw [if_neg a]
      by_cases b : k = 1 ∧ i = 0
      · rw [if_pos b, b.1, b.2]
      · rw [if_neg b]
  generalize hZ : uI (uJ (uJ S 1 0 (sJ S 1 0)) 5 o (sJ S 5 o)) 62 o (sI S 62 o + 1) = Z
  have zI : ∀ k i, k ≠ 62 → sI Z k i = sI S k i := fun k i a => by rw [← hZ]; exact up2_nk (sI S) _ a
  have zJ2 : ∀ k i, sJ Z k i = sJ S k i := fun k i => by rw [← hZ]; exact zJ k i
  have zN : sN Z = sN S := by rw [← hZ]
  have zR : sR Z = sR S := by rw [← hZ]
  have zP : sP Z = sP S := by rw [← hZ]
  have v19 : sI Z 19 m + (sI S 2 0 - sI Z 17 m) = sI S 19 m + (sI S 2 0 - sI S 17 m) := by rw [zI 19 m (by decide), zI 17 m (by decide)]
  have aI : ∀ k i, sI (meT Z m (sI S 60 o) (sI S 2 0)) k i = up2 (up2 (up2 (sI Z) 19 m (sI Z 19 m + (sI S 2 0 - sI Z 17 m))) 14 m 45) 16 m (sI Z 16 m + sI S 60 o) k i := fun _ _ => rfl
  have aR : ∀ k i, sR (meT Z m (sI S 60 o) (sI S 2 0)) k i = up2 (sR Z) 1 m none k i := fun _ _ => rfl
  unfold meS
  split
  · refine ⟨fun k h62 h19 h14 h16 h18 i => ?_, ?_, fun i e => ?_, Or.inl ?_, fun i e => ?_, ?_, fun k i e => ?_, zJ2, zN, zP⟩
    · show sI (meT Z m (sI S 60 o) (sI S 2 0)) k i = _
      rw [aI, up2_nk _ _ h16, up2_nk _ _ h14, up2_nk _ _ h19]; exact zI k i h62
    · show sI (meT Z m (sI S 60 o) (sI S 2 0)) 19 m = _
      rw [aI, up2_nk _ _ (by decide), up2_nk _ _ (by decide), up2_self]; exact v19
    · show sI (meT Z m (sI S 60 o) (sI S 2 0)) 19 i = _
      rw [aI, up2_nk _ _ (by decide), up2_nk _ _ (by decide), up2_ne _ _ (fun z => e z.2)]; exact zI 19 i (by decide)
    · show sI (meT Z m (sI S 60 o) (sI S 2 0)) 14 m = _
      rw [aI, up2_nk _ _ (by decide), up2_self]
    · show sI (meT Z m (sI S 60 o) (sI S 2 0)) 14 i = _
      rw [aI, up2_nk _ _ (by decide), up2_ne _ _ (fun z => e z.2), up2_nk _ _ (by decide)]; exact zI 14 i (by decide)
    · show sR (meT Z m (sI S 60 o) (sI S 2 0)) 1 m = _
      rw [aR, up2_self]
    · show sR (meT Z m (sI S 60 o) (sI S 2 0)) k i = _
      rw [aR, up2_ne _ _ e, zR]
  · have bI : ∀ k i, sI (sM (meT Z m (sI S 60 o) (sI S 2 0)) (sA (uI (uI (uI (meT Z m (sI S 60 o) (sI S 2 0)) 16 m 0) 14 m 98) 18 m (sI S 2 0 + sI Z 13 m)))) k i = up2 (up2 (up2 (sI (meT Z m (sI S 60 o) (sI S 2 0))) 16 m 0) 14 m 98) 18 m (sI S 2 0 + sI Z 13 m) k i := fun _ _ => rfl
    refine ⟨fun k h62 h19 h14 h16 h18 i => ?_, ?_, fun i e => ?_, Or.inr ?_, fun i e => ?_, ?_, fun k i e => ?_, zJ2, zN, zP⟩
    · rw [bI, up2_nk _ _ h18, up2_nk _ _ h14, up2_nk _ _ h16, aI, up2_nk _ _ h16, up2_nk _ _ h14, up2_nk _ _ h19]; exact zI k i h62
    · rw [bI, up2_nk _ _ (by decide), up2_nk _ _ (by decide), up2_nk _ _ (by decide), aI, up2_nk _ _ (by decide), up2_nk _ _ (by decide), up2_self]; exact v19
    · rw [bI, up2_nk _ _ (by decide), up2_nk _ _ (by decide), up2_nk _ _ (by decide), aI, up2_nk _ _ (by decide), up2_nk _ _ (by decide), up2_ne _ _ (fun z => e z.2)]; exact zI 19 i (by decide)
    · rw [bI, up2_nk _ _ (by decide), up2_self]
    · rw [bI, up2_nk _ _ (by decide), up2_ne _ _ (fun z => e z.2), up2_nk _ _ (by decide), aI, up2_nk _ _ (by decide), up2_ne _ _ (fun z => e z.2), up2_nk _ _ (by decide)]; exact zI 14 i (by decide)
    · show sR (meT Z m (sI S 60 o) (sI S 2 0)) 1 m = _
      rw [aR, up2_self]
    · show sR (meT Z m (sI S 60 o) (sI S 2 0)) k i = _
      rw [aR, up2_ne _ _ e, zR]
theorem Inv.endwork {S : St} (hI : Inv S) {m : Nat} (hm : m < nMc S) (hn : nLc S < 90) : Inv (ewS S m) ∧ Keep S (ewS S m) := by
  have hI1 := hI
  obtain ⟨⟨hW, hP, hB, hQ, hV, hO, hJ, hD, hM, hTr, hHd, hC, hN⟩, hH⟩ := hI1
  have km := hM.1 m hm
  unfold ewS
  cases ed : sR S 1 m with
  | none =>
    dsimp only
    have n111 : ¬ sI S 14 m = 111 := fun z => (km.2.2.1.mp z) ed
    have tI : ∀ k i, ¬ (k = 14 ∧ i = m) → sI (uI S 14 m 45) k i = sI S k i := fun k i a => up2_ne (sI S) _ a
    have tk : ∀ k, k ≠ 14 → ∀ i, sI (uI S 14 m 45) k i = sI S k i := fun k a i => tI k i (fun z => a z.1)
    have t14 : sI (uI S 14 m 45) 14 m = 45 := up2_self (sI S) 14 m 45
    refine ⟨⟨⟨hW, hP.fr rfl (tk 30 (by decide)) (tk 20 (by decide)), hB.fr rfl (tk 40 (by decide)) (tk 41 (by decide)) (tk 42 (by decide)) (tk 43 (by decide)) (fun _ => rfl), hQ.fr rfl (tk 40 (by decide)) (tk 41 (by decide)) (tk 43 (by decide)) (fun i => by rw [tk 53 (by decide)]) (fun _ _ => rfl), hV.fr rfl (tk 42 (by decide)) (fun i => by rw [tk 53 (by decide)]) (fun _ _ => rfl), hO.fr rfl (tk 20 (by decide)) (tk 50 (by decide)) (tk 53 (by decide)) (fun _ _ => rfl), hJ.fr rfl (tk 20 (by decide)) (tk 40 (by decide)) (tk 50 (by decide)) (fun i => by rw [tk 53 (by decide)]) (fun i => by rw [tk 53 (by decide)]) (fun i => by rw [tk 53 (by decide)]) (fun i => by rw [tk 53 (by decide)]) (tk 60 (by decide)) (tk 61 (by decide)) (tk 63 (by decide)) (fun _ => rfl) (fun _ => rfl) (fun _ => rfl), hD.fr rfl (tk 43 (by decide)) (tk 50 (by decide)) (tk 55 (by decide)) (fun i => by rw [tk 53 (by decide)]) (fun _ => rfl) (fun _ => rfl) (fun _ => rfl), ?_, hTr, hHd, hC.fr rfl (fun _ => rfl) (fun _ => rfl) (fun _ => rfl) rfl rfl (tk 1 (by decide) 0) (tk 63 (by decide)) (fun _ => rfl), hN.fr rfl (fun _ => rfl) (tk 1 (by decide) 0) (tk 2 (by decide) 0)⟩, hH.fr rfl (tk 42 (by decide)) (fun _ _ _ => ⟨rfl, rfl⟩)⟩, ⟨rfl, rfl, tk 1 (by decide) 0, tk 2 (by decide) 0, rfl⟩⟩
    refine ⟨fun m' hm' => ?_, ?_⟩
    · have k := hM.1 m' hm'
      rw [tk 10 (by decide), tk 17 (by decide), tk 19 (by decide), tk 2 (by decide)]
      simp only [tk 53 (by decide)]
      by_cases e : m' = m
      · subst e
        rw [t14]
        exact ⟨k.1, Or.inl rfl, ⟨fun z => absurd z (by decide), fun z => absurd ed z⟩, k.2.2.2⟩
      · rw [tI 14 m' (fun z => e z.2)]
        exact k
    · have e1 : sm (fun m' => bZ (sI (uI S 14 m 45) 14 m' == 111)) (nMc S) = sm (fun m => bZ (sI S 14 m == 111)) (nMc S) := sm_congr (fun m' _ => by
        by_cases e : m' = m
        · rw [e, t14, beq_false_of_ne n111]; rfl
        · rw [tI 14 m' (fun z => e z.2)])
      have e2 : sm (fun o => bZ (sI (uI S 14 m 45) 53 o == 111)) (nOc S) = sm (fun o => bZ (sI S 53 o == 111)) (nOc S) := sm_congr (fun o _ => by rw [tk 53 (by decide)])
      show sm (fun m' => bZ (sI (uI S 14 m 45) 14 m' == 111)) (nMc S) = sm (fun o => bZ (sI (uI S 14 m 45) 53 o == 111)) (nOc S)
      rw [e1, e2]; exact hM.2
  | some o =>
    dsimp only
    obtain ⟨h111, hu1, hu2, huq⟩ := km.2.2.2.1 o ed
    have ho : o < nOc S := hW.doing hm ed
    obtain ⟨x1, x2, x3, x4, x5, x6, x7, x8, x9, x10⟩ := ew_spec (S := S) (m := m) (o := o) km.1
    have hnow := hN.2.2.2.1
    have hnow2 := hN.2.2.2.2
    have hXW : WT (ewT S m o) := WT.me (S := uI (uJ (uJ S 1 0 (sJ S 1 0 + ewC S m)) 5 o (sJ S 5 o + ewC S m)) 62 o (sI S 62 o + 1)) hW
    generalize ewT S m o = X at x1 x2 x3 x4 x5 x6 x7 x8 x9 x10 hXW ⊢
    have hmade : ¬ sI S 20 (sN S 7 o) = 0 := fun z => by
      rcases (hO o ho).2.2.2.2 z with e | e <;> (rw [h111] at e; exact absurd e (by decide))
    have hT : Inv0 (uI X 53 o 119) o ∧ ILH (uI X 53 o 119) := by
      have t53 : sI (uI X 53 o 119) 53 o = 119 := up2_self (sI X) 53 o 119
      have tX : ∀ k i, ¬ (k = 53 ∧ i = o) → sI (uI X 53 o 119) k i = sI X k i := fun k i a => up2_ne (sI X) _ a
      have tn : sN (uI X 53 o 119) = sN S := x9
      have tp : sP (uI X 53 o 119) = sP S := x10
      have tJ : ∀ k i, sJ (uI X 53 o 119) k i = sJ S k i := x8
      have tr : ∀ k i, ¬ (k = 1 ∧ i = m) → sR (uI X 53 o 119) k i = sR S k i := x7
      have tr1 : sR (uI X 53 o 119) 1 m = none := x6
      have tW : WT (uI X 53 o 119) := hXW
      generalize uI X 53 o 119 = T at t53 tX tn tp tJ tr tr1 tW ⊢
      have tk' : ∀ k, k ≠ 53 ∧ k ≠ 62 ∧ k ≠ 19 ∧ k ≠ 14 ∧ k ≠ 16 ∧ k ≠ 18 → ∀ i, sI T k i = sI S k i := fun k h i => (tX k i (fun z => h.1 z.1)).trans (x1 k h.2.1 h.2.2.1 h.2.2.2.1 h.2.2.2.2.1 h.2.2.2.2.2 i)
      have t53n : ∀ i, i ≠ o → sI T 53 i = sI S 53 i := fun i e => (tX 53 i (fun z => e z.2)).trans (x1 53 (by decide) (by decide) (by decide) (by decide) (by decide) i)
      have fc : ∀ c : Int32, c ≠ 111 → c ≠ 119 → ∀ i, sI T 53 i = c ↔ sI S 53 i = c := fun c a b i => by
        by_cases e : i = o
        · rw [e, t53, h111]; exact ⟨fun z => absurd z.symm b, fun z => absurd z.symm a⟩
        · rw [t53n i e]
      have pp : ∀ k i, sP T k i = sP S k i := fun k i => by rw [tp]
      have r4 : ∀ i, sR T 4 i = sR S 4 i := fun i => tr 4 i (by simp)
      refine ⟨⟨tW, hP.fr tn (tk' 30 (by decide)) (tk' 20 (by decide)), hB.fr tn (tk' 40 (by decide)) (tk' 41 (by decide)) (tk' 42 (by decide)) (tk' 43 (by decide)) (tJ 3), hQ.fr tn (tk' 40 (by decide)) (tk' 41 (by decide)) (tk' 43 (by decide)) (fc 112 (by decide) (by decide)) pp, hV.fr tn (tk' 42 (by decide)) (fc 112 (by decide) (by decide)) pp, ?_, ?_, hD.fr tn (tk' 43 (by decide)) (tk' 50 (by decide)) (tk' 55 (by decide)) (fc 100 (by decide) (by decide)) (tJ 4) (tJ 26) (tJ 27), ?_, hTr.fr tn (fun k _ i j => nsM_congr tJ k i j), hHd.fr (by rw [tn]; exact Nat.le_refl _) (fun j => nsM_congr tJ 14 0 j), hC.fr tn (tJ 3) (tJ 5) (tJ 4) (tJ 1 0) (tJ 2 0) (tk' 1 (by decide) 0) (tk' 63 (by decide)) r4, hN.fr tn r4 (tk' 1 (by decide) 0) (tk' 2 (by decide) 0)⟩, hH.fr tn (tk' 42 (by decide)) (fun k _ i => ⟨tJ _ i, tJ _ i⟩)⟩
      · intro o' ho'
        rw [show nOc T = nOc S from congrFun (congrFun tn 3) 0] at ho'
        have k := hO o' ho'
        rw [show nLc T = nLc S from congrFun (congrFun tn 2) 0, tk' 50 (by decide), tk' 20 (by decide), tn, tp]
        by_cases e : o' = o
        · subst e
          rw [t53]
          refine ⟨Or.inr (Or.inr (Or.inl rfl)), fun i => ?_, fun z => absurd z (by decide), k.2.2.2.1, fun z => absurd z hmade⟩
          show 0 ≤ (sP T o' i).toInt ∧ (0 < (sP T o' i).toInt → _)
          rw [tp]; exact k.2.1 i
        · rw [t53n o' e]
          refine ⟨k.1, fun i => ?_, k.2.2⟩
          show 0 ≤ (sP T o' i).toInt ∧ (0 < (sP T o' i).toInt → _)
          rw [tp]; exact k.2.1 i
      · intro o' ho'
        rw [show nOc T = nOc S from congrFun (congrFun tn 3) 0] at ho'
        have k := hJ o' ho'
        have hne : o' ≠ 1000 := by have := hW.nO; have ho : o' < sN S 3 0 := ho'; omega
        unfold inWk isDn eT
        rw [show nLc T = nLc S from congrFun (congrFun tn 2) 0, tk' 50 (by decide), tk' 20 (by decide), tk' 60 (by decide), tk' 61 (by decide), tk' 63 (by decide), tn, tJ, r4, tr 3 o' (by simp)]
        simp only [tk' 40 (by decide)]
        by_cases e : o' = o
        · subst e
          have w1 : inWk S o' := Or.inr h111
          rw [t53]
          refine ⟨k.1, fun _ => k.2.1 (Or.inl w1), fun z => absurd (Or.inl rfl) z, fun z => absurd rfl z, ⟨fun z => ?_, fun z => ?_⟩, k.2.2.2.2.2.1, k.2.2.2.2.2.2.1, k.2.2.2.2.2.2.2.1, k.2.2.2.2.2.2.2.2.1, fun z => absurd (Or.inl rfl) z⟩
          · have := k.2.2.2.2.1.mp z
            rw [h111] at this
            rcases this with y | y
            · exact absurd y (by decide)
            · exact absurd y.1 (by decide)
          · rcases z with y | y
            · exact absurd y (by decide)
            · exact absurd y.1 (by decide)
        · rw [t53n o' e]
          exact ⟨k.1, k.2.1, k.2.2.1, fun _ => k.2.2.2.1 hne, k.2.2.2.2⟩
      · refine ⟨fun m' hm' => ?_, ?_⟩
        · rw [show nMc T = nMc S from congrFun (congrFun tn 0) 0] at hm' ⊢
          have k := hM.1 m' hm'
          rw [tk' 10 (by decide), tk' 17 (by decide), tk' 2 (by decide)]
          by_cases e : m' = m
          · subst e
            have v14 : sI T 14 m' = sI X 14 m' := tX 14 m' (by simp)
            have v19 : (sI T 19 m').toInt = (sI S 19 m').toInt + ((sI S 2 0).toInt - (sI S 17 m').toInt) := by
              rw [tX 19 m' (by simp), x2]
              exact i32_addV rfl (i32_sub (by omega) (by omega)) (by omega) (by omega)
            rw [tr1, v14, v19]
            refine ⟨k.1, ?_, ⟨fun z => ?_, fun z => absurd rfl z⟩, fun o' z => absurd z (by simp), by omega, by omega⟩
            · rcases x4 with y | y
              · exact Or.inl y
              · exact Or.inr (Or.inr y)
            · exfalso
              rcases x4 with y | y <;> (rw [y] at z; exact absurd z (by decide))
          · rw [tX 14 m' (by simp), x5 m' e, tX 19 m' (by simp), x3 m' e, tr 1 m' (fun z => e z.2)]
            refine ⟨k.1, k.2.1, k.2.2.1, fun o' z => ?_, k.2.2.2.2⟩
            obtain ⟨a1, a2, a3, a4⟩ := k.2.2.2.1 o' z
            have eo : o' ≠ o := fun y => e (huq m' hm' (by rw [← y]; exact z))
            rw [t53n o' eo]
            refine ⟨a1, a2, a3, fun m2 h2 z2 => ?_⟩
            by_cases e2 : m2 = m
            · rw [e2, tr1] at z2; exact absurd z2 (by simp)
            · rw [tr 1 m2 (fun z => e2 z.2)] at z2
              exact a4 m2 h2 z2
        · rw [show nMc T = nMc S from congrFun (congrFun tn 0) 0, show nOc T = nOc S from congrFun (congrFun tn 3) 0]
          have q1 : sm (fun m => bZ (sI T 14 m == 111)) (nMc S) = sm (fun m => bZ (sI S 14 m == 111)) (nMc S) + (bZ (sI T 14 m == 111) - bZ (sI S 14 m == 111)) := sm_upd (f := fun m => bZ (sI S 14 m == 111)) (g := fun m => bZ (sI T 14 m == 111)) hm (fun i _ hne => by
            show bZ (sI T 14 i == 111) = bZ (sI S 14 i == 111)
            rw [tX 14 i (by simp), x5 i hne])
          have q2 : sm (fun o => bZ (sI T 53 o == 111)) (nOc S) = sm (fun o => bZ (sI S 53 o == 111)) (nOc S) + (bZ (sI T 53 o == 111) - bZ (sI S 53 o == 111)) := sm_upd (f := fun o => bZ (sI S 53 o == 111)) (g := fun o => bZ (sI T 53 o == 111)) ho (fun i _ hne => by
            show bZ (sI T 53 i == 111) = bZ (sI S 53 i == 111)
            rw [t53n i hne])
          have z14 : sI S 14 m = 111 := km.2.2.1.mpr (by rw [ed]; simp)
          have y14 : bZ (sI T 14 m == 111) = 0 := by
            rw [tX 14 m (by simp)]
            rcases x4 with y | y <;> (rw [y]; rfl)
          rw [y14, z14] at q1
          rw [t53, h111] at q2
          have q1 : sm (fun m => bZ (sI T 14 m == 111)) (nMc S) = sm (fun m => bZ (sI S 14 m == 111)) (nMc S) + (0 - 1) := q1
          have q2 : sm (fun o => bZ (sI T 53 o == 111)) (nOc S) = sm (fun o => bZ (sI S 53 o == 111)) (nOc S) + (0 - 1) := q2
          rw [q1, q2, hM.2]
    have hk : Keep S X := ⟨congrFun (congrFun x9 3) 0, congrFun (congrFun x9 0) 0, x1 1 (by decide) (by decide) (by decide) (by decide) (by decide) 0, x1 2 (by decide) (by decide) (by decide) (by decide) (by decide) 0, x8 1 0⟩
    have g := Inv0.go (X := X) hT.1 hT.2 (by rw [hk.1]; exact ho) (by rw [show nLc X = nLc S from congrFun (congrFun x9 2) 0]; exact hn)
    cases e : snM X o with
    | none => 
      obtain ⟨a, b, -⟩ := g.2 e
      exact ⟨a, hk.trans b⟩
    | some i =>
      obtain ⟨a, b, -⟩ := g.1 i e
      exact ⟨a, hk.trans b⟩
/-- the clock goes on -/
theorem Inv.tick {S : St} (hI : Inv S) (hn : (sI S 2 0).toInt + 1 ≤ 5000) : Inv (uI S 2 0 (sI S 2 0 + 1)) ∧ (sI (uI S 2 0 (sI S 2 0 + 1)) 2 0).toInt = (sI S 2 0).toInt + 1 := by
  obtain ⟨⟨hW, hP, hB, hQ, hV, hO, hJ, hD, hM, hTr, hHd, hC, hN⟩, hH⟩ := hI
  have n0 := hN.2.2.2.1
  have tk : ∀ k, k ≠ 2 → ∀ i, sI (uI S 2 0 (sI S 2 0 + 1)) k i = sI S k i := fun k a i => up2_nk (sI S) _ a
  have t2 : (sI (uI S 2 0 (sI S 2 0 + 1)) 2 0).toInt = (sI S 2 0).toInt + 1 := by
    rw [show sI (uI S 2 0 (sI S 2 0 + 1)) 2 0 = sI S 2 0 + 1 from up2_self (sI S) 2 0 (sI S 2 0 + 1)]
    exact i32_addV rfl rfl (by omega) (by omega)
  refine ⟨⟨⟨hW, hP.fr rfl (tk 30 (by decide)) (tk 20 (by decide)), hB.fr rfl (tk 40 (by decide)) (tk 41 (by decide)) (tk 42 (by decide)) (tk 43 (by decide)) (fun _ => rfl), hQ.fr rfl (tk 40 (by decide)) (tk 41 (by decide)) (tk 43 (by decide)) (fun i => by rw [tk 53 (by decide)]) (fun _ _ => rfl), hV.fr rfl (tk 42 (by decide)) (fun i => by rw [tk 53 (by decide)]) (fun _ _ => rfl), hO.fr rfl (tk 20 (by decide)) (tk 50 (by decide)) (tk 53 (by decide)) (fun _ _ => rfl), hJ.fr rfl (tk 20 (by decide)) (tk 40 (by decide)) (tk 50 (by decide)) (fun i => by rw [tk 53 (by decide)]) (fun i => by rw [tk 53 (by decide)]) (fun i => by rw [tk 53 (by decide)]) (fun i => by rw [tk 53 (by decide)]) (tk 60 (by decide)) (tk 61 (by decide)) (tk 63 (by decide)) (fun _ => rfl) (fun _ => rfl) (fun _ => rfl), hD.fr rfl (tk 43 (by decide)) (tk 50 (by decide)) (tk 55 (by decide)) (fun i => by rw [tk 53 (by decide)]) (fun _ => rfl) (fun _ => rfl) (fun _ => rfl), ?_, hTr, hHd, hC.fr rfl (fun _ => rfl) (fun _ => rfl) (fun _ => rfl) rfl rfl (tk 1 (by decide) 0) (tk 63 (by decide)) (fun _ => rfl), ?_⟩, hH.fr rfl (tk 42 (by decide)) (fun _ _ _ => ⟨rfl, rfl⟩)⟩, t2⟩
  · refine ⟨fun m hm => ?_, ?_⟩
    · have k := hM.1 m hm
      rw [tk 10 (by decide), tk 14 (by decide), tk 17 (by decide), tk 19 (by decide), t2]
      simp only [tk 53 (by decide)]
      exact ⟨k.1, k.2.1, k.2.2.1, fun o z => ⟨(k.2.2.2.1 o z).1, (k.2.2.2.1 o z).2.1, by have := (k.2.2.2.1 o z).2.2.1; omega, (k.2.2.2.1 o z).2.2.2⟩, k.2.2.2.2.1, by have := k.2.2.2.2.2; omega⟩
    · simp only [tk 14 (by decide), tk 53 (by decide)]
      exact hM.2
  · refine ⟨?_, ?_, ?_, by rw [t2]; omega, by rw [t2]; omega⟩
    · rw [tk 1 (by decide)]; exact hN.1
    · rw [tk 1 (by decide)]; exact hN.2.1
    · rw [tk 1 (by decide)]; exact hN.2.2.1
def Keep2 (S T : St) (d : Int) : Prop := nOc T = nOc S ∧ nMc T = nMc S ∧ sI T 1 0 = sI S 1 0 ∧ (sI T 2 0).toInt = (sI S 2 0).toInt + d ∧ sJ T 1 0 = sJ S 1 0
theorem Inv.pass {S : St} (hI : Inv S) (hn : (sI S 2 0).toInt + 1 ≤ 5000) (hb : (sI S 1 0).toInt + nOc S < 90) : (∀ j, j < 5 → sN (ptL S j) 2 0 < 90) ∧ Inv (ptS S) ∧ Keep2 S (ptS S) 1 := by
  obtain ⟨h1, h2⟩ := hI.tick hn
  have lots : ∀ T, Inv T → Keep (uI S 2 0 (sI S 2 0 + 1)) T → nLc T < 90 := fun T hT hk => by
    have a := hT.1.lots
    rw [hk.1, hk.2.2.1] at a
    have e1 : nOc (uI S 2 0 (sI S 2 0 + 1)) = nOc S := rfl
    have e2 : sI (uI S 2 0 (sI S 2 0 + 1)) 1 0 = sI S 1 0 := rfl
    rw [e1, e2] at a
    omega
  have hL : ∀ j, Inv (ptL S j) ∧ Keep (uI S 2 0 (sI S 2 0 + 1)) (ptL S j) := by
    intro j
    induction j with
    | zero => exact ⟨h1, Keep.refl _⟩
    | succ j ih =>
      rw [ptL_s]
      unfold pt1
      split
      · rename_i hm
        split
        · obtain ⟨a, b⟩ := ih.1.endwork (m := j) hm (lots _ ih.1 ih.2)
          exact ⟨a, ih.2.trans b⟩
        · exact ih
      · exact ih
  have hM : ∀ j, Inv (ptM S j) ∧ Keep (uI S 2 0 (sI S 2 0 + 1)) (ptM S j) := by
    intro j
    induction j with
    | zero => rw [ptM_0]; exact hL 5
    | succ j ih =>
      rw [ptM_s]
      unfold bt1
      split
      · rename_i hm
        obtain ⟨a, b, -⟩ := ih.1.begin (m := j) hm
        exact ⟨a, ih.2.trans b⟩
      · exact ih
  obtain ⟨a, b⟩ := hM 5
  have hp : ptS S = ptM S 5 := rfl
  rw [hp]
  have hl : ∀ j, j < 5 → sN (ptL S j) 2 0 < 90 := fun j _ => lots _ (hL j).1 (hL j).2
  clear hL hM
  generalize ptM S 5 = T at a b ⊢
  refine ⟨hl, a, b.1.trans rfl, b.2.1.trans rfl, b.2.2.1.trans rfl, ?_, b.2.2.2.2.trans rfl⟩
  rw [b.2.2.2.1, h2]
theorem Inv.adv {S : St} (hI : Inv S) {b : Nat} (hn : (sI S 2 0).toInt + b ≤ 5000) (hb : (sI S 1 0).toInt + nOc S < 90) : ∀ n, n ≤ b → Inv (avS S n) ∧ Keep2 S (avS S n) n ∧ (n < b → ∀ j, j < 5 → sN (ptL (avS S n) j) 2 0 < 90) := by
  intro n
  have key : ∀ n, n ≤ b → Inv (avS S n) ∧ Keep2 S (avS S n) n := by
    intro n
    induction n with
    | zero => exact fun _ => ⟨hI, rfl, rfl, rfl, by show (sI S 2 0).toInt = (sI S 2 0).toInt + ((0 : Nat) : Int); simp, rfl⟩
    | succ n ih =>
      intro hle
      obtain ⟨a, b1, b2, b3, b4, b5⟩ := ih (by omega)
      rw [avS_s]
      obtain ⟨-, c, d1, d2, d3, d4, d5⟩ := a.pass (by rw [b4]; omega) (by rw [b1, b3]; exact hb)
      exact ⟨c, d1.trans b1, d2.trans b2, d3.trans b3, by rw [d4, b4]; omega, d5.trans b5⟩
  intro hle
  obtain ⟨a, b1⟩ := key n hle
  refine ⟨a, b1, fun hlt => ?_⟩
  exact (a.pass (by rw [b1.2.2.2.1]; omega) (by rw [b1.1, b1.2.2.1]; exact hb)).1
-- FILE 56.deliver.lean.txt
/-! PURE: an order is delivered -/
def DlP (S : St) (o : Nat) (w : Int32) (U : St) : Prop :=
  (sN U = sN S ∧ sR U = sR S ∧ sP U = sP S) ∧ (∀ k i, k ≠ 41 → k ≠ 43 → ¬ (k = 55 ∧ i = o) → sI U k i = sI S k i) ∧
  (∀ k i, k ≠ 3 → ¬ (k = 4 ∧ i = o) → ¬ ((k = 26 ∨ k = 27) ∧ i = o) → sJ U k i = sJ S k i) ∧
  (∀ i, i < nLc S → rT U i + dT U i = rT S i + dT S i ∧ vT S i ≤ rT U i ∧ dT S i ≤ dT U i ∧ 0 ≤ cT U i ∧ cT U i ≤ cT S i ∧ (rT U i = 0 → cT U i = 0)) ∧
  (0 ≤ w.toInt ∧ w.toInt ≤ (sI S 50 o).toInt ∧ (sI U 55 o).toInt = (sI S 50 o).toInt - w.toInt) ∧
  sm (fun i => dT U i) (nLc S) = sm (fun i => dT S i) (nLc S) + ((sI S 50 o).toInt - w.toInt) ∧
  (sm (fun i => cT U i) (nLc S) + gD U o = sm (fun i => cT S i) (nLc S) ∧ 0 ≤ gD U o) ∧
  (∀ j, j < 128 → nsM U 13 o j = true → j < nLc S ∧ ∀ k, k < 128 → nsM S 8 j k = true → nsM U 13 o k = true) ∧
  (w.toInt < (sI S 50 o).toInt → ∃ j, j < 128 ∧ nsM U 13 o j = true)
/-- what is free of a lot, as a whole number -/
def fT (S : St) (i : Nat) : Int := if barred S i = true then 0 else rT S i - vT S i
theorem fT_free {S : St} {i : Nat} (h0 : 0 ≤ vT S i) (h1 : vT S i ≤ rT S i) (h2 : rT S i ≤ 500) : (free S i).toInt = fT S i ∧ 0 ≤ fT S i ∧ fT S i ≤ 500 := by
  unfold free fT
  cases hb : barred S i with
  | true => rw [if_pos rfl, if_pos rfl]; exact ⟨rfl, Int.le_refl _, by decide⟩
  | false =>
    rw [if_neg (by decide), if_neg (by decide)]
    exact ⟨i32_subV rfl rfl (by omega) (by omega), by omega, by omega⟩
section DL
variable {S : St} {o : Nat}
theorem DlP.v {w : Int32} {U : St} (h : DlP S o w U) (i : Nat) : vT U i = vT S i := congrArg Int32.toInt (h.2.1 42 i (by decide) (by decide) (by simp))
theorem DlP.bar {w : Int32} {U : St} (h : DlP S o w U) (i : Nat) : barred U i = barred S i := by
  have j := h.2.2.1
  unfold barred
  rw [show nsM U 14 0 i = nsM S 14 0 i from nsM_fr (fun i => j (2 * 14) i (by decide) (by simp) (by simp)) (fun i => j (2 * 14 + 1) i (by decide) (by simp) (by simp)) 0 i, show nsLo U 8 i = nsLo S 8 i from j (2 * 8) i (by decide) (by simp) (by simp), show nsHi U 8 i = nsHi S 8 i from j (2 * 8 + 1) i (by decide) (by simp) (by simp), show nsLo U 14 0 = nsLo S 14 0 from j (2 * 14) 0 (by decide) (by simp) (by simp), show nsHi U 14 0 = nsHi S 14 0 from j (2 * 14 + 1) 0 (by decide) (by simp) (by simp)]
theorem DlP.free {w : Int32} {U : St} (hB : ILB S) (hQ : ILQ S) (hO : IOrd S) (h : DlP S o w U) {i : Nat} (hi : i < nLc S) : (free U i).toInt = fT U i ∧ 0 ≤ fT U i ∧ fT U i ≤ 500 ∧ rT U i ≤ 500 ∧ 0 ≤ rT U i := by
  obtain ⟨b1, b2, b3, b4, b5⟩ := lot_bd hB hQ hO hi
  obtain ⟨c1, c2, c3, -⟩ := h.2.2.2.1 i hi
  have e := h.v i
  obtain ⟨f1, f2, f3⟩ := fT_free (S := U) (i := i) (by omega) (by omega) (by omega)
  exact ⟨f1, f2, f3, by omega, by omega⟩
theorem do_step (hB : ILB S) (hQ : ILQ S) (hO : IOrd S) (hT9 : ITr S) (hL : nLc S ≤ 90) (ho : o < nOc S) (hc : ∀ i, i < nLc S → cT S i ≤ 29970000) (hcs : sm (fun i => cT S i) (nLc S) ≤ 29970000) {w : Int32} {U : St} (h : DlP S o w U) {i : Nat} (hi : i < nLc S) :
    DlP S o (w - doR U i w) (doS U i o w) ∧ (∀ j, j ≠ i → fT (doS U i o w) j = fT U j) ∧ (w - doR U i w).toInt = w.toInt - (if fT U i < w.toInt then fT U i else w.toInt) ∧ fT (doS U i o w) i = fT U i - (if fT U i < w.toInt then fT U i else w.toInt) := by
  obtain ⟨f1, f2, f3, f4, f5⟩ := h.free hB hQ hO hi
  have hm := imin_T w (free U i)
  rw [f1] at hm
  have hw0 := h.2.2.2.2.1.1
  have hw1 := h.2.2.2.2.1.2.1
  have h50 := (hO o ho).2.2.2.1
  unfold doS doR
  by_cases hk : 0 < imin w (free U i)
  · rw [if_pos hk, if_pos hk]
    generalize imin w (free U i) = k at hm hk ⊢
    have hk' : 0 < k.toInt := i32_lt.mp hk
    have hkf : k.toInt ≤ fT U i := by rw [hm]; split <;> omega
    have hkw : k.toInt ≤ w.toInt := by rw [hm]; split <;> omega
    have hbar : barred U i = false := by
      cases hb : barred U i with
      | false => rfl
      | true => 
        have : fT U i = 0 := by unfold fT; rw [hb]; rfl
        omega
    have hfr : fT U i = rT U i - vT U i := by unfold fT; rw [hbar]; rfl
    have hv := h.v i
    have bv := (lot_bd hB hQ hO hi).1
    obtain ⟨c1, c2, c3, c4, c5, c6⟩ := h.2.2.2.1 i hi
    have hci := hc i hi
    obtain ⟨⟨s1, s2, s3, s4⟩, s5, s6, s7, s8, s9⟩ := tk_spec (S := U) (i := i) (k := k) (by omega) (by omega) f4 c4 (by omega) c6
    have hwk : (w - k).toInt = w.toInt - k.toInt := i32_sub (by omega) (by omega)
    obtain ⟨⟨g1, g2, g3⟩, g4, g5, g6, g7, g8, ⟨g9, g9'⟩, g10, g11⟩ := h
    have i128 : i < 128 := by omega
    -- the state behind
    have yI : ∀ k' i', sI (uI (sAddW (doT U i o k) 13 o i) 43 i (sI (sAddW (doT U i o k) 13 o i) 43 i + k)) k' i' = up2 (sI (doT U i o k)) 43 i (sI (doT U i o k) 43 i + k) k' i' := fun k' i' => by
      show up2 (sI (sAddW (doT U i o k) 13 o i)) 43 i (sI (sAddW (doT U i o k) 13 o i) 43 i + k) k' i' = _
      rw [sAddW_I]
    have yI2 : ∀ k' i', sI (doT U i o k) k' i' = up2 (sI (tkS U i k)) 55 o (sI (tkS U i k) 55 o + k) k' i' := fun _ _ => rfl
    have yJ2 : ∀ k' i', sJ (doT U i o k) k' i' = up2 (sJ (tkS U i k)) 4 o (sJ U 4 o + tkC U i k) k' i' := fun _ _ => rfl
    have yJ : ∀ k' i', ¬ ((k' = 26 ∨ k' = 27) ∧ i' = o) → sJ (uI (sAddW (doT U i o k) 13 o i) 43 i (sI (sAddW (doT U i o k) 13 o i) 43 i + k)) k' i' = sJ (doT U i o k) k' i' := fun k' i' a => sAddW_J (doT U i o k) 13 o i k' i' (fun z => a ⟨Or.inl z.1, z.2⟩) (fun z => a ⟨Or.inr z.1, z.2⟩)
    have yM : ∀ m, m < 128 → nsM (uI (sAddW (doT U i o k) 13 o i) 43 i (sI (sAddW (doT U i o k) 13 o i) 43 i + k)) 13 o m = (nsM (doT U i o k) 13 o m || (decide (m = i) || nsM (doT U i o k) 8 i m)) := fun m hm => by
      have q := sAddW_M (S := doT U i o k) (k := 13) (i := o) (j := i) (k' := 13) (i' := o) i128 hm (fun z => absurd z (by decide))
      rw [decide_eq_true (show (13 : Nat) = 13 ∧ o = o from ⟨rfl, rfl⟩), Bool.true_and] at q
      exact q
    have yP : sP (uI (sAddW (doT U i o k) 13 o i) 43 i (sI (sAddW (doT U i o k) 13 o i) 43 i + k)) = sP U := (sAddW_P (doT U i o k) 13 o i).trans s9
    have yE : sM U (sA (uI (sAddW (doT U i o k) 13 o i) 43 i (sI (sAddW (doT U i o k) 13 o i) 43 i + k))) = uI (sAddW (doT U i o k) 13 o i) 43 i (sI (sAddW (doT U i o k) 13 o i) 43 i + k) := sM_sA rfl rfl
    rw [yE]
    have yN : sN (uI (sAddW (doT U i o k) 13 o i) 43 i (sI (sAddW (doT U i o k) 13 o i) 43 i + k)) = sN U := rfl
    have yR : sR (uI (sAddW (doT U i o k) 13 o i) 43 i (sI (sAddW (doT U i o k) 13 o i) 43 i + k)) = sR U := rfl
    generalize uI (sAddW (doT U i o k) 13 o i) 43 i (sI (sAddW (doT U i o k) 13 o i) 43 i + k) = T at yI yJ yM yP yN yR ⊢
    generalize doT U i o k = Y at yI yI2 yJ yJ2 yM
    generalize tkS U i k = X at s5 s6 s7 s8 s9 yI2 yJ2
    have r41 : sI T 41 i = sI X 41 i := by rw [yI, up2_nk _ _ (by decide), yI2, up2_nk _ _ (by decide)]
    have r41n : ∀ j, j ≠ i → sI T 41 j = sI U 41 j := fun j e => by rw [yI, up2_nk _ _ (by decide), yI2, up2_nk _ _ (by decide), s5 41 j (fun z => e z.2)]
    have r43 : sI T 43 i = sI U 43 i + k := by rw [yI, up2_self, yI2, up2_nk _ _ (by decide), s5 43 i (by simp)]
    have r43n : ∀ j, j ≠ i → sI T 43 j = sI U 43 j := fun j e => by rw [yI, up2_ne _ _ (fun z => e z.2), yI2, up2_nk _ _ (by decide), s5 43 j (by simp)]
    have r55 : sI T 55 o = sI U 55 o + k := by rw [yI, up2_nk _ _ (by decide), yI2, up2_self, s5 55 o (by simp)]
    have rI : ∀ k' j, k' ≠ 41 → k' ≠ 43 → ¬ (k' = 55 ∧ j = o) → sI T k' j = sI U k' j := fun k' j a b c => by rw [yI, up2_nk _ _ b, yI2, up2_ne _ _ c, s5 k' j (fun z => a z.1)]
    have rJ : ∀ k' j, k' ≠ 3 → ¬ (k' = 4 ∧ j = o) → ¬ ((k' = 26 ∨ k' = 27) ∧ j = o) → sJ T k' j = sJ U k' j := fun k' j a b c => by rw [yJ k' j c, yJ2, up2_ne _ _ b, s7 k' j (fun z => a z.1)]
    have r3 : sJ T 3 i = sJ X 3 i := by rw [yJ 3 i (by simp), yJ2, up2_nk _ _ (by decide)]
    have r3n : ∀ j, j ≠ i → sJ T 3 j = sJ U 3 j := fun j e => by rw [yJ 3 j (by simp), yJ2, up2_nk _ _ (by decide), s7 3 j (fun z => e z.2)]
    have r4 : sJ T 4 o = sJ U 4 o + tkC U i k := by rw [yJ 4 o (by simp), yJ2, up2_self]
    have rM13 : ∀ m, nsM Y 13 o m = nsM U 13 o m := fun m => by
      show nsb (sJ Y 26 o) (sJ Y 27 o) m = nsb (sJ U 26 o) (sJ U 27 o) m
      rw [yJ2, yJ2, up2_nk _ _ (by decide), up2_nk _ _ (by decide), s7 26 o (by simp), s7 27 o (by simp)]
    have rM8 : ∀ m, nsM Y 8 i m = nsM S 8 i m := fun m => by
      show nsb (sJ Y 16 i) (sJ Y 17 i) m = nsb (sJ S 16 i) (sJ S 17 i) m
      rw [yJ2, yJ2, up2_nk _ _ (by decide), up2_nk _ _ (by decide), s7 16 i (by simp), s7 17 i (by simp), g5 16 i (by decide) (by simp) (by simp), g5 17 i (by decide) (by simp) (by simp)]
    have R41 : rT T i = rT U i - k.toInt := (congrArg Int32.toInt r41).trans s6
    have R43 : dT T i = dT U i + k.toInt := by
      show (sI T 43 i).toInt = _
      rw [r43]
      have := (lot_bd hB hQ hO hi).2.2
      exact i32_addV rfl rfl (by omega) (by omega)
    have R3 : cT T i = cT U i - (tkC U i k).toInt := (congrArg Int64.toInt r3).trans s8
    have cnn : ∀ j, j < nLc S → 0 ≤ cT U j := fun j hj => (g6 j hj).2.2.2.1
    have csum : cT U i ≤ sm (fun i => cT U i) (nLc S) := sm_one (f := fun i => cT U i) hi cnn
    have R4 : gD T o = gD U o + (tkC U i k).toInt := by
      show (sJ T 4 o).toInt = _
      rw [r4]
      exact i64_addV rfl rfl (by omega) (by omega)
    have q43 : sm (fun i => dT T i) (nLc S) = sm (fun i => dT U i) (nLc S) + (dT T i - dT U i) := sm_upd (f := fun i => dT U i) (g := fun i => dT T i) hi (fun j _ e => congrArg Int32.toInt (r43n j e))
    have q3 : sm (fun i => cT T i) (nLc S) = sm (fun i => cT U i) (nLc S) + (cT T i - cT U i) := sm_upd (f := fun i => cT U i) (g := fun i => cT T i) hi (fun j _ e => congrArg Int64.toInt (r3n j e))
    obtain ⟨g71, g72, g73⟩ := g7
    have R55 : (sI T 55 o).toInt = (sI U 55 o).toInt + k.toInt := by
      rw [r55]; exact i32_add (by omega) (by omega)
    have eb : ∀ j, barred T j = barred U j := fun j => by
      unfold barred
      rw [show nsM T 14 0 j = nsM U 14 0 j from nsM_fr (fun i => rJ (2 * 14) i (by decide) (by simp) (by simp)) (fun i => rJ (2 * 14 + 1) i (by decide) (by simp) (by simp)) 0 j, show nsLo T 8 j = nsLo U 8 j from rJ (2 * 8) j (by decide) (by simp) (by simp), show nsHi T 8 j = nsHi U 8 j from rJ (2 * 8 + 1) j (by decide) (by simp) (by simp), show nsLo T 14 0 = nsLo U 14 0 from rJ (2 * 14) 0 (by decide) (by simp) (by simp), show nsHi T 14 0 = nsHi U 14 0 from rJ (2 * 14 + 1) 0 (by decide) (by simp) (by simp)]
    have ev : ∀ j, vT T j = vT U j := fun j => congrArg Int32.toInt (rI 42 j (by decide) (by decide) (by simp))
    have hmn : (if fT U i < w.toInt then fT U i else w.toInt) = k.toInt := hm.symm
    rw [hmn]
    refine ⟨⟨⟨yN.trans g1, yR.trans g2, yP.trans g3⟩, fun k' j a b c => (rI k' j a b c).trans (g4 k' j a b c), fun k' j a b c => (rJ k' j a b c).trans (g5 k' j a b c), fun j hj => ?_, ⟨by omega, by omega, by omega⟩, by omega, ⟨by omega, by omega⟩, fun j hj hmem => ?_, fun _ => ⟨i, i128, ?_⟩⟩, fun j e => ?_, hwk, ?_⟩
    · by_cases e : j = i
      · subst e
        rw [R41, R43, R3]
        exact ⟨by omega, by omega, by omega, by omega, by omega, fun z => by have := s4 (by omega); omega⟩
      · have a1 : rT T j = rT U j := congrArg Int32.toInt (r41n j e)
        have a2 : dT T j = dT U j := congrArg Int32.toInt (r43n j e)
        have a3 : cT T j = cT U j := congrArg Int64.toInt (r3n j e)
        rw [a1, a2, a3]; exact g6 j hj
    · rw [yM j hj, rM13, rM8, Bool.or_eq_true, Bool.or_eq_true, decide_eq_true_iff] at hmem
      have up : ∀ k', k' < 128 → (nsM U 13 o k' = true ∨ k' = i ∨ nsM S 8 i k' = true) → nsM T 13 o k' = true := fun k' hk' z => by
        rw [yM k' hk', rM13, rM8, Bool.or_eq_true, Bool.or_eq_true, decide_eq_true_iff]; exact z
      rcases hmem with z | z | z
      · obtain ⟨a, b⟩ := g10 j hj z
        exact ⟨a, fun k' hk' hz => up k' hk' (Or.inl (b k' hk' hz))⟩
      · subst z
        exact ⟨hi, fun k' hk' hz => up k' hk' (Or.inr (Or.inr hz))⟩
      · have t1 := (hT9.1 i hi).1 j hj z
        exact ⟨by omega, fun k' hk' hz => up k' hk' (Or.inr (Or.inr (t1.2.2 k' hk' hz)))⟩
    · rw [yM i i128, Bool.or_eq_true, Bool.or_eq_true, decide_eq_true_iff]
      exact Or.inr (Or.inl rfl)
    · unfold fT
      rw [eb, ev, show rT T j = rT U j from congrArg Int32.toInt (r41n j e)]
    · have : fT T i = rT T i - vT T i := by unfold fT; rw [eb, hbar]; rfl
      rw [this, ev, R41, hfr]; omega
  · rw [if_neg hk, if_neg hk]
    have hk' : ¬ 0 < (imin w (free U i)).toInt := fun z => hk (i32_lt.mpr z)
    have h0 : (if fT U i < w.toInt then fT U i else w.toInt) = 0 := by rw [← hm]; rw [hm] at hk' ⊢; split <;> (split at hk' <;> omega)
    have e9 : sM U (sA U) = U := sM_sA rfl rfl
    rw [h0, e9, Int32.sub_zero]
    exact ⟨h, fun _ _ => rfl, by omega, by omega⟩
/-- free pieces of a part's lots from j on -/
def fS (U : St) (p n : Nat) : Nat → Int := fun i => if i < n then 0 else if sN U 6 i = p then fT U i else 0
theorem fS_N {U V : St} (h : sN V = sN U) (p n i : Nat) : fS V p n i = if i < n then 0 else if sN U 6 i = p then fT V i else 0 := by unfold fS; rw [h]
theorem td_spec (hB : ILB S) (hQ : ILQ S) (hO : IOrd S) (hT9 : ITr S) (hL : nLc S ≤ 90) (ho : o < nOc S) (hc : ∀ i, i < nLc S → cT S i ≤ 29970000) (hcs : sm (fun i => cT S i) (nLc S) ≤ 29970000) {w0 : Int32} {U0 : St} (h0 : DlP S o w0 U0) (hw : w0.toInt ≤ sm (fS U0 (sN S 7 o) 0) (nLc S)) {x0 : IJP × Int32} (hx : sM S x0.1 = U0) (hx2 : x0.2 = w0) (n : Nat) :
    DlP S o (it (td1 S o) n x0).2 (sM S (it (td1 S o) n x0).1) ∧ (it (td1 S o) n x0).2.toInt ≤ sm (fS (sM S (it (td1 S o) n x0).1) (sN S 7 o) n) (nLc S) := by
  induction n with
  | zero => rw [it_0, hx, hx2]; exact ⟨h0, hw⟩
  | succ n ih =>
    obtain ⟨h1, h2⟩ := ih
    rw [it_s]
    generalize it (td1 S o) n x0 = x at h1 h2 ⊢
    unfold td1
    generalize hU : sM S x.1 = U at h1 h2 ⊢
    have un : sN U = sN S := h1.1.1
    have fnn : ∀ V w, DlP S o w V → ∀ i, i < nLc S → 0 ≤ fT V i := fun V w hV i hi => (hV.free hB hQ hO hi).2.1
    by_cases hn : n < sN S 2 0
    · have hn' : n < nLc S := hn
      rw [if_pos hn]
      by_cases hp : sN S 6 n = sN S 7 o
      · rw [if_pos hp]
        obtain ⟨a1, a2, a3, a4⟩ := do_step hB hQ hO hT9 hL ho hc hcs h1 hn'
        have e9 : sM S (sA (doS U n o x.2)) = doS U n o x.2 := sM_sA a1.1.1 a1.1.2.1
        show DlP S o (x.2 - doR U n x.2) (sM S (sA (doS U n o x.2))) ∧ (x.2 - doR U n x.2).toInt ≤ sm (fS (sM S (sA (doS U n o x.2))) (sN S 7 o) (n + 1)) (nLc S)
        rw [e9]
        refine ⟨a1, ?_⟩
        rw [a3]
        have dn : sN (doS U n o x.2) = sN S := a1.1.1
        have q : sm (fS (doS U n o x.2) (sN S 7 o) (n + 1)) (nLc S) = sm (fS U (sN S 7 o) n) (nLc S) + (fS (doS U n o x.2) (sN S 7 o) (n + 1) n - fS U (sN S 7 o) n n) := sm_upd (f := fS U (sN S 7 o) n) (g := fS (doS U n o x.2) (sN S 7 o) (n + 1)) hn' (fun i hi e => by
          rw [fS_N dn, fS_N un, a2 i e]
          by_cases z : i < n
          · rw [if_pos z, if_pos (show i < n + 1 by omega)]
          · rw [if_neg z, if_neg (show ¬ i < n + 1 by omega)])
        have z1 : fS (doS U n o x.2) (sN S 7 o) (n + 1) n = 0 := by unfold fS; rw [if_pos (Nat.lt_succ_self n)]
        have z2 : fS U (sN S 7 o) n n = fT U n := by rw [fS_N un, if_neg (Nat.lt_irrefl n), if_pos hp]
        have nn : 0 ≤ sm (fS (doS U n o x.2) (sN S 7 o) (n + 1)) (nLc S) := sm_nonneg (fun i hi => by
          unfold fS
          split
          · exact Int.le_refl _
          · split
            · exact fnn _ _ a1 i hi
            · exact Int.le_refl _)
        rw [z1, z2] at q
        have w1 := h1.2.2.2.2.1.1
        split <;> omega
      · rw [if_neg hp, hU]
        refine ⟨h1, ?_⟩
        have q : sm (fS U (sN S 7 o) (n + 1)) (nLc S) = sm (fS U (sN S 7 o) n) (nLc S) := sm_congr (fun i hi => by
          rw [fS_N un, fS_N un]
          by_cases z : i < n
          · rw [if_pos z, if_pos (show i < n + 1 by omega)]
          · rw [if_neg z]
            by_cases y : i < n + 1
            · rw [if_pos y, if_neg (by rw [show i = n by omega]; exact hp)]
            · rw [if_neg y])
        rw [q]; exact h2
    · rw [if_neg hn, hU]
      have hn' : ¬ n < nLc S := hn
      refine ⟨h1, ?_⟩
      have q : sm (fS U (sN S 7 o) (n + 1)) (nLc S) = sm (fS U (sN S 7 o) n) (nLc S) := sm_congr (fun i hi => by
        unfold fS
        rw [if_pos (show i < n + 1 by omega), if_pos (show i < n by omega)])
      rw [q]; exact h2
theorem fpo_sm (hB : ILB S) (hQ : ILQ S) (hO : IOrd S) (hL : nLc S ≤ 90) (p : Nat) : (fpo S p).toInt = sm (fS S p 0) (nLc S) := by
  have key : ∀ n, n ≤ 90 → (it (fpo1 S p) n 0).toInt = sm (fS S p 0) (min n (nLc S)) ∧ 0 ≤ (it (fpo1 S p) n 0).toInt ∧ (it (fpo1 S p) n 0).toInt ≤ 500 * n := by
    intro n
    induction n with
    | zero => intro _; rw [Nat.zero_min]; exact ⟨rfl, Int.le_refl _, by show (0 : Int) ≤ 500 * ((0 : Nat) : Int); decide⟩
    | succ n ih =>
      intro hn
      obtain ⟨i1, i2, i3⟩ := ih (by omega)
      rw [it_s]
      generalize it (fpo1 S p) n 0 = a at i1 i2 i3 ⊢
      unfold fpo1
      by_cases hl : n < sN S 2 0
      · have hl' : n < nLc S := hl
        rw [if_pos hl, Nat.min_eq_left (show n + 1 ≤ nLc S from hl), sm_s]
        rw [Nat.min_eq_left (Nat.le_of_lt hl')] at i1
        obtain ⟨b1, b2, b3, b4, b5⟩ := lot_bd hB hQ hO hl'
        obtain ⟨f1, f2, f3⟩ := fT_free (S := S) (i := n) b1 b2 (by omega)
        by_cases hp : sN S 6 n = p
        · rw [if_pos hp]
          have z : fS S p 0 n = fT S n := by unfold fS; rw [if_neg (Nat.not_lt_zero n), if_pos hp]
          rw [z, ← f1, ← i1]
          have e := i32_add (a := a) (b := free S n) (by omega) (by omega)
          exact ⟨e, by rw [e]; omega, by rw [e]; omega⟩
        · rw [if_neg hp]
          have z : fS S p 0 n = 0 := by unfold fS; rw [if_neg (Nat.not_lt_zero n), if_neg hp]
          rw [z]
          exact ⟨by omega, i2, by omega⟩
      · have hl' : ¬ n < nLc S := hl
        rw [if_neg hl, Nat.min_eq_right (show nLc S ≤ n + 1 by omega)]
        rw [Nat.min_eq_right (show nLc S ≤ n by omega)] at i1
        exact ⟨i1, i2, by omega⟩
  have := (key 90 (Nat.le_refl _)).1
  rw [Nat.min_eq_right hL] at this
  exact this
/-- noteOrderOnLots -/
theorem no_spec {U : St} (hL : nLc U ≤ 90) (ho : o < 128) (n : Nat) :
    sI (sM U (noL U o n)) = sI U ∧ sP (sM U (noL U o n)) = sP U ∧ (∀ k i, k ≠ 20 → k ≠ 21 → sJ (sM U (noL U o n)) k i = sJ U k i) ∧
    ∀ j m, m < 128 → nsM (sM U (noL U o n)) 10 j m = (nsM U 10 j m || (decide (j < n ∧ j < nLc U) && nsM U 13 o j && decide (m = o))) := by
  induction n with
  | zero =>
    refine ⟨rfl, rfl, fun _ _ _ _ => rfl, fun j m hm => ?_⟩
    rw [decide_eq_false (fun z => Nat.not_lt_zero j z.1), Bool.false_and, Bool.false_and, Bool.or_false]; rfl
  | succ t ih =>
    obtain ⟨h1, h2, h3, h4⟩ := ih
    rw [noL_s]
    unfold no1
    have hAN : sN (sM U (noL U o t)) = sN U := rfl
    have hAR : sR (sM U (noL U o t)) = sR U := rfl
    generalize hB : sM U (noL U o t) = B at h1 h2 h3 h4 hAN hAR ⊢
    have e13 : nsM B 13 o t = nsM U 13 o t := by
      show nsb (sJ B 26 o) (sJ B 27 o) t = nsb (sJ U 26 o) (sJ U 27 o) t
      rw [h3 26 o (by decide) (by decide), h3 27 o (by decide) (by decide)]
    have keep : (∀ j, (j < t + 1 ∧ j < nLc U) → nsM U 13 o j = true → j < t) → ∀ j m, m < 128 → nsM B 10 j m = (nsM U 10 j m || (decide (j < t + 1 ∧ j < nLc U) && nsM U 13 o j && decide (m = o))) := fun hk j m hm => by
      rw [h4 j m hm]
      congr 2
      cases e : nsM U 13 o j with
      | false => rw [Bool.and_false, Bool.and_false]
      | true =>
        rw [Bool.and_true, Bool.and_true]
        exact decide_eq_decide.mpr ⟨fun z => ⟨by omega, z.2⟩, fun z => ⟨hk j z e, z.2⟩⟩
    by_cases ht : t < sN U 2 0
    · rw [if_pos ht, e13]
      by_cases hz : nsM U 13 o t = true
      · rw [if_pos hz]
        have ht' : t < nLc U := ht
        have e9 : sM U (sA (sAdd B 10 t o)) = sAdd B 10 t o := sM_sA hAN hAR
        rw [e9]
        refine ⟨(sAdd_I B 10 t o).trans h1, (sAdd_P B 10 t o).trans h2, fun k i a b => (sAdd_J B 10 t o k i (fun z => a z.1) (fun z => b z.1)).trans (h3 k i a b), fun j m hm => ?_⟩
        rw [sAdd_M ho hm, h4 j m hm, Bool.or_assoc]
        congr 1
        by_cases ej : j = t
        · subst ej
          rw [decide_eq_false (show ¬ (j < j ∧ j < nLc U) from fun z => Nat.lt_irrefl j z.1), decide_eq_true (show (10 : Nat) = 10 ∧ j = j from ⟨rfl, rfl⟩), decide_eq_true (show j < j + 1 ∧ j < nLc U from ⟨Nat.lt_succ_self j, ht'⟩), hz]
          rfl
        · rw [decide_eq_false (show ¬ ((10 : Nat) = 10 ∧ j = t) from fun z => ej z.2), Bool.false_and, Bool.or_false]
          congr 2
          exact decide_eq_decide.mpr ⟨fun z => ⟨by omega, z.2⟩, fun z => ⟨by omega, z.2⟩⟩
      · rw [if_neg hz, hB]
        refine ⟨h1, h2, h3, keep (fun j z e => ?_)⟩
        have : j ≠ t := fun q => hz (q ▸ e)
        omega
    · rw [if_neg ht, hB]
      have ht' : ¬ t < nLc U := ht
      exact ⟨h1, h2, h3, keep (fun j z e => by omega)⟩
end DL
-- FILE 57.delivered.lean.txt
/-! PURE: delivering keeps Inv -/
theorem DlP.init {S : St} {o : Nat} (hI : Inv0 S 1000) (ho : o < nOc S) (hd : ¬ sI S 53 o = 100) : DlP S o (sI S 50 o) S := by
  obtain ⟨hW, hP, hB, hQ, hV, hO, hJ, hD, hM, hTr, hHd, hC, hN⟩ := hI
  have k := hD.1 o ho
  have k2 := k.2.1 hd
  have h50 := (hO o ho).2.2.2.1
  refine ⟨⟨rfl, rfl, rfl⟩, fun _ _ _ _ _ => rfl, fun _ _ _ _ _ => rfl, fun i hi => ?_, ⟨by omega, Int.le_refl _, ?_⟩, by omega, ⟨?_, k.1⟩, fun j hj hm => ?_, fun z => absurd z (Int.lt_irrefl _)⟩
  · obtain ⟨⟨b1, b2, b3, b4⟩, b5, b6⟩ := hB i hi
    exact ⟨rfl, b2, Int.le_refl _, b5, Int.le_refl _, b6⟩
  · rw [k2.2.1]
    show (0 : Int) = _
    omega
  · rw [k2.1]; omega
  · rw [k2.2.2 j hj] at hm; exact absurd hm (by decide)
theorem td_all {S : St} {o : Nat} (hI : Inv S) (ho : o < nOc S) (hd : ¬ sI S 53 o = 100) (hq : sI S 50 o ≤ fpo S (sN S 7 o)) : DlP S o 0 (tdS S o) := by
  have h0 := DlP.init hI.1 ho hd
  obtain ⟨k1, k2, k3, k4, k5⟩ := hI.1.cost
  have hI0 := hI.1
  obtain ⟨hW, hP, hB, hQ, hV, hO, hJ, hD, hM, hTr, hHd, hC, hN⟩ := hI0
  have hL : nLc S ≤ 90 := hW.nL
  have hcs : sm (fun i => cT S i) (nLc S) ≤ 29970000 := by
    have c1 := hC.1
    have c2 := hC.2.1
    have c3 : 0 ≤ sm (fun o => eT S o + gD S o) (nOc S) := sm_nonneg (f := fun o => eT S o + gD S o) (fun o ho => by
      have h1 := (hJ o ho).2.2.2.2.2.2.2.2.1
      have h2 := (hD.1 o ho).1
      omega)
    omega
  have hq' : (sI S 50 o).toInt ≤ sm (fS S (sN S 7 o) 0) (nLc S) := by
    rw [← fpo_sm hB hQ hO hL]
    exact i32_le.mp hq
  have fin : ∀ (w0 : Int32) (U0 : St) (x0 : IJP × Int32), DlP S o w0 U0 → w0.toInt ≤ sm (fS U0 (sN S 7 o) 0) (nLc S) → sM S x0.1 = U0 → x0.2 = w0 → DlP S o 0 (sM S (it (td1 S o) 90 x0).1) := fun w0 U0 x0 a b c d => by
    obtain ⟨e1, e2⟩ := td_spec hB hQ hO hTr hL ho k1 hcs a b c d 90
    have z : sm (fS (sM S (it (td1 S o) 90 x0).1) (sN S 7 o) 90) (nLc S) = 0 := sm_zero (fun i hi => by
      unfold fS
      rw [if_pos (show i < 90 by omega)])
    rw [z] at e2
    have e3 := e1.2.2.2.2.1.1
    have e4 : (it (td1 S o) 90 x0).2 = 0 := i32_ext (by show _ = (0 : Int); omega)
    rw [e4] at e1; exact e1
  show DlP S o 0 (sM S (tdL S o 90).1)
  unfold tdL td0
  cases e : sR S 4 o with
  | none => exact fin _ S _ h0 hq' rfl rfl
  | some i =>
    have hi : i < nLc S := hW.jlot ho e
    obtain ⟨a1, a2, a3, a4⟩ := do_step hB hQ hO hTr hL ho k1 hcs h0 hi
    refine fin _ (doS S i o (sI S 50 o)) _ a1 ?_ (sM_sA a1.1.1 a1.1.2.1) rfl
    rw [a3]
    have dn : sN (doS S i o (sI S 50 o)) = sN S := a1.1.1
    have q : sm (fS (doS S i o (sI S 50 o)) (sN S 7 o) 0) (nLc S) = sm (fS S (sN S 7 o) 0) (nLc S) + (fS (doS S i o (sI S 50 o)) (sN S 7 o) 0 i - fS S (sN S 7 o) 0 i) := sm_upd (f := fS S (sN S 7 o) 0) (g := fS (doS S i o (sI S 50 o)) (sN S 7 o) 0) hi (fun j hj ne => by
      rw [fS_N dn, a2 j ne]; rfl)
    have y1 : fS (doS S i o (sI S 50 o)) (sN S 7 o) 0 i = if sN S 6 i = sN S 7 o then fT (doS S i o (sI S 50 o)) i else 0 := by rw [fS_N dn, if_neg (Nat.not_lt_zero i)]
    have y2 : fS S (sN S 7 o) 0 i = if sN S 6 i = sN S 7 o then fT S i else 0 := by unfold fS; rw [if_neg (Nat.not_lt_zero i)]
    rw [q, y1, y2, a4]
    have f0 := (h0.free hB hQ hO hi).2.1
    have w0 := h0.2.2.2.2.1.1
    split <;> split <;> omega
theorem Inv.deliver {S : St} (hI : Inv S) {o : Nat} (ho : o < nOc S) (hd : ¬ sI S 53 o = 100) (hf : ¬ sI S 20 (sN S 7 o) = 0 → sI S 53 o = 102) : (dlR S o = false ∧ dlS S o = S) ∨ (dlR S o = true ∧ Inv (dlS S o) ∧ Keep S (dlS S o) ∧ sI (dlS S o) 53 o = 100) := by
  unfold dlR dlS
  by_cases hq : sI S 50 o ≤ fpo S (sN S 7 o)
  · refine Or.inr ?_
    rw [if_pos hq, if_pos hq]
    refine ⟨rfl, ?_⟩
    have hU := td_all hI ho hd hq
    generalize tdS S o = U at hU ⊢
    obtain ⟨⟨hW, hP, hB, hQ, hV, hO, hJ, hD, hM, hTr, hHd, hC, hN⟩, hH⟩ := hI
    obtain ⟨⟨g1, g2, g3⟩, g4, g5, g6, g7, g8, ⟨g9, g9'⟩, g10, g11⟩ := hU
    have hUL : nLc U = nLc S := congrFun (congrFun g1 2) 0
    have o128 : o < 128 := Nat.lt_of_lt_of_le ho (Nat.le_trans hW.nO (by decide))
    obtain ⟨n1, n2, n3, n4⟩ := no_spec (U := U) (o := o) (by rw [hUL]; exact hW.nL) o128 90
    have hst : (sI S 53 o = 45 ∧ sI S 20 (sN S 7 o) = 0) ∨ (sI S 53 o = 102 ∧ ¬ sI S 20 (sN S 7 o) = 0) := by
      by_cases z : sI S 20 (sN S 7 o) = 0
      · rcases (hO o ho).2.2.2.2 z with y | y
        · exact Or.inl ⟨y, z⟩
        · exact absurd y hd
      · exact Or.inr ⟨hf z, z⟩
    have h50 := (hO o ho).2.2.2.1
    have en0 : sN (uI (uI (noS U o) 53 o 100) 54 o (sI (noS U o) 2 0)) = sN U := rfl
    have er0 : sR (uI (uI (noS U o) 53 o 100) 54 o (sI (noS U o) 2 0)) = sR U := rfl
    have ep0 : sP (uI (uI (noS U o) 53 o 100) 54 o (sI (noS U o) 2 0)) = sP U := n2
    have t53 : sI (uI (uI (noS U o) 53 o 100) 54 o (sI (noS U o) 2 0)) 53 o = 100 := by simp [sI, up2]
    have tI : ∀ k i, k ≠ 54 → ¬ (k = 53 ∧ i = o) → sI (uI (uI (noS U o) 53 o 100) 54 o (sI (noS U o) 2 0)) k i = sI U k i := fun k i a b => by
      show up2 (up2 (sI (noS U o)) 53 o 100) 54 o (sI (noS U o) 2 0) k i = _
      rw [up2_nk _ _ a, up2_ne _ _ b]
      exact congrFun (congrFun n1 k) i
    have tJ : ∀ k i, k ≠ 20 → k ≠ 21 → sJ (uI (uI (noS U o) 53 o 100) 54 o (sI (noS U o) 2 0)) k i = sJ U k i := n3
    have tM : ∀ j m, m < 128 → nsM (uI (uI (noS U o) 53 o 100) 54 o (sI (noS U o) 2 0)) 10 j m = (nsM U 10 j m || (decide (j < 90 ∧ j < nLc U) && nsM U 13 o j && decide (m = o))) := n4
    have tn : sN (uI (uI (noS U o) 53 o 100) 54 o (sI (noS U o) 2 0)) = sN S := en0.trans g1
    have tr : sR (uI (uI (noS U o) 53 o 100) 54 o (sI (noS U o) 2 0)) = sR S := er0.trans g2
    have tp : sP (uI (uI (noS U o) 53 o 100) 54 o (sI (noS U o) 2 0)) = sP S := ep0.trans g3
    generalize uI (uI (noS U o) 53 o 100) 54 o (sI (noS U o) 2 0) = T at t53 tI tJ tM tn tr tp ⊢
    have en : nLc T = nLc S := congrFun (congrFun tn 2) 0
    have eo : nOc T = nOc S := congrFun (congrFun tn 3) 0
    have tK : ∀ k, k ≠ 54 ∧ k ≠ 53 ∧ k ≠ 41 ∧ k ≠ 43 ∧ k ≠ 55 → ∀ i, sI T k i = sI S k i := fun k h i => (tI k i h.1 (fun z => h.2.1 z.1)).trans (g4 k i h.2.2.1 h.2.2.2.1 (fun z => h.2.2.2.2 z.1))
    have t53n : ∀ i, i ≠ o → sI T 53 i = sI S 53 i := fun i e => (tI 53 i (by decide) (fun z => e z.2)).trans (g4 53 i (by decide) (by decide) (by simp))
    have t41 : ∀ i, rT T i = rT U i := fun i => congrArg Int32.toInt (tI 41 i (by decide) (by simp))
    have t43 : ∀ i, dT T i = dT U i := fun i => congrArg Int32.toInt (tI 43 i (by decide) (by simp))
    have t42 : ∀ i, vT T i = vT S i := fun i => congrArg Int32.toInt (tK 42 (by decide) i)
    have t40 : ∀ i, qT T i = qT S i := fun i => congrArg Int32.toInt (tK 40 (by decide) i)
    have t3 : ∀ i, cT T i = cT U i := fun i => congrArg Int64.toInt (tJ 3 i (by decide) (by decide))
    have t4 : gD T o = gD U o := congrArg Int64.toInt (tJ 4 o (by decide) (by decide))
    have t4n : ∀ i, i ≠ o → sJ T 4 i = sJ S 4 i := fun i e => (tJ 4 i (by decide) (by decide)).trans (g5 4 i (by decide) (fun z => e z.2) (by simp))
    have tJk : ∀ k, k ≠ 20 ∧ k ≠ 21 ∧ k ≠ 3 ∧ k ≠ 4 ∧ k ≠ 26 ∧ k ≠ 27 → ∀ i, sJ T k i = sJ S k i := fun k h i => (tJ k i h.1 h.2.1).trans (g5 k i h.2.2.1 (fun z => h.2.2.2.1 z.1) (fun z => z.1.elim h.2.2.2.2.1 h.2.2.2.2.2))
    have t55 : (sI T 55 o).toInt = (sI S 50 o).toInt := by
      rw [tI 55 o (by decide) (by simp), g7.2.2]
      show _ - (0 : Int) = _
      omega
    have t55n : ∀ i, i ≠ o → sI T 55 i = sI S 55 i := fun i e => (tI 55 i (by decide) (by simp)).trans (g4 55 i (by decide) (by decide) (fun z => e z.2))
    have pp : ∀ k i, sP T k i = sP S k i := fun k i => by rw [tp]
    have rr : ∀ k i, sR T k i = sR S k i := fun k i => by rw [tr]
    have s112 : ¬ sI S 53 o = 112 := by rcases hst with ⟨z, -⟩ | ⟨z, -⟩ <;> (rw [z]; decide)
    have fc : ∀ c : Int32, c ≠ 100 → c ≠ 45 → c ≠ 102 → ∀ i, sI T 53 i = c ↔ sI S 53 i = c := fun c a b d i => by
      by_cases e : i = o
      · rw [e, t53]
        refine ⟨fun z => absurd z.symm a, fun z => ?_⟩
        rcases hst with ⟨y, -⟩ | ⟨y, -⟩
        · rw [y] at z; exact absurd z.symm b
        · rw [y] at z; exact absurd z.symm d
      · rw [t53n i e]
    have m8 : ∀ k, k = 8 ∨ k = 9 ∨ k = 14 → ∀ i j, nsM T k i j = nsM S k i j := fun k hk i j => nsM_fr (tJk (2 * k) (by omega)) (tJk (2 * k + 1) (by omega)) i j
    have m13 : ∀ i j, nsM T 13 i j = nsM U 13 i j := fun i j => nsM_fr (fun i => tJ (2 * 13) i (by decide) (by decide)) (fun i => tJ (2 * 13 + 1) i (by decide) (by decide)) i j
    have m13n : ∀ i, i ≠ o → ∀ j, nsM T 13 i j = nsM S 13 i j := fun i e j => by
      rw [m13]
      show nsb (sJ U 26 i) (sJ U 27 i) j = nsb (sJ S 26 i) (sJ S 27 i) j
      rw [g5 26 i (by decide) (by simp) (fun z => e z.2), g5 27 i (by decide) (by simp) (fun z => e z.2)]
    have m10 : ∀ i j, i < nLc S → j < 128 → (nsM T 10 i j = true ↔ nsM S 10 i j = true ∨ nsM U 13 o i = true ∧ j = o) := fun i j hi hj => by
      have hL9 : nLc S ≤ 90 := hW.nL
      rw [tM i j hj, hUL, decide_eq_true (show i < 90 ∧ i < nLc S from ⟨by omega, hi⟩), Bool.true_and, Bool.or_eq_true, Bool.and_eq_true, decide_eq_true_iff, show nsM U 10 i j = nsM S 10 i j from nsM_fr (fun i => g5 (2 * 10) i (by decide) (by simp) (by simp)) (fun i => g5 (2 * 10 + 1) i (by decide) (by simp) (by simp)) i j]
    have hDo := hD.1 o ho
    have hDo2 := hDo.2.1 hd
    have ex := g11 (by show (0 : Int) < _; omega)
    refine ⟨⟨⟨hW.fr tn tr, hP.fr tn (tK 30 (by decide)) (tK 20 (by decide)), ?_, ?_, hV.fr tn (tK 42 (by decide)) (fc 112 (by decide) (by decide) (by decide)) pp, ?_, ?_, ?_, hM.fr tn (rr 1) (tK 2 (by decide) 0) (tK 10 (by decide)) (tK 14 (by decide)) (tK 17 (by decide)) (tK 19 (by decide)) (fc 111 (by decide) (by decide) (by decide)), ?_, hHd.fr (by rw [tn]; exact Nat.le_refl _) (m8 14 (by decide) 0), ?_, hN.fr tn (rr 4) (tK 1 (by decide) 0) (tK 2 (by decide) 0)⟩, hH.fr tn (tK 42 (by decide)) (fun k hk i => ⟨tJk (2 * k) (by omega) i, tJk (2 * k + 1) (by omega) i⟩)⟩, ⟨eo, congrFun (congrFun tn 0) 0, tK 1 (by decide) 0, tK 2 (by decide) 0, tJk 1 (by decide) 0⟩, t53⟩
    · intro i hi
      rw [en] at hi
      obtain ⟨⟨b1, b2, b3, b4⟩, b5, b6⟩ := hB i hi
      obtain ⟨c1, c2, c3, c4, c5, c6⟩ := g6 i hi
      rw [t42, t41, t43, t40, t3]
      exact ⟨⟨b1, c2, by omega, b4⟩, c4, c6⟩
    · intro i hi
      rw [en] at hi
      obtain ⟨c1, -⟩ := g6 i hi
      rw [t40, t41, t43, eo, hQ i hi]
      have q : sm (fun o => pK T o i) (nOc S) = sm (fun o => pK S o i) (nOc S) := sm_congr (fun o' _ => by
        show pK T o' i = pK S o' i
        unfold pK pT
        rw [tp]
        simp only [fc 112 (by decide) (by decide) (by decide) o'])
      rw [q]; omega
    · intro o' ho'
      rw [eo] at ho'
      have k := hO o' ho'
      rw [en, tK 50 (by decide), tK 20 (by decide), tn, tp]
      by_cases e : o' = o
      · subst e
        rw [t53]
        refine ⟨Or.inr (Or.inr (Or.inr (Or.inr (Or.inr rfl)))), fun i => ?_, fun z => absurd z (by decide), k.2.2.2.1, fun _ => Or.inr rfl⟩
        show 0 ≤ (sP T o' i).toInt ∧ (0 < (sP T o' i).toInt → _)
        rw [tp]; exact k.2.1 i
      · rw [t53n o' e]
        refine ⟨k.1, fun i => ?_, k.2.2⟩
        show 0 ≤ (sP T o' i).toInt ∧ (0 < (sP T o' i).toInt → _)
        rw [tp]; exact k.2.1 i
    · intro o' ho'
      rw [eo] at ho'
      have k := hJ o' ho'
      unfold inWk isDn eT
      rw [en, tK 50 (by decide), tK 20 (by decide), tK 60 (by decide), tK 61 (by decide), tK 63 (by decide), tn, tJk 5 (by decide), tr]
      simp only [tK 40 (by decide)]
      by_cases e : o' = o
      · subst e
        have nw : ¬ inWk S o' := fun z => by
          rcases hst with ⟨y, -⟩ | ⟨y, -⟩ <;> (rcases z with z | z <;> (rw [y] at z; exact absurd z (by decide)))
        have n119 : ¬ sI S 53 o' = 119 := fun z => nw (Or.inl z)
        have hne : o' ≠ 1000 := by have := hW.nO; have ho : o' < sN S 3 0 := ho; omega
        have w3 := k.2.2.2.1 hne
        rw [t53]
        refine ⟨k.1, fun z => ?_, fun _ z => k.2.2.1 nw z, fun _ => ⟨fun z => absurd z (by decide), fun z => absurd (w3.mpr z) n119⟩, ⟨fun z => ?_, fun z => ?_⟩, k.2.2.2.2.2.1, k.2.2.2.2.2.2.1, k.2.2.2.2.2.2.2.1, k.2.2.2.2.2.2.2.2.1, fun _ => k.2.2.2.2.2.2.2.2.2 nw⟩
        · rcases z with z | z
          · rcases z with z | z <;> exact absurd z (by decide)
          · exact k.2.1 (Or.inr z)
        · rcases k.2.2.2.2.1.mp z with y | y
          · rcases hst with ⟨x, -⟩ | ⟨-, x⟩
            · rw [x] at y; exact absurd y (by decide)
            · exact Or.inr ⟨rfl, x⟩
          · exact absurd y.1 hd
        · rcases z with y | y
          · exact absurd y (by decide)
          · rcases hst with ⟨-, x⟩ | ⟨x, -⟩
            · exact absurd x y.2
            · exact k.2.2.2.2.1.mpr (Or.inl x)
      · rw [t53n o' e]; exact k
    · refine ⟨fun o' ho' => ?_, ?_⟩
      · rw [eo] at ho'
        have k := hD.1 o' ho'
        by_cases e : o' = o
        · subst e
          rw [t4, t53]
          refine ⟨g9', fun z => absurd rfl z, fun _ => ⟨i32_ext (by rw [t55, tK 50 (by decide)]), ?_⟩⟩
          obtain ⟨j, a, b⟩ := ex
          exact ⟨j, a, by rw [m13]; exact b⟩
        · unfold gD
          rw [t53n o' e, t4n o' e, t55n o' e, tK 50 (by decide)]
          simp only [m13n o' e]
          exact k
      · rw [eo, en]
        have q1 : sm (fun o => (sI T 55 o).toInt) (nOc S) = sm (fun o => (sI S 55 o).toInt) (nOc S) + ((sI T 55 o).toInt - (sI S 55 o).toInt) := sm_upd (f := fun o => (sI S 55 o).toInt) (g := fun o => (sI T 55 o).toInt) ho (fun o' _ e => by rw [t55n o' e])
        have q2 : sm (fun i => dT T i) (nLc S) = sm (fun i => dT U i) (nLc S) := sm_congr (fun i _ => t43 i)
        rw [hDo2.2.1, t55] at q1
        have q1 : sm (fun o => (sI T 55 o).toInt) (nOc S) = sm (fun o => (sI S 55 o).toInt) (nOc S) + ((sI S 50 o).toInt - 0) := q1
        have q3 := hD.2
        have g8 : sm (fun i => dT U i) (nLc S) = sm (fun i => dT S i) (nLc S) + ((sI S 50 o).toInt - 0) := g8
        omega
    · refine ⟨fun i hi => ?_, fun o' ho' j hj hm => ?_⟩
      · rw [en] at hi
        rw [en, eo, tn]
        obtain ⟨k1, k2, k3⟩ := hTr.1 i hi
        simp only [m8 8 (by decide), m8 9 (by decide)]
        refine ⟨k1, k2, fun o' ho' => ?_⟩
        rw [m10 i o' hi ho', k3 o' ho']
        by_cases e : o' = o
        · subst e
          have i128 : i < 128 := Nat.lt_of_lt_of_le hi (Nat.le_trans hW.nL (by decide))
          rw [hDo2.2.2 i i128, m13]
          exact ⟨fun z => z.elim (fun z => absurd z.2 (by decide)) (fun z => ⟨ho, z.1⟩), fun z => Or.inr ⟨z.2, rfl⟩⟩
        · rw [m13n o' e]
          exact ⟨fun z => z.elim id (fun z => absurd z.2 e), Or.inl⟩
      · rw [eo] at ho'
        rw [en]
        simp only [m8 8 (by decide)]
        by_cases e : o' = o
        · subst e
          rw [m13] at hm
          obtain ⟨a, b⟩ := g10 j hj hm
          exact ⟨a, fun k hk hkm => by rw [m13]; exact b k hk hkm⟩
        · rw [m13n o' e] at hm
          obtain ⟨a, b⟩ := hTr.2 o' ho' j hj hm
          exact ⟨a, fun k hk hkm => by rw [m13n o' e]; exact b k hk hkm⟩
    · obtain ⟨c1, c2, c3, c4⟩ := hC
      refine ⟨?_, by rw [tJk 2 (by decide)]; exact c2, by rw [tJk 1 (by decide), tK 1 (by decide)]; exact c3, fun z => ?_⟩
      · rw [en, eo, tJk 2 (by decide), tJk 1 (by decide)]
        have q1 : sm (fun i => cT T i) (nLc S) = sm (fun i => cT U i) (nLc S) := sm_congr (fun i _ => t3 i)
        have e5 : ∀ o', eT T o' = eT S o' := fun o' => congrArg Int64.toInt (tJk 5 (by decide) o')
        have q2 : sm (fun o => eT T o + gD T o) (nOc S) = sm (fun o => eT S o + gD S o) (nOc S) + (eT T o + gD T o - (eT S o + gD S o)) := sm_upd (f := fun o => eT S o + gD S o) (g := fun o => eT T o + gD T o) ho (fun o' _ e => by
          show eT T o' + gD T o' = eT S o' + gD S o'
          rw [e5, show gD T o' = gD S o' from congrArg Int64.toInt (t4n o' e)])
        rw [e5, t4, hDo2.1] at q2
        omega
      · rw [tJk 2 (by decide)] at z
        obtain ⟨o', a1, a2, a3⟩ := c4 z
        refine ⟨o', by rw [eo]; exact a1, ?_, by rw [tr]; exact a3⟩
        unfold isDn
        rw [tK 63 (by decide)]; exact a2
  · rw [if_neg hq, if_neg hq]; exact Or.inl ⟨rfl, rfl⟩
-- FILE 58.comes.lean.txt
/-! PURE: scrapping, a lot that comes in, a new order, the start keep Inv -/
theorem Inv.scrap {S : St} (hI : Inv S) {o : Nat} (ho : o < nOc S) (hw : inWk S o) {k : Int32} (h1 : 0 ≤ k.toInt) (h2 : k.toInt ≤ (sI S 60 o).toInt) : Inv (scS S o k) ∧ Keep S (scS S o k) ∧ (sI S 60 o - k).toInt = (sI S 60 o).toInt - k.toInt := by
  obtain ⟨⟨hW, hP, hB, hQ, hV, hO, hJ, hD, hM, hTr, hHd, hC, hN⟩, hH⟩ := hI
  have k0 := hJ o ho
  have h50 := (hO o ho).2.2.2.1
  have hs := k0.2.1 (Or.inl hw)
  have hnd : ¬ isDn S o := fun z => by
    rcases k0.2.2.2.2.1.mp z with e | ⟨e, -⟩ <;> (rcases hw with y | y <;> (rw [y] at e; exact absurd e (by decide)))
  have e60 : (sI S 60 o - k).toInt = (sI S 60 o).toInt - k.toInt := i32_sub (by omega) (by omega)
  have e61 : (sI S 61 o + k).toInt = (sI S 61 o).toInt + k.toInt := i32_add (by omega) (by omega)
  have tI : ∀ k' i, ¬ (k' = 60 ∧ i = o) → ¬ (k' = 61 ∧ i = o) → sI (scS S o k) k' i = sI S k' i := fun k' i a b => by
    show up2 (up2 (sI S) 60 o (sI S 60 o - k)) 61 o (up2 (sI S) 60 o (sI S 60 o - k) 61 o + k) k' i = _
    rw [up2_ne _ _ b, up2_ne _ _ a]
  have t60 : sI (scS S o k) 60 o = sI S 60 o - k := by
    show up2 (up2 (sI S) 60 o (sI S 60 o - k)) 61 o (up2 (sI S) 60 o (sI S 60 o - k) 61 o + k) 60 o = _
    rw [up2_nk _ _ (by decide), up2_self]
  have t61 : sI (scS S o k) 61 o = sI S 61 o + k := by
    show up2 (up2 (sI S) 60 o (sI S 60 o - k)) 61 o (up2 (sI S) 60 o (sI S 60 o - k) 61 o + k) 61 o = _
    rw [up2_self, up2_nk _ _ (by decide)]
  have tn : sN (scS S o k) = sN S := rfl
  have tr : sR (scS S o k) = sR S := rfl
  have tp : sP (scS S o k) = sP S := rfl
  have tj : sJ (scS S o k) = sJ S := rfl
  have tW : WT (scS S o k) := hW
  generalize scS S o k = T at tI t60 t61 tn tr tp tj tW ⊢
  have tk : ∀ k', k' ≠ 60 ∧ k' ≠ 61 → ∀ i, sI T k' i = sI S k' i := fun k' h i => tI k' i (fun z => h.1 z.1) (fun z => h.2 z.1)
  have pp : ∀ k i, sP T k i = sP S k i := fun k i => by rw [tp]
  have rr : ∀ k i, sR T k i = sR S k i := fun k i => by rw [tr]
  have jj : ∀ k i, sJ T k i = sJ S k i := fun k i => by rw [tj]
  have fc : ∀ c i, sI T 53 i = c ↔ sI S 53 i = c := fun c i => by rw [tk 53 (by decide)]
  refine ⟨⟨⟨tW, hP.fr tn (tk 30 (by decide)) (tk 20 (by decide)), hB.fr tn (tk 40 (by decide)) (tk 41 (by decide)) (tk 42 (by decide)) (tk 43 (by decide)) (jj 3), hQ.fr tn (tk 40 (by decide)) (tk 41 (by decide)) (tk 43 (by decide)) (fc 112) pp, hV.fr tn (tk 42 (by decide)) (fc 112) pp, hO.fr tn (tk 20 (by decide)) (tk 50 (by decide)) (tk 53 (by decide)) pp, ?_, hD.fr tn (tk 43 (by decide)) (tk 50 (by decide)) (tk 55 (by decide)) (fc 100) (jj 4) (jj 26) (jj 27), hM.fr tn (rr 1) (tk 2 (by decide) 0) (tk 10 (by decide)) (tk 14 (by decide)) (tk 17 (by decide)) (tk 19 (by decide)) (fc 111), hTr.fr tn (fun k _ i j => nsM_congr jj k i j), hHd.fr (by rw [tn]; exact Nat.le_refl _) (fun j => nsM_congr jj 14 0 j), hC.fr tn (jj 3) (jj 5) (jj 4) (jj 1 0) (jj 2 0) (tk 1 (by decide) 0) (tk 63 (by decide)) (rr 4), hN.fr tn (rr 4) (tk 1 (by decide) 0) (tk 2 (by decide) 0)⟩, hH.fr tn (tk 42 (by decide)) (fun k _ i => ⟨jj _ i, jj _ i⟩)⟩, ⟨congrFun (congrFun tn 3) 0, congrFun (congrFun tn 0) 0, tk 1 (by decide) 0, tk 2 (by decide) 0, jj 1 0⟩, e60⟩
  intro o' ho'
  rw [show nOc T = nOc S from congrFun (congrFun tn 3) 0] at ho'
  have k9 := hJ o' ho'
  unfold inWk isDn eT
  rw [show nLc T = nLc S from congrFun (congrFun tn 2) 0, tk 50 (by decide), tk 20 (by decide), tk 53 (by decide), tk 63 (by decide), tn, tj, tr]
  simp only [tk 40 (by decide)]
  by_cases e : o' = o
  · subst e
    rw [t60, t61, e60, e61]
    refine ⟨⟨by omega, by omega⟩, fun _ => by omega, fun z => absurd hw z, k9.2.2.2.1, k9.2.2.2.2.1, k9.2.2.2.2.2.1, fun i z => absurd (k9.2.2.2.2.2.2.1 i z).1 hnd, fun z => absurd z hnd, k9.2.2.2.2.2.2.2.2.1, fun z => absurd hw z⟩
  · rw [tI 60 o' (fun z => e z.2) (by simp), tI 61 o' (by simp) (fun z => e z.2)]
    exact k9
/-- q * c as whole numbers -/
theorem qc_int {qy co : Int32} (h1 : 0 ≤ qy.toInt) (h2 : qy.toInt ≤ 500) (h3 : 0 ≤ co.toInt) (h4 : co.toInt ≤ 999) : (qy.toInt64 * co.toInt64).toInt = qy.toInt * co.toInt ∧ 0 ≤ qy.toInt * co.toInt ∧ qy.toInt * co.toInt ≤ 499500 := by
  have m0 : 0 ≤ qy.toInt * co.toInt := Int.mul_nonneg h1 h3
  have m1 : qy.toInt * co.toInt ≤ 500 * 999 := Int.mul_le_mul h2 h4 h3 (by decide)
  refine ⟨?_, m0, by omega⟩
  rw [Int64.toInt_mul, Int32.toInt_toInt64, Int32.toInt_toInt64]
  exact Int.bmod_eq_of_le_mul_two (by omega) (by omega)
/-- what a new lot leaves -/
def RcK (S T : St) (qy co : Int32) : Prop := nLc T = nLc S + 1 ∧ nOc T = nOc S ∧ nMc T = nMc S ∧ (sI T 1 0).toInt = (sI S 1 0).toInt + 1 ∧ sI T 2 0 = sI S 2 0 ∧ (sJ T 1 0).toInt = (sJ S 1 0).toInt + qy.toInt * co.toInt ∧ sI T 41 (nLc S) = qy ∧ (sJ T 3 (nLc S)).toInt = qy.toInt * co.toInt
theorem Inv.rc {S : St} (hI : Inv S) {p : Nat} {qy co : Int32} (hp : p < nPc S) (h1 : 1 ≤ qy.toInt) (h2 : qy.toInt ≤ 500) (h3 : 0 ≤ co.toInt) (h4 : co.toInt ≤ 999) (hb : (sI S 1 0).toInt < 60) (hn : nLc S < 90) : Inv (rcT S p qy co) ∧ RcK S (rcT S p qy co) qy co := by
  obtain ⟨m1, m2, m3⟩ := qc_int (by omega) h2 h3 h4
  obtain ⟨-, -, k3, -, k5⟩ := hI.1.cost
  obtain ⟨⟨hW, hP, hB, hQ, hV, hO, hJ, hD, hM, hTr, hHd, hC, hN⟩, hH⟩ := hI
  unfold rcT
  generalize hc : qy.toInt64 * co.toInt64 = c at m1 ⊢
  have b1 : (sI S 1 0 + 1).toInt = (sI S 1 0).toInt + 1 := i32_addV rfl rfl (by have := hN.1; omega) (by omega)
  have b2 : (sJ S 1 0 + c).toInt = (sJ S 1 0).toInt + qy.toInt * co.toInt := i64_addV rfl m1 (by omega) (by omega)
  have tI : ∀ k, k ≠ 1 → ∀ i, sI (uJ (uI S 1 0 (sI S 1 0 + 1)) 1 0 (sJ S 1 0 + c)) k i = sI S k i := fun k a i => up2_nk (sI S) (sI S 1 0 + 1) a
  have tJ : ∀ k, k ≠ 1 → ∀ i, sJ (uJ (uI S 1 0 (sI S 1 0 + 1)) 1 0 (sJ S 1 0 + c)) k i = sJ S k i := fun k a i => up2_nk (sJ S) (sJ S 1 0 + c) a
  have tI1 : sI (uJ (uI S 1 0 (sI S 1 0 + 1)) 1 0 (sJ S 1 0 + c)) 1 0 = sI S 1 0 + 1 := up2_self (sI S) 1 0 (sI S 1 0 + 1)
  have tJ1 : sJ (uJ (uI S 1 0 (sI S 1 0 + 1)) 1 0 (sJ S 1 0 + c)) 1 0 = sJ S 1 0 + c := up2_self (sJ S) 1 0 (sJ S 1 0 + c)
  have tn : sN (uJ (uI S 1 0 (sI S 1 0 + 1)) 1 0 (sJ S 1 0 + c)) = sN S := rfl
  have tr : sR (uJ (uI S 1 0 (sI S 1 0 + 1)) 1 0 (sJ S 1 0 + c)) = sR S := rfl
  have tp : sP (uJ (uI S 1 0 (sI S 1 0 + 1)) 1 0 (sJ S 1 0 + c)) = sP S := rfl
  have tW : WT (uJ (uI S 1 0 (sI S 1 0 + 1)) 1 0 (sJ S 1 0 + c)) := hW
  generalize uJ (uI S 1 0 (sI S 1 0 + 1)) 1 0 (sJ S 1 0 + c) = B at tI tJ tI1 tJ1 tn tr tp tW ⊢
  have pp : ∀ k i, sP B k i = sP S k i := fun k i => by rw [tp]
  have rr : ∀ k i, sR B k i = sR S k i := fun k i => by rw [tr]
  have fc : ∀ c i, sI B 53 i = c ↔ sI S 53 i = c := fun c i => by rw [tI 53 (by decide)]
  have en : nLc B = nLc S := congrFun (congrFun tn 2) 0
  have eo : nOc B = nOc S := congrFun (congrFun tn 3) 0
  have hO' := hO.fr tn (tI 20 (by decide)) (tI 50 (by decide)) (tI 53 (by decide)) pp
  have nI1 : sI (nlS B p qy c) 1 0 = sI S 1 0 + 1 := (nl_Ik (by decide)).trans tI1
  have nJ1 : sJ (nlS B p qy c) 1 0 = sJ S 1 0 + c := (nl_Jk (by decide)).trans tJ1
  refine ⟨⟨⟨tW.nl (by rw [tn]; exact hp) (by rw [tn]; exact hn), (hP.fr tn (tI 30 (by decide)) (tI 20 (by decide))).nl, (hB.fr tn (tI 40 (by decide)) (tI 41 (by decide)) (tI 42 (by decide)) (tI 43 (by decide)) (tJ 3 (by decide))).nl (by omega) h2 (by omega) (fun z => by omega), (hQ.fr tn (tI 40 (by decide)) (tI 41 (by decide)) (tI 43 (by decide)) (fc 112) pp).nl hO', (hV.fr tn (tI 42 (by decide)) (fc 112) pp).nl hO', hO'.nl, (hJ.fr tn (tI 20 (by decide)) (tI 40 (by decide)) (tI 50 (by decide)) (fc 119) (fc 111) (fc 102) (fc 100) (tI 60 (by decide)) (tI 61 (by decide)) (tI 63 (by decide)) (rr 3) (rr 4) (tJ 5 (by decide))).nl, (hD.fr tn (tI 43 (by decide)) (tI 50 (by decide)) (tI 55 (by decide)) (fc 100) (tJ 4 (by decide)) (tJ 26 (by decide)) (tJ 27 (by decide))).nl, (hM.fr tn (rr 1) (tI 2 (by decide) 0) (tI 10 (by decide)) (tI 14 (by decide)) (tI 17 (by decide)) (tI 19 (by decide)) (fc 111)).nl, (hTr.fr tn (fun k hk i j => nsM_fr (tJ (2 * k) (by omega)) (tJ (2 * k + 1) (by omega)) i j)).nl (by rw [en]; exact hn), (hHd.fr (by rw [tn]; exact Nat.le_refl _) (fun j => nsM_fr (tJ (2 * 14) (by decide)) (tJ (2 * 14 + 1) (by decide)) 0 j)).nl, ?_, ?_⟩, (hH.fr tn (tI 42 (by decide)) (fun k hk i => ⟨tJ (2 * k) (by omega) i, tJ (2 * k + 1) (by omega) i⟩)).nl⟩, ?_⟩
  · obtain ⟨c1, c2, c3, c4⟩ := hC
    have q1 : sm (fun i => cT (nlS B p qy c) i) (nLc (nlS B p qy c)) = sm (fun i => cT B i) (nLc B) + c.toInt := sm_c_nl
    have q2 : sm (fun i => cT B i) (nLc B) = sm (fun i => cT S i) (nLc S) := by
      rw [en]; exact sm_congr (fun i _ => congrArg Int64.toInt (tJ 3 (by decide) i))
    have q3 : sm (fun o => eT (nlS B p qy c) o + gD (nlS B p qy c) o) (nOc S) = sm (fun o => eT S o + gD S o) (nOc S) := sm_congr (fun o _ => by
      unfold eT gD
      rw [nl_Jk (by decide), nl_Jk (by decide), tJ 5 (by decide), tJ 4 (by decide)])
    have l2 : sJ (nlS B p qy c) 2 0 = sJ S 2 0 := (nl_Jk (by decide)).trans (tJ 2 (by decide) 0)
    refine ⟨?_, by rw [l2]; exact c2, by rw [nJ1, nI1, b1, b2]; omega, fun z => ?_⟩
    · rw [q1, q2, nl_nO, eo, q3, l2, nJ1, b2]; omega
    · rw [l2] at z
      obtain ⟨o', a1, a2, a3⟩ := c4 z
      refine ⟨o', by rw [nl_nO, eo]; exact a1, ?_, by show sR B 4 o' = none; rw [tr]; exact a3⟩
      unfold isDn
      rw [nl_Ik (by decide), tI 63 (by decide)]; exact a2
  · obtain ⟨n1, n2, n3, n4, n5⟩ := hN
    have e2 : sI (nlS B p qy c) 2 0 = sI S 2 0 := (nl_Ik (by decide)).trans (tI 2 (by decide) 0)
    refine ⟨by rw [nI1, b1]; omega, by rw [nI1, b1]; omega, ?_, by rw [e2]; exact n4, by rw [e2]; exact n5⟩
    rw [nI1, b1, nl_nL, nl_nO, eo, en]
    have : sm (fun o => bZ (sR (nlS B p qy c) 4 o).isSome) (nOc S) = sm (fun o => bZ (sR S 4 o).isSome) (nOc S) := sm_congr (fun o _ => by
      show bZ (sR B 4 o).isSome = _
      rw [tr])
    rw [this]; omega
  · have e41 : sI (nlS B p qy c) 41 (nLc S) = qy := by rw [← en]; exact nl_41
    have e3 : sJ (nlS B p qy c) 3 (nLc S) = c := by rw [← en]; exact nl_3
    exact ⟨by rw [nl_nL, en], by rw [nl_nO, eo], (nlS_n (by decide) (by decide)).trans (congrFun (congrFun tn 0) 0), by rw [nI1, b1], (nl_Ik (by decide)).trans (tI 2 (by decide) 0), by rw [nJ1, b2], e41, by rw [e3, m1]⟩
theorem Inv.sup {S T : St} (hI : Inv S) (h : SupEq S T) : Inv T := by
  obtain ⟨⟨hW, hP, hB, hQ, hV, hO, hJ, hD, hM, hTr, hHd, hC, hN⟩, hH⟩ := hI
  have tn : sN T = sN S := h.1
  have tj : sJ T = sJ S := congrArg Prod.fst h.2.1
  have tr : sR T = sR S := congrArg (fun z => z.2.1) h.2.1
  have tp : sP T = sP S := congrArg (fun z => z.2.2) h.2.1
  have tI : ∀ k, k ≠ 33 ∧ k ≠ 34 ∧ k ≠ 35 → ∀ i, sI T k i = sI S k i := fun k a i => h.2.2 k i a.1 a.2.1 a.2.2
  have pp : ∀ k i, sP T k i = sP S k i := fun k i => by rw [tp]
  have rr : ∀ k i, sR T k i = sR S k i := fun k i => by rw [tr]
  have jj : ∀ k i, sJ T k i = sJ S k i := fun k i => by rw [tj]
  have fc : ∀ c i, sI T 53 i = c ↔ sI S 53 i = c := fun c i => by rw [tI 53 (by decide)]
  exact ⟨⟨hW.fr tn tr, hP.fr tn (tI 30 (by decide)) (tI 20 (by decide)), hB.fr tn (tI 40 (by decide)) (tI 41 (by decide)) (tI 42 (by decide)) (tI 43 (by decide)) (jj 3), hQ.fr tn (tI 40 (by decide)) (tI 41 (by decide)) (tI 43 (by decide)) (fc 112) pp, hV.fr tn (tI 42 (by decide)) (fc 112) pp, hO.fr tn (tI 20 (by decide)) (tI 50 (by decide)) (tI 53 (by decide)) pp, hJ.fr tn (tI 20 (by decide)) (tI 40 (by decide)) (tI 50 (by decide)) (fc 119) (fc 111) (fc 102) (fc 100) (tI 60 (by decide)) (tI 61 (by decide)) (tI 63 (by decide)) (rr 3) (rr 4) (jj 5), hD.fr tn (tI 43 (by decide)) (tI 50 (by decide)) (tI 55 (by decide)) (fc 100) (jj 4) (jj 26) (jj 27), hM.fr tn (rr 1) (tI 2 (by decide) 0) (tI 10 (by decide)) (tI 14 (by decide)) (tI 17 (by decide)) (tI 19 (by decide)) (fc 111), hTr.fr tn (fun k _ i j => nsM_congr jj k i j), hHd.fr (by rw [tn]; exact Nat.le_refl _) (fun j => nsM_congr jj 14 0 j), hC.fr tn (jj 3) (jj 5) (jj 4) (jj 1 0) (jj 2 0) (tI 1 (by decide) 0) (tI 63 (by decide)) (rr 4), hN.fr tn (rr 4) (tI 1 (by decide) 0) (tI 2 (by decide) 0)⟩, hH.fr tn (tI 42 (by decide)) (fun k _ i => ⟨jj _ i, jj _ i⟩)⟩
/-- the newest lot, of which nothing is made, is put on hold -/
theorem Inv.addHold {S : St} (hI : Inv S) {n : Nat} (hn : nLc S = n + 1) (hv : sI S 42 n = 0) : Inv (sAdd S 14 0 n) := by
  have hL : nLc S ≤ 90 := hI.1.1.nL
  have n128 : n < 128 := by omega
  refine ⟨hI.1.held rfl (sAdd_I S 14 0 n) rfl (sAdd_P S 14 0 n) (fun k z a b => sAdd_J S 14 0 n k z (fun q => a (by omega)) (fun q => b (by omega))) ?_, ?_⟩
  · intro j hj hm
    rw [sAdd_M n128 hj] at hm
    show j < nLc S
    rcases (Bool.or_eq_true _ _).mp hm with z | z
    · exact hI.1.2.2.2.2.2.2.2.2.2.2.1 j hj z
    · rw [Bool.and_eq_true] at z
      have := of_decide_eq_true z.2
      omega
  · intro i hi hvi
    have hi : i < nLc S := hi
    have hvi : 0 < vT S i := by
      have : vT (sAdd S 14 0 n) i = vT S i := by show (sI (sAdd S 14 0 n) 42 i).toInt = _; rw [sAdd_I]
      omega
    have ne : i ≠ n := fun z => by
      have : vT S i = 0 := by show (sI S 42 i).toInt = 0; rw [z, hv]; rfl
      omega
    have h0 := hI.2 i hi hvi
    rcases hb : barred (sAdd S 14 0 n) i with _ | _
    · rfl
    · exfalso
      have i128 : i < 128 := by omega
      have : barred S i = true := (barred_iff S i).mpr (((barred_iff _ i).mp hb).imp (fun z => by
        rw [sAdd_M n128 i128, Bool.or_eq_true, Bool.and_eq_true] at z
        rcases z with z | z
        · exact z
        · exact absurd (of_decide_eq_true z.2) ne) (fun ⟨j, a, b, c⟩ => by
        have b8 : nsM S 8 i j = true := by
          have e : nsM (sAdd S 14 0 n) 8 i j = nsM S 8 i j := by rw [sAdd_M n128 a]; simp
          rw [← e]; exact b
        have jl := ((hI.1.2.2.2.2.2.2.2.2.2.1.1 i hi).1 j a b8).1
        refine ⟨j, a, b8, ?_⟩
        rw [sAdd_M n128 a, Bool.or_eq_true, Bool.and_eq_true] at c
        rcases c with c | c
        · exact c
        · exact absurd (of_decide_eq_true c.2) (by omega)))
      rw [this] at h0; exact absurd h0 (by decide)
theorem Inv.receive {S U T : St} (hI : Inv S) {p : Nat} {qy co : Int32} (hp : p < nPc S) (h1 : 1 ≤ qy.toInt) (h2 : qy.toInt ≤ 500) (h3 : 0 ≤ co.toInt) (h4 : co.toInt ≤ 999) (hb : (sI S 1 0).toInt < 60) (hn : nLc S < 90) (hT : SupEq (rcT S p qy co) T) (hU : U = T ∨ U = sAdd T 14 0 (sN S 2 0)) : Inv U ∧ RcK S U qy co := by
  obtain ⟨a, b⟩ := hI.rc hp h1 h2 h3 h4 hb hn
  have c := a.sup hT
  have e42 : sI (rcT S p qy co) 42 (nLc S) = 0 := nl_42 (S := uJ (uI S 1 0 (sI S 1 0 + 1)) 1 0 (sJ S 1 0 + qy.toInt64 * co.toInt64))
  generalize rcT S p qy co = R at a b hT e42
  have tn : sN T = sN R := hT.1
  have tj : sJ T = sJ R := congrArg Prod.fst hT.2.1
  have tI : ∀ k, k ≠ 33 ∧ k ≠ 34 ∧ k ≠ 35 → ∀ i, sI T k i = sI R k i := fun k a i => hT.2.2 k i a.1 a.2.1 a.2.2
  have bT : RcK S T qy co := by
    unfold RcK nLc nOc nMc
    rw [tn, tj, tI 1 (by decide), tI 2 (by decide), tI 41 (by decide)]
    exact b
  rcases hU with rfl | rfl
  · exact ⟨c, bT⟩
  · refine ⟨c.addHold (n := sN S 2 0) bT.1 ((tI 42 (by decide) _).trans e42), ?_⟩
    unfold RcK
    rw [sAdd_I, sAdd_J _ _ _ _ _ _ (by omega) (by omega), sAdd_J _ _ _ _ _ _ (by omega) (by omega)]
    exact bT
-- FILE 59.neworder.lean.txt
/-! PURE: a new order keeps Inv -/
section NO
variable {S : St} {p : Nat} {qy op du : Int32}
theorem no_I {k i : Nat} (h : i ≠ sN S 3 0) : sI (nwOS S p qy op du) k i = sI S k i := by simp [nwOS, sI, up2, show ¬ i = S.1 3 0 from h]
theorem no_Ik {k i : Nat} (h : k ≠ 50 ∧ k ≠ 51 ∧ k ≠ 52 ∧ k ≠ 53 ∧ k ≠ 54 ∧ k ≠ 55 ∧ k ≠ 60 ∧ k ≠ 61 ∧ k ≠ 62 ∧ k ≠ 63) : sI (nwOS S p qy op du) k i = sI S k i := by
  obtain ⟨a, b, c, d, e, f, g, h1, h2, h3⟩ := h
  simp [nwOS, sI, up2, a, b, c, d, e, f, g, h1, h2, h3]
theorem no_J {k i : Nat} (h : i ≠ sN S 3 0) : sJ (nwOS S p qy op du) k i = sJ S k i := by simp [nwOS, sJ, up2, show ¬ i = S.1 3 0 from h]
theorem no_Jk {k i : Nat} (h : k ≠ 4 ∧ k ≠ 5 ∧ k ≠ 26 ∧ k ≠ 27) : sJ (nwOS S p qy op du) k i = sJ S k i := by
  obtain ⟨a, b, c, d⟩ := h
  simp [nwOS, sJ, up2, a, b, c, d]
theorem no_R {k i : Nat} (h : i ≠ sN S 3 0) : sR (nwOS S p qy op du) k i = sR S k i := by simp [nwOS, sR, up2, show ¬ i = S.1 3 0 from h]
theorem no_Rk {k i : Nat} (h : k ≠ 3 ∧ k ≠ 4) : sR (nwOS S p qy op du) k i = sR S k i := by simp [nwOS, sR, up2, h.1, h.2]
theorem no_P {o i : Nat} (h : o ≠ sN S 3 0) : sP (nwOS S p qy op du) o i = sP S o i := by simp [nwOS, sP, show ¬ o = S.1 3 0 from h]
theorem no_Pn {i : Nat} : sP (nwOS S p qy op du) (sN S 3 0) i = 0 := by simp [nwOS, sP]
theorem no_N {k i : Nat} (h : k ≠ 3 ∧ k ≠ 7) : sN (nwOS S p qy op du) k i = sN S k i := by simp [nwOS, sN, up2, h.1, h.2]
theorem no_N7 {i : Nat} (h : i ≠ sN S 3 0) : sN (nwOS S p qy op du) 7 i = sN S 7 i := by simp [nwOS, sN, up2, show ¬ i = S.1 3 0 from h]
theorem no_nO : nOc (nwOS S p qy op du) = nOc S + 1 := by simp [nwOS, sN, nOc, up2]
theorem no_nL : nLc (nwOS S p qy op du) = nLc S := no_N (by decide)
theorem no_new : sI (nwOS S p qy op du) 50 (sN S 3 0) = qy ∧ sI (nwOS S p qy op du) 53 (sN S 3 0) = 45 ∧ sI (nwOS S p qy op du) 55 (sN S 3 0) = 0 ∧ sI (nwOS S p qy op du) 60 (sN S 3 0) = 0 ∧ sI (nwOS S p qy op du) 61 (sN S 3 0) = 0 ∧ sI (nwOS S p qy op du) 63 (sN S 3 0) = -1 ∧ sJ (nwOS S p qy op du) 4 (sN S 3 0) = 0 ∧ sJ (nwOS S p qy op du) 5 (sN S 3 0) = 0 ∧ sJ (nwOS S p qy op du) 26 (sN S 3 0) = 0 ∧ sJ (nwOS S p qy op du) 27 (sN S 3 0) = 0 ∧ sR (nwOS S p qy op du) 3 (sN S 3 0) = none ∧ sR (nwOS S p qy op du) 4 (sN S 3 0) = none ∧ sN (nwOS S p qy op du) 7 (sN S 3 0) = p := by
  simp [nwOS, sI, sJ, sR, sN, up2]
theorem no_M {k i : Nat} (h : k ≠ 2 ∧ k ≠ 13) (j : Nat) : nsM (nwOS S p qy op du) k i j = nsM S k i j := by
  show nsb (sJ (nwOS S p qy op du) (2 * k) i) (sJ (nwOS S p qy op du) (2 * k + 1) i) j = _
  rw [no_Jk (by omega), no_Jk (by omega)]
theorem no_M13 {i : Nat} (h : i ≠ sN S 3 0) (j : Nat) : nsM (nwOS S p qy op du) 13 i j = nsM S 13 i j := by
  show nsb (sJ (nwOS S p qy op du) (2 * 13) i) (sJ (nwOS S p qy op du) (2 * 13 + 1) i) j = _
  rw [no_J h, no_J h]
theorem no_M13n (j : Nat) : nsM (nwOS S p qy op du) 13 (sN S 3 0) j = false := by
  show nsb (sJ (nwOS S p qy op du) 26 (sN S 3 0)) (sJ (nwOS S p qy op du) 27 (sN S 3 0)) j = false
  obtain ⟨-, -, -, -, -, -, -, -, a, b, -⟩ := no_new (S := S) (p := p) (qy := qy) (op := op) (du := du)
  rw [a, b]
  unfold nsb
  split <;> exact lb_0 _
theorem WT.no (h : WT S) (hp : p < sN S 1 0) (hn : sN S 3 0 < 30) : WT (nwOS S p qy op du) := by
  have iN : ∀ k, k ≠ 3 ∧ k ≠ 7 → ∀ i, sN (nwOS S p qy op du) k i = sN S k i := fun k h i => no_N h
  have iN7 : ∀ i, i ≠ sN S 3 0 → sN (nwOS S p qy op du) 7 i = sN S 7 i := fun i h => no_N7 h
  have iR : ∀ k i, i ≠ sN S 3 0 → sR (nwOS S p qy op du) k i = sR S k i := fun k i h => no_R h
  have iRk : ∀ k, k ≠ 3 ∧ k ≠ 4 → ∀ i, sR (nwOS S p qy op du) k i = sR S k i := fun k h i => no_Rk h
  have eo : sN (nwOS S p qy op du) 3 0 = sN S 3 0 + 1 := no_nO
  obtain ⟨-, -, -, -, -, -, -, -, -, -, w3, w4, v7⟩ := no_new (S := S) (p := p) (qy := qy) (op := op) (du := du)
  have hV : ∀ q, (V (nwOS S p qy op du) 4 q → V S 4 q) ∧ (V (nwOS S p qy op du) 5 q → V S 5 q) := fun q => by
    unfold V
    rw [iN 1 (by decide), iN 4 (by decide), iN 5 (by decide)]
    exact ⟨id, id⟩
  generalize nwOS S p qy op du = T at *
  refine ⟨fun i hi => ?_, fun o ho => ?_, fun q hq => ?_, fun q hq => ?_, fun q a hq ha => ?_, fun i o hi ha => ?_, fun o i ho ha => ?_, fun o i ho ha => ?_, ?_, ?_, ?_, ?_, fun z hz => ?_, fun z hz => ?_⟩
  · rw [iN 2 (by decide)] at hi
    rw [iN 6 (by decide), iN 1 (by decide)]; exact h.lotPart hi
  · rw [eo] at ho
    rw [iN 1 (by decide)]
    by_cases e : o = sN S 3 0
    · rw [e, v7]; exact hp
    · rw [iN7 o e]; exact h.ordPart (by omega)
  · rw [iN 8 (by decide), iN 1 (by decide)]; exact h.compPart ((hV q).1 hq)
  · rw [iN 9 (by decide), iN 0 (by decide)]; exact h.opMach ((hV q).2 hq)
  · rw [iRk 2 (by decide)] at ha
    rw [iN 0 (by decide)]; exact h.alt ((hV q).2 hq) ha
  · rw [iN 0 (by decide)] at hi
    rw [iRk 1 (by decide)] at ha
    have := h.doing hi ha
    omega
  · rw [eo] at ho
    rw [iN 0 (by decide)]
    by_cases e : o = sN S 3 0
    · rw [e, w3] at ha; exact absurd ha (by simp)
    · rw [iR 3 o e] at ha; exact h.waits (by omega) ha
  · rw [eo] at ho
    rw [iN 2 (by decide)]
    by_cases e : o = sN S 3 0
    · rw [e, w4] at ha; exact absurd ha (by simp)
    · rw [iR 4 o e] at ha; exact h.jlot (by omega) ha
  · rw [iN 0 (by decide)]; exact h.nM
  · rw [iN 1 (by decide)]; exact h.nP
  · rw [iN 2 (by decide)]; exact h.nL
  · omega
  · rw [iN 1 (by decide)] at hz
    rw [iN 4 (by decide)]; exact h.nC hz
  · rw [iN 1 (by decide)] at hz
    rw [iN 5 (by decide)]; exact h.nOp hz
theorem Inv.neworder (hI : Inv S) (hp : p < nPc S) (h1 : 1 ≤ qy.toInt) (h2 : qy.toInt ≤ 100) (hn : nOc S < 30) : Inv (nwOS S p qy op du) ∧ nOc (nwOS S p qy op du) = nOc S + 1 ∧ nMc (nwOS S p qy op du) = nMc S ∧ sI (nwOS S p qy op du) 1 0 = sI S 1 0 ∧ sI (nwOS S p qy op du) 2 0 = sI S 2 0 ∧ sJ (nwOS S p qy op du) 1 0 = sJ S 1 0 := by
  obtain ⟨⟨hW, hP, hB, hQ, hV, hO, hJ, hD, hM, hTr, hHd, hC, hN⟩, hH⟩ := hI
  have iI : ∀ k, k ≠ 50 ∧ k ≠ 51 ∧ k ≠ 52 ∧ k ≠ 53 ∧ k ≠ 54 ∧ k ≠ 55 ∧ k ≠ 60 ∧ k ≠ 61 ∧ k ≠ 62 ∧ k ≠ 63 → ∀ i, sI (nwOS S p qy op du) k i = sI S k i := fun k h i => no_Ik h
  have iIn : ∀ k i, i ≠ sN S 3 0 → sI (nwOS S p qy op du) k i = sI S k i := fun k i h => no_I h
  have iJ : ∀ k, k ≠ 4 ∧ k ≠ 5 ∧ k ≠ 26 ∧ k ≠ 27 → ∀ i, sJ (nwOS S p qy op du) k i = sJ S k i := fun k h i => no_Jk h
  have iJn : ∀ k i, i ≠ sN S 3 0 → sJ (nwOS S p qy op du) k i = sJ S k i := fun k i h => no_J h
  have iR : ∀ k i, i ≠ sN S 3 0 → sR (nwOS S p qy op du) k i = sR S k i := fun k i h => no_R h
  have iRk : ∀ k, k ≠ 3 ∧ k ≠ 4 → ∀ i, sR (nwOS S p qy op du) k i = sR S k i := fun k h i => no_Rk h
  have iP : ∀ o i, o ≠ sN S 3 0 → sP (nwOS S p qy op du) o i = sP S o i := fun o i h => no_P h
  have iPn : ∀ i, sP (nwOS S p qy op du) (sN S 3 0) i = 0 := fun i => no_Pn
  have iN : ∀ k, k ≠ 3 ∧ k ≠ 7 → ∀ i, sN (nwOS S p qy op du) k i = sN S k i := fun k h i => no_N h
  have iN7 : ∀ i, i ≠ sN S 3 0 → sN (nwOS S p qy op du) 7 i = sN S 7 i := fun i h => no_N7 h
  have eo : nOc (nwOS S p qy op du) = nOc S + 1 := no_nO
  have en : nLc (nwOS S p qy op du) = nLc S := no_nL
  have em : nMc (nwOS S p qy op du) = nMc S := no_N (by decide)
  have iM : ∀ k, k ≠ 2 ∧ k ≠ 13 → ∀ i j, nsM (nwOS S p qy op du) k i j = nsM S k i j := fun k h i j => no_M h j
  have iM13 : ∀ i, i ≠ sN S 3 0 → ∀ j, nsM (nwOS S p qy op du) 13 i j = nsM S 13 i j := fun i h j => no_M13 h j
  have iM13n : ∀ j, nsM (nwOS S p qy op du) 13 (sN S 3 0) j = false := fun j => no_M13n j
  obtain ⟨v50, v53, v55, v60, v61, v63, v4, v5, -, -, w3, w4, v7⟩ := no_new (S := S) (p := p) (qy := qy) (op := op) (du := du)
  have tW : WT (nwOS S p qy op du) := WT.no hW hp hn
  generalize nwOS S p qy op du = T at *
  have e3 : nOc S = sN S 3 0 := rfl
  have n0 : ∀ o, o < nOc S → o ≠ sN S 3 0 := fun o h => by omega
  have hT : ∀ o i, o < nOc S → pT T o i = pT S o i := fun o i h => by show (sP T o i).toInt = _; rw [iP o i (n0 o h)]
  have hTn : ∀ i, pT T (sN S 3 0) i = 0 := fun i => by show (sP T (sN S 3 0) i).toInt = 0; rw [iPn]; rfl
  have q41 : ∀ i, rT T i = rT S i := fun i => congrArg Int32.toInt (iI 41 (by decide) i)
  have q42 : ∀ i, vT T i = vT S i := fun i => congrArg Int32.toInt (iI 42 (by decide) i)
  have q43 : ∀ i, dT T i = dT S i := fun i => congrArg Int32.toInt (iI 43 (by decide) i)
  have q40 : ∀ i, qT T i = qT S i := fun i => congrArg Int32.toInt (iI 40 (by decide) i)
  have q3 : ∀ i, cT T i = cT S i := fun i => congrArg Int64.toInt (iJ 3 (by decide) i)
  refine ⟨⟨⟨tW, ⟨?_, (iN 1 (by decide) 0).trans hP.2.1, (iI 20 (by decide) 0).trans hP.2.2.1, (iI 20 (by decide) 1).trans hP.2.2.2⟩, ?_, ?_, ?_, ?_, ?_, ?_, ?_, ?_, ?_, ?_, ?_⟩, ?_⟩, eo, em, iI 1 (by decide) 0, iI 2 (by decide) 0, iJ 1 (by decide) 0⟩
  · intro q j hq hj
    have hq : q < nPc S := by have : nPc T = nPc S := iN 1 (by decide) 0; omega
    rw [iN 4 (by decide)] at hj
    rw [iN 8 (by decide), iI 30 (by decide)]
    exact hP.1 q j hq hj
  · intro i hi
    rw [en] at hi
    rw [q41, q42, q43, q40, q3]; exact hB i hi
  · intro i hi
    rw [en] at hi
    have z : pK T (nOc S) i = 0 := by unfold pK; rw [e3, v53, hTn]; rfl
    rw [q40, q41, q43, eo, sm_s, z, hQ i hi, sm_congr (f := fun o => pK T o i) (g := fun o => pK S o i) (fun o ho => by
      show pK T o i = pK S o i
      unfold pK
      rw [iIn 53 o (n0 o ho), hT o i ho])]
    omega
  · intro i hi
    rw [en] at hi
    have z : pR T (nOc S) i = 0 := by unfold pR; rw [e3, v53]; rfl
    rw [q42, eo, sm_s, z, hV i hi, sm_congr (f := fun o => pR T o i) (g := fun o => pR S o i) (fun o ho => by
      show pR T o i = pR S o i
      unfold pR
      rw [iIn 53 o (n0 o ho), hT o i ho])]
    omega
  · intro o ho
    rw [eo] at ho
    rw [en]
    by_cases e : o = sN S 3 0
    · subst e
      rw [v53, v50]
      refine ⟨Or.inl rfl, fun i => ?_, fun _ i => iPn i, ⟨h1, h2⟩, fun _ => Or.inl rfl⟩
      rw [hTn]; exact ⟨Int.le_refl _, fun z => absurd z (Int.lt_irrefl _)⟩
    · have ho' : o < nOc S := by omega
      have k := hO o ho'
      rw [iIn 53 o e, iIn 50 o e, iI 20 (by decide), iN7 o e]
      refine ⟨k.1, fun i => ?_, fun z i => (iP o i e).trans (k.2.2.1 z i), k.2.2.2⟩
      rw [hT o i ho', iN 6 (by decide)]; exact k.2.1 i
  · intro o ho
    rw [eo] at ho
    unfold inWk isDn eT
    rw [en]
    by_cases e : o = sN S 3 0
    · subst e
      rw [v53, v60, v61, v63, w3, w4, v5]
      refine ⟨⟨by decide, by decide⟩, fun z => ?_, fun _ _ => ⟨rfl, rfl⟩, fun _ => ⟨fun z => absurd z (by decide), fun z => absurd rfl z⟩, ⟨fun z => absurd rfl z, fun z => ?_⟩, fun z => absurd rfl z, fun i z => absurd z (by simp), fun z => absurd rfl z, by decide, fun _ => rfl⟩
      · rcases z with z | z
        · rcases z with z | z <;> exact absurd z (by decide)
        · exact absurd rfl z
      · rcases z with z | z
        · exact absurd z (by decide)
        · exact absurd z.1 (by decide)
    · have k := hJ o (by omega)
      rw [iIn 53 o e, iIn 50 o e, iIn 60 o e, iIn 61 o e, iIn 63 o e, iI 20 (by decide), iN7 o e, iR 3 o e, iR 4 o e, iJn 5 o e]
      simp only [iI 40 (by decide)]
      exact k
  · refine ⟨fun o ho => ?_, ?_⟩
    · rw [eo] at ho
      unfold gD
      by_cases e : o = sN S 3 0
      · subst e
        rw [v53, v55, v4]
        exact ⟨by decide, fun _ => ⟨rfl, rfl, fun j _ => iM13n j⟩, fun z => absurd z (by decide)⟩
      · have k := hD.1 o (by omega)
        rw [iIn 53 o e, iIn 55 o e, iIn 50 o e, iJn 4 o e]
        simp only [iM13 o e]
        exact k
    · rw [eo, en, sm_s, e3, v55]
      have a : sm (fun o => (sI T 55 o).toInt) (sN S 3 0) = sm (fun o => (sI S 55 o).toInt) (nOc S) := sm_congr (fun o ho => by rw [iIn 55 o (n0 o ho)])
      have b : sm (fun i => dT T i) (nLc S) = sm (fun i => dT S i) (nLc S) := sm_congr (fun i _ => q43 i)
      rw [a, b, hD.2]
      show _ + (0 : Int) = _
      omega
  · refine ⟨fun m hm => ?_, ?_⟩
    · rw [em] at hm ⊢
      have k := hM.1 m hm
      rw [iI 10 (by decide), iI 14 (by decide), iI 17 (by decide), iI 19 (by decide), iI 2 (by decide)]
      simp only [iRk 1 (by decide)]
      refine ⟨k.1, k.2.1, k.2.2.1, fun o z => ?_, k.2.2.2.2⟩
      have ho := hW.doing hm z
      rw [iIn 53 o (n0 o ho)]
      exact k.2.2.2.1 o z
    · rw [em, eo, sm_s, e3, v53]
      have a : sm (fun m => bZ (sI T 14 m == 111)) (nMc S) = sm (fun m => bZ (sI S 14 m == 111)) (nMc S) := sm_congr (fun m _ => by rw [iI 14 (by decide)])
      have b : sm (fun o => bZ (sI T 53 o == 111)) (sN S 3 0) = sm (fun o => bZ (sI S 53 o == 111)) (nOc S) := sm_congr (fun o ho => by rw [iIn 53 o (n0 o ho)])
      rw [a, b, hM.2]
      show _ = _ + (0 : Int)
      omega
  · refine ⟨fun i hi => ?_, fun o ho j hj hm => ?_⟩
    · rw [en] at hi
      rw [en, eo]
      simp only [iM 8 (by decide), iM 9 (by decide), iM 10 (by decide), iN 6 (by decide)]
      obtain ⟨k1, k2, k3⟩ := hTr.1 i hi
      refine ⟨k1, k2, fun o ho => ?_⟩
      rw [k3 o ho]
      by_cases e : o = sN S 3 0
      · subst e
        rw [iM13n]
        exact ⟨fun z => absurd z.1 (Nat.lt_irrefl _), fun z => absurd z.2 (by decide)⟩
      · rw [iM13 o e]
        exact ⟨fun z => ⟨by omega, z.2⟩, fun z => ⟨by omega, z.2⟩⟩
    · rw [eo] at ho
      rw [en]
      simp only [iM 8 (by decide)]
      by_cases e : o = sN S 3 0
      · subst e; rw [iM13n] at hm; exact absurd hm (by decide)
      · rw [iM13 o e] at hm
        simp only [iM13 o e]
        exact hTr.2 o (by omega) j hj hm
  · intro j hj hm
    rw [iM 14 (by decide)] at hm
    rw [en]; exact hHd j hj hm
  · obtain ⟨c1, c2, c3, c4⟩ := hC
    have a : sm (fun i => cT T i) (nLc S) = sm (fun i => cT S i) (nLc S) := sm_congr (fun i _ => q3 i)
    have b : sm (fun o => eT T o + gD T o) (nOc S) = sm (fun o => eT S o + gD S o) (nOc S) := sm_congr (fun o ho => by
      unfold eT gD
      rw [iJn 5 o (n0 o ho), iJn 4 o (n0 o ho)])
    have z : eT T (nOc S) + gD T (nOc S) = 0 := by
      unfold eT gD
      rw [e3, v5, v4]; rfl
    refine ⟨?_, by rw [iJ 2 (by decide)]; exact c2, by rw [iJ 1 (by decide), iI 1 (by decide)]; exact c3, fun y => ?_⟩
    · rw [en, eo, sm_s, a, b, z, iJ 2 (by decide), iJ 1 (by decide)]; omega
    · rw [iJ 2 (by decide)] at y
      obtain ⟨o', a1, a2, a3⟩ := c4 y
      refine ⟨o', by omega, ?_, (iR 4 o' (n0 o' a1)).trans a3⟩
      unfold isDn
      rw [iIn 63 o' (n0 o' a1)]; exact a2
  · obtain ⟨n1, n2, n3, n4, n5⟩ := hN
    refine ⟨by rw [iI 1 (by decide)]; exact n1, by rw [iI 1 (by decide)]; exact n2, ?_, by rw [iI 2 (by decide)]; exact n4, by rw [iI 2 (by decide)]; exact n5⟩
    have a : sm (fun o => bZ (sR T 4 o).isSome) (nOc S) = sm (fun o => bZ (sR S 4 o).isSome) (nOc S) := sm_congr (fun o ho => by rw [iR 4 o (n0 o ho)])
    have z : bZ (sR T 4 (nOc S)).isSome = 0 := by rw [e3, w4]; rfl
    rw [iI 1 (by decide), en, eo, sm_s, a, z, n3]
    omega
  · intro i hi hv
    rw [en] at hi
    rw [q42] at hv
    have eb : barred T i = barred S i := by
      unfold barred
      rw [iM 14 (by decide), show nsLo T 8 i = nsLo S 8 i from iJ (2 * 8) (by decide) i, show nsHi T 8 i = nsHi S 8 i from iJ (2 * 8 + 1) (by decide) i, show nsLo T 14 0 = nsLo S 14 0 from iJ (2 * 14) (by decide) 0, show nsHi T 14 0 = nsHi S 14 0 from iJ (2 * 14 + 1) (by decide) 0]
    rw [eb]; exact hH i hi hv
end NO
