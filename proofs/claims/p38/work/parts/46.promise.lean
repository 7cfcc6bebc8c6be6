/-! PURE: promises keep Inv -/
theorem bZ_t {b : Bool} (h : b = true) : bZ b = 1 := by rw [h]; rfl
theorem bZ_f {b : Bool} (h : b = false) : bZ b = 0 := by rw [h]; rfl
theorem pR_nn {S : St} {o i : Nat} (h : 0 ≤ pT S o i) : 0 ≤ pR S o i := by unfold pR; split <;> omega
theorem pK_nn {S : St} {o i : Nat} (h : 0 ≤ pT S o i) : 0 ≤ pK S o i := by unfold pK; split <;> omega
/-- what a lot's numbers can be at most -/
theorem lot_bd {S : St} (hB : ILB S) (hQ : ILQ S) (hO : IOrd S) {i : Nat} (hi : i < nLc S) : 0 ≤ vT S i ∧ vT S i ≤ rT S i ∧ 0 ≤ dT S i ∧ rT S i + dT S i ≤ qT S i ∧ qT S i ≤ 500 := by
  obtain ⟨⟨b1, b2, b3, b4⟩, -⟩ := hB i hi
  have h1 := hQ i hi
  have h2 := sm_nonneg (f := fun o => pK S o i) (n := nOc S) (fun o ho => pK_nn ((hO o ho).2.1 i).1)
  exact ⟨b1, b2, b3, by omega, b4⟩
/-- of a promised order no more is reserved than of all -/
theorem pR_le {S : St} (hV : ILV S) (hO : IOrd S) {o i : Nat} (ho : o < nOc S) (hi : i < nLc S) (h : sI S 53 o = 112) : 0 ≤ pT S o i ∧ pT S o i ≤ vT S i := by
  have h1 := sm_one (f := fun o => pR S o i) ho (fun o ho => pR_nn ((hO o ho).2.1 i).1)
  rw [← hV i hi] at h1
  have h2 : pR S o i = pT S o i := if_pos h
  have h1 : pR S o i ≤ vT S i := h1
  exact ⟨((hO o ho).2.1 i).1, by omega⟩
/-- a promise is taken back -/
theorem Inv0.drop {S : St} {x o : Nat} (hI : Inv0 S x) (ho : o < nOc S) (h : sI S 53 o = 112) : Inv0 (dpS S o) x := by
  have hI0 := hI
  obtain ⟨hW, -, hB, hQ, hV, hO, -⟩ := hI
  have hL : sN S 2 0 ≤ 90 := hW.nL
  obtain ⟨d1, d2, d3, d4, d5⟩ := dpS_at S o hL
  have d53 : ∀ o', o' ≠ o → sI (dpS S o) 53 o' = sI S 53 o' := fun o' hne => by
    rw [d1, if_neg (fun z => hne z.2), if_neg (fun z => absurd z.1 (by decide))]
  have d53o : sI (dpS S o) 53 o = 45 := by rw [d1, if_pos ⟨rfl, rfl⟩]
  have dk : ∀ k i, k ≠ 42 → k ≠ 53 → sI (dpS S o) k i = sI S k i := fun k i h1 h2 => by
    rw [d1, if_neg (fun z => h2 z.1), if_neg (fun z => h1 z.1)]
  have d42 : ∀ i, i < nLc S → vT (dpS S o) i = vT S i - pT S o i := fun i hi => by
    obtain ⟨a1, a2⟩ := pR_le hV hO ho hi h
    obtain ⟨b1, b2, b3, b4, b5⟩ := lot_bd hB hQ hO hi
    show (sI (dpS S o) 42 i).toInt = _
    rw [d1, if_neg (fun z => absurd z.1 (by decide)), if_pos ⟨rfl, hi⟩]
    exact i32_subV rfl rfl (by omega) (by omega)
  have dP : ∀ o' i, o' ≠ o → sP (dpS S o) o' i = sP S o' i := fun o' i hne => by rw [d2, if_neg (fun z => hne z.1)]
  have dPo : ∀ i, sP (dpS S o) o i = 0 := fun i => by
    rw [d2]
    by_cases hi : i < sN S 2 0
    · rw [if_pos ⟨rfl, hi⟩]
    · rw [if_neg (fun z => hi z.2)]
      have h1 := (hO o ho).2.1 i
      have h2 : ¬ 0 < pT S o i := fun q => hi (h1.2 q).1
      exact i32_ext (by show pT S o i = 0; omega)
  have hF : PF S (dpS S o) := ⟨d4, d5, dk, d3, fun o' => by
    by_cases e : o' = o
    · rw [e]; exact Or.inr ⟨Or.inr h, Or.inl d53o⟩
    · exact Or.inl (d53 o' e)⟩
  have dTo : ∀ i, pT (dpS S o) o i = 0 := fun i => by show (sP (dpS S o) o i).toInt = 0; rw [dPo]; rfl
  have dTn : ∀ o' i, o' ≠ o → pT (dpS S o) o' i = pT S o' i := fun o' i hne => by show (sP (dpS S o) o' i).toInt = _; rw [dP o' i hne]
  have eR : ∀ o' i, o' ≠ o → pR (dpS S o) o' i = pR S o' i := fun o' i hne => by unfold pR; rw [d53 o' hne, dTn o' i hne]
  have eK : ∀ o' i, pK (dpS S o) o' i = pK S o' i := fun o' i => by
    by_cases e : o' = o
    · subst e
      unfold pK; rw [d53o, h, dTo, if_pos rfl]; rfl
    · unfold pK; rw [d53 o' e, dTn o' i e]
  have en : nLc (dpS S o) = nLc S := by show sN (dpS S o) 2 0 = _; rw [d4]
  have eo : nOc (dpS S o) = nOc S := by show sN (dpS S o) 3 0 = _; rw [d4]
  refine hF.inv hI0 ?_ ?_ ?_ ?_
  · intro i hi
    rw [en] at hi
    obtain ⟨⟨b1, b2, b3, b4⟩, b5, b6⟩ := hB i hi
    obtain ⟨a1, a2⟩ := pR_le hV hO ho hi h
    have q1 : rT (dpS S o) i = rT S i := congrArg Int32.toInt (dk 41 i (by decide) (by decide))
    have q2 : dT (dpS S o) i = dT S i := congrArg Int32.toInt (dk 43 i (by decide) (by decide))
    have q3 : qT (dpS S o) i = qT S i := congrArg Int32.toInt (dk 40 i (by decide) (by decide))
    have q4 : cT (dpS S o) i = cT S i := congrArg Int64.toInt (d3 3 i)
    rw [q1, q2, q3, q4, d42 i hi]
    exact ⟨⟨by omega, by omega, b3, b4⟩, b5, b6⟩
  · intro i hi
    rw [en] at hi
    have q1 : rT (dpS S o) i = rT S i := congrArg Int32.toInt (dk 41 i (by decide) (by decide))
    have q2 : dT (dpS S o) i = dT S i := congrArg Int32.toInt (dk 43 i (by decide) (by decide))
    have q3 : qT (dpS S o) i = qT S i := congrArg Int32.toInt (dk 40 i (by decide) (by decide))
    rw [q1, q2, q3, eo, hQ i hi]
    congr 1
    exact sm_congr (fun o' _ => (eK o' i).symm)
  · intro i hi
    rw [en] at hi
    rw [d42 i hi, eo, hV i hi, sm_upd (f := fun o => pR S o i) (g := fun o' => pR (dpS S o) o' i) ho (fun o' _ hne => eR o' i hne)]
    have z1 : pR (dpS S o) o i = 0 := by unfold pR; rw [d53o]; rfl
    have z2 : pR S o i = pT S o i := if_pos h
    show _ = _ + (pR (dpS S o) o i - pR S o i)
    rw [z1, z2]; omega
  · intro o' ho'
    rw [eo] at ho'
    have k := hO o' ho'
    rw [dk 50 o' (by decide) (by decide), dk 20 _ (by decide) (by decide), d4, en]
    by_cases e : o' = o
    · subst e
      rw [d53o]
      refine ⟨Or.inl rfl, fun i => ?_, fun _ i => dPo i, k.2.2.2.1, fun _ => Or.inl rfl⟩
      rw [dTo]; exact ⟨Int.le_refl _, fun q => absurd q (Int.lt_irrefl _)⟩
    · rw [d53 o' e]
      refine ⟨k.1, fun i => ?_, fun q i => by rw [dP o' i e]; exact k.2.2.1 q i, k.2.2.2⟩
      rw [dTn o' i e]; exact k.2.1 i
theorem ILH.drop {S : St} {x o : Nat} (hI : Inv0 S x) (ho : o < nOc S) (h : sI S 53 o = 112) (hH : ILH S) : ILH (dpS S o) := by
  obtain ⟨hW, -, hB, hQ, hV, hO, -⟩ := hI
  have hL : sN S 2 0 ≤ 90 := hW.nL
  obtain ⟨d1, d2, d3, d4, d5⟩ := dpS_at S o hL
  intro i hi hv
  rw [show nLc (dpS S o) = nLc S from congrFun (congrFun d4 2) 0] at hi
  rw [barred_congr d3]
  refine hH i hi ?_
  obtain ⟨a1, a2⟩ := pR_le hV hO ho hi h
  obtain ⟨b1, b2, b3, b4, b5⟩ := lot_bd hB hQ hO hi
  have : vT (dpS S o) i = vT S i - pT S o i := by
    show (sI (dpS S o) 42 i).toInt = _
    rw [d1, if_neg (fun z => absurd z.1 (by decide)), if_pos ⟨rfl, hi⟩]
    exact i32_subV rfl rfl (by omega) (by omega)
  omega
theorem Inv.drop {S : St} {o : Nat} (hI : Inv S) (ho : o < nOc S) (h : sI S 53 o = 112) : Inv (dpS S o) := ⟨hI.1.drop ho h, ILH.drop hI.1 ho h hI.2⟩
/-- what reserving asks -/
theorem Inv0.rsv {S : St} {x o : Nat} (hI : Inv0 S x) (ho : o < nOc S) (h : sI S 53 o = 45) : RsvOK S o := fun i hi => by
  obtain ⟨hW, -, hB, hQ, hV, hO, -⟩ := hI
  obtain ⟨b1, b2, b3, b4, b5⟩ := lot_bd hB hQ hO hi
  have e : pT S o i = 0 := by show (sP S o i).toInt = 0; rw [(hO o ho).2.2.1 h i]; rfl
  rw [e]; exact ⟨Int.le_refl _, b1, b2, by omega⟩
theorem Inv0.rsvK {S : St} {x o : Nat} (hI : Inv0 S x) (ho : o < nOc S) : ∀ j, j < sN S 4 (sN S 7 o) → (fun p => p < sN S 7 o) (sN S 8 (4 * sN S 7 o + j)) ∧ 0 ≤ (sI S 50 o * sI S 30 (4 * sN S 7 o + j)).toInt := fun j hj => by
  obtain ⟨hW, hP, -, -, -, hO, -⟩ := hI
  obtain ⟨k1, k2, k3⟩ := hP.1 _ j (hW.ordPart ho) hj
  obtain ⟨q1, q2⟩ := (hO o ho).2.2.2.1
  refine ⟨k1, ?_⟩
  have hm : 0 ≤ (sI S 50 o).toInt * (sI S 30 (4 * sN S 7 o + j)).toInt := Int.mul_nonneg (by omega) (by omega)
  have hm2 : (sI S 50 o).toInt * (sI S 30 (4 * sN S 7 o + j)).toInt ≤ 100 * 9 := Int.mul_le_mul q2 k3 (by omega) (by omega)
  rw [Int32.toInt_mul, Int.bmod_eq_of_le_mul_two (by omega) (by omega)]
  exact hm
/-- a promise is tried: it fails, and all is as it was; or the order has it -/
theorem Inv.promise {S : St} {o : Nat} (hI : Inv S) (ho : o < nOc S) (h : sI S 53 o = 45) (hm : ¬ sI S 20 (sN S 7 o) = 0) :
    (raR S o = false ∧ raS S o = S) ∨ (raR S o = true ∧ Inv (raS S o) ∧ sI (raS S o) 53 o = 112 ∧ PF S (raS S o) ∧ (∀ o', o' ≠ o → sI (raS S o) 53 o' = sI S 53 o') ∧ dpS (raS S o) o = S ∧ ∀ i, i < nLc S → vT (raS S o) i - vT S i = pT (raS S o) o i) := by
  obtain ⟨hI0, hH⟩ := hI
  have hI1 := hI0
  obtain ⟨hW, -, hB, hQ, hV, hO, -⟩ := hI1
  have hS := hI0.rsv ho h
  have hL : sN S 2 0 ≤ 90 := hW.nL
  have hp0 : ∀ i, i < sN S 2 0 → sP S o i = 0 := fun i _ => (hO o ho).2.2.1 h i
  obtain ⟨T, hT, q⟩ := ra_spec (K := fun p => p < sN S 7 o) hS (hI0.rsvK ho) hL 4
  have hTs := hT
  rcases q with ⟨q1, q2⟩ | ⟨q1, q2⟩
  · refine Or.inr ?_
    have eS : raS S o = uI T 53 o 112 := by
      unfold raS
      rw [if_neg (by rw [q1]; decide), q2]
      exact sM_sA (S := S) (T := uI T 53 o 112) hT.2.2.2.2.1.1 hT.2.2.2.2.1.2
    obtain ⟨h1, h2, h3, h4, ⟨h5, h5'⟩, h6⟩ := hT
    have b0 := hTs.back hS hL h hp0 (x := 112)
    rw [eS]
    have d53o : sI (uI T 53 o 112) 53 o = 112 := up2_self _ _ _ _
    have d53 : ∀ o', o' ≠ o → sI (uI T 53 o 112) 53 o' = sI S 53 o' := fun o' hne => (up2_ne _ _ (fun z => hne z.2)).trans (h1 53 o' (by decide))
    have dk : ∀ k i, k ≠ 42 → k ≠ 53 → sI (uI T 53 o 112) k i = sI S k i := fun k i a1 a2 => (up2_ne _ _ (fun z => a2 z.1)).trans (h1 k i a1)
    have dv : ∀ i, sI (uI T 53 o 112) 42 i = sI T 42 i := fun i => rfl
    have p0 : ∀ i, pT S o i = 0 := fun i => by show (sP S o i).toInt = 0; rw [(hO o ho).2.2.1 h i]; rfl
    have pge : ∀ i, nLc S ≤ i → pT T o i = 0 := fun i hi => by show (sP T o i).toInt = 0; rw [(h4 i hi).2, (hO o ho).2.2.1 h i]; rfl
    have pnn : ∀ i, 0 ≤ pT T o i ∧ (0 < pT T o i → i < nLc S ∧ sN S 6 i < sN S 7 o) := fun i => by
      rcases Nat.lt_or_ge i (nLc S) with hi | hi
      · obtain ⟨a1, a2, a3, a4⟩ := h6 i hi
        have := p0 i
        exact ⟨by omega, fun z => ⟨hi, (a4 (by omega)).2⟩⟩
      · rw [pge i hi]; exact ⟨Int.le_refl _, fun z => absurd z (Int.lt_irrefl _)⟩
    have hF : PF S (uI T 53 o 112) := ⟨h5, h5', dk, h3, fun o' => by
      by_cases e : o' = o
      · rw [e]; exact Or.inr ⟨Or.inl h, Or.inr d53o⟩
      · exact Or.inl (d53 o' e)⟩
    have en : nLc (uI T 53 o 112) = nLc S := congrFun (congrFun h5 2) 0
    have eo : nOc (uI T 53 o 112) = nOc S := congrFun (congrFun h5 3) 0
    have ev : ∀ i, i < nLc S → vT (uI T 53 o 112) i = vT S i + pT T o i := fun i hi => by
      obtain ⟨a1, a2, a3, a4⟩ := h6 i hi
      have := p0 i
      show (sI (uI T 53 o 112) 42 i).toInt = _
      rw [dv]
      have : vT T i = (sI T 42 i).toInt := rfl
      omega
    have dTn : ∀ o' i, o' ≠ o → pT (uI T 53 o 112) o' i = pT S o' i := fun o' i hne => congrArg Int32.toInt (h2 o' i hne)
    have q1' : ∀ i, rT (uI T 53 o 112) i = rT S i := fun i => congrArg Int32.toInt (dk 41 i (by decide) (by decide))
    have q2' : ∀ i, dT (uI T 53 o 112) i = dT S i := fun i => congrArg Int32.toInt (dk 43 i (by decide) (by decide))
    have q3' : ∀ i, qT (uI T 53 o 112) i = qT S i := fun i => congrArg Int32.toInt (dk 40 i (by decide) (by decide))
    have q4' : ∀ i, cT (uI T 53 o 112) i = cT S i := fun i => congrArg Int64.toInt (h3 3 i)
    refine ⟨by unfold raR; rw [q1]; rfl, ⟨?_, ?_⟩, d53o, hF, d53, b0.1, fun i hi => by rw [ev i hi]; show _ = pT T o i; omega⟩
    · refine hF.inv hI0 ?_ ?_ ?_ ?_
      · intro i hi
        rw [en] at hi
        obtain ⟨⟨b1, b2, b3, b4⟩, b5, b6⟩ := hB i hi
        obtain ⟨a1, a2, a3, a4⟩ := h6 i hi
        have := p0 i
        rw [q1', q2', q3', q4', ev i hi]
        exact ⟨⟨by omega, by omega, b3, b4⟩, b5, b6⟩
      · intro i hi
        rw [en] at hi
        rw [q1', q2', q3', eo, hQ i hi]
        congr 1
        refine sm_congr (fun o' _ => ?_)
        by_cases e : o' = o
        · subst e
          unfold pK
          rw [d53o, h, p0]; rfl
        · unfold pK; rw [d53 o' e, dTn o' i e]
      · intro i hi
        rw [en] at hi
        rw [ev i hi, eo, hV i hi, sm_upd (f := fun o => pR S o i) (g := fun o' => pR (uI T 53 o 112) o' i) ho (fun o' _ hne => by show pR (uI T 53 o 112) o' i = pR S o' i; unfold pR; rw [d53 o' hne, dTn o' i hne])]
        have z1 : pR (uI T 53 o 112) o i = pT T o i := if_pos d53o
        have z2 : pR S o i = 0 := by unfold pR; rw [h]; rfl
        show _ = _ + (pR (uI T 53 o 112) o i - pR S o i)
        rw [z1, z2]; omega
      · intro o' ho'
        rw [eo] at ho'
        have k := hO o' ho'
        rw [dk 50 o' (by decide) (by decide), dk 20 _ (by decide) (by decide), en]
        show _ ∧ _ ∧ _ ∧ _ ∧ (sI S 20 (sN T 7 o') = 0 → _)
        rw [h5]
        by_cases e : o' = o
        · subst e
          rw [d53o]
          refine ⟨Or.inr (Or.inl rfl), fun i => ?_, fun z => absurd z (by decide), k.2.2.2.1, fun z => absurd z hm⟩
          exact pnn i
        · rw [d53 o' e]
          refine ⟨k.1, fun i => ?_, fun z i => (h2 o' i e).trans (k.2.2.1 z i), k.2.2.2⟩
          rw [dTn o' i e]
          exact k.2.1 i
    · intro i hi hv
      rw [en] at hi
      rw [ev i hi] at hv
      rw [show barred (uI T 53 o 112) i = barred S i from barred_congr (T := uI T 53 o 112) h3 i]
      obtain ⟨a1, a2, a3, a4⟩ := h6 i hi
      have := p0 i
      rcases Int.lt_or_le 0 (vT S i) with z | z
      · exact hH i hi z
      · exact (a4 (by omega)).1
  · refine Or.inl ⟨by unfold raR; rw [q1]; rfl, ?_⟩
    have b0 := hT.back hS hL h hp0 (x := 112)
    unfold raS
    rw [if_pos q1, q2]
    exact b0.2
/-- how many pieces a promise that is taken back had -/
theorem dpR_sm {S : St} (hI : Inv S) {o : Nat} (ho : o < nOc S) (h : sI S 53 o = 112) : (dpR S o).toInt = sm (fun i => pT S o i) (nLc S) := by
  obtain ⟨⟨hW, -, hB, hQ, hV, hO, -⟩, -⟩ := hI
  have hL : nLc S ≤ 90 := hW.nL
  have bd : ∀ i, i < nLc S → 0 ≤ pT S o i ∧ pT S o i ≤ 500 := fun i hi => by
    obtain ⟨a1, a2⟩ := pR_le hV hO ho hi h
    obtain ⟨b1, b2, b3, b4, b5⟩ := lot_bd hB hQ hO hi
    omega
  have key : ∀ n, n ≤ 90 → (dpL S o n).2.toInt = sm (fun i => pT S o i) (min n (nLc S)) := by
    intro n
    induction n with
    | zero => intro _; rw [Nat.zero_min]; rfl
    | succ n ih =>
      intro hn
      have ih := ih (by omega)
      rw [dpL_s]
      unfold dp1
      by_cases hl : n < sN S 2 0
      · rw [if_pos hl]
        show ((dpL S o n).2 + sP (sM S (dpL S o n).1) o n).toInt = _
        rw [(dpL_at S o n).2.1 o n, if_neg (fun z => Nat.lt_irrefl n z.2.1)]
        have m1 : min n (nLc S) = n := Nat.min_eq_left (Nat.le_of_lt hl)
        have m2 : min (n + 1) (nLc S) = n + 1 := Nat.min_eq_left hl
        rw [m1] at ih
        rw [m2, sm_s]
        have b1 := sm_nonneg (f := fun i => pT S o i) (n := n) (fun i hi => (bd i (by omega)).1)
        have b2 := sm_bound (f := fun i => pT S o i) (n := n) (b := 500) (fun i hi => (bd i (by omega)).2)
        obtain ⟨c1, c2⟩ := bd n hl
        have c1 : 0 ≤ (sP S o n).toInt := c1
        have c2 : (sP S o n).toInt ≤ 500 := c2
        rw [i32_addV (x := sm (fun i => pT S o i) n) (y := (sP S o n).toInt) ih rfl (by omega) (by omega)]
      · have hl' : ¬ n < nLc S := hl
        rw [if_neg hl, ih, Nat.min_eq_right (by omega), Nat.min_eq_right (by omega)]
  have := key 90 (Nat.le_refl _)
  rw [Nat.min_eq_right hL] at this
  exact this
