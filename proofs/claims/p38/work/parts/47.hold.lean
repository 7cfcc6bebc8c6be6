/-! PURE: sets of numbers, place by place; holding keeps Inv -/
theorem sAdd_M {S : St} {k i j k' i' m : Nat} (hj : j < 128) (hm : m < 128) : nsM (sAdd S k i j) k' i' m = (nsM S k' i' m || (decide (k' = k ∧ i' = i) && decide (m = j))) := by
  have q := nsb_add (lo := sJ S (2 * k) i) (hi := sJ S (2 * k + 1) i) hj hm
  unfold nsAdd at q
  unfold sAdd sAddA
  by_cases h : j < 64
  · rw [if_pos h] at q ⊢
    show nsb (up2 (sJ S) (2 * k) i _ (2 * k') i') (up2 (sJ S) (2 * k) i _ (2 * k' + 1) i') m = _
    rw [up2_nk (sJ S) (k := 2 * k) (k' := 2 * k' + 1) _ (by omega)]
    by_cases e : k' = k ∧ i' = i
    · rw [e.1, e.2, up2_self, decide_eq_true (show k = k ∧ i = i from ⟨rfl, rfl⟩), Bool.true_and]; exact q
    · rw [up2_ne (sJ S) _ (fun z => e ⟨by omega, z.2⟩), decide_eq_false e, Bool.false_and, Bool.or_false]
  · rw [if_neg h] at q ⊢
    show nsb (up2 (sJ S) (2 * k + 1) i _ (2 * k') i') (up2 (sJ S) (2 * k + 1) i _ (2 * k' + 1) i') m = _
    rw [up2_nk (sJ S) (k := 2 * k + 1) (k' := 2 * k') _ (by omega)]
    by_cases e : k' = k ∧ i' = i
    · rw [e.1, e.2, up2_self, decide_eq_true (show k = k ∧ i = i from ⟨rfl, rfl⟩), Bool.true_and]; exact q
    · rw [up2_ne (sJ S) _ (fun z => e ⟨by omega, z.2⟩), decide_eq_false e, Bool.false_and, Bool.or_false]
theorem sDel_M {S : St} {k i j k' i' m : Nat} (hj : j < 128) (hm : m < 128) : nsM (sDel S k i j) k' i' m = (nsM S k' i' m && !(decide (k' = k ∧ i' = i) && decide (m = j))) := by
  have q := nsb_del (lo := sJ S (2 * k) i) (hi := sJ S (2 * k + 1) i) hj hm
  unfold nsDel at q
  unfold sDel sDelA
  by_cases h : j < 64
  · rw [if_pos h] at q ⊢
    show nsb (up2 (sJ S) (2 * k) i _ (2 * k') i') (up2 (sJ S) (2 * k) i _ (2 * k' + 1) i') m = _
    rw [up2_nk (sJ S) (k := 2 * k) (k' := 2 * k' + 1) _ (by omega)]
    by_cases e : k' = k ∧ i' = i
    · rw [e.1, e.2, up2_self, decide_eq_true (show k = k ∧ i = i from ⟨rfl, rfl⟩), Bool.true_and]; exact q
    · rw [up2_ne (sJ S) _ (fun z => e ⟨by omega, z.2⟩), decide_eq_false e, Bool.false_and, Bool.not_false, Bool.and_true]
  · rw [if_neg h] at q ⊢
    show nsb (up2 (sJ S) (2 * k + 1) i _ (2 * k') i') (up2 (sJ S) (2 * k + 1) i _ (2 * k' + 1) i') m = _
    rw [up2_nk (sJ S) (k := 2 * k + 1) (k' := 2 * k') _ (by omega)]
    by_cases e : k' = k ∧ i' = i
    · rw [e.1, e.2, up2_self, decide_eq_true (show k = k ∧ i = i from ⟨rfl, rfl⟩), Bool.true_and]; exact q
    · rw [up2_ne (sJ S) _ (fun z => e ⟨by omega, z.2⟩), decide_eq_false e, Bool.false_and, Bool.not_false, Bool.and_true]
theorem sAdd_I (S : St) (k i j : Nat) : sI (sAdd S k i j) = sI S := by unfold sAdd sAddA; split <;> rfl
theorem sAdd_P (S : St) (k i j : Nat) : sP (sAdd S k i j) = sP S := by unfold sAdd sAddA; split <;> rfl
theorem sAdd_J (S : St) (k i j k' i' : Nat) (h : ¬ (k' = 2 * k ∧ i' = i)) (h2 : ¬ (k' = 2 * k + 1 ∧ i' = i)) : sJ (sAdd S k i j) k' i' = sJ S k' i' := by
  unfold sAdd sAddA
  split
  · exact up2_ne _ _ h
  · exact up2_ne _ _ h2
theorem sDel_I (S : St) (k i j : Nat) : sI (sDel S k i j) = sI S := by unfold sDel sDelA; split <;> rfl
theorem sDel_P (S : St) (k i j : Nat) : sP (sDel S k i j) = sP S := by unfold sDel sDelA; split <;> rfl
theorem sDel_J (S : St) (k i j k' i' : Nat) (h : ¬ (k' = 2 * k ∧ i' = i)) (h2 : ¬ (k' = 2 * k + 1 ∧ i' = i)) : sJ (sDel S k i j) k' i' = sJ S k' i' := by
  unfold sDel sDelA
  split
  · exact up2_ne _ _ h
  · exact up2_ne _ _ h2
theorem sAddW_I (S : St) (k i j : Nat) : sI (sAddW S k i j) = sI S := sAdd_I S k i j
theorem sAddW_P (S : St) (k i j : Nat) : sP (sAddW S k i j) = sP S := sAdd_P S k i j
theorem sAddW_J (S : St) (k i j k' i' : Nat) (h : ¬ (k' = 2 * k ∧ i' = i)) (h2 : ¬ (k' = 2 * k + 1 ∧ i' = i)) : sJ (sAddW S k i j) k' i' = sJ S k' i' := by
  unfold sAddW
  show up2 (up2 (sJ (sAdd S k i j)) (2 * k) i _) (2 * k + 1) i _ k' i' = _
  rw [up2_ne _ _ h2, up2_ne _ _ h, sAdd_J S k i j k' i' h h2]
theorem sAddW_M {S : St} {k i j k' i' m : Nat} (hj : j < 128) (hm : m < 128) (hne : k = 8 → i ≠ j) : nsM (sAddW S k i j) k' i' m = (nsM S k' i' m || (decide (k' = k ∧ i' = i) && (decide (m = j) || nsM S 8 j m))) := by
  unfold sAddW
  by_cases e : k' = k ∧ i' = i
  · rw [e.1, e.2, decide_eq_true (show k = k ∧ i = i from ⟨rfl, rfl⟩), Bool.true_and]
    show nsb (up2 (up2 (sJ (sAdd S k i j)) (2 * k) i _) (2 * k + 1) i _ (2 * k) i) (up2 (up2 (sJ (sAdd S k i j)) (2 * k) i _) (2 * k + 1) i _ (2 * k + 1) i) m = _
    rw [up2_self, up2_nk _ (k := 2 * k + 1) (k' := 2 * k) _ (by omega), up2_self, nsb_or]
    have a1 := sAdd_M (S := S) (k := k) (i := i) (k' := k) (i' := i) hj hm
    have a2 := sAdd_M (S := S) (k := k) (i := i) (k' := 8) (i' := j) hj hm
    rw [decide_eq_true (show k = k ∧ i = i from ⟨rfl, rfl⟩), Bool.true_and] at a1
    rw [decide_eq_false (fun z => hne z.1.symm z.2.symm), Bool.false_and, Bool.or_false] at a2
    show (nsM (sAdd S k i j) k i m || nsM (sAdd S k i j) 8 j m) = _
    rw [a1, a2, Bool.or_assoc]
  · rw [decide_eq_false e, Bool.false_and, Bool.or_false]
    show nsb (up2 (up2 (sJ (sAdd S k i j)) (2 * k) i _) (2 * k + 1) i _ (2 * k') i') (up2 (up2 (sJ (sAdd S k i j)) (2 * k) i _) (2 * k + 1) i _ (2 * k' + 1) i') m = _
    rw [up2_ne _ _ (fun z => absurd z.1 (by omega)), up2_ne _ _ (fun z => e ⟨by omega, z.2⟩), up2_ne _ _ (fun z => e ⟨by omega, z.2⟩), up2_ne _ _ (fun z => absurd z.1 (by omega))]
    have a1 := sAdd_M (S := S) (k := k) (i := i) (k' := k') (i' := i') hj hm
    rw [decide_eq_false e, Bool.false_and, Bool.or_false] at a1
    exact a1
theorem barred_iff (S : St) (i : Nat) : barred S i = true ↔ nsM S 14 0 i = true ∨ ∃ j, j < 128 ∧ nsM S 8 i j = true ∧ nsM S 14 0 j = true := by
  unfold barred
  rw [Bool.or_eq_true, nsMeets_iff]
theorem PF.refl (S : St) : PF S S := ⟨rfl, rfl, fun _ _ _ _ => rfl, fun _ _ => rfl, fun _ => Or.inl rfl⟩
theorem PF.trans {S T U : St} (h : PF S T) (g : PF T U) : PF S U := by
  obtain ⟨h1, h2, h3, h4, h5⟩ := h
  obtain ⟨g1, g2, g3, g4, g5⟩ := g
  refine ⟨g1.trans h1, g2.trans h2, fun k i a b => (g3 k i a b).trans (h3 k i a b), fun k i => (g4 k i).trans (h4 k i), fun o => ?_⟩
  rcases g5 o with e | ⟨e1, e2⟩
  · rcases h5 o with z | z
    · exact Or.inl (e.trans z)
    · exact Or.inr (by rw [e]; exact z)
  · rcases h5 o with z | ⟨z1, z2⟩
    · exact Or.inr ⟨by rw [← z]; exact e1, e2⟩
    · exact Or.inr ⟨z1, e2⟩
theorem PF.drop {S : St} {o : Nat} (hL : sN S 2 0 ≤ 90) (h : sI S 53 o = 112) : PF S (dpS S o) ∧ sI (dpS S o) 53 o = 45 ∧ ∀ o', o' ≠ o → sI (dpS S o) 53 o' = sI S 53 o' ∧ ∀ i, sP (dpS S o) o' i = sP S o' i := by
  obtain ⟨d1, d2, d3, d4, d5⟩ := dpS_at S o hL
  have a : sI (dpS S o) 53 o = 45 := by rw [d1, if_pos ⟨rfl, rfl⟩]
  have b : ∀ o', o' ≠ o → sI (dpS S o) 53 o' = sI S 53 o' := fun o' hne => by
    rw [d1, if_neg (fun z => hne z.2), if_neg (fun z => absurd z.1 (by decide))]
  refine ⟨⟨d4, d5, fun k i h1 h2 => by rw [d1, if_neg (fun z => h2 z.1), if_neg (fun z => h1 z.1)], d3, fun o' => ?_⟩, a, fun o' hne => ⟨b o' hne, fun i => by rw [d2, if_neg (fun z => hne z.1)]⟩⟩
  by_cases e : o' = o
  · rw [e]; exact Or.inr ⟨Or.inr h, Or.inl a⟩
  · exact Or.inl (b o' e)
/-- only what is on hold differs -/
theorem Inv0.held {S T : St} {x : Nat} (hI : Inv0 S x) (hn : sN T = sN S) (hi : sI T = sI S) (hr : sR T = sR S) (hp : sP T = sP S) (hj : ∀ k i, k ≠ 28 → k ≠ 29 → sJ T k i = sJ S k i) (hH : IHd T) : Inv0 T x := by
  obtain ⟨hW, hP, hB, hQ, hV, hO, hJ, hD, hM, hTr, hHd, hC, hN⟩ := hI
  have i2 : ∀ k i, sI T k i = sI S k i := fun k i => by rw [hi]
  have r2 : ∀ k i, sR T k i = sR S k i := fun k i => by rw [hr]
  have p2 : ∀ k i, sP T k i = sP S k i := fun k i => by rw [hp]
  have j2 : ∀ k, k ≠ 28 → k ≠ 29 → ∀ i, sJ T k i = sJ S k i := fun k a b i => hj k i a b
  have q : ∀ c i, sI T 53 i = c ↔ sI S 53 i = c := fun c i => by rw [hi]
  exact ⟨hW.fr hn hr, hP.fr hn (i2 30) (i2 20), hB.fr hn (i2 40) (i2 41) (i2 42) (i2 43) (j2 3 (by decide) (by decide)), hQ.fr hn (i2 40) (i2 41) (i2 43) (q 112) p2, hV.fr hn (i2 42) (q 112) p2, hO.fr hn (i2 20) (i2 50) (i2 53) p2,
    hJ.fr hn (i2 20) (i2 40) (i2 50) (q 119) (q 111) (q 102) (q 100) (i2 60) (i2 61) (i2 63) (r2 3) (r2 4) (j2 5 (by decide) (by decide)), hD.fr hn (i2 43) (i2 50) (i2 55) (q 100) (j2 4 (by decide) (by decide)) (j2 26 (by decide) (by decide)) (j2 27 (by decide) (by decide)),
    hM.fr hn (r2 1) (i2 2 0) (i2 10) (i2 14) (i2 17) (i2 19) (q 111), hTr.fr hn (fun k hk i j => nsM_fr (j2 (2 * k) (by omega) (by omega)) (j2 (2 * k + 1) (by omega) (by omega)) i j), hH, hC.fr hn (j2 3 (by decide) (by decide)) (j2 5 (by decide) (by decide)) (j2 4 (by decide) (by decide)) (j2 1 (by decide) (by decide) 0) (j2 2 (by decide) (by decide) 0) (i2 1 0) (i2 63) (r2 4), hN.fr hn (r2 4) (i2 1 0) (i2 2 0)⟩
/-- of a held lot no promise is left -/
theorem poh_spec {S : St} (hI : Inv0 S 1000) (n : Nat) :
    Inv0 (sM S (pohL S n).1) 1000 ∧ PF S (sM S (pohL S n).1) ∧ (∀ i, i < nLc S → barred S i = true → ∀ o, o < n → o < nOc S → sI (sM S (pohL S n).1) 53 o = 112 → pT (sM S (pohL S n).1) o i = 0) ∧ ∃ c : Nat, (pohL S n).2 = nI c ∧ c ≤ n ∧ c ≤ nOc S := by
  induction n with
  | zero => exact ⟨hI, PF.refl S, fun i _ _ o ho => absurd ho (Nat.not_lt_zero o), 0, rfl, Nat.le_refl _, Nat.zero_le _⟩
  | succ n ih =>
    obtain ⟨h1, h2, h3, c, h4, h5, h6⟩ := ih
    rw [pohL_s]
    unfold poh1
    by_cases hn : n < sN S 3 0
    · rw [if_pos hn]
      have h7 : c ≤ n := h5
      by_cases hs : sI (sM S (pohL S n).1) 53 n = 112
      · rw [if_pos hs]
        by_cases hb : hasB (sM S (pohL S n).1) n = true
        · rw [if_pos hb]
          have eN : sN (dpS (sM S (pohL S n).1) n) = sN S := rfl
          have e : sM S (sA (dpS (sM S (pohL S n).1) n)) = dpS (sM S (pohL S n).1) n := sM_sA rfl rfl
          have hL : sN (sM S (pohL S n).1) 2 0 ≤ 90 := h1.1.nL
          obtain ⟨p1, p2, p3⟩ := PF.drop (o := n) hL hs
          refine ⟨?_, ?_, ?_, c + 1, ?_, by omega, Nat.lt_of_le_of_lt h7 hn⟩
          · show Inv0 (sM S (sA (dpS (sM S (pohL S n).1) n))) 1000
            rw [e]; exact h1.drop hn hs
          · show PF S (sM S (sA (dpS (sM S (pohL S n).1) n)))
            rw [e]; exact h2.trans p1
          · show ∀ i, i < nLc S → barred S i = true → ∀ o, o < n + 1 → o < nOc S → sI (sM S (sA (dpS (sM S (pohL S n).1) n))) 53 o = 112 → pT (sM S (sA (dpS (sM S (pohL S n).1) n))) o i = 0
            rw [e]
            intro i hi hbi o ho ho2 h112
            by_cases eo : o = n
            · subst eo; rw [p2] at h112; exact absurd h112 (by decide)
            · rw [(p3 o eo).1] at h112
              show (sP (dpS (sM S (pohL S n).1) n) o i).toInt = 0
              rw [(p3 o eo).2 i]
              exact h3 i hi hbi o (by omega) ho2 h112
          · show (pohL S n).2 + 1 = nI (c + 1)
            rw [h4, nI_1]
        · rw [if_neg hb]
          refine ⟨h1, h2, fun i hi hbi o ho ho2 h112 => ?_, c, h4, by omega, h6⟩
          by_cases eo : o = n
          · subst eo
            refine Classical.byContradiction (fun hne => hb ?_)
            unfold hasB
            refine anyN_iff.mpr ⟨i, Nat.lt_of_lt_of_le hi h1.1.nL, ?_⟩
            unfold hbp
            have hi' : i < sN (sM S (pohL S o).1) 2 0 := hi
            have hp := (h1.2.2.2.2.2.1 o hn).2.1 i
            rw [if_pos hi', if_neg (fun z => hne (by have z := i32_le.mp z; have z : pT (sM S (pohL S o).1) o i ≤ 0 := z; omega))]
            rw [barred_congr (S := S) h2.2.2.2.1]; exact hbi
          · exact h3 i hi hbi o (by omega) ho2 h112
      · rw [if_neg hs]
        refine ⟨h1, h2, fun i hi hbi o ho ho2 h112 => ?_, c, h4, by omega, h6⟩
        by_cases eo : o = n
        · subst eo; exact absurd h112 hs
        · exact h3 i hi hbi o (by omega) ho2 h112
    · rw [if_neg hn]
      exact ⟨h1, h2, fun i hi hbi o ho ho2 h112 => h3 i hi hbi o (by have : o < sN S 3 0 := ho2; omega) ho2 h112, c, h4, by omega, h6⟩
/-- a lot is put on hold -/
theorem Inv.hold1 {S : St} (hI : Inv S) {i : Nat} (hi : i < nLc S) : Inv (pohS S i) ∧ barred (pohS S i) i = true ∧ (sN (pohS S i) = sN S ∧ sI (pohS S i) 1 0 = sI S 1 0 ∧ sI (pohS S i) 2 0 = sI S 2 0 ∧ sJ (pohS S i) 1 0 = sJ S 1 0) ∧ ∃ c : Nat, pohR S i = nI c ∧ c ≤ nOc S := by
  have hi128 : i < 128 := Nat.lt_of_lt_of_le hi (Nat.le_trans hI.1.1.nL (by decide))
  have h1 : Inv0 (sAdd S 14 0 i) 1000 := by
    refine hI.1.held rfl (sAdd_I S 14 0 i) rfl (sAdd_P S 14 0 i) (fun k z a b => sAdd_J S 14 0 i k z (fun q => a (by omega)) (fun q => b (by omega))) ?_
    intro j hj hm
    rw [sAdd_M hi128 hj] at hm
    show j < nLc S
    rcases (Bool.or_eq_true _ _).mp hm with z | z
    · exact hI.1.2.2.2.2.2.2.2.2.2.2.1 j hj z
    · rw [Bool.and_eq_true] at z
      have := of_decide_eq_true z.2
      rw [this]; exact hi
  obtain ⟨k1, k2, k3, c, k4, k5, k6⟩ := poh_spec h1 30
  have e : sM (sAdd S 14 0 i) (pohL (sAdd S 14 0 i) 30).1 = pohS S i := rfl
  rw [e] at k1 k2 k3
  have eb : ∀ z, barred (pohS S i) z = barred (sAdd S 14 0 i) z := fun z => barred_congr k2.2.2.2.1 z
  refine ⟨⟨k1, ?_⟩, ?_, ⟨k2.1, ?_, ?_, ?_⟩, c, k4, k6⟩
  · intro z hz hv
    rcases hb : barred (pohS S i) z with _ | _
    · rfl
    · exfalso
      have hz2 : z < nLc S := hz
      have hV := k1.2.2.2.2.1 z hz
      rw [sm_zero (f := fun o => pR (pohS S i) o z) (fun o ho => ?_)] at hV
      · omega
      · show pR (pohS S i) o z = 0
        unfold pR
        split
        · rename_i h112
          exact k3 z hz2 (by rw [← eb]; exact hb) o (Nat.lt_of_lt_of_le ho k1.1.nO) ho h112
        · rfl
  · rw [eb, barred_iff]
    refine Or.inl ?_
    rw [sAdd_M hi128 hi128]
    simp
  · rw [k2.2.2.1 1 0 (by decide) (by decide), sAdd_I]
  · rw [k2.2.2.1 2 0 (by decide) (by decide), sAdd_I]
  · rw [k2.2.2.2.1, sAdd_J _ _ _ _ _ _ (by omega) (by omega)]
/-- a lot is taken from hold -/
theorem Inv.hold0 {S : St} (hI : Inv S) {i : Nat} (hi : i < nLc S) : Inv (sDel S 14 0 i) := by
  have hi128 : i < 128 := Nat.lt_of_lt_of_le hi (Nat.le_trans hI.1.1.nL (by decide))
  have hsub : ∀ j, j < 128 → nsM (sDel S 14 0 i) 14 0 j = true → nsM S 14 0 j = true := fun j hj hm => by
    rw [sDel_M hi128 hj, Bool.and_eq_true] at hm
    exact hm.1
  refine ⟨?_, ?_⟩
  · refine hI.1.held rfl (sDel_I S 14 0 i) rfl (sDel_P S 14 0 i) (fun k z a b => sDel_J S 14 0 i k z (fun q => a (by omega)) (fun q => b (by omega))) ?_
    exact fun j hj hm => hI.1.2.2.2.2.2.2.2.2.2.2.1 j hj (hsub j hj hm)
  · intro z hz hv
    have hv : 0 < vT S z := by
      have : vT (sDel S 14 0 i) z = vT S z := by show (sI (sDel S 14 0 i) 42 z).toInt = _; rw [sDel_I]
      omega
    have h0 := hI.2 z hz hv
    rcases hb : barred (sDel S 14 0 i) z with _ | _
    · rfl
    · exfalso
      have : barred S z = true := (barred_iff S z).mpr (((barred_iff _ z).mp hb).imp (hsub z (Nat.lt_of_lt_of_le hz (Nat.le_trans hI.1.1.nL (by decide)))) (fun ⟨j, a, b, c⟩ => ⟨j, a, by
        have : nsM (sDel S 14 0 i) 8 z j = nsM S 8 z j := by rw [sDel_M hi128 a]; simp
        rw [← this]; exact b, hsub j a c⟩))
      rw [this] at h0; exact absurd h0 (by decide)
