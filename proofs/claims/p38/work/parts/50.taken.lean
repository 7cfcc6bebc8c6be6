/-! PURE: a promised order's pieces are taken for its job: Inv but for where the job waits -/
theorem Inv.take {S : St} {o : Nat} (hI : Inv S) (ho : o < nOc S) (h : sI S 53 o = 112) : Inv0 (uI (trS S o) 53 o 119) o ∧ ILH (uI (trS S o) 53 o 119) ∧ (sI (trS S o) 1 0 = sI S 1 0 ∧ sI (trS S o) 2 0 = sI S 2 0 ∧ sJ (trS S o) 1 0 = sJ S 1 0 ∧ sR S 3 o = none ∧ sR S 4 o = none) := by
  obtain ⟨hI0, hH⟩ := hI
  have hI1 := hI0
  obtain ⟨hW, hP, hB, hQ, hV, hO, hJ, hD, hM, hTr, hHd, hC, hN⟩ := hI1
  obtain ⟨k1, k2, k3, k4, k5⟩ := hI0.cost
  have hL : nLc S ≤ 90 := hW.nL
  have hmade : ¬ sI S 20 (sN S 7 o) = 0 := fun z => by
    rcases (hO o ho).2.2.2.2 z with e | e <;> (rw [h] at e; exact absurd e (by decide))
  have hnw : ¬ inWk S o := fun z => by
    rcases z with e | e <;> (rw [h] at e; exact absurd e (by decide))
  have hnd : ¬ isDn S o := fun z => by
    rcases (hJ o ho).2.2.2.2.1.mp z with e | ⟨e, -⟩ <;> (rw [h] at e; exact absurd e (by decide))
  have h4n : sR S 4 o = none := by
    cases e : sR S 4 o with
    | none => rfl
    | some i => exact absurd ((hJ o ho).2.2.2.2.2.2.1 i e).1 hnd
  have he0 : 0 ≤ eT S o := (hJ o ho).2.2.2.2.2.2.2.2.1
  have bd : ∀ i, i < nLc S → 0 ≤ pT S o i ∧ pT S o i ≤ vT S i ∧ vT S i ≤ rT S i ∧ rT S i ≤ 500 ∧ 0 ≤ cT S i ∧ cT S i ≤ 29970000 ∧ (rT S i = 0 → cT S i = 0) := fun i hi => by
    obtain ⟨a1, a2⟩ := pR_le hV hO ho hi h
    obtain ⟨b1, b2, b3, b4, b5⟩ := lot_bd hB hQ hO hi
    exact ⟨a1, a2, b2, by omega, (hB i hi).2.1, k1 i hi, (hB i hi).2.2⟩
  have eg : ∀ o, o < nOc S → 0 ≤ eT S o + gD S o := fun o ho => by
    have h1 := (hJ o ho).2.2.2.2.2.2.2.2.1
    have h2 := (hD.1 o ho).1
    omega
  have hs : eT S o + sm (fun i => cT S i) (nLc S) ≤ 29970000 := by
    have a : eT S o + gD S o ≤ sm (fun o => eT S o + gD S o) (nOc S) := sm_one (f := fun o => eT S o + gD S o) ho eg
    have b := (hD.1 o ho).1
    have c1 := hC.1
    have c2 := hC.2.1
    omega
  have hU := tr_spec bd he0 hs 90
  have hn0 : sN (sM S (trL S o 90)) = sN S := rfl
  have hr0 : sR (sM S (trL S o 90)) = sR S := rfl
  have eT0 : uI (trS S o) 53 o 119 = uI (uI (sM S (trL S o 90)) 60 o (sI (sM S (trL S o 90)) 50 o)) 53 o 119 := rfl
  have eT1 : trS S o = uI (sM S (trL S o 90)) 60 o (sI (sM S (trL S o 90)) 50 o) := rfl
  rw [eT1]
  have hWU : WT (sM S (trL S o 90)) := hW
  generalize hUe : sM S (trL S o 90) = U at hU hn0 hr0 hWU
  obtain ⟨u1, u2, u3, u4, u5, u6, u7⟩ := hU
  have c90 : ∀ i, i < nLc S → (i < 90 ∧ i < nLc S) := fun i hi => ⟨by omega, hi⟩
  rw [Nat.min_eq_right hL] at u6
  have y1 : sI (uI U 60 o (sI U 50 o)) 1 0 = sI S 1 0 := (show _ = sI U 1 0 from rfl).trans (u1 1 0 (by decide) (by decide))
  have y2 : sI (uI U 60 o (sI U 50 o)) 2 0 = sI S 2 0 := (show _ = sI U 2 0 from rfl).trans (u1 2 0 (by decide) (by decide))
  have y3 : sJ (uI U 60 o (sI U 50 o)) 1 0 = sJ S 1 0 := u4 1 0 (by decide) (fun z => absurd z.1 (by decide))
  have y4 : sR S 3 o = none := by
    have q := (hJ o ho).2.2.2.1
    have ne : o ≠ 1000 := by have := hW.nO; have ho : o < sN S 3 0 := ho; omega
    refine Classical.byContradiction (fun z => ?_)
    have := (q ne).mpr z
    rw [h] at this; exact absurd this (by decide)
  suffices hT : Inv0 (uI (uI U 60 o (sI U 50 o)) 53 o 119) o ∧ ILH (uI (uI U 60 o (sI U 50 o)) 53 o 119) from ⟨hT.1, hT.2, y1, y2, y3, y4, h4n⟩
  generalize hTe : uI (uI U 60 o (sI U 50 o)) 53 o 119 = T
  have tn : sN T = sN S := by rw [← hTe]; exact hn0
  have tr : sR T = sR S := by rw [← hTe]; exact hr0
  have tp : sP T = sP S := by rw [← hTe]; exact u7
  have tW : WT T := by rw [← hTe]; exact hWU
  have tJ : ∀ k i, k ≠ 3 → ¬ (k = 5 ∧ i = o) → sJ T k i = sJ S k i := fun k i a b => by rw [← hTe]; exact u4 k i a b
  have t53 : sI T 53 o = 119 := by rw [← hTe]; exact up2_self _ _ _ _
  have t60 : sI T 60 o = sI S 50 o := by
    rw [← hTe]
    exact (up2_self (sI U) 60 o (sI U 50 o)).trans (u1 50 o (by decide) (by decide))
  have tU : ∀ k i, ¬ (k = 53 ∧ i = o) → ¬ (k = 60 ∧ i = o) → sI T k i = sI U k i := fun k i a b => by
    rw [← hTe]; exact (up2_ne _ _ a).trans (up2_ne _ _ b)
  have tI : ∀ k i, k ≠ 41 → k ≠ 42 → ¬ (k = 53 ∧ i = o) → ¬ (k = 60 ∧ i = o) → sI T k i = sI S k i := fun k i a b c d => (tU k i c d).trans (u1 k i a b)
  have tK : ∀ k, k ≠ 41 → k ≠ 42 → k ≠ 53 → k ≠ 60 → ∀ i, sI T k i = sI S k i := fun k a b c d i => tI k i a b (fun z => c z.1) (fun z => d z.1)
  have tr1 : ∀ i, i < nLc S → rT T i = rT S i - pT S o i := fun i hi => by
    have : rT T i = rT U i := congrArg Int32.toInt (tU 41 i (fun z => absurd z.1 (by decide)) (fun z => absurd z.1 (by decide)))
    rw [this, u2 i, if_pos (c90 i hi)]
  have tv1 : ∀ i, i < nLc S → vT T i = vT S i - pT S o i := fun i hi => by
    have : vT T i = vT U i := congrArg Int32.toInt (tU 42 i (fun z => absurd z.1 (by decide)) (fun z => absurd z.1 (by decide)))
    rw [this, u3 i, if_pos (c90 i hi)]
  have tc1 : ∀ i, i < nLc S → cT T i = cT S i - shr S o i := fun i hi => by
    have : cT T i = cT U i := by rw [← hTe]
    rw [this, u5 i, if_pos (c90 i hi)]
  have te1 : eT T o = eT S o + sm (fun i => shr S o i) (nLc S) := by
    have : eT T o = eT U o := by rw [← hTe]
    rw [this, u6]
  have t53n : ∀ o', o' ≠ o → sI T 53 o' = sI S 53 o' := fun o' e => tI 53 o' (by decide) (by decide) (fun z => e z.2) (fun z => absurd z.1 (by decide))
  have t60n : ∀ o', o' ≠ o → sI T 60 o' = sI S 60 o' := fun o' e => tI 60 o' (by decide) (by decide) (fun z => absurd z.1 (by decide)) (fun z => e z.2)
  have hsh : ∀ i, i < nLc S → 0 ≤ shr S o i ∧ shr S o i ≤ cT S i ∧ (rT S i - pT S o i = 0 → shr S o i = cT S i) := fun i hi => by
    obtain ⟨b1, b2, b3, b4, b5, b6, b7⟩ := bd i hi
    have q := (tk_spec (S := S) (i := i) (k := sP S o i) b1 (Int.le_trans b2 b3) b4 b5 b6 b7).1
    exact ⟨q.1, q.2.1, q.2.2.2⟩
  have tq : ∀ i, qT T i = qT S i := fun i => congrArg Int32.toInt (tK 40 (by decide) (by decide) (by decide) (by decide) i)
  have td : ∀ i, dT T i = dT S i := fun i => congrArg Int32.toInt (tK 43 (by decide) (by decide) (by decide) (by decide) i)
  have ep : ∀ o' i, pT T o' i = pT S o' i := fun o' i => by show (sP T o' i).toInt = _; rw [tp]
  have en : nLc T = nLc S := by show sN T 2 0 = _; rw [tn]
  have eo : nOc T = nOc S := by show sN T 3 0 = _; rw [tn]
  have p100 : ∀ i, sI T 53 i = 100 ↔ sI S 53 i = 100 := fun i => by
    by_cases e : i = o
    · rw [e, t53, h]; exact ⟨fun z => absurd z (by decide), fun z => absurd z (by decide)⟩
    · rw [t53n i e]
  have p111 : ∀ i, sI T 53 i = 111 ↔ sI S 53 i = 111 := fun i => by
    by_cases e : i = o
    · rw [e, t53, h]; exact ⟨fun z => absurd z (by decide), fun z => absurd z (by decide)⟩
    · rw [t53n i e]
  have nJ : ∀ k, k ≠ 3 → k ≠ 5 → ∀ i, sJ T k i = sJ S k i := fun k a b i => tJ k i a (fun z => b z.1)
  refine ⟨⟨tW, hP.fr tn (tK 30 (by decide) (by decide) (by decide) (by decide)) (tK 20 (by decide) (by decide) (by decide) (by decide)), ?_, ?_, ?_, ?_, ?_, hD.fr tn (tK 43 (by decide) (by decide) (by decide) (by decide)) (tK 50 (by decide) (by decide) (by decide) (by decide)) (tK 55 (by decide) (by decide) (by decide) (by decide)) p100 (nJ 4 (by decide) (by decide)) (nJ 26 (by decide) (by decide)) (nJ 27 (by decide) (by decide)), hM.fr tn (fun i => by rw [tr]) (tK 2 (by decide) (by decide) (by decide) (by decide) 0) (tK 10 (by decide) (by decide) (by decide) (by decide)) (tK 14 (by decide) (by decide) (by decide) (by decide)) (tK 17 (by decide) (by decide) (by decide) (by decide)) (tK 19 (by decide) (by decide) (by decide) (by decide)) p111, hTr.fr tn (fun k hk i j => nsM_fr (nJ (2 * k) (by omega) (by omega)) (nJ (2 * k + 1) (by omega) (by omega)) i j), hHd.fr (by rw [tn]; exact Nat.le_refl _) (fun j => nsM_fr (nJ (2 * 14) (by decide) (by decide)) (nJ (2 * 14 + 1) (by decide) (by decide)) 0 j), ?_, hN.fr tn (fun i => by rw [tr]) (tK 1 (by decide) (by decide) (by decide) (by decide) 0) (tK 2 (by decide) (by decide) (by decide) (by decide) 0)⟩, ?_⟩
  · intro i hi
    rw [en] at hi
    obtain ⟨b1, b2, b3, b4, b5, b6, b7⟩ := bd i hi
    obtain ⟨g1, g2, g3⟩ := hsh i hi
    obtain ⟨⟨c1, c2, c3, c4⟩, c5, c6⟩ := hB i hi
    rw [tr1 i hi, tv1 i hi, td, tq, tc1 i hi]
    exact ⟨⟨by omega, by omega, c3, c4⟩, by omega, fun z => by have := g3 z; omega⟩
  · intro i hi
    rw [en] at hi
    rw [tr1 i hi, td, tq, eo, hQ i hi]
    have q := sm_upd (f := fun o => pK S o i) (g := fun o' => pK T o' i) ho (fun o' _ hne => by show pK T o' i = pK S o' i; unfold pK; rw [t53n o' hne, ep])
    have z1 : pK T o i = pT S o i := by unfold pK; rw [t53, ep]; rfl
    have z2 : pK S o i = 0 := if_pos h
    rw [q]
    show _ = _ + (_ + (pK T o i - pK S o i))
    rw [z1, z2]; omega
  · intro i hi
    rw [en] at hi
    rw [tv1 i hi, eo, hV i hi]
    have q := sm_upd (f := fun o => pR S o i) (g := fun o' => pR T o' i) ho (fun o' _ hne => by show pR T o' i = pR S o' i; unfold pR; rw [t53n o' hne, ep])
    have z1 : pR T o i = 0 := by unfold pR; rw [t53]; rfl
    have z2 : pR S o i = pT S o i := if_pos h
    rw [q]
    show _ = _ + (pR T o i - pR S o i)
    rw [z1, z2]; omega
  · intro o' ho'
    rw [eo] at ho'
    have k := hO o' ho'
    rw [tK 50 (by decide) (by decide) (by decide) (by decide), tK 20 (by decide) (by decide) (by decide) (by decide), tn, tp, en]
    by_cases e : o' = o
    · subst e
      rw [t53]
      refine ⟨Or.inr (Or.inr (Or.inl rfl)), fun i => ?_, fun z => absurd z (by decide), k.2.2.2.1, fun z => absurd z hmade⟩
      rw [ep]; exact k.2.1 i
    · rw [t53n o' e]
      refine ⟨k.1, fun i => ?_, k.2.2⟩
      rw [ep]; exact k.2.1 i
  · intro o' ho'
    rw [eo] at ho'
    have k := hJ o' ho'
    unfold isDn inWk
    rw [tK 61 (by decide) (by decide) (by decide) (by decide), tK 63 (by decide) (by decide) (by decide) (by decide), tK 50 (by decide) (by decide) (by decide) (by decide), tK 20 (by decide) (by decide) (by decide) (by decide), tn, tr]
    by_cases e : o' = o
    · subst e
      have z61 : sI S 61 o' = 0 := (k.2.2.1 hnw hnd).2
      rw [t53, t60, z61]
      have q50 := (hO o' ho').2.2.2.1
      refine ⟨⟨by omega, by decide⟩, fun _ => by rw [show (0 : Int32).toInt = 0 from rfl]; omega, fun z => absurd (Or.inl rfl) z, fun z => absurd rfl z, ⟨fun z => absurd z hnd, fun z => ?_⟩, fun z => absurd z hnd, fun i z => by rw [h4n] at z; exact absurd z (by simp), fun z => absurd z hnd, ?_, fun z => absurd (Or.inl rfl) z⟩
      · rcases z with z | z
        · exact absurd z (by decide)
        · exact absurd z.1 (by decide)
      · rw [te1]
        have : 0 ≤ sm (fun i => shr S o' i) (nLc S) := sm_nonneg (f := fun i => shr S o' i) (fun i hi => (hsh i hi).1)
        omega
    · have hne : o' ≠ 1000 := by have := hW.nO; have ho : o' < sN S 3 0 := ho'; omega
      have e5 : eT T o' = eT S o' := congrArg Int64.toInt (tJ 5 o' (by decide) (fun z => e z.2))
      rw [t53n o' e, t60n o' e, e5]
      refine ⟨k.1, k.2.1, k.2.2.1, fun _ => k.2.2.2.1 hne, k.2.2.2.2.1, k.2.2.2.2.2.1, fun i z => ?_, k.2.2.2.2.2.2.2⟩
      obtain ⟨a1, a2, a3⟩ := k.2.2.2.2.2.2.1 i z
      exact ⟨a1, by rw [en]; exact a2, by rw [tK 40 (by decide) (by decide) (by decide) (by decide)]; exact a3⟩
  · obtain ⟨c1, c2, c3, c4⟩ := hC
    have j1 : sJ T 1 0 = sJ S 1 0 := nJ 1 (by decide) (by decide) 0
    have j2 : sJ T 2 0 = sJ S 2 0 := nJ 2 (by decide) (by decide) 0
    refine ⟨?_, by rw [j2]; exact c2, by rw [j1, tK 1 (by decide) (by decide) (by decide) (by decide)]; exact c3, fun z => ?_⟩
    · rw [j1, j2, en, eo]
      have q1 : sm (fun i => cT T i) (nLc S) = sm (fun i => cT S i - shr S o i) (nLc S) := sm_congr (fun i hi => tc1 i hi)
      have q2 := sm_sub (fun i => cT S i) (fun i => shr S o i) (nLc S)
      have g4 : ∀ o', gD T o' = gD S o' := fun o' => congrArg Int64.toInt (nJ 4 (by decide) (by decide) o')
      have q3 := sm_upd (f := fun o => eT S o + gD S o) (g := fun o' => eT T o' + gD T o') ho (fun o' _ hne => by
        have e5 : eT T o' = eT S o' := congrArg Int64.toInt (tJ 5 o' (by decide) (fun z => hne z.2))
        show eT T o' + gD T o' = eT S o' + gD S o'
        rw [e5, g4])
      have q3 : sm (fun o' => eT T o' + gD T o') (nOc S) = sm (fun o => eT S o + gD S o) (nOc S) + (eT T o + gD T o - (eT S o + gD S o)) := q3
      rw [te1, g4] at q3
      omega
    · rw [j2] at z
      obtain ⟨o', a1, a2, a3⟩ := c4 z
      refine ⟨o', by rw [eo]; exact a1, ?_, by rw [tr]; exact a3⟩
      unfold isDn
      rw [tK 63 (by decide) (by decide) (by decide) (by decide)]; exact a2
  · intro i hi hv
    rw [en] at hi
    have hb : barred T i = barred S i := by
      unfold barred
      rw [show nsM T 14 0 i = nsM S 14 0 i from nsM_fr (nJ (2 * 14) (by decide) (by decide)) (nJ (2 * 14 + 1) (by decide) (by decide)) 0 i, show nsLo T 8 i = nsLo S 8 i from nJ (2 * 8) (by decide) (by decide) i, show nsHi T 8 i = nsHi S 8 i from nJ (2 * 8 + 1) (by decide) (by decide) i, show nsLo T 14 0 = nsLo S 14 0 from nJ (2 * 14) (by decide) (by decide) 0, show nsHi T 14 0 = nsHi S 14 0 from nJ (2 * 14 + 1) (by decide) (by decide) 0]
    rw [hb]
    refine hH i hi ?_
    have b1 := (bd i hi).1
    have := tv1 i hi
    omega
