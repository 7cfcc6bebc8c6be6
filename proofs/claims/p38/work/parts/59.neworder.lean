/-! PURE: a new order keeps Inv -/
section NO
variable {S : St} {p : Nat} {qy op du : Int32}
theorem no_I {k i : Nat} (h : i ≠ sN S 3 0) : sI (nwOS S p qy op du) k i = sI S k i := by simp [nwOS, sI, up2, show ¬ i = S.1 3 0 from h]
theorem no_Ik {k i : Nat} (h : k ≠ 50 ∧ k ≠ 51 ∧ k ≠ 52 ∧ k ≠ 53 ∧ k ≠ 54 ∧ k ≠ 55 ∧ k ≠ 60 ∧ k ≠ 61 ∧ k ≠ 62 ∧ k ≠ 63) : sI (nwOS S p qy op du) k i = sI S k i := by
  obtain ⟨a, b, c, d, e, f, g, h1, h2, h3⟩ := h
  simp [nwOS, sI, up2, a, b, c, d, e, f, g, h1, h2, h3]
theorem no_J {k i : Nat} (h : i ≠ sN S 3 0) : sJ (nwOS S p qy op du) k i = sJ S k i := by simp [nwOS, sJ, up2, show ¬ i = S.1 3 0 from h]
theorem no_Jk {k i : Nat} (h : k ≠ 4 ∧ k ≠ 5 ∧ k ≠ 26 ∧ k ≠ 27) : sJ (nwOS S p qy op du) k i = sJ S k i := by
  obtain ⟨a, b, c, d⟩ := h
  simp [nwOS, sJ, up2, a, b, c, d]
theorem no_R {k i : Nat} (h : i ≠ sN S 3 0) : sR (nwOS S p qy op du) k i = sR S k i := by simp [nwOS, sR, up2, show ¬ i = S.1 3 0 from h]
theorem no_Rk {k i : Nat} (h : k ≠ 3 ∧ k ≠ 4) : sR (nwOS S p qy op du) k i = sR S k i := by simp [nwOS, sR, up2, h.1, h.2]
theorem no_P {o i : Nat} (h : o ≠ sN S 3 0) : sP (nwOS S p qy op du) o i = sP S o i := by simp [nwOS, sP, show ¬ o = S.1 3 0 from h]
theorem no_Pn {i : Nat} : sP (nwOS S p qy op du) (sN S 3 0) i = 0 := by simp [nwOS, sP]
theorem no_N {k i : Nat} (h : k ≠ 3 ∧ k ≠ 7) : sN (nwOS S p qy op du) k i = sN S k i := by simp [nwOS, sN, up2, h.1, h.2]
theorem no_N7 {i : Nat} (h : i ≠ sN S 3 0) : sN (nwOS S p qy op du) 7 i = sN S 7 i := by simp [nwOS, sN, up2, show ¬ i = S.1 3 0 from h]
theorem no_nO : nOc (nwOS S p qy op du) = nOc S + 1 := by simp [nwOS, sN, nOc, up2]
theorem no_nL : nLc (nwOS S p qy op du) = nLc S := no_N (by decide)
theorem no_new : sI (nwOS S p qy op du) 50 (sN S 3 0) = qy ∧ sI (nwOS S p qy op du) 53 (sN S 3 0) = 45 ∧ sI (nwOS S p qy op du) 55 (sN S 3 0) = 0 ∧ sI (nwOS S p qy op du) 60 (sN S 3 0) = 0 ∧ sI (nwOS S p qy op du) 61 (sN S 3 0) = 0 ∧ sI (nwOS S p qy op du) 63 (sN S 3 0) = -1 ∧ sJ (nwOS S p qy op du) 4 (sN S 3 0) = 0 ∧ sJ (nwOS S p qy op du) 5 (sN S 3 0) = 0 ∧ sJ (nwOS S p qy op du) 26 (sN S 3 0) = 0 ∧ sJ (nwOS S p qy op du) 27 (sN S 3 0) = 0 ∧ sR (nwOS S p qy op du) 3 (sN S 3 0) = none ∧ sR (nwOS S p qy op du) 4 (sN S 3 0) = none ∧ sN (nwOS S p qy op du) 7 (sN S 3 0) = p := by
  simp [nwOS, sI, sJ, sR, sN, up2]
theorem no_M {k i : Nat} (h : k ≠ 2 ∧ k ≠ 13) (j : Nat) : nsM (nwOS S p qy op du) k i j = nsM S k i j := by
  show nsb (sJ (nwOS S p qy op du) (2 * k) i) (sJ (nwOS S p qy op du) (2 * k + 1) i) j = _
  rw [no_Jk (by omega), no_Jk (by omega)]
theorem no_M13 {i : Nat} (h : i ≠ sN S 3 0) (j : Nat) : nsM (nwOS S p qy op du) 13 i j = nsM S 13 i j := by
  show nsb (sJ (nwOS S p qy op du) (2 * 13) i) (sJ (nwOS S p qy op du) (2 * 13 + 1) i) j = _
  rw [no_J h, no_J h]
theorem no_M13n (j : Nat) : nsM (nwOS S p qy op du) 13 (sN S 3 0) j = false := by
  show nsb (sJ (nwOS S p qy op du) 26 (sN S 3 0)) (sJ (nwOS S p qy op du) 27 (sN S 3 0)) j = false
  obtain ⟨-, -, -, -, -, -, -, -, a, b, -⟩ := no_new (S := S) (p := p) (qy := qy) (op := op) (du := du)
  rw [a, b]
  unfold nsb
  split <;> exact lb_0 _
theorem WT.no (h : WT S) (hp : p < sN S 1 0) (hn : sN S 3 0 < 30) : WT (nwOS S p qy op du) := by
  have iN : ∀ k, k ≠ 3 ∧ k ≠ 7 → ∀ i, sN (nwOS S p qy op du) k i = sN S k i := fun k h i => no_N h
  have iN7 : ∀ i, i ≠ sN S 3 0 → sN (nwOS S p qy op du) 7 i = sN S 7 i := fun i h => no_N7 h
  have iR : ∀ k i, i ≠ sN S 3 0 → sR (nwOS S p qy op du) k i = sR S k i := fun k i h => no_R h
  have iRk : ∀ k, k ≠ 3 ∧ k ≠ 4 → ∀ i, sR (nwOS S p qy op du) k i = sR S k i := fun k h i => no_Rk h
  have eo : sN (nwOS S p qy op du) 3 0 = sN S 3 0 + 1 := no_nO
  obtain ⟨-, -, -, -, -, -, -, -, -, -, w3, w4, v7⟩ := no_new (S := S) (p := p) (qy := qy) (op := op) (du := du)
  have hV : ∀ q, (V (nwOS S p qy op du) 4 q → V S 4 q) ∧ (V (nwOS S p qy op du) 5 q → V S 5 q) := fun q => by
    unfold V
    rw [iN 1 (by decide), iN 4 (by decide), iN 5 (by decide)]
    exact ⟨id, id⟩
  generalize nwOS S p qy op du = T at *
  refine ⟨fun i hi => ?_, fun o ho => ?_, fun q hq => ?_, fun q hq => ?_, fun q a hq ha => ?_, fun i o hi ha => ?_, fun o i ho ha => ?_, fun o i ho ha => ?_, ?_, ?_, ?_, ?_, fun z hz => ?_, fun z hz => ?_⟩
  · rw [iN 2 (by decide)] at hi
    rw [iN 6 (by decide), iN 1 (by decide)]; exact h.lotPart hi
  · rw [eo] at ho
    rw [iN 1 (by decide)]
    by_cases e : o = sN S 3 0
    · rw [e, v7]; exact hp
    · rw [iN7 o e]; exact h.ordPart (by omega)
  · rw [iN 8 (by decide), iN 1 (by decide)]; exact h.compPart ((hV q).1 hq)
  · rw [iN 9 (by decide), iN 0 (by decide)]; exact h.opMach ((hV q).2 hq)
  · rw [iRk 2 (by decide)] at ha
    rw [iN 0 (by decide)]; exact h.alt ((hV q).2 hq) ha
  · rw [iN 0 (by decide)] at hi
    rw [iRk 1 (by decide)] at ha
    have := h.doing hi ha
    omega
  · rw [eo] at ho
    rw [iN 0 (by decide)]
    by_cases e : o = sN S 3 0
    · rw [e, w3] at ha; exact absurd ha (by simp)
    · rw [iR 3 o e] at ha; exact h.waits (by omega) ha
  · rw [eo] at ho
    rw [iN 2 (by decide)]
    by_cases e : o = sN S 3 0
    · rw [e, w4] at ha; exact absurd ha (by simp)
    · rw [iR 4 o e] at ha; exact h.jlot (by omega) ha
  · rw [iN 0 (by decide)]; exact h.nM
  · rw [iN 1 (by decide)]; exact h.nP
  · rw [iN 2 (by decide)]; exact h.nL
  · omega
  · rw [iN 1 (by decide)] at hz
    rw [iN 4 (by decide)]; exact h.nC hz
  · rw [iN 1 (by decide)] at hz
    rw [iN 5 (by decide)]; exact h.nOp hz
theorem Inv.neworder (hI : Inv S) (hp : p < nPc S) (h1 : 1 ≤ qy.toInt) (h2 : qy.toInt ≤ 100) (hn : nOc S < 30) : Inv (nwOS S p qy op du) ∧ nOc (nwOS S p qy op du) = nOc S + 1 ∧ nMc (nwOS S p qy op du) = nMc S ∧ sI (nwOS S p qy op du) 1 0 = sI S 1 0 ∧ sI (nwOS S p qy op du) 2 0 = sI S 2 0 ∧ sJ (nwOS S p qy op du) 1 0 = sJ S 1 0 := by
  obtain ⟨⟨hW, hP, hB, hQ, hV, hO, hJ, hD, hM, hTr, hHd, hC, hN⟩, hH⟩ := hI
  have iI : ∀ k, k ≠ 50 ∧ k ≠ 51 ∧ k ≠ 52 ∧ k ≠ 53 ∧ k ≠ 54 ∧ k ≠ 55 ∧ k ≠ 60 ∧ k ≠ 61 ∧ k ≠ 62 ∧ k ≠ 63 → ∀ i, sI (nwOS S p qy op du) k i = sI S k i := fun k h i => no_Ik h
  have iIn : ∀ k i, i ≠ sN S 3 0 → sI (nwOS S p qy op du) k i = sI S k i := fun k i h => no_I h
  have iJ : ∀ k, k ≠ 4 ∧ k ≠ 5 ∧ k ≠ 26 ∧ k ≠ 27 → ∀ i, sJ (nwOS S p qy op du) k i = sJ S k i := fun k h i => no_Jk h
  have iJn : ∀ k i, i ≠ sN S 3 0 → sJ (nwOS S p qy op du) k i = sJ S k i := fun k i h => no_J h
  have iR : ∀ k i, i ≠ sN S 3 0 → sR (nwOS S p qy op du) k i = sR S k i := fun k i h => no_R h
  have iRk : ∀ k, k ≠ 3 ∧ k ≠ 4 → ∀ i, sR (nwOS S p qy op du) k i = sR S k i := fun k h i => no_Rk h
  have iP : ∀ o i, o ≠ sN S 3 0 → sP (nwOS S p qy op du) o i = sP S o i := fun o i h => no_P h
  have iPn : ∀ i, sP (nwOS S p qy op du) (sN S 3 0) i = 0 := fun i => no_Pn
  have iN : ∀ k, k ≠ 3 ∧ k ≠ 7 → ∀ i, sN (nwOS S p qy op du) k i = sN S k i := fun k h i => no_N h
  have iN7 : ∀ i, i ≠ sN S 3 0 → sN (nwOS S p qy op du) 7 i = sN S 7 i := fun i h => no_N7 h
  have eo : nOc (nwOS S p qy op du) = nOc S + 1 := no_nO
  have en : nLc (nwOS S p qy op du) = nLc S := no_nL
  have em : nMc (nwOS S p qy op du) = nMc S := no_N (by decide)
  have iM : ∀ k, k ≠ 2 ∧ k ≠ 13 → ∀ i j, nsM (nwOS S p qy op du) k i j = nsM S k i j := fun k h i j => no_M h j
  have iM13 : ∀ i, i ≠ sN S 3 0 → ∀ j, nsM (nwOS S p qy op du) 13 i j = nsM S 13 i j := fun i h j => no_M13 h j
  have iM13n : ∀ j, nsM (nwOS S p qy op du) 13 (sN S 3 0) j = false := fun j => no_M13n j
  obtain ⟨v50, v53, v55, v60, v61, v63, v4, v5, -, -, w3, w4, v7⟩ := no_new (S := S) (p := p) (qy := qy) (op := op) (du := du)
  have tW : WT (nwOS S p qy op du) := WT.no hW hp hn
  generalize nwOS S p qy op du = T at *
  have e3 : nOc S = sN S 3 0 := rfl
  have n0 : ∀ o, o < nOc S → o ≠ sN S 3 0 := fun o h => by omega
  have hT : ∀ o i, o < nOc S → pT T o i = pT S o i := fun o i h => by show (sP T o i).toInt = _; rw [iP o i (n0 o h)]
  have hTn : ∀ i, pT T (sN S 3 0) i = 0 := fun i => by show (sP T (sN S 3 0) i).toInt = 0; rw [iPn]; rfl
  have q41 : ∀ i, rT T i = rT S i := fun i => congrArg Int32.toInt (iI 41 (by decide) i)
  have q42 : ∀ i, vT T i = vT S i := fun i => congrArg Int32.toInt (iI 42 (by decide) i)
  have q43 : ∀ i, dT T i = dT S i := fun i => congrArg Int32.toInt (iI 43 (by decide) i)
  have q40 : ∀ i, qT T i = qT S i := fun i => congrArg Int32.toInt (iI 40 (by decide) i)
  have q3 : ∀ i, cT T i = cT S i := fun i => congrArg Int64.toInt (iJ 3 (by decide) i)
  refine ⟨⟨⟨tW, ⟨?_, (iN 1 (by decide) 0).trans hP.2.1, (iI 20 (by decide) 0).trans hP.2.2.1, (iI 20 (by decide) 1).trans hP.2.2.2⟩, ?_, ?_, ?_, ?_, ?_, ?_, ?_, ?_, ?_, ?_, ?_⟩, ?_⟩, eo, em, iI 1 (by decide) 0, iI 2 (by decide) 0, iJ 1 (by decide) 0⟩
  · intro q j hq hj
    have hq : q < nPc S := by have : nPc T = nPc S := iN 1 (by decide) 0; omega
    rw [iN 4 (by decide)] at hj
    rw [iN 8 (by decide), iI 30 (by decide)]
    exact hP.1 q j hq hj
  · intro i hi
    rw [en] at hi
    rw [q41, q42, q43, q40, q3]; exact hB i hi
  · intro i hi
    rw [en] at hi
    have z : pK T (nOc S) i = 0 := by unfold pK; rw [e3, v53, hTn]; rfl
    rw [q40, q41, q43, eo, sm_s, z, hQ i hi, sm_congr (f := fun o => pK T o i) (g := fun o => pK S o i) (fun o ho => by
      show pK T o i = pK S o i
      unfold pK
      rw [iIn 53 o (n0 o ho), hT o i ho])]
    omega
  · intro i hi
    rw [en] at hi
    have z : pR T (nOc S) i = 0 := by unfold pR; rw [e3, v53]; rfl
    rw [q42, eo, sm_s, z, hV i hi, sm_congr (f := fun o => pR T o i) (g := fun o => pR S o i) (fun o ho => by
      show pR T o i = pR S o i
      unfold pR
      rw [iIn 53 o (n0 o ho), hT o i ho])]
    omega
  · intro o ho
    rw [eo] at ho
    rw [en]
    by_cases e : o = sN S 3 0
    · subst e
      rw [v53, v50]
      refine ⟨Or.inl rfl, fun i => ?_, fun _ i => iPn i, ⟨h1, h2⟩, fun _ => Or.inl rfl⟩
      rw [hTn]; exact ⟨Int.le_refl _, fun z => absurd z (Int.lt_irrefl _)⟩
    · have ho' : o < nOc S := by omega
      have k := hO o ho'
      rw [iIn 53 o e, iIn 50 o e, iI 20 (by decide), iN7 o e]
      refine ⟨k.1, fun i => ?_, fun z i => (iP o i e).trans (k.2.2.1 z i), k.2.2.2⟩
      rw [hT o i ho', iN 6 (by decide)]; exact k.2.1 i
  · intro o ho
    rw [eo] at ho
    unfold inWk isDn eT
    rw [en]
    by_cases e : o = sN S 3 0
    · subst e
      rw [v53, v60, v61, v63, w3, w4, v5]
      refine ⟨⟨by decide, by decide⟩, fun z => ?_, fun _ _ => ⟨rfl, rfl⟩, fun _ => ⟨fun z => absurd z (by decide), fun z => absurd rfl z⟩, ⟨fun z => absurd rfl z, fun z => ?_⟩, fun z => absurd rfl z, fun i z => absurd z (by simp), fun z => absurd rfl z, by decide, fun _ => rfl⟩
      · rcases z with z | z
        · rcases z with z | z <;> exact absurd z (by decide)
        · exact absurd rfl z
      · rcases z with z | z
        · exact absurd z (by decide)
        · exact absurd z.1 (by decide)
    · have k := hJ o (by omega)
      rw [iIn 53 o e, iIn 50 o e, iIn 60 o e, iIn 61 o e, iIn 63 o e, iI 20 (by decide), iN7 o e, iR 3 o e, iR 4 o e, iJn 5 o e]
      simp only [iI 40 (by decide)]
      exact k
  · refine ⟨fun o ho => ?_, ?_⟩
    · rw [eo] at ho
      unfold gD
      by_cases e : o = sN S 3 0
      · subst e
        rw [v53, v55, v4]
        exact ⟨by decide, fun _ => ⟨rfl, rfl, fun j _ => iM13n j⟩, fun z => absurd z (by decide)⟩
      · have k := hD.1 o (by omega)
        rw [iIn 53 o e, iIn 55 o e, iIn 50 o e, iJn 4 o e]
        simp only [iM13 o e]
        exact k
    · rw [eo, en, sm_s, e3, v55]
      have a : sm (fun o => (sI T 55 o).toInt) (sN S 3 0) = sm (fun o => (sI S 55 o).toInt) (nOc S) := sm_congr (fun o ho => by rw [iIn 55 o (n0 o ho)])
      have b : sm (fun i => dT T i) (nLc S) = sm (fun i => dT S i) (nLc S) := sm_congr (fun i _ => q43 i)
      rw [a, b, hD.2]
      show _ + (0 : Int) = _
      omega
  · refine ⟨fun m hm => ?_, ?_⟩
    · rw [em] at hm ⊢
      have k := hM.1 m hm
      rw [iI 10 (by decide), iI 14 (by decide), iI 17 (by decide), iI 19 (by decide), iI 2 (by decide)]
      simp only [iRk 1 (by decide)]
      refine ⟨k.1, k.2.1, k.2.2.1, fun o z => ?_, k.2.2.2.2⟩
      have ho := hW.doing hm z
      rw [iIn 53 o (n0 o ho)]
      exact k.2.2.2.1 o z
    · rw [em, eo, sm_s, e3, v53]
      have a : sm (fun m => bZ (sI T 14 m == 111)) (nMc S) = sm (fun m => bZ (sI S 14 m == 111)) (nMc S) := sm_congr (fun m _ => by rw [iI 14 (by decide)])
      have b : sm (fun o => bZ (sI T 53 o == 111)) (sN S 3 0) = sm (fun o => bZ (sI S 53 o == 111)) (nOc S) := sm_congr (fun o ho => by rw [iIn 53 o (n0 o ho)])
      rw [a, b, hM.2]
      show _ = _ + (0 : Int)
      omega
  · refine ⟨fun i hi => ?_, fun o ho j hj hm => ?_⟩
    · rw [en] at hi
      rw [en, eo]
      simp only [iM 8 (by decide), iM 9 (by decide), iM 10 (by decide), iN 6 (by decide)]
      obtain ⟨k1, k2, k3⟩ := hTr.1 i hi
      refine ⟨k1, k2, fun o ho => ?_⟩
      rw [k3 o ho]
      by_cases e : o = sN S 3 0
      · subst e
        rw [iM13n]
        exact ⟨fun z => absurd z.1 (Nat.lt_irrefl _), fun z => absurd z.2 (by decide)⟩
      · rw [iM13 o e]
        exact ⟨fun z => ⟨by omega, z.2⟩, fun z => ⟨by omega, z.2⟩⟩
    · rw [eo] at ho
      rw [en]
      simp only [iM 8 (by decide)]
      by_cases e : o = sN S 3 0
      · subst e; rw [iM13n] at hm; exact absurd hm (by decide)
      · rw [iM13 o e] at hm
        simp only [iM13 o e]
        exact hTr.2 o (by omega) j hj hm
  · intro j hj hm
    rw [iM 14 (by decide)] at hm
    rw [en]; exact hHd j hj hm
  · obtain ⟨c1, c2, c3, c4⟩ := hC
    have a : sm (fun i => cT T i) (nLc S) = sm (fun i => cT S i) (nLc S) := sm_congr (fun i _ => q3 i)
    have b : sm (fun o => eT T o + gD T o) (nOc S) = sm (fun o => eT S o + gD S o) (nOc S) := sm_congr (fun o ho => by
      unfold eT gD
      rw [iJn 5 o (n0 o ho), iJn 4 o (n0 o ho)])
    have z : eT T (nOc S) + gD T (nOc S) = 0 := by
      unfold eT gD
      rw [e3, v5, v4]; rfl
    refine ⟨?_, by rw [iJ 2 (by decide)]; exact c2, by rw [iJ 1 (by decide), iI 1 (by decide)]; exact c3, fun y => ?_⟩
    · rw [en, eo, sm_s, a, b, z, iJ 2 (by decide), iJ 1 (by decide)]; omega
    · rw [iJ 2 (by decide)] at y
      obtain ⟨o', a1, a2, a3⟩ := c4 y
      refine ⟨o', by omega, ?_, (iR 4 o' (n0 o' a1)).trans a3⟩
      unfold isDn
      rw [iIn 63 o' (n0 o' a1)]; exact a2
  · obtain ⟨n1, n2, n3, n4, n5⟩ := hN
    refine ⟨by rw [iI 1 (by decide)]; exact n1, by rw [iI 1 (by decide)]; exact n2, ?_, by rw [iI 2 (by decide)]; exact n4, by rw [iI 2 (by decide)]; exact n5⟩
    have a : sm (fun o => bZ (sR T 4 o).isSome) (nOc S) = sm (fun o => bZ (sR S 4 o).isSome) (nOc S) := sm_congr (fun o ho => by rw [iR 4 o (n0 o ho)])
    have z : bZ (sR T 4 (nOc S)).isSome = 0 := by rw [e3, w4]; rfl
    rw [iI 1 (by decide), en, eo, sm_s, a, z, n3]
    omega
  · intro i hi hv
    rw [en] at hi
    rw [q42] at hv
    have eb : barred T i = barred S i := by
      unfold barred
      rw [iM 14 (by decide), show nsLo T 8 i = nsLo S 8 i from iJ (2 * 8) (by decide) i, show nsHi T 8 i = nsHi S 8 i from iJ (2 * 8 + 1) (by decide) i, show nsLo T 14 0 = nsLo S 14 0 from iJ (2 * 14) (by decide) 0, show nsHi T 14 0 = nsHi S 14 0 from iJ (2 * 14 + 1) (by decide) 0]
    rw [eb]; exact hH i hi hv
end NO
