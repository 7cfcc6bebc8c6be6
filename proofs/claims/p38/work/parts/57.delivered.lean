/-! PURE: delivering keeps Inv -/
theorem DlP.init {S : St} {o : Nat} (hI : Inv0 S 1000) (ho : o < nOc S) (hd : ¬ sI S 53 o = 100) : DlP S o (sI S 50 o) S := by
  obtain ⟨hW, hP, hB, hQ, hV, hO, hJ, hD, hM, hTr, hHd, hC, hN⟩ := hI
  have k := hD.1 o ho
  have k2 := k.2.1 hd
  have h50 := (hO o ho).2.2.2.1
  refine ⟨⟨rfl, rfl, rfl⟩, fun _ _ _ _ _ => rfl, fun _ _ _ _ _ => rfl, fun i hi => ?_, ⟨by omega, Int.le_refl _, ?_⟩, by omega, ⟨?_, k.1⟩, fun j hj hm => ?_, fun z => absurd z (Int.lt_irrefl _)⟩
  · obtain ⟨⟨b1, b2, b3, b4⟩, b5, b6⟩ := hB i hi
    exact ⟨rfl, b2, Int.le_refl _, b5, Int.le_refl _, b6⟩
  · rw [k2.2.1]
    show (0 : Int) = _
    omega
  · rw [k2.1]; omega
  · rw [k2.2.2 j hj] at hm; exact absurd hm (by decide)
theorem td_all {S : St} {o : Nat} (hI : Inv S) (ho : o < nOc S) (hd : ¬ sI S 53 o = 100) (hq : sI S 50 o ≤ fpo S (sN S 7 o)) : DlP S o 0 (tdS S o) := by
  have h0 := DlP.init hI.1 ho hd
  obtain ⟨k1, k2, k3, k4, k5⟩ := hI.1.cost
  have hI0 := hI.1
  obtain ⟨hW, hP, hB, hQ, hV, hO, hJ, hD, hM, hTr, hHd, hC, hN⟩ := hI0
  have hL : nLc S ≤ 90 := hW.nL
  have hcs : sm (fun i => cT S i) (nLc S) ≤ 29970000 := by
    have c1 := hC.1
    have c2 := hC.2.1
    have c3 : 0 ≤ sm (fun o => eT S o + gD S o) (nOc S) := sm_nonneg (f := fun o => eT S o + gD S o) (fun o ho => by
      have h1 := (hJ o ho).2.2.2.2.2.2.2.2.1
      have h2 := (hD.1 o ho).1
      omega)
    omega
  have hq' : (sI S 50 o).toInt ≤ sm (fS S (sN S 7 o) 0) (nLc S) := by
    rw [← fpo_sm hB hQ hO hL]
    exact i32_le.mp hq
  have fin : ∀ (w0 : Int32) (U0 : St) (x0 : IJP × Int32), DlP S o w0 U0 → w0.toInt ≤ sm (fS U0 (sN S 7 o) 0) (nLc S) → sM S x0.1 = U0 → x0.2 = w0 → DlP S o 0 (sM S (it (td1 S o) 90 x0).1) := fun w0 U0 x0 a b c d => by
    obtain ⟨e1, e2⟩ := td_spec hB hQ hO hTr hL ho k1 hcs a b c d 90
    have z : sm (fS (sM S (it (td1 S o) 90 x0).1) (sN S 7 o) 90) (nLc S) = 0 := sm_zero (fun i hi => by
      unfold fS
      rw [if_pos (show i < 90 by omega)])
    rw [z] at e2
    have e3 := e1.2.2.2.2.1.1
    have e4 : (it (td1 S o) 90 x0).2 = 0 := i32_ext (by show _ = (0 : Int); omega)
    rw [e4] at e1; exact e1
  show DlP S o 0 (sM S (tdL S o 90).1)
  unfold tdL td0
  cases e : sR S 4 o with
  | none => exact fin _ S _ h0 hq' rfl rfl
  | some i =>
    have hi : i < nLc S := hW.jlot ho e
    obtain ⟨a1, a2, a3, a4⟩ := do_step hB hQ hO hTr hL ho k1 hcs h0 hi
    refine fin _ (doS S i o (sI S 50 o)) _ a1 ?_ (sM_sA a1.1.1 a1.1.2.1) rfl
    rw [a3]
    have dn : sN (doS S i o (sI S 50 o)) = sN S := a1.1.1
    have q : sm (fS (doS S i o (sI S 50 o)) (sN S 7 o) 0) (nLc S) = sm (fS S (sN S 7 o) 0) (nLc S) + (fS (doS S i o (sI S 50 o)) (sN S 7 o) 0 i - fS S (sN S 7 o) 0 i) := sm_upd (f := fS S (sN S 7 o) 0) (g := fS (doS S i o (sI S 50 o)) (sN S 7 o) 0) hi (fun j hj ne => by
      rw [fS_N dn, a2 j ne]; rfl)
    have y1 : fS (doS S i o (sI S 50 o)) (sN S 7 o) 0 i = if sN S 6 i = sN S 7 o then fT (doS S i o (sI S 50 o)) i else 0 := by rw [fS_N dn, if_neg (Nat.not_lt_zero i)]
    have y2 : fS S (sN S 7 o) 0 i = if sN S 6 i = sN S 7 o then fT S i else 0 := by unfold fS; rw [if_neg (Nat.not_lt_zero i)]
    rw [q, y1, y2, a4]
    have f0 := (h0.free hB hQ hO hi).2.1
    have w0 := h0.2.2.2.2.1.1
    split <;> split <;> omega
theorem Inv.deliver {S : St} (hI : Inv S) {o : Nat} (ho : o < nOc S) (hd : ¬ sI S 53 o = 100) (hf : ¬ sI S 20 (sN S 7 o) = 0 → sI S 53 o = 102) : (dlR S o = false ∧ dlS S o = S) ∨ (dlR S o = true ∧ Inv (dlS S o) ∧ Keep S (dlS S o) ∧ sI (dlS S o) 53 o = 100) := by
  unfold dlR dlS
  by_cases hq : sI S 50 o ≤ fpo S (sN S 7 o)
  · refine Or.inr ?_
    rw [if_pos hq, if_pos hq]
    refine ⟨rfl, ?_⟩
    have hU := td_all hI ho hd hq
    generalize tdS S o = U at hU ⊢
    obtain ⟨⟨hW, hP, hB, hQ, hV, hO, hJ, hD, hM, hTr, hHd, hC, hN⟩, hH⟩ := hI
    obtain ⟨⟨g1, g2, g3⟩, g4, g5, g6, g7, g8, ⟨g9, g9'⟩, g10, g11⟩ := hU
    have hUL : nLc U = nLc S := congrFun (congrFun g1 2) 0
    have o128 : o < 128 := Nat.lt_of_lt_of_le ho (Nat.le_trans hW.nO (by decide))
    obtain ⟨n1, n2, n3, n4⟩ := no_spec (U := U) (o := o) (by rw [hUL]; exact hW.nL) o128 90
    have hst : (sI S 53 o = 45 ∧ sI S 20 (sN S 7 o) = 0) ∨ (sI S 53 o = 102 ∧ ¬ sI S 20 (sN S 7 o) = 0) := by
      by_cases z : sI S 20 (sN S 7 o) = 0
      · rcases (hO o ho).2.2.2.2 z with y | y
        · exact Or.inl ⟨y, z⟩
        · exact absurd y hd
      · exact Or.inr ⟨hf z, z⟩
    have h50 := (hO o ho).2.2.2.1
    have en0 : sN (uI (uI (noS U o) 53 o 100) 54 o (sI (noS U o) 2 0)) = sN U := rfl
    have er0 : sR (uI (uI (noS U o) 53 o 100) 54 o (sI (noS U o) 2 0)) = sR U := rfl
    have ep0 : sP (uI (uI (noS U o) 53 o 100) 54 o (sI (noS U o) 2 0)) = sP U := n2
    have t53 : sI (uI (uI (noS U o) 53 o 100) 54 o (sI (noS U o) 2 0)) 53 o = 100 := by simp [sI, up2]
    have tI : ∀ k i, k ≠ 54 → ¬ (k = 53 ∧ i = o) → sI (uI (uI (noS U o) 53 o 100) 54 o (sI (noS U o) 2 0)) k i = sI U k i := fun k i a b => by
      show up2 (up2 (sI (noS U o)) 53 o 100) 54 o (sI (noS U o) 2 0) k i = _
      rw [up2_nk _ _ a, up2_ne _ _ b]
      exact congrFun (congrFun n1 k) i
    have tJ : ∀ k i, k ≠ 20 → k ≠ 21 → sJ (uI (uI (noS U o) 53 o 100) 54 o (sI (noS U o) 2 0)) k i = sJ U k i := n3
    have tM : ∀ j m, m < 128 → nsM (uI (uI (noS U o) 53 o 100) 54 o (sI (noS U o) 2 0)) 10 j m = (nsM U 10 j m || (decide (j < 90 ∧ j < nLc U) && nsM U 13 o j && decide (m = o))) := n4
    have tn : sN (uI (uI (noS U o) 53 o 100) 54 o (sI (noS U o) 2 0)) = sN S := en0.trans g1
    have tr : sR (uI (uI (noS U o) 53 o 100) 54 o (sI (noS U o) 2 0)) = sR S := er0.trans g2
    have tp : sP (uI (uI (noS U o) 53 o 100) 54 o (sI (noS U o) 2 0)) = sP S := ep0.trans g3
    generalize uI (uI (noS U o) 53 o 100) 54 o (sI (noS U o) 2 0) = T at t53 tI tJ tM tn tr tp ⊢
    have en : nLc T = nLc S := congrFun (congrFun tn 2) 0
    have eo : nOc T = nOc S := congrFun (congrFun tn 3) 0
    have tK : ∀ k, k ≠ 54 ∧ k ≠ 53 ∧ k ≠ 41 ∧ k ≠ 43 ∧ k ≠ 55 → ∀ i, sI T k i = sI S k i := fun k h i => (tI k i h.1 (fun z => h.2.1 z.1)).trans (g4 k i h.2.2.1 h.2.2.2.1 (fun z => h.2.2.2.2 z.1))
    have t53n : ∀ i, i ≠ o → sI T 53 i = sI S 53 i := fun i e => (tI 53 i (by decide) (fun z => e z.2)).trans (g4 53 i (by decide) (by decide) (by simp))
    have t41 : ∀ i, rT T i = rT U i := fun i => congrArg Int32.toInt (tI 41 i (by decide) (by simp))
    have t43 : ∀ i, dT T i = dT U i := fun i => congrArg Int32.toInt (tI 43 i (by decide) (by simp))
    have t42 : ∀ i, vT T i = vT S i := fun i => congrArg Int32.toInt (tK 42 (by decide) i)
    have t40 : ∀ i, qT T i = qT S i := fun i => congrArg Int32.toInt (tK 40 (by decide) i)
    have t3 : ∀ i, cT T i = cT U i := fun i => congrArg Int64.toInt (tJ 3 i (by decide) (by decide))
    have t4 : gD T o = gD U o := congrArg Int64.toInt (tJ 4 o (by decide) (by decide))
    have t4n : ∀ i, i ≠ o → sJ T 4 i = sJ S 4 i := fun i e => (tJ 4 i (by decide) (by decide)).trans (g5 4 i (by decide) (fun z => e z.2) (by simp))
    have tJk : ∀ k, k ≠ 20 ∧ k ≠ 21 ∧ k ≠ 3 ∧ k ≠ 4 ∧ k ≠ 26 ∧ k ≠ 27 → ∀ i, sJ T k i = sJ S k i := fun k h i => (tJ k i h.1 h.2.1).trans (g5 k i h.2.2.1 (fun z => h.2.2.2.1 z.1) (fun z => z.1.elim h.2.2.2.2.1 h.2.2.2.2.2))
    have t55 : (sI T 55 o).toInt = (sI S 50 o).toInt := by
      rw [tI 55 o (by decide) (by simp), g7.2.2]
      show _ - (0 : Int) = _
      omega
    have t55n : ∀ i, i ≠ o → sI T 55 i = sI S 55 i := fun i e => (tI 55 i (by decide) (by simp)).trans (g4 55 i (by decide) (by decide) (fun z => e z.2))
    have pp : ∀ k i, sP T k i = sP S k i := fun k i => by rw [tp]
    have rr : ∀ k i, sR T k i = sR S k i := fun k i => by rw [tr]
    have s112 : ¬ sI S 53 o = 112 := by rcases hst with ⟨z, -⟩ | ⟨z, -⟩ <;> (rw [z]; decide)
    have fc : ∀ c : Int32, c ≠ 100 → c ≠ 45 → c ≠ 102 → ∀ i, sI T 53 i = c ↔ sI S 53 i = c := fun c a b d i => by
      by_cases e : i = o
      · rw [e, t53]
        refine ⟨fun z => absurd z.symm a, fun z => ?_⟩
        rcases hst with ⟨y, -⟩ | ⟨y, -⟩
        · rw [y] at z; exact absurd z.symm b
        · rw [y] at z; exact absurd z.symm d
      · rw [t53n i e]
    have m8 : ∀ k, k = 8 ∨ k = 9 ∨ k = 14 → ∀ i j, nsM T k i j = nsM S k i j := fun k hk i j => nsM_fr (tJk (2 * k) (by omega)) (tJk (2 * k + 1) (by omega)) i j
    have m13 : ∀ i j, nsM T 13 i j = nsM U 13 i j := fun i j => nsM_fr (fun i => tJ (2 * 13) i (by decide) (by decide)) (fun i => tJ (2 * 13 + 1) i (by decide) (by decide)) i j
    have m13n : ∀ i, i ≠ o → ∀ j, nsM T 13 i j = nsM S 13 i j := fun i e j => by
      rw [m13]
      show nsb (sJ U 26 i) (sJ U 27 i) j = nsb (sJ S 26 i) (sJ S 27 i) j
      rw [g5 26 i (by decide) (by simp) (fun z => e z.2), g5 27 i (by decide) (by simp) (fun z => e z.2)]
    have m10 : ∀ i j, i < nLc S → j < 128 → (nsM T 10 i j = true ↔ nsM S 10 i j = true ∨ nsM U 13 o i = true ∧ j = o) := fun i j hi hj => by
      have hL9 : nLc S ≤ 90 := hW.nL
      rw [tM i j hj, hUL, decide_eq_true (show i < 90 ∧ i < nLc S from ⟨by omega, hi⟩), Bool.true_and, Bool.or_eq_true, Bool.and_eq_true, decide_eq_true_iff, show nsM U 10 i j = nsM S 10 i j from nsM_fr (fun i => g5 (2 * 10) i (by decide) (by simp) (by simp)) (fun i => g5 (2 * 10 + 1) i (by decide) (by simp) (by simp)) i j]
    have hDo := hD.1 o ho
    have hDo2 := hDo.2.1 hd
    have ex := g11 (by show (0 : Int) < _; omega)
    refine ⟨⟨⟨hW.fr tn tr, hP.fr tn (tK 30 (by decide)) (tK 20 (by decide)), ?_, ?_, hV.fr tn (tK 42 (by decide)) (fc 112 (by decide) (by decide) (by decide)) pp, ?_, ?_, ?_, hM.fr tn (rr 1) (tK 2 (by decide) 0) (tK 10 (by decide)) (tK 14 (by decide)) (tK 17 (by decide)) (tK 19 (by decide)) (fc 111 (by decide) (by decide) (by decide)), ?_, hHd.fr (by rw [tn]; exact Nat.le_refl _) (m8 14 (by decide) 0), ?_, hN.fr tn (rr 4) (tK 1 (by decide) 0) (tK 2 (by decide) 0)⟩, hH.fr tn (tK 42 (by decide)) (fun k hk i => ⟨tJk (2 * k) (by omega) i, tJk (2 * k + 1) (by omega) i⟩)⟩, ⟨eo, congrFun (congrFun tn 0) 0, tK 1 (by decide) 0, tK 2 (by decide) 0, tJk 1 (by decide) 0⟩, t53⟩
    · intro i hi
      rw [en] at hi
      obtain ⟨⟨b1, b2, b3, b4⟩, b5, b6⟩ := hB i hi
      obtain ⟨c1, c2, c3, c4, c5, c6⟩ := g6 i hi
      rw [t42, t41, t43, t40, t3]
      exact ⟨⟨b1, c2, by omega, b4⟩, c4, c6⟩
    · intro i hi
      rw [en] at hi
      obtain ⟨c1, -⟩ := g6 i hi
      rw [t40, t41, t43, eo, hQ i hi]
      have q : sm (fun o => pK T o i) (nOc S) = sm (fun o => pK S o i) (nOc S) := sm_congr (fun o' _ => by
        show pK T o' i = pK S o' i
        unfold pK pT
        rw [tp]
        simp only [fc 112 (by decide) (by decide) (by decide) o'])
      rw [q]; omega
    · intro o' ho'
      rw [eo] at ho'
      have k := hO o' ho'
      rw [en, tK 50 (by decide), tK 20 (by decide), tn, tp]
      by_cases e : o' = o
      · subst e
        rw [t53]
        refine ⟨Or.inr (Or.inr (Or.inr (Or.inr (Or.inr rfl)))), fun i => ?_, fun z => absurd z (by decide), k.2.2.2.1, fun _ => Or.inr rfl⟩
        show 0 ≤ (sP T o' i).toInt ∧ (0 < (sP T o' i).toInt → _)
        rw [tp]; exact k.2.1 i
      · rw [t53n o' e]
        refine ⟨k.1, fun i => ?_, k.2.2⟩
        show 0 ≤ (sP T o' i).toInt ∧ (0 < (sP T o' i).toInt → _)
        rw [tp]; exact k.2.1 i
    · intro o' ho'
      rw [eo] at ho'
      have k := hJ o' ho'
      unfold inWk isDn eT
      rw [en, tK 50 (by decide), tK 20 (by decide), tK 60 (by decide), tK 61 (by decide), tK 63 (by decide), tn, tJk 5 (by decide), tr]
      simp only [tK 40 (by decide)]
      by_cases e : o' = o
      · subst e
        have nw : ¬ inWk S o' := fun z => by
          rcases hst with ⟨y, -⟩ | ⟨y, -⟩ <;> (rcases z with z | z <;> (rw [y] at z; exact absurd z (by decide)))
        have n119 : ¬ sI S 53 o' = 119 := fun z => nw (Or.inl z)
        have hne : o' ≠ 1000 := by have := hW.nO; have ho : o' < sN S 3 0 := ho; omega
        have w3 := k.2.2.2.1 hne
        rw [t53]
        refine ⟨k.1, fun z => ?_, fun _ z => k.2.2.1 nw z, fun _ => ⟨fun z => absurd z (by decide), fun z => absurd (w3.mpr z) n119⟩, ⟨fun z => ?_, fun z => ?_⟩, k.2.2.2.2.2.1, k.2.2.2.2.2.2.1, k.2.2.2.2.2.2.2.1, k.2.2.2.2.2.2.2.2.1, fun _ => k.2.2.2.2.2.2.2.2.2 nw⟩
        · rcases z with z | z
          · rcases z with z | z <;> exact absurd z (by decide)
          · exact k.2.1 (Or.inr z)
        · rcases k.2.2.2.2.1.mp z with y | y
          · rcases hst with ⟨x, -⟩ | ⟨-, x⟩
            · rw [x] at y; exact absurd y (by decide)
            · exact Or.inr ⟨rfl, x⟩
          · exact absurd y.1 hd
        · rcases z with y | y
          · exact absurd y (by decide)
          · rcases hst with ⟨-, x⟩ | ⟨x, -⟩
            · exact absurd x y.2
            · exact k.2.2.2.2.1.mpr (Or.inl x)
      · rw [t53n o' e]; exact k
    · refine ⟨fun o' ho' => ?_, ?_⟩
      · rw [eo] at ho'
        have k := hD.1 o' ho'
        by_cases e : o' = o
        · subst e
          rw [t4, t53]
          refine ⟨g9', fun z => absurd rfl z, fun _ => ⟨i32_ext (by rw [t55, tK 50 (by decide)]), ?_⟩⟩
          obtain ⟨j, a, b⟩ := ex
          exact ⟨j, a, by rw [m13]; exact b⟩
        · unfold gD
          rw [t53n o' e, t4n o' e, t55n o' e, tK 50 (by decide)]
          simp only [m13n o' e]
          exact k
      · rw [eo, en]
        have q1 : sm (fun o => (sI T 55 o).toInt) (nOc S) = sm (fun o => (sI S 55 o).toInt) (nOc S) + ((sI T 55 o).toInt - (sI S 55 o).toInt) := sm_upd (f := fun o => (sI S 55 o).toInt) (g := fun o => (sI T 55 o).toInt) ho (fun o' _ e => by rw [t55n o' e])
        have q2 : sm (fun i => dT T i) (nLc S) = sm (fun i => dT U i) (nLc S) := sm_congr (fun i _ => t43 i)
        rw [hDo2.2.1, t55] at q1
        have q1 : sm (fun o => (sI T 55 o).toInt) (nOc S) = sm (fun o => (sI S 55 o).toInt) (nOc S) + ((sI S 50 o).toInt - 0) := q1
        have q3 := hD.2
        have g8 : sm (fun i => dT U i) (nLc S) = sm (fun i => dT S i) (nLc S) + ((sI S 50 o).toInt - 0) := g8
        omega
    · refine ⟨fun i hi => ?_, fun o' ho' j hj hm => ?_⟩
      · rw [en] at hi
        rw [en, eo, tn]
        obtain ⟨k1, k2, k3⟩ := hTr.1 i hi
        simp only [m8 8 (by decide), m8 9 (by decide)]
        refine ⟨k1, k2, fun o' ho' => ?_⟩
        rw [m10 i o' hi ho', k3 o' ho']
        by_cases e : o' = o
        · subst e
          have i128 : i < 128 := Nat.lt_of_lt_of_le hi (Nat.le_trans hW.nL (by decide))
          rw [hDo2.2.2 i i128, m13]
          exact ⟨fun z => z.elim (fun z => absurd z.2 (by decide)) (fun z => ⟨ho, z.1⟩), fun z => Or.inr ⟨z.2, rfl⟩⟩
        · rw [m13n o' e]
          exact ⟨fun z => z.elim id (fun z => absurd z.2 e), Or.inl⟩
      · rw [eo] at ho'
        rw [en]
        simp only [m8 8 (by decide)]
        by_cases e : o' = o
        · subst e
          rw [m13] at hm
          obtain ⟨a, b⟩ := g10 j hj hm
          exact ⟨a, fun k hk hkm => by rw [m13]; exact b k hk hkm⟩
        · rw [m13n o' e] at hm
          obtain ⟨a, b⟩ := hTr.2 o' ho' j hj hm
          exact ⟨a, fun k hk hkm => by rw [m13n o' e]; exact b k hk hkm⟩
    · obtain ⟨c1, c2, c3, c4⟩ := hC
      refine ⟨?_, by rw [tJk 2 (by decide)]; exact c2, by rw [tJk 1 (by decide), tK 1 (by decide)]; exact c3, fun z => ?_⟩
      · rw [en, eo, tJk 2 (by decide), tJk 1 (by decide)]
        have q1 : sm (fun i => cT T i) (nLc S) = sm (fun i => cT U i) (nLc S) := sm_congr (fun i _ => t3 i)
        have e5 : ∀ o', eT T o' = eT S o' := fun o' => congrArg Int64.toInt (tJk 5 (by decide) o')
        have q2 : sm (fun o => eT T o + gD T o) (nOc S) = sm (fun o => eT S o + gD S o) (nOc S) + (eT T o + gD T o - (eT S o + gD S o)) := sm_upd (f := fun o => eT S o + gD S o) (g := fun o => eT T o + gD T o) ho (fun o' _ e => by
          show eT T o' + gD T o' = eT S o' + gD S o'
          rw [e5, show gD T o' = gD S o' from congrArg Int64.toInt (t4n o' e)])
        rw [e5, t4, hDo2.1] at q2
        omega
      · rw [tJk 2 (by decide)] at z
        obtain ⟨o', a1, a2, a3⟩ := c4 z
        refine ⟨o', by rw [eo]; exact a1, ?_, by rw [tr]; exact a3⟩
        unfold isDn
        rw [tK 63 (by decide)]; exact a2
  · rw [if_neg hq, if_neg hq]; exact Or.inl ⟨rfl, rfl⟩
