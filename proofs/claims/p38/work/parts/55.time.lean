/-! PURE: time keeps Inv -/
def EwP (S : St) (m o : Nat) (E : St) : Prop := (∀ k, k ≠ 62 → k ≠ 19 → k ≠ 14 → k ≠ 16 → k ≠ 18 → ∀ i, sI E k i = sI S k i) ∧ sI E 19 m = sI S 19 m + (sI S 2 0 - sI S 17 m) ∧ (∀ i, i ≠ m → sI E 19 i = sI S 19 i) ∧ (sI E 14 m = 45 ∨ sI E 14 m = 98) ∧ (∀ i, i ≠ m → sI E 14 i = sI S 14 i) ∧ sR E 1 m = none ∧ (∀ k i, ¬ (k = 1 ∧ i = m) → sR E k i = sR S k i) ∧ (∀ k i, sJ E k i = sJ S k i) ∧ sN E = sN S ∧ sP E = sP S
theorem ewC_0 {S : St} {m : Nat} (h : sI S 10 m = 0) : ewC S m = 0 := by
  unfold ewC
  rw [h, show (0 : Int32).toInt64 = 0 from by decide, Int64.mul_zero]
theorem ew_spec {S : St} {m o : Nat} (h10 : sI S 10 m = 0) : EwP S m o (ewT S m o) := by
  have hz := ewC_0 h10
  unfold ewT
  rw [hz, Int64.add_zero, Int64.add_zero]
  have zJ : ∀ k i, up2 (up2 (sJ S) 1 0 (sJ S 1 0)) 5 o (sJ S 5 o) k i = sJ S k i := fun k i => by
    rw [up2_if, up2_if]
    by_cases a : k = 5 ∧ i = o
    · rw [if_pos a, a.1, a.2]
    · rw [if_neg a]
      by_cases b : k = 1 ∧ i = 0
      · rw [if_pos b, b.1, b.2]
      · rw [if_neg b]
  generalize hZ : uI (uJ (uJ S 1 0 (sJ S 1 0)) 5 o (sJ S 5 o)) 62 o (sI S 62 o + 1) = Z
  have zI : ∀ k i, k ≠ 62 → sI Z k i = sI S k i := fun k i a => by rw [← hZ]; exact up2_nk (sI S) _ a
  have zJ2 : ∀ k i, sJ Z k i = sJ S k i := fun k i => by rw [← hZ]; exact zJ k i
  have zN : sN Z = sN S := by rw [← hZ]
  have zR : sR Z = sR S := by rw [← hZ]
  have zP : sP Z = sP S := by rw [← hZ]
  have v19 : sI Z 19 m + (sI S 2 0 - sI Z 17 m) = sI S 19 m + (sI S 2 0 - sI S 17 m) := by rw [zI 19 m (by decide), zI 17 m (by decide)]
  have aI : ∀ k i, sI (meT Z m (sI S 60 o) (sI S 2 0)) k i = up2 (up2 (up2 (sI Z) 19 m (sI Z 19 m + (sI S 2 0 - sI Z 17 m))) 14 m 45) 16 m (sI Z 16 m + sI S 60 o) k i := fun _ _ => rfl
  have aR : ∀ k i, sR (meT Z m (sI S 60 o) (sI S 2 0)) k i = up2 (sR Z) 1 m none k i := fun _ _ => rfl
  unfold meS
  split
  · refine ⟨fun k h62 h19 h14 h16 h18 i => ?_, ?_, fun i e => ?_, Or.inl ?_, fun i e => ?_, ?_, fun k i e => ?_, zJ2, zN, zP⟩
    · show sI (meT Z m (sI S 60 o) (sI S 2 0)) k i = _
      rw [aI, up2_nk _ _ h16, up2_nk _ _ h14, up2_nk _ _ h19]; exact zI k i h62
    · show sI (meT Z m (sI S 60 o) (sI S 2 0)) 19 m = _
      rw [aI, up2_nk _ _ (by decide), up2_nk _ _ (by decide), up2_self]; exact v19
    · show sI (meT Z m (sI S 60 o) (sI S 2 0)) 19 i = _
      rw [aI, up2_nk _ _ (by decide), up2_nk _ _ (by decide), up2_ne _ _ (fun z => e z.2)]; exact zI 19 i (by decide)
    · show sI (meT Z m (sI S 60 o) (sI S 2 0)) 14 m = _
      rw [aI, up2_nk _ _ (by decide), up2_self]
    · show sI (meT Z m (sI S 60 o) (sI S 2 0)) 14 i = _
      rw [aI, up2_nk _ _ (by decide), up2_ne _ _ (fun z => e z.2), up2_nk _ _ (by decide)]; exact zI 14 i (by decide)
    · show sR (meT Z m (sI S 60 o) (sI S 2 0)) 1 m = _
      rw [aR, up2_self]
    · show sR (meT Z m (sI S 60 o) (sI S 2 0)) k i = _
      rw [aR, up2_ne _ _ e, zR]
  · have bI : ∀ k i, sI (sM (meT Z m (sI S 60 o) (sI S 2 0)) (sA (uI (uI (uI (meT Z m (sI S 60 o) (sI S 2 0)) 16 m 0) 14 m 98) 18 m (sI S 2 0 + sI Z 13 m)))) k i = up2 (up2 (up2 (sI (meT Z m (sI S 60 o) (sI S 2 0))) 16 m 0) 14 m 98) 18 m (sI S 2 0 + sI Z 13 m) k i := fun _ _ => rfl
    refine ⟨fun k h62 h19 h14 h16 h18 i => ?_, ?_, fun i e => ?_, Or.inr ?_, fun i e => ?_, ?_, fun k i e => ?_, zJ2, zN, zP⟩
    · rw [bI, up2_nk _ _ h18, up2_nk _ _ h14, up2_nk _ _ h16, aI, up2_nk _ _ h16, up2_nk _ _ h14, up2_nk _ _ h19]; exact zI k i h62
    · rw [bI, up2_nk _ _ (by decide), up2_nk _ _ (by decide), up2_nk _ _ (by decide), aI, up2_nk _ _ (by decide), up2_nk _ _ (by decide), up2_self]; exact v19
    · rw [bI, up2_nk _ _ (by decide), up2_nk _ _ (by decide), up2_nk _ _ (by decide), aI, up2_nk _ _ (by decide), up2_nk _ _ (by decide), up2_ne _ _ (fun z => e z.2)]; exact zI 19 i (by decide)
    · rw [bI, up2_nk _ _ (by decide), up2_self]
    · rw [bI, up2_nk _ _ (by decide), up2_ne _ _ (fun z => e z.2), up2_nk _ _ (by decide), aI, up2_nk _ _ (by decide), up2_ne _ _ (fun z => e z.2), up2_nk _ _ (by decide)]; exact zI 14 i (by decide)
    · show sR (meT Z m (sI S 60 o) (sI S 2 0)) 1 m = _
      rw [aR, up2_self]
    · show sR (meT Z m (sI S 60 o) (sI S 2 0)) k i = _
      rw [aR, up2_ne _ _ e, zR]
theorem Inv.endwork {S : St} (hI : Inv S) {m : Nat} (hm : m < nMc S) (hn : nLc S < 90) : Inv (ewS S m) ∧ Keep S (ewS S m) := by
  have hI1 := hI
  obtain ⟨⟨hW, hP, hB, hQ, hV, hO, hJ, hD, hM, hTr, hHd, hC, hN⟩, hH⟩ := hI1
  have km := hM.1 m hm
  unfold ewS
  cases ed : sR S 1 m with
  | none =>
    dsimp only
    have n111 : ¬ sI S 14 m = 111 := fun z => (km.2.2.1.mp z) ed
    have tI : ∀ k i, ¬ (k = 14 ∧ i = m) → sI (uI S 14 m 45) k i = sI S k i := fun k i a => up2_ne (sI S) _ a
    have tk : ∀ k, k ≠ 14 → ∀ i, sI (uI S 14 m 45) k i = sI S k i := fun k a i => tI k i (fun z => a z.1)
    have t14 : sI (uI S 14 m 45) 14 m = 45 := up2_self (sI S) 14 m 45
    refine ⟨⟨⟨hW, hP.fr rfl (tk 30 (by decide)) (tk 20 (by decide)), hB.fr rfl (tk 40 (by decide)) (tk 41 (by decide)) (tk 42 (by decide)) (tk 43 (by decide)) (fun _ => rfl), hQ.fr rfl (tk 40 (by decide)) (tk 41 (by decide)) (tk 43 (by decide)) (fun i => by rw [tk 53 (by decide)]) (fun _ _ => rfl), hV.fr rfl (tk 42 (by decide)) (fun i => by rw [tk 53 (by decide)]) (fun _ _ => rfl), hO.fr rfl (tk 20 (by decide)) (tk 50 (by decide)) (tk 53 (by decide)) (fun _ _ => rfl), hJ.fr rfl (tk 20 (by decide)) (tk 40 (by decide)) (tk 50 (by decide)) (fun i => by rw [tk 53 (by decide)]) (fun i => by rw [tk 53 (by decide)]) (fun i => by rw [tk 53 (by decide)]) (fun i => by rw [tk 53 (by decide)]) (tk 60 (by decide)) (tk 61 (by decide)) (tk 63 (by decide)) (fun _ => rfl) (fun _ => rfl) (fun _ => rfl), hD.fr rfl (tk 43 (by decide)) (tk 50 (by decide)) (tk 55 (by decide)) (fun i => by rw [tk 53 (by decide)]) (fun _ => rfl) (fun _ => rfl) (fun _ => rfl), ?_, hTr, hHd, hC.fr rfl (fun _ => rfl) (fun _ => rfl) (fun _ => rfl) rfl rfl (tk 1 (by decide) 0) (tk 63 (by decide)) (fun _ => rfl), hN.fr rfl (fun _ => rfl) (tk 1 (by decide) 0) (tk 2 (by decide) 0)⟩, hH.fr rfl (tk 42 (by decide)) (fun _ _ _ => ⟨rfl, rfl⟩)⟩, ⟨rfl, rfl, tk 1 (by decide) 0, tk 2 (by decide) 0, rfl⟩⟩
    refine ⟨fun m' hm' => ?_, ?_⟩
    · have k := hM.1 m' hm'
      rw [tk 10 (by decide), tk 17 (by decide), tk 19 (by decide), tk 2 (by decide)]
      simp only [tk 53 (by decide)]
      by_cases e : m' = m
      · subst e
        rw [t14]
        exact ⟨k.1, Or.inl rfl, ⟨fun z => absurd z (by decide), fun z => absurd ed z⟩, k.2.2.2⟩
      · rw [tI 14 m' (fun z => e z.2)]
        exact k
    · have e1 : sm (fun m' => bZ (sI (uI S 14 m 45) 14 m' == 111)) (nMc S) = sm (fun m => bZ (sI S 14 m == 111)) (nMc S) := sm_congr (fun m' _ => by
        by_cases e : m' = m
        · rw [e, t14, beq_false_of_ne n111]; rfl
        · rw [tI 14 m' (fun z => e z.2)])
      have e2 : sm (fun o => bZ (sI (uI S 14 m 45) 53 o == 111)) (nOc S) = sm (fun o => bZ (sI S 53 o == 111)) (nOc S) := sm_congr (fun o _ => by rw [tk 53 (by decide)])
      show sm (fun m' => bZ (sI (uI S 14 m 45) 14 m' == 111)) (nMc S) = sm (fun o => bZ (sI (uI S 14 m 45) 53 o == 111)) (nOc S)
      rw [e1, e2]; exact hM.2
  | some o =>
    dsimp only
    obtain ⟨h111, hu1, hu2, huq⟩ := km.2.2.2.1 o ed
    have ho : o < nOc S := hW.doing hm ed
    obtain ⟨x1, x2, x3, x4, x5, x6, x7, x8, x9, x10⟩ := ew_spec (S := S) (m := m) (o := o) km.1
    have hnow := hN.2.2.2.1
    have hnow2 := hN.2.2.2.2
    have hXW : WT (ewT S m o) := WT.me (S := uI (uJ (uJ S 1 0 (sJ S 1 0 + ewC S m)) 5 o (sJ S 5 o + ewC S m)) 62 o (sI S 62 o + 1)) hW
    generalize ewT S m o = X at x1 x2 x3 x4 x5 x6 x7 x8 x9 x10 hXW ⊢
    have hmade : ¬ sI S 20 (sN S 7 o) = 0 := fun z => by
      rcases (hO o ho).2.2.2.2 z with e | e <;> (rw [h111] at e; exact absurd e (by decide))
    have hT : Inv0 (uI X 53 o 119) o ∧ ILH (uI X 53 o 119) := by
      have t53 : sI (uI X 53 o 119) 53 o = 119 := up2_self (sI X) 53 o 119
      have tX : ∀ k i, ¬ (k = 53 ∧ i = o) → sI (uI X 53 o 119) k i = sI X k i := fun k i a => up2_ne (sI X) _ a
      have tn : sN (uI X 53 o 119) = sN S := x9
      have tp : sP (uI X 53 o 119) = sP S := x10
      have tJ : ∀ k i, sJ (uI X 53 o 119) k i = sJ S k i := x8
      have tr : ∀ k i, ¬ (k = 1 ∧ i = m) → sR (uI X 53 o 119) k i = sR S k i := x7
      have tr1 : sR (uI X 53 o 119) 1 m = none := x6
      have tW : WT (uI X 53 o 119) := hXW
      generalize uI X 53 o 119 = T at t53 tX tn tp tJ tr tr1 tW ⊢
      have tk' : ∀ k, k ≠ 53 ∧ k ≠ 62 ∧ k ≠ 19 ∧ k ≠ 14 ∧ k ≠ 16 ∧ k ≠ 18 → ∀ i, sI T k i = sI S k i := fun k h i => (tX k i (fun z => h.1 z.1)).trans (x1 k h.2.1 h.2.2.1 h.2.2.2.1 h.2.2.2.2.1 h.2.2.2.2.2 i)
      have t53n : ∀ i, i ≠ o → sI T 53 i = sI S 53 i := fun i e => (tX 53 i (fun z => e z.2)).trans (x1 53 (by decide) (by decide) (by decide) (by decide) (by decide) i)
      have fc : ∀ c : Int32, c ≠ 111 → c ≠ 119 → ∀ i, sI T 53 i = c ↔ sI S 53 i = c := fun c a b i => by
        by_cases e : i = o
        · rw [e, t53, h111]; exact ⟨fun z => absurd z.symm b, fun z => absurd z.symm a⟩
        · rw [t53n i e]
      have pp : ∀ k i, sP T k i = sP S k i := fun k i => by rw [tp]
      have r4 : ∀ i, sR T 4 i = sR S 4 i := fun i => tr 4 i (by simp)
      refine ⟨⟨tW, hP.fr tn (tk' 30 (by decide)) (tk' 20 (by decide)), hB.fr tn (tk' 40 (by decide)) (tk' 41 (by decide)) (tk' 42 (by decide)) (tk' 43 (by decide)) (tJ 3), hQ.fr tn (tk' 40 (by decide)) (tk' 41 (by decide)) (tk' 43 (by decide)) (fc 112 (by decide) (by decide)) pp, hV.fr tn (tk' 42 (by decide)) (fc 112 (by decide) (by decide)) pp, ?_, ?_, hD.fr tn (tk' 43 (by decide)) (tk' 50 (by decide)) (tk' 55 (by decide)) (fc 100 (by decide) (by decide)) (tJ 4) (tJ 26) (tJ 27), ?_, hTr.fr tn (fun k _ i j => nsM_congr tJ k i j), hHd.fr (by rw [tn]; exact Nat.le_refl _) (fun j => nsM_congr tJ 14 0 j), hC.fr tn (tJ 3) (tJ 5) (tJ 4) (tJ 1 0) (tJ 2 0) (tk' 1 (by decide) 0) (tk' 63 (by decide)) r4, hN.fr tn r4 (tk' 1 (by decide) 0) (tk' 2 (by decide) 0)⟩, hH.fr tn (tk' 42 (by decide)) (fun k _ i => ⟨tJ _ i, tJ _ i⟩)⟩
      · intro o' ho'
        rw [show nOc T = nOc S from congrFun (congrFun tn 3) 0] at ho'
        have k := hO o' ho'
        rw [show nLc T = nLc S from congrFun (congrFun tn 2) 0, tk' 50 (by decide), tk' 20 (by decide), tn, tp]
        by_cases e : o' = o
        · subst e
          rw [t53]
          refine ⟨Or.inr (Or.inr (Or.inl rfl)), fun i => ?_, fun z => absurd z (by decide), k.2.2.2.1, fun z => absurd z hmade⟩
          show 0 ≤ (sP T o' i).toInt ∧ (0 < (sP T o' i).toInt → _)
          rw [tp]; exact k.2.1 i
        · rw [t53n o' e]
          refine ⟨k.1, fun i => ?_, k.2.2⟩
          show 0 ≤ (sP T o' i).toInt ∧ (0 < (sP T o' i).toInt → _)
          rw [tp]; exact k.2.1 i
      · intro o' ho'
        rw [show nOc T = nOc S from congrFun (congrFun tn 3) 0] at ho'
        have k := hJ o' ho'
        have hne : o' ≠ 1000 := by have := hW.nO; have ho : o' < sN S 3 0 := ho'; omega
        unfold inWk isDn eT
        rw [show nLc T = nLc S from congrFun (congrFun tn 2) 0, tk' 50 (by decide), tk' 20 (by decide), tk' 60 (by decide), tk' 61 (by decide), tk' 63 (by decide), tn, tJ, r4, tr 3 o' (by simp)]
        simp only [tk' 40 (by decide)]
        by_cases e : o' = o
        · subst e
          have w1 : inWk S o' := Or.inr h111
          rw [t53]
          refine ⟨k.1, fun _ => k.2.1 (Or.inl w1), fun z => absurd (Or.inl rfl) z, fun z => absurd rfl z, ⟨fun z => ?_, fun z => ?_⟩, k.2.2.2.2.2.1, k.2.2.2.2.2.2.1, k.2.2.2.2.2.2.2.1, k.2.2.2.2.2.2.2.2.1, fun z => absurd (Or.inl rfl) z⟩
          · have := k.2.2.2.2.1.mp z
            rw [h111] at this
            rcases this with y | y
            · exact absurd y (by decide)
            · exact absurd y.1 (by decide)
          · rcases z with y | y
            · exact absurd y (by decide)
            · exact absurd y.1 (by decide)
        · rw [t53n o' e]
          exact ⟨k.1, k.2.1, k.2.2.1, fun _ => k.2.2.2.1 hne, k.2.2.2.2⟩
      · refine ⟨fun m' hm' => ?_, ?_⟩
        · rw [show nMc T = nMc S from congrFun (congrFun tn 0) 0] at hm' ⊢
          have k := hM.1 m' hm'
          rw [tk' 10 (by decide), tk' 17 (by decide), tk' 2 (by decide)]
          by_cases e : m' = m
          · subst e
            have v14 : sI T 14 m' = sI X 14 m' := tX 14 m' (by simp)
            have v19 : (sI T 19 m').toInt = (sI S 19 m').toInt + ((sI S 2 0).toInt - (sI S 17 m').toInt) := by
              rw [tX 19 m' (by simp), x2]
              exact i32_addV rfl (i32_sub (by omega) (by omega)) (by omega) (by omega)
            rw [tr1, v14, v19]
            refine ⟨k.1, ?_, ⟨fun z => ?_, fun z => absurd rfl z⟩, fun o' z => absurd z (by simp), by omega, by omega⟩
            · rcases x4 with y | y
              · exact Or.inl y
              · exact Or.inr (Or.inr y)
            · exfalso
              rcases x4 with y | y <;> (rw [y] at z; exact absurd z (by decide))
          · rw [tX 14 m' (by simp), x5 m' e, tX 19 m' (by simp), x3 m' e, tr 1 m' (fun z => e z.2)]
            refine ⟨k.1, k.2.1, k.2.2.1, fun o' z => ?_, k.2.2.2.2⟩
            obtain ⟨a1, a2, a3, a4⟩ := k.2.2.2.1 o' z
            have eo : o' ≠ o := fun y => e (huq m' hm' (by rw [← y]; exact z))
            rw [t53n o' eo]
            refine ⟨a1, a2, a3, fun m2 h2 z2 => ?_⟩
            by_cases e2 : m2 = m
            · rw [e2, tr1] at z2; exact absurd z2 (by simp)
            · rw [tr 1 m2 (fun z => e2 z.2)] at z2
              exact a4 m2 h2 z2
        · rw [show nMc T = nMc S from congrFun (congrFun tn 0) 0, show nOc T = nOc S from congrFun (congrFun tn 3) 0]
          have q1 : sm (fun m => bZ (sI T 14 m == 111)) (nMc S) = sm (fun m => bZ (sI S 14 m == 111)) (nMc S) + (bZ (sI T 14 m == 111) - bZ (sI S 14 m == 111)) := sm_upd (f := fun m => bZ (sI S 14 m == 111)) (g := fun m => bZ (sI T 14 m == 111)) hm (fun i _ hne => by
            show bZ (sI T 14 i == 111) = bZ (sI S 14 i == 111)
            rw [tX 14 i (by simp), x5 i hne])
          have q2 : sm (fun o => bZ (sI T 53 o == 111)) (nOc S) = sm (fun o => bZ (sI S 53 o == 111)) (nOc S) + (bZ (sI T 53 o == 111) - bZ (sI S 53 o == 111)) := sm_upd (f := fun o => bZ (sI S 53 o == 111)) (g := fun o => bZ (sI T 53 o == 111)) ho (fun i _ hne => by
            show bZ (sI T 53 i == 111) = bZ (sI S 53 i == 111)
            rw [t53n i hne])
          have z14 : sI S 14 m = 111 := km.2.2.1.mpr (by rw [ed]; simp)
          have y14 : bZ (sI T 14 m == 111) = 0 := by
            rw [tX 14 m (by simp)]
            rcases x4 with y | y <;> (rw [y]; rfl)
          rw [y14, z14] at q1
          rw [t53, h111] at q2
          have q1 : sm (fun m => bZ (sI T 14 m == 111)) (nMc S) = sm (fun m => bZ (sI S 14 m == 111)) (nMc S) + (0 - 1) := q1
          have q2 : sm (fun o => bZ (sI T 53 o == 111)) (nOc S) = sm (fun o => bZ (sI S 53 o == 111)) (nOc S) + (0 - 1) := q2
          rw [q1, q2, hM.2]
    have hk : Keep S X := ⟨congrFun (congrFun x9 3) 0, congrFun (congrFun x9 0) 0, x1 1 (by decide) (by decide) (by decide) (by decide) (by decide) 0, x1 2 (by decide) (by decide) (by decide) (by decide) (by decide) 0, x8 1 0⟩
    have g := Inv0.go (X := X) hT.1 hT.2 (by rw [hk.1]; exact ho) (by rw [show nLc X = nLc S from congrFun (congrFun x9 2) 0]; exact hn)
    cases e : snM X o with
    | none => 
      obtain ⟨a, b, -⟩ := g.2 e
      exact ⟨a, hk.trans b⟩
    | some i =>
      obtain ⟨a, b, -⟩ := g.1 i e
      exact ⟨a, hk.trans b⟩
/-- the clock goes on -/
theorem Inv.tick {S : St} (hI : Inv S) (hn : (sI S 2 0).toInt + 1 ≤ 5000) : Inv (uI S 2 0 (sI S 2 0 + 1)) ∧ (sI (uI S 2 0 (sI S 2 0 + 1)) 2 0).toInt = (sI S 2 0).toInt + 1 := by
  obtain ⟨⟨hW, hP, hB, hQ, hV, hO, hJ, hD, hM, hTr, hHd, hC, hN⟩, hH⟩ := hI
  have n0 := hN.2.2.2.1
  have tk : ∀ k, k ≠ 2 → ∀ i, sI (uI S 2 0 (sI S 2 0 + 1)) k i = sI S k i := fun k a i => up2_nk (sI S) _ a
  have t2 : (sI (uI S 2 0 (sI S 2 0 + 1)) 2 0).toInt = (sI S 2 0).toInt + 1 := by
    rw [show sI (uI S 2 0 (sI S 2 0 + 1)) 2 0 = sI S 2 0 + 1 from up2_self (sI S) 2 0 (sI S 2 0 + 1)]
    exact i32_addV rfl rfl (by omega) (by omega)
  refine ⟨⟨⟨hW, hP.fr rfl (tk 30 (by decide)) (tk 20 (by decide)), hB.fr rfl (tk 40 (by decide)) (tk 41 (by decide)) (tk 42 (by decide)) (tk 43 (by decide)) (fun _ => rfl), hQ.fr rfl (tk 40 (by decide)) (tk 41 (by decide)) (tk 43 (by decide)) (fun i => by rw [tk 53 (by decide)]) (fun _ _ => rfl), hV.fr rfl (tk 42 (by decide)) (fun i => by rw [tk 53 (by decide)]) (fun _ _ => rfl), hO.fr rfl (tk 20 (by decide)) (tk 50 (by decide)) (tk 53 (by decide)) (fun _ _ => rfl), hJ.fr rfl (tk 20 (by decide)) (tk 40 (by decide)) (tk 50 (by decide)) (fun i => by rw [tk 53 (by decide)]) (fun i => by rw [tk 53 (by decide)]) (fun i => by rw [tk 53 (by decide)]) (fun i => by rw [tk 53 (by decide)]) (tk 60 (by decide)) (tk 61 (by decide)) (tk 63 (by decide)) (fun _ => rfl) (fun _ => rfl) (fun _ => rfl), hD.fr rfl (tk 43 (by decide)) (tk 50 (by decide)) (tk 55 (by decide)) (fun i => by rw [tk 53 (by decide)]) (fun _ => rfl) (fun _ => rfl) (fun _ => rfl), ?_, hTr, hHd, hC.fr rfl (fun _ => rfl) (fun _ => rfl) (fun _ => rfl) rfl rfl (tk 1 (by decide) 0) (tk 63 (by decide)) (fun _ => rfl), ?_⟩, hH.fr rfl (tk 42 (by decide)) (fun _ _ _ => ⟨rfl, rfl⟩)⟩, t2⟩
  · refine ⟨fun m hm => ?_, ?_⟩
    · have k := hM.1 m hm
      rw [tk 10 (by decide), tk 14 (by decide), tk 17 (by decide), tk 19 (by decide), t2]
      simp only [tk 53 (by decide)]
      exact ⟨k.1, k.2.1, k.2.2.1, fun o z => ⟨(k.2.2.2.1 o z).1, (k.2.2.2.1 o z).2.1, by have := (k.2.2.2.1 o z).2.2.1; omega, (k.2.2.2.1 o z).2.2.2⟩, k.2.2.2.2.1, by have := k.2.2.2.2.2; omega⟩
    · simp only [tk 14 (by decide), tk 53 (by decide)]
      exact hM.2
  · refine ⟨?_, ?_, ?_, by rw [t2]; omega, by rw [t2]; omega⟩
    · rw [tk 1 (by decide)]; exact hN.1
    · rw [tk 1 (by decide)]; exact hN.2.1
    · rw [tk 1 (by decide)]; exact hN.2.2.1
def Keep2 (S T : St) (d : Int) : Prop := nOc T = nOc S ∧ nMc T = nMc S ∧ sI T 1 0 = sI S 1 0 ∧ (sI T 2 0).toInt = (sI S 2 0).toInt + d ∧ sJ T 1 0 = sJ S 1 0
theorem Inv.pass {S : St} (hI : Inv S) (hn : (sI S 2 0).toInt + 1 ≤ 5000) (hb : (sI S 1 0).toInt + nOc S < 90) : (∀ j, j < 5 → sN (ptL S j) 2 0 < 90) ∧ Inv (ptS S) ∧ Keep2 S (ptS S) 1 := by
  obtain ⟨h1, h2⟩ := hI.tick hn
  have lots : ∀ T, Inv T → Keep (uI S 2 0 (sI S 2 0 + 1)) T → nLc T < 90 := fun T hT hk => by
    have a := hT.1.lots
    rw [hk.1, hk.2.2.1] at a
    have e1 : nOc (uI S 2 0 (sI S 2 0 + 1)) = nOc S := rfl
    have e2 : sI (uI S 2 0 (sI S 2 0 + 1)) 1 0 = sI S 1 0 := rfl
    rw [e1, e2] at a
    omega
  have hL : ∀ j, Inv (ptL S j) ∧ Keep (uI S 2 0 (sI S 2 0 + 1)) (ptL S j) := by
    intro j
    induction j with
    | zero => exact ⟨h1, Keep.refl _⟩
    | succ j ih =>
      rw [ptL_s]
      unfold pt1
      split
      · rename_i hm
        split
        · obtain ⟨a, b⟩ := ih.1.endwork (m := j) hm (lots _ ih.1 ih.2)
          exact ⟨a, ih.2.trans b⟩
        · exact ih
      · exact ih
  have hM : ∀ j, Inv (ptM S j) ∧ Keep (uI S 2 0 (sI S 2 0 + 1)) (ptM S j) := by
    intro j
    induction j with
    | zero => rw [ptM_0]; exact hL 5
    | succ j ih =>
      rw [ptM_s]
      unfold bt1
      split
      · rename_i hm
        obtain ⟨a, b, -⟩ := ih.1.begin (m := j) hm
        exact ⟨a, ih.2.trans b⟩
      · exact ih
  obtain ⟨a, b⟩ := hM 5
  have hp : ptS S = ptM S 5 := rfl
  rw [hp]
  have hl : ∀ j, j < 5 → sN (ptL S j) 2 0 < 90 := fun j _ => lots _ (hL j).1 (hL j).2
  clear hL hM
  generalize ptM S 5 = T at a b ⊢
  refine ⟨hl, a, b.1.trans rfl, b.2.1.trans rfl, b.2.2.1.trans rfl, ?_, b.2.2.2.2.trans rfl⟩
  rw [b.2.2.2.1, h2]
theorem Inv.adv {S : St} (hI : Inv S) {b : Nat} (hn : (sI S 2 0).toInt + b ≤ 5000) (hb : (sI S 1 0).toInt + nOc S < 90) : ∀ n, n ≤ b → Inv (avS S n) ∧ Keep2 S (avS S n) n ∧ (n < b → ∀ j, j < 5 → sN (ptL (avS S n) j) 2 0 < 90) := by
  intro n
  have key : ∀ n, n ≤ b → Inv (avS S n) ∧ Keep2 S (avS S n) n := by
    intro n
    induction n with
    | zero => exact fun _ => ⟨hI, rfl, rfl, rfl, by show (sI S 2 0).toInt = (sI S 2 0).toInt + ((0 : Nat) : Int); simp, rfl⟩
    | succ n ih =>
      intro hle
      obtain ⟨a, b1, b2, b3, b4, b5⟩ := ih (by omega)
      rw [avS_s]
      obtain ⟨-, c, d1, d2, d3, d4, d5⟩ := a.pass (by rw [b4]; omega) (by rw [b1, b3]; exact hb)
      exact ⟨c, d1.trans b1, d2.trans b2, d3.trans b3, by rw [d4, b4]; omega, d5.trans b5⟩
  intro hle
  obtain ⟨a, b1⟩ := key n hle
  refine ⟨a, b1, fun hlt => ?_⟩
  exact (a.pass (by rw [b1.2.2.2.1]; omega) (by rw [b1.1, b1.2.2.1]; exact hb)).1
