/-! PURE: what machines do keeps Inv -/
def Keep (S T : St) : Prop := nOc T = nOc S ∧ nMc T = nMc S ∧ sI T 1 0 = sI S 1 0 ∧ sI T 2 0 = sI S 2 0 ∧ sJ T 1 0 = sJ S 1 0
theorem Keep.refl (S : St) : Keep S S := ⟨rfl, rfl, rfl, rfl, rfl⟩
theorem Keep.trans {S T U : St} (h : Keep S T) (g : Keep T U) : Keep S U := ⟨g.1.trans h.1, g.2.1.trans h.2.1, g.2.2.1.trans h.2.2.1, g.2.2.2.1.trans h.2.2.2.1, g.2.2.2.2.trans h.2.2.2.2⟩
theorem FinK.keep {Y T : St} {o : Nat} (h : FinK Y T o) : Keep Y T := ⟨h.2.2.2.2.2.1 3 (by decide) (by decide) 0, h.2.2.2.2.2.1 0 (by decide) (by decide) 0, h.2.2.1, h.2.2.2.1, h.2.2.2.2.1⟩
theorem up2_R {S : St} {k i : Nat} {v : Option Nat} (k' i' : Nat) (h : ¬ (k' = k ∧ i' = i)) : sR (uR S k i v) k' i' = sR S k' i' := up2_ne _ _ h
/-- where an order in transit goes -/
theorem Inv0.wait {T : St} {o i : Nat} (hI : Inv0 T o) (hH : ILH T) (ho : o < nOc T) (h119 : sI T 53 o = 119) (hi : i < nMc T) : Inv (uR T 3 o (some i)) := by
  obtain ⟨hW, hP, hB, hQ, hV, hO, hJ, hD, hM, hTr, hHd, hC, hN⟩ := hI
  have w : ∀ k j, k ≠ 3 → sR (uR T 3 o (some i)) k j = sR T k j := fun k j a => up2_nk _ _ a
  have w3 : sR (uR T 3 o (some i)) 3 o = some i := up2_self _ _ _ _
  refine ⟨⟨hW.setR (fun a z => by cases z; exact ⟨fun q => by omega, fun q => by omega, fun _ => hi, fun q => by omega⟩), hP, hB, hQ, hV, hO, ?_, hD, ?_, hTr, hHd, ?_, ?_⟩, hH⟩
  · intro o' ho'
    have k := hJ o' ho'
    refine ⟨k.1, k.2.1, k.2.2.1, fun _ => ?_, k.2.2.2.2.1, k.2.2.2.2.2.1, fun j z => ?_, ?_, k.2.2.2.2.2.2.2.2⟩
    · by_cases e : o' = o
      · subst e
        rw [w3]
        exact ⟨fun _ z => absurd z (by simp), fun _ => h119⟩
      · rw [up2_R 3 o' (fun z => e z.2)]
        exact k.2.2.2.1 e
    · rw [w 4 o' (by decide)] at z; exact k.2.2.2.2.2.2.1 j z
    · rw [w 4 o' (by decide)]; exact k.2.2.2.2.2.2.2.1
  · exact hM.fr rfl (fun j => w 1 j (by decide)) rfl (fun _ => rfl) (fun _ => rfl) (fun _ => rfl) (fun _ => rfl) (fun _ => Iff.rfl)
  · exact hC.fr rfl (fun _ => rfl) (fun _ => rfl) (fun _ => rfl) rfl rfl rfl (fun _ => rfl) (fun j => w 4 j (by decide))
  · exact hN.fr rfl (fun j => w 4 j (by decide)) rfl rfl
theorem Inv0.nowait {T : St} {o : Nat} (hI : Inv0 T o) : Inv0 (uR T 3 o none) o := by
  obtain ⟨hW, hP, hB, hQ, hV, hO, hJ, hD, hM, hTr, hHd, hC, hN⟩ := hI
  have w : ∀ k j, k ≠ 3 → sR (uR T 3 o none) k j = sR T k j := fun k j a => up2_nk _ _ a
  refine ⟨hW.setRn, hP, hB, hQ, hV, hO, ?_, hD, ?_, hTr, hHd, ?_, ?_⟩
  · intro o' ho'
    have k := hJ o' ho'
    refine ⟨k.1, k.2.1, k.2.2.1, fun e => ?_, k.2.2.2.2.1, k.2.2.2.2.2.1, fun j z => ?_, ?_, k.2.2.2.2.2.2.2.2⟩
    · rw [up2_R 3 o' (fun z => e z.2)]
      exact k.2.2.2.1 e
    · rw [w 4 o' (by decide)] at z; exact k.2.2.2.2.2.2.1 j z
    · rw [w 4 o' (by decide)]; exact k.2.2.2.2.2.2.2.1
  · exact hM.fr rfl (fun j => w 1 j (by decide)) rfl (fun _ => rfl) (fun _ => rfl) (fun _ => rfl) (fun _ => rfl) (fun _ => Iff.rfl)
  · exact hC.fr rfl (fun _ => rfl) (fun _ => rfl) (fun _ => rfl) rfl rfl rfl (fun _ => rfl) (fun j => w 4 j (by decide))
  · exact hN.fr rfl (fun j => w 4 j (by decide)) rfl rfl
/-- an order in transit goes on, or is finished -/
theorem Inv0.go {X : St} {o : Nat} (hI : Inv0 (uI X 53 o 119) o) (hH : ILH (uI X 53 o 119)) (ho : o < nOc X) (hn : nLc X < 90) :
    (∀ i, snM X o = some i → Inv (snS X o) ∧ Keep X (snS X o) ∧ sI (snS X o) 53 o = 119 ∧ i < nMc X) ∧ (snM X o = none → Inv (fiS (snS X o) o) ∧ Keep X (fiS (snS X o) o) ∧ sI (fiS (snS X o) o) 53 o = 102) := by
  have h119 : sI (uI X 53 o 119) 53 o = 119 := up2_self _ _ _ _
  refine ⟨fun i e => ?_, fun e => ?_⟩
  · have hi : i < nMc X := snM_lt (S := X) hI.1 ho e
    rw [snS_some e]
    exact ⟨hI.wait hH ho h119 hi, ⟨rfl, rfl, rfl, rfl, rfl⟩, h119, hi⟩
  · rw [snS_none e]
    have h1 := hI.nowait
    have e2 : fiS (uR (uI X 53 o 119) 3 o none) o = fiS (uR X 3 o none) o := fiS_53 (Y := uR X 3 o none) (o := o) (c := 119)
    have h2 := h1.fin hH ho h119 (up2_self _ _ _ _) hn
    rw [e2] at h2
    have k := h2.2.keep
    refine ⟨h2.1, ⟨k.1, k.2.1, k.2.2.1.trans rfl, k.2.2.2.1.trans rfl, k.2.2.2.2⟩, h2.2.1⟩
/-- a machine that is free begins the next job -/
theorem Inv.begin {S : St} (hI : Inv S) {m : Nat} (hm : m < nMc S) : Inv (bnS S m) ∧ Keep S (bnS S m) ∧ ∀ o, sI (bnS S m) 53 o = sI S 53 o ∨ sI S 53 o = 119 ∧ sI (bnS S m) 53 o = 111 := by
  have hWT : WT (bnS S m) := hI.1.1.bn
  have triv : Inv S ∧ Keep S S ∧ ∀ o, sI S 53 o = sI S 53 o ∨ sI S 53 o = 119 ∧ sI S 53 o = 111 := ⟨hI, Keep.refl S, fun _ => Or.inl rfl⟩
  unfold bnS at hWT ⊢
  by_cases h45 : sI S 14 m = 45
  · rw [if_pos h45] at hWT ⊢
    cases ef : fwO S m with
    | none => exact triv
    | some o =>
      rw [ef] at hWT
      dsimp only at hWT ⊢
      cases eq : opAt S (sN S 7 o) (sI S 62 o) with
      | none => exact triv
      | some q =>
        rw [eq] at hWT
        dsimp only at hWT ⊢
        obtain ⟨ho, h3⟩ := fwL_in (j := 30) ef
        have ho : o < nOc S := ho
        obtain ⟨⟨hW, hP, hB, hQ, hV, hO, hJ, hD, hM, hTr, hHd, hC, hN⟩, hH⟩ := hI
        have hne : o ≠ 1000 := by have := hW.nO; have ho : o < sN S 3 0 := ho; omega
        have h119 : sI S 53 o = 119 := ((hJ o ho).2.2.2.1 hne).mpr (by rw [h3]; simp)
        generalize hwk : sI S 32 q * sI S 60 o = wk at hWT ⊢
        have b1 : ∀ k i, k ≠ 15 → sI (sM S (if sI S 15 m = sI S 21 (sN S 7 o) then sA S else sA (uI S 15 m (sI S 21 (sN S 7 o))))) k i = sI S k i := fun k i h => by
          split
          · rfl
          · exact up2_nk _ _ h
        have b2 : sJ (sM S (if sI S 15 m = sI S 21 (sN S 7 o) then sA S else sA (uI S 15 m (sI S 21 (sN S 7 o))))) = sJ S := by split <;> rfl
        have b3 : sP (sM S (if sI S 15 m = sI S 21 (sN S 7 o) then sA S else sA (uI S 15 m (sI S 21 (sN S 7 o))))) = sP S := by split <;> rfl
        have tn : sN (uR (uI (mbS S m o wk (sI S 2 0)) 53 o 111) 3 o none) = sN S := rfl
        have tJ : sJ (uR (uI (mbS S m o wk (sI S 2 0)) 53 o 111) 3 o none) = sJ S := b2
        have tp : sP (uR (uI (mbS S m o wk (sI S 2 0)) 53 o 111) 3 o none) = sP S := b3
        have tI0 : ∃ v, ∀ k i, sI (uR (uI (mbS S m o wk (sI S 2 0)) 53 o 111) 3 o none) k i = up2 (up2 (up2 (up2 (sI (sM S (if sI S 15 m = sI S 21 (sN S 7 o) then sA S else sA (uI S 15 m (sI S 21 (sN S 7 o)))))) 14 m 111) 17 m (sI S 2 0)) 18 m v) 53 o 111 k i := ⟨_, fun _ _ => rfl⟩
        obtain ⟨v18, tI0⟩ := tI0
        generalize sM S (if sI S 15 m = sI S 21 (sN S 7 o) then sA S else sA (uI S 15 m (sI S 21 (sN S 7 o)))) = B at b1 tI0
        have tI : ∀ k, k ≠ 53 → k ≠ 18 → k ≠ 17 → k ≠ 14 → k ≠ 15 → ∀ i, sI (uR (uI (mbS S m o wk (sI S 2 0)) 53 o 111) 3 o none) k i = sI S k i := fun k a b c d e i => by rw [tI0, up2_nk _ _ a, up2_nk _ _ b, up2_nk _ _ c, up2_nk _ _ d, b1 k i e]
        have t53 : sI (uR (uI (mbS S m o wk (sI S 2 0)) 53 o 111) 3 o none) 53 o = 111 := by rw [tI0, up2_self]
        have t53n : ∀ i, i ≠ o → sI (uR (uI (mbS S m o wk (sI S 2 0)) 53 o 111) 3 o none) 53 i = sI S 53 i := fun i e => by rw [tI0, up2_ne _ _ (fun z => e z.2), up2_nk _ _ (by decide), up2_nk _ _ (by decide), up2_nk _ _ (by decide), b1 53 i (by decide)]
        have t14 : sI (uR (uI (mbS S m o wk (sI S 2 0)) 53 o 111) 3 o none) 14 m = 111 := by rw [tI0, up2_nk _ _ (by decide), up2_nk _ _ (by decide), up2_nk _ _ (by decide), up2_self]
        have t14n : ∀ i, i ≠ m → sI (uR (uI (mbS S m o wk (sI S 2 0)) 53 o 111) 3 o none) 14 i = sI S 14 i := fun i e => by rw [tI0, up2_nk _ _ (by decide), up2_nk _ _ (by decide), up2_nk _ _ (by decide), up2_ne _ _ (fun z => e z.2), b1 14 i (by decide)]
        have t17 : sI (uR (uI (mbS S m o wk (sI S 2 0)) 53 o 111) 3 o none) 17 m = sI S 2 0 := by rw [tI0, up2_nk _ _ (by decide), up2_nk _ _ (by decide), up2_self]
        have t17n : ∀ i, i ≠ m → sI (uR (uI (mbS S m o wk (sI S 2 0)) 53 o 111) 3 o none) 17 i = sI S 17 i := fun i e => by rw [tI0, up2_nk _ _ (by decide), up2_nk _ _ (by decide), up2_ne _ _ (fun z => e z.2), up2_nk _ _ (by decide), b1 17 i (by decide)]
        have tr0 : ∀ k i, sR (uR (uI (mbS S m o wk (sI S 2 0)) 53 o 111) 3 o none) k i = up2 (up2 (sR S) 1 m (some o)) 3 o none k i := fun _ _ => rfl
        have tr1 : sR (uR (uI (mbS S m o wk (sI S 2 0)) 53 o 111) 3 o none) 1 m = some o := by rw [tr0, up2_nk _ _ (by decide), up2_self]
        have tr3 : sR (uR (uI (mbS S m o wk (sI S 2 0)) 53 o 111) 3 o none) 3 o = none := by rw [tr0, up2_self]
        have trn : ∀ k i, ¬ (k = 1 ∧ i = m) → ¬ (k = 3 ∧ i = o) → sR (uR (uI (mbS S m o wk (sI S 2 0)) 53 o 111) 3 o none) k i = sR S k i := fun k i a b => by rw [tr0, up2_ne _ _ b, up2_ne _ _ a]
        generalize uR (uI (mbS S m o wk (sI S 2 0)) 53 o 111) 3 o none = T at hWT tn tJ tp tI0 tr0 tI t53 t53n t14 t14n t17 t17n tr1 tr3 trn ⊢
        have jj : ∀ k i, sJ T k i = sJ S k i := fun k i => by rw [tJ]
        have pp : ∀ k i, sP T k i = sP S k i := fun k i => by rw [tp]
        have fc : ∀ c : Int32, c ≠ 111 → c ≠ 119 → ∀ i, sI T 53 i = c ↔ sI S 53 i = c := fun c a b i => by
          by_cases e : i = o
          · rw [e, t53, h119]; exact ⟨fun z => absurd z.symm a, fun z => absurd z.symm b⟩
          · rw [t53n i e]
        have hmade : ¬ sI S 20 (sN S 7 o) = 0 := fun z => by
          rcases (hO o ho).2.2.2.2 z with e | e <;> (rw [h119] at e; exact absurd e (by decide))
        have tI' : ∀ k, k ≠ 53 ∧ k ≠ 18 ∧ k ≠ 17 ∧ k ≠ 14 ∧ k ≠ 15 → ∀ i, sI T k i = sI S k i := fun k h => tI k h.1 h.2.1 h.2.2.1 h.2.2.2.1 h.2.2.2.2
        have notS : ∀ m2, m2 < nMc S → sR S 1 m2 ≠ some o := fun m2 h2 z => by
          have := ((hM.1 m2 h2).2.2.2.1 o z).1
          rw [h119] at this; exact absurd this (by decide)
        refine ⟨⟨⟨hWT, hP.fr tn (tI' 30 (by decide)) (tI' 20 (by decide)), hB.fr tn (tI' 40 (by decide)) (tI' 41 (by decide)) (tI' 42 (by decide)) (tI' 43 (by decide)) (jj 3), hQ.fr tn (tI' 40 (by decide)) (tI' 41 (by decide)) (tI' 43 (by decide)) (fc 112 (by decide) (by decide)) pp, hV.fr tn (tI' 42 (by decide)) (fc 112 (by decide) (by decide)) pp, ?_, ?_, hD.fr tn (tI' 43 (by decide)) (tI' 50 (by decide)) (tI' 55 (by decide)) (fc 100 (by decide) (by decide)) (jj 4) (jj 26) (jj 27), ?_, hTr.fr tn (fun k _ i j => nsM_congr jj k i j), hHd.fr (by rw [tn]; exact Nat.le_refl _) (fun j => nsM_congr jj 14 0 j), hC.fr tn (jj 3) (jj 5) (jj 4) (jj 1 0) (jj 2 0) (tI' 1 (by decide) 0) (tI' 63 (by decide)) (fun i => trn 4 i (by simp) (by simp)), hN.fr tn (fun i => trn 4 i (by simp) (by simp)) (tI' 1 (by decide) 0) (tI' 2 (by decide) 0)⟩, hH.fr tn (tI' 42 (by decide)) (fun k _ i => ⟨jj _ i, jj _ i⟩)⟩, ⟨congrFun (congrFun tn 3) 0, congrFun (congrFun tn 0) 0, tI' 1 (by decide) 0, tI' 2 (by decide) 0, jj 1 0⟩, fun o' => ?_⟩
        · intro o' ho'
          rw [show nOc T = nOc S from congrFun (congrFun tn 3) 0] at ho'
          have k := hO o' ho'
          rw [show nLc T = nLc S from congrFun (congrFun tn 2) 0, tI' 50 (by decide), tI' 20 (by decide), tn, tp]
          by_cases e : o' = o
          · subst e
            rw [t53]
            refine ⟨Or.inr (Or.inr (Or.inr (Or.inl rfl))), fun i => ?_, fun z => absurd z (by decide), k.2.2.2.1, fun z => absurd z hmade⟩
            show 0 ≤ (sP T o' i).toInt ∧ (0 < (sP T o' i).toInt → _)
            rw [tp]; exact k.2.1 i
          · rw [t53n o' e]
            refine ⟨k.1, fun i => ?_, k.2.2⟩
            show 0 ≤ (sP T o' i).toInt ∧ (0 < (sP T o' i).toInt → _)
            rw [tp]; exact k.2.1 i
        · intro o' ho'
          rw [show nOc T = nOc S from congrFun (congrFun tn 3) 0] at ho'
          have k := hJ o' ho'
          unfold inWk isDn eT
          rw [show nLc T = nLc S from congrFun (congrFun tn 2) 0, tI' 50 (by decide), tI' 20 (by decide), tI' 60 (by decide), tI' 61 (by decide), tI' 63 (by decide), tn, tJ, trn 4 o' (by simp) (by simp)]
          simp only [tI' 40 (by decide)]
          by_cases e : o' = o
          · subst e
            have w1 : inWk S o' := Or.inl h119
            rw [t53, tr3]
            refine ⟨k.1, fun _ => k.2.1 (Or.inl w1), fun z => absurd (Or.inr rfl) z, fun _ => ⟨fun z => absurd z (by decide), fun z => absurd rfl z⟩, ⟨fun z => ?_, fun z => ?_⟩, k.2.2.2.2.2.1, k.2.2.2.2.2.2.1, k.2.2.2.2.2.2.2.1, k.2.2.2.2.2.2.2.2.1, fun z => absurd (Or.inr rfl) z⟩
            · have := k.2.2.2.2.1.mp z
              rw [h119] at this
              rcases this with y | y
              · exact absurd y (by decide)
              · exact absurd y.1 (by decide)
            · rcases z with y | y
              · exact absurd y (by decide)
              · exact absurd y.1 (by decide)
          · rw [t53n o' e, trn 3 o' (by simp) (fun z => e z.2)]
            exact k
        · refine ⟨fun m' hm' => ?_, ?_⟩
          · rw [show nMc T = nMc S from congrFun (congrFun tn 0) 0] at hm' ⊢
            have k := hM.1 m' hm'
            rw [tI' 10 (by decide), tI' 19 (by decide), tI' 2 (by decide)]
            by_cases e : m' = m
            · subst e
              rw [t14, t17, tr1]
              refine ⟨k.1, Or.inr (Or.inl rfl), ⟨fun _ z => absurd z (by simp), fun _ => rfl⟩, fun o' z => ?_, k.2.2.2.2⟩
              cases z
              refine ⟨t53, k.2.2.2.2.2, Int.le_refl _, fun m2 h2 z2 => ?_⟩
              refine Classical.byContradiction (fun y => notS m2 h2 ?_)
              rw [← trn 1 m2 (fun z => y z.2) (by simp)]; exact z2
            · rw [t14n m' e, t17n m' e, trn 1 m' (fun z => e z.2) (by simp)]
              refine ⟨k.1, k.2.1, k.2.2.1, fun o' z => ?_, k.2.2.2.2⟩
              obtain ⟨a1, a2, a3, a4⟩ := k.2.2.2.1 o' z
              have eo : o' ≠ o := fun y => notS m' hm' (by rw [← y]; exact z)
              rw [t53n o' eo]
              refine ⟨a1, a2, a3, fun m2 h2 z2 => ?_⟩
              by_cases e2 : m2 = m
              · rw [e2, tr1] at z2; cases z2; exact absurd rfl eo
              · rw [trn 1 m2 (fun z => e2 z.2) (by simp)] at z2
                exact a4 m2 h2 z2
          · rw [show nMc T = nMc S from congrFun (congrFun tn 0) 0, show nOc T = nOc S from congrFun (congrFun tn 3) 0]
            have q1 := sm_upd (f := fun m => bZ (sI S 14 m == 111)) (g := fun m => bZ (sI T 14 m == 111)) hm (fun i _ hne => by
              show bZ (sI T 14 i == 111) = bZ (sI S 14 i == 111)
              rw [t14n i hne])
            have q2 := sm_upd (f := fun o => bZ (sI S 53 o == 111)) (g := fun o => bZ (sI T 53 o == 111)) ho (fun i _ hne => by
              show bZ (sI T 53 i == 111) = bZ (sI S 53 i == 111)
              rw [t53n i hne])
            have q1 : sm (fun m => bZ (sI T 14 m == 111)) (nMc S) = sm (fun m => bZ (sI S 14 m == 111)) (nMc S) + (bZ (sI T 14 m == 111) - bZ (sI S 14 m == 111)) := q1
            have q2 : sm (fun o => bZ (sI T 53 o == 111)) (nOc S) = sm (fun o => bZ (sI S 53 o == 111)) (nOc S) + (bZ (sI T 53 o == 111) - bZ (sI S 53 o == 111)) := q2
            rw [t14, h45] at q1
            rw [t53, h119] at q2
            have q1 : sm (fun m => bZ (sI T 14 m == 111)) (nMc S) = sm (fun m => bZ (sI S 14 m == 111)) (nMc S) + (1 - 0) := q1
            have q2 : sm (fun o => bZ (sI T 53 o == 111)) (nOc S) = sm (fun o => bZ (sI S 53 o == 111)) (nOc S) + (1 - 0) := q2
            rw [q1, q2, hM.2]
        · by_cases e : o' = o
          · rw [e]; exact Or.inr ⟨h119, t53⟩
          · exact Or.inl (t53n o' e)
  · rw [if_neg h45]; exact triv
/-- a promised order is released -/
theorem Inv.rel2 {S : St} (hI : Inv S) {o : Nat} (ho : o < nOc S) (h : sI S 53 o = 112) (hn : nLc S < 90) : Inv (rl2 S o) ∧ Keep S (rl2 S o) ∧ (sI (rl2 S o) 53 o = 119 ∨ sI (rl2 S o) 53 o = 111 ∨ sI (rl2 S o) 53 o = 102) := by
  obtain ⟨t1, t2, t3, t4, t5, t6, t7⟩ := hI.take ho h
  have hk : Keep S (trS S o) := ⟨rfl, rfl, t3, t4, t5⟩
  have g := Inv0.go (X := trS S o) t1 t2 ho hn
  unfold rl2
  cases e : snM (trS S o) o with
  | none =>
    obtain ⟨a, b, c⟩ := g.2 e
    exact ⟨a, hk.trans b, Or.inr (Or.inr c)⟩
  | some i =>
    obtain ⟨a, b, c, d⟩ := g.1 i e
    have hi : i < nMc (snS (trS S o) o) := by rw [b.2.1]; exact d
    obtain ⟨u, v, w⟩ := a.begin hi
    refine ⟨u, (hk.trans b).trans v, ?_⟩
    rcases w o with z | z
    · exact Or.inl (z.trans c)
    · exact Or.inr (Or.inl z.2)
theorem Inv.rel1 {S : St} (hI : Inv S) {o : Nat} (ho : o < nOc S) (h : sI S 53 o = 45) (hm : ¬ sI S 20 (sN S 7 o) = 0) (hn : nLc S < 90) : (raR S o = false ∧ rl1 S o = S) ∨ (raR S o = true ∧ Inv (rl1 S o) ∧ Keep S (rl1 S o) ∧ (sI (rl1 S o) 53 o = 119 ∨ sI (rl1 S o) 53 o = 111 ∨ sI (rl1 S o) 53 o = 102)) := by
  unfold rl1
  rcases hI.promise ho h hm with ⟨a, b⟩ | ⟨a, b, c, d, -⟩
  · refine Or.inl ⟨a, ?_⟩
    rw [if_neg (by rw [a]; decide)]; exact b
  · refine Or.inr ⟨a, ?_⟩
    rw [if_pos a]
    have hk : Keep S (raS S o) := ⟨congrFun (congrFun d.1 3) 0, congrFun (congrFun d.1 0) 0, d.2.2.1 1 0 (by decide) (by decide), d.2.2.1 2 0 (by decide) (by decide), d.2.2.2.1 1 0⟩
    obtain ⟨u, v, w⟩ := Inv.rel2 b (by rw [hk.1]; exact ho) c (by rw [show nLc (raS S o) = nLc S from congrFun (congrFun d.1 2) 0]; exact hn)
    exact ⟨u, hk.trans v, w⟩
