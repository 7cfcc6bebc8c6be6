/-! PURE: a new lot, a lot that comes in, a new order keep Inv -/
section NL
variable {S : St} {p : Nat} {qy : Int32} {co : Int64}
theorem nl_I {k i : Nat} (h : i ≠ sN S 2 0) : sI (nlS S p qy co) k i = sI S k i := by
  show up2 (up2 (up2 (up2 S.2.1 40 (sN S 2 0) qy) 41 (sN S 2 0) qy) 42 (sN S 2 0) 0) 43 (sN S 2 0) 0 k i = _
  rw [up2_ne _ _ (fun z => h z.2), up2_ne _ _ (fun z => h z.2), up2_ne _ _ (fun z => h z.2), up2_ne _ _ (fun z => h z.2)]
theorem nl_Ik {k i : Nat} (h : k ≠ 40 ∧ k ≠ 41 ∧ k ≠ 42 ∧ k ≠ 43) : sI (nlS S p qy co) k i = sI S k i := by
  show up2 (up2 (up2 (up2 S.2.1 40 (sN S 2 0) qy) 41 (sN S 2 0) qy) 42 (sN S 2 0) 0) 43 (sN S 2 0) 0 k i = _
  rw [up2_nk _ _ h.2.2.2, up2_nk _ _ h.2.2.1, up2_nk _ _ h.2.1, up2_nk _ _ h.1]
theorem nl_J {k i : Nat} (h : i ≠ sN S 2 0) : sJ (nlS S p qy co) k i = sJ S k i := by
  show up2 (up2 (up2 (up2 (up2 (up2 (up2 S.2.2.1 3 (sN S 2 0) co) 16 (sN S 2 0) 0) 17 (sN S 2 0) 0) 18 (sN S 2 0) 0) 19 (sN S 2 0) 0) 20 (sN S 2 0) 0) 21 (sN S 2 0) 0 k i = _
  rw [up2_ne _ _ (fun z => h z.2), up2_ne _ _ (fun z => h z.2), up2_ne _ _ (fun z => h z.2), up2_ne _ _ (fun z => h z.2), up2_ne _ _ (fun z => h z.2), up2_ne _ _ (fun z => h z.2), up2_ne _ _ (fun z => h z.2)]
theorem nl_Jk {k i : Nat} (h : k ≠ 3 ∧ k ≠ 16 ∧ k ≠ 17 ∧ k ≠ 18 ∧ k ≠ 19 ∧ k ≠ 20 ∧ k ≠ 21) : sJ (nlS S p qy co) k i = sJ S k i := by
  show up2 (up2 (up2 (up2 (up2 (up2 (up2 S.2.2.1 3 (sN S 2 0) co) 16 (sN S 2 0) 0) 17 (sN S 2 0) 0) 18 (sN S 2 0) 0) 19 (sN S 2 0) 0) 20 (sN S 2 0) 0) 21 (sN S 2 0) 0 k i = _
  obtain ⟨h1, h2, h3, h4, h5, h6, h7⟩ := h
  rw [up2_nk _ _ h7, up2_nk _ _ h6, up2_nk _ _ h5, up2_nk _ _ h4, up2_nk _ _ h3, up2_nk _ _ h2, up2_nk _ _ h1]
theorem nl_N6 {i : Nat} (h : i ≠ sN S 2 0) : sN (nlS S p qy co) 6 i = sN S 6 i := by
  show up2 (up2 S.1 2 0 (sN S 2 0 + 1)) 6 (sN S 2 0) p 6 i = _
  rw [up2_ne _ _ (fun z => h z.2), up2_nk _ _ (by decide)]
theorem nl_N6n : sN (nlS S p qy co) 6 (sN S 2 0) = p := up2_self _ _ _ _
theorem nl_40 : sI (nlS S p qy co) 40 (sN S 2 0) = qy := by simp [nlS, sI, sJ, sN, up2]
theorem nl_41 : sI (nlS S p qy co) 41 (sN S 2 0) = qy := by simp [nlS, sI, sJ, sN, up2]
theorem nl_42 : sI (nlS S p qy co) 42 (sN S 2 0) = 0 := by simp [nlS, sI, sJ, sN, up2]
theorem nl_43 : sI (nlS S p qy co) 43 (sN S 2 0) = 0 := by simp [nlS, sI, sJ, sN, up2]
theorem nl_3 : sJ (nlS S p qy co) 3 (sN S 2 0) = co := by simp [nlS, sI, sJ, sN, up2]
theorem nl_s {k : Nat} (h : k = 8 ∨ k = 9 ∨ k = 10) (j : Nat) : nsM (nlS S p qy co) k (sN S 2 0) j = false := by
  have e : sJ (nlS S p qy co) (2 * k) (sN S 2 0) = 0 ∧ sJ (nlS S p qy co) (2 * k + 1) (sN S 2 0) = 0 := by
    rcases h with rfl | rfl | rfl <;> (constructor <;> simp [nlS, sJ, up2])
  show nsb (sJ (nlS S p qy co) (2 * k) (sN S 2 0)) (sJ (nlS S p qy co) (2 * k + 1) (sN S 2 0)) j = false
  rw [e.1, e.2]
  unfold nsb
  split <;> exact lb_0 _
theorem nl_M {k i : Nat} (h : i ≠ sN S 2 0) (j : Nat) : nsM (nlS S p qy co) k i j = nsM S k i j := by
  show nsb (sJ (nlS S p qy co) (2 * k) i) (sJ (nlS S p qy co) (2 * k + 1) i) j = _
  rw [nl_J h, nl_J h]
theorem nl_Mk {k i : Nat} (h : k = 13 ∨ k = 14) (j : Nat) : nsM (nlS S p qy co) k i j = nsM S k i j := by
  show nsb (sJ (nlS S p qy co) (2 * k) i) (sJ (nlS S p qy co) (2 * k + 1) i) j = _
  rw [nl_Jk (by omega), nl_Jk (by omega)]
theorem nl_nL : nLc (nlS S p qy co) = nLc S + 1 := nlS_nL
theorem nl_nO : nOc (nlS S p qy co) = nOc S := nlS_n (by decide) (by decide)
theorem p_out {o : Nat} (hO : IOrd S) (ho : o < nOc S) {i : Nat} (hi : nLc S ≤ i) : pT S o i = 0 := by
  have k := (hO o ho).2.1 i
  have h : ¬ 0 < pT S o i := fun z => by have := (k.2 z).1; omega
  omega
theorem IPart.nl (h : IPart S) : IPart (nlS S p qy co) := by
  have e1 : nPc (nlS S p qy co) = nPc S := nlS_n (by decide) (by decide)
  refine ⟨fun q j hq hj => ?_, by rw [e1]; exact h.2.1, by rw [nl_Ik (by decide)]; exact h.2.2.1, by rw [nl_Ik (by decide)]; exact h.2.2.2⟩
  rw [e1] at hq
  rw [nlS_n (by decide) (by decide)] at hj
  rw [nlS_n (by decide) (by decide), nl_Ik (by decide)]
  exact h.1 q j hq hj
theorem ILB.nl (h : ILB S) (h1 : 0 ≤ qy.toInt) (h2 : qy.toInt ≤ 500) (h3 : 0 ≤ co.toInt) (h4 : qy.toInt = 0 → co.toInt = 0) : ILB (nlS S p qy co) := by
  intro i hi
  rw [nl_nL] at hi
  by_cases e : i = sN S 2 0
  · subst e
    unfold vT rT dT qT cT
    rw [nl_40, nl_41, nl_42, nl_43, nl_3]
    exact ⟨⟨by decide, h1, by decide, h2⟩, h3, h4⟩
  · have hi2 : i < nLc S := by have : nLc S = sN S 2 0 := rfl; omega
    unfold vT rT dT qT cT
    rw [nl_I e, nl_I e, nl_I e, nl_I e, nl_J e]
    exact h i hi2
theorem ILQ.nl (h : ILQ S) (hO : IOrd S) : ILQ (nlS S p qy co) := by
  intro i hi
  rw [nl_nL] at hi
  rw [nl_nO]
  have ek : ∀ o, pK (nlS S p qy co) o i = pK S o i := fun o => by
    unfold pK pT
    rw [nl_Ik (by decide)]
    rfl
  by_cases e : i = sN S 2 0
  · have z : sm (fun o => pK (nlS S p qy co) o i) (nOc S) = 0 := sm_zero (f := fun o => pK (nlS S p qy co) o i) (fun o ho => by
      show pK (nlS S p qy co) o i = 0
      rw [ek]; unfold pK
      rw [p_out hO ho (by rw [e]; exact Nat.le_refl _)]
      split <;> rfl)
    rw [z]
    subst e
    unfold qT rT dT
    rw [nl_40, nl_41, nl_43]
    show qy.toInt = qy.toInt + 0 + 0
    omega
  · have hi2 : i < nLc S := by have : nLc S = sN S 2 0 := rfl; omega
    rw [sm_congr (f := fun o => pK (nlS S p qy co) o i) (g := fun o => pK S o i) (fun o _ => ek o)]
    unfold qT rT dT
    rw [nl_I e, nl_I e, nl_I e]
    exact h i hi2
theorem ILV.nl (h : ILV S) (hO : IOrd S) : ILV (nlS S p qy co) := by
  intro i hi
  rw [nl_nL] at hi
  rw [nl_nO]
  have ek : ∀ o, pR (nlS S p qy co) o i = pR S o i := fun o => by
    unfold pR pT
    rw [nl_Ik (by decide)]
    rfl
  by_cases e : i = sN S 2 0
  · have z : sm (fun o => pR (nlS S p qy co) o i) (nOc S) = 0 := sm_zero (f := fun o => pR (nlS S p qy co) o i) (fun o ho => by
      show pR (nlS S p qy co) o i = 0
      rw [ek]; unfold pR
      rw [p_out hO ho (by rw [e]; exact Nat.le_refl _)]
      split <;> rfl)
    rw [z]
    subst e
    unfold vT
    rw [nl_42]; rfl
  · have hi2 : i < nLc S := by have : nLc S = sN S 2 0 := rfl; omega
    rw [sm_congr (f := fun o => pR (nlS S p qy co) o i) (g := fun o => pR S o i) (fun o _ => ek o)]
    unfold vT
    rw [nl_I e]
    exact h i hi2
theorem nl_barred {i : Nat} (h : i ≠ sN S 2 0) : barred (nlS S p qy co) i = barred S i := by
  unfold barred
  rw [nl_Mk (Or.inr rfl), show nsLo (nlS S p qy co) 8 i = nsLo S 8 i from nl_J h, show nsHi (nlS S p qy co) 8 i = nsHi S 8 i from nl_J h, show nsLo (nlS S p qy co) 14 0 = nsLo S 14 0 from nl_Jk (by decide), show nsHi (nlS S p qy co) 14 0 = nsHi S 14 0 from nl_Jk (by decide)]
theorem ILH.nl (h : ILH S) : ILH (nlS S p qy co) := by
  intro i hi hv
  rw [nl_nL] at hi
  by_cases e : i = sN S 2 0
  · subst e
    unfold vT at hv
    rw [nl_42] at hv
    exact absurd hv (by decide)
  · have hi2 : i < nLc S := by have : nLc S = sN S 2 0 := rfl; omega
    unfold vT at hv
    rw [nl_I e] at hv
    rw [nl_barred e]
    exact h i hi2 hv
theorem IOrd.nl (h : IOrd S) : IOrd (nlS S p qy co) := by
  intro o ho
  rw [nl_nO] at ho
  have k := h o ho
  rw [nl_nL, nl_Ik (k := 53) (by decide), nl_Ik (k := 50) (by decide), nl_Ik (k := 20) (by decide), nlS_n (k := 7) (by decide) (by decide)]
  refine ⟨k.1, fun i => ⟨(k.2.1 i).1, fun z => ?_⟩, k.2.2⟩
  obtain ⟨a, b⟩ := (k.2.1 i).2 z
  have ne : i ≠ sN S 2 0 := by have : nLc S = sN S 2 0 := rfl; omega
  rw [nl_N6 ne]
  exact ⟨by omega, b⟩
theorem IJob.nl {x : Nat} (h : IJob S x) : IJob (nlS S p qy co) x := by
  intro o ho
  rw [nl_nO] at ho
  have k := h o ho
  unfold inWk isDn eT
  rw [nl_nL, nl_Ik (k := 53) (by decide), nl_Ik (k := 50) (by decide), nl_Ik (k := 20) (by decide), nl_Ik (k := 60) (by decide), nl_Ik (k := 61) (by decide), nl_Ik (k := 63) (by decide), nlS_n (k := 7) (by decide) (by decide), nl_Jk (k := 5) (by decide)]
  refine ⟨k.1, k.2.1, k.2.2.1, k.2.2.2.1, k.2.2.2.2.1, k.2.2.2.2.2.1, fun i z => ?_, k.2.2.2.2.2.2.2⟩
  obtain ⟨a1, a2, a3⟩ := k.2.2.2.2.2.2.1 i z
  have ne : i ≠ sN S 2 0 := by have : nLc S = sN S 2 0 := rfl; omega
  rw [nl_I ne]
  exact ⟨a1, by omega, a3⟩
theorem IDel.nl (h : IDel S) : IDel (nlS S p qy co) := by
  refine ⟨fun o ho => ?_, ?_⟩
  · rw [nl_nO] at ho
    have k := h.1 o ho
    unfold gD
    simp only [nl_Ik (S := S) (p := p) (qy := qy) (co := co) (k := 53) (by decide), nl_Ik (S := S) (p := p) (qy := qy) (co := co) (k := 50) (by decide), nl_Ik (S := S) (p := p) (qy := qy) (co := co) (k := 55) (by decide), nl_Jk (S := S) (p := p) (qy := qy) (co := co) (k := 4) (by decide), nl_Mk (S := S) (p := p) (qy := qy) (co := co) (k := 13) (Or.inl rfl)]
    exact k
  · have e1 : sm (fun o => (sI (nlS S p qy co) 55 o).toInt) (nOc (nlS S p qy co)) = sm (fun o => (sI S 55 o).toInt) (nOc S) := by
      rw [nl_nO]
      exact sm_congr (fun o _ => by rw [nl_Ik (by decide)])
    have e2 : sm (fun i => dT (nlS S p qy co) i) (nLc (nlS S p qy co)) = sm (fun i => dT S i) (nLc S) := by
      rw [nl_nL, sm_s]
      have z : dT (nlS S p qy co) (nLc S) = 0 := by unfold dT; rw [show nLc S = sN S 2 0 from rfl, nl_43]; rfl
      rw [z, sm_congr (f := fun i => dT (nlS S p qy co) i) (g := fun i => dT S i) (fun i hi => by
        show dT (nlS S p qy co) i = dT S i
        unfold dT
        rw [nl_I (Nat.ne_of_lt hi)])]
      omega
    rw [e1, e2]; exact h.2
theorem IMach.nl (h : IMach S) : IMach (nlS S p qy co) := by
  have e0 : nMc (nlS S p qy co) = nMc S := nlS_n (by decide) (by decide)
  refine ⟨fun m hm => ?_, ?_⟩
  · rw [e0] at hm
    have k := h.1 m hm
    simp only [nl_Ik (S := S) (p := p) (qy := qy) (co := co) (k := 10) (by decide), nl_Ik (S := S) (p := p) (qy := qy) (co := co) (k := 14) (by decide), nl_Ik (S := S) (p := p) (qy := qy) (co := co) (k := 53) (by decide), nl_Ik (S := S) (p := p) (qy := qy) (co := co) (k := 17) (by decide), nl_Ik (S := S) (p := p) (qy := qy) (co := co) (k := 19) (by decide), nl_Ik (S := S) (p := p) (qy := qy) (co := co) (k := 2) (by decide), e0]
    exact k
  · have e1 : sm (fun m => bZ (sI (nlS S p qy co) 14 m == 111)) (nMc (nlS S p qy co)) = sm (fun m => bZ (sI S 14 m == 111)) (nMc S) := by
      rw [e0]
      exact sm_congr (fun o _ => by rw [nl_Ik (by decide)])
    have e2 : sm (fun o => bZ (sI (nlS S p qy co) 53 o == 111)) (nOc (nlS S p qy co)) = sm (fun o => bZ (sI S 53 o == 111)) (nOc S) := by
      rw [nl_nO]
      exact sm_congr (fun o _ => by rw [nl_Ik (by decide)])
    rw [e1, e2]; exact h.2
theorem ITr.nl (h : ITr S) (hn : nLc S < 90) : ITr (nlS S p qy co) := by
  have e0 : nLc S = sN S 2 0 := rfl
  refine ⟨fun i hi => ?_, fun o ho j hj hm => ?_⟩
  · rw [nl_nL] at hi
    rw [nl_nL, nl_nO]
    by_cases e : i = sN S 2 0
    · subst e
      refine ⟨fun j hj hm => ?_, fun j hj => ?_, fun o ho => ?_⟩
      · rw [nl_s (Or.inl rfl)] at hm; exact absurd hm (by decide)
      · rw [nl_s (Or.inr (Or.inl rfl))]
        refine ⟨fun z => absurd z (by decide), fun z => ?_⟩
        exfalso
        by_cases ej : j = sN S 2 0
        · rw [ej, nl_s (Or.inl rfl)] at z; exact absurd z.2 (by decide)
        · rw [nl_M ej] at z
          have := ((h.1 j (by omega)).1 _ (by omega) z.2).1
          omega
      · rw [nl_s (Or.inr (Or.inr rfl)), nl_Mk (Or.inl rfl)]
        refine ⟨fun z => absurd z (by decide), fun z => ?_⟩
        exfalso
        have := (h.2 o z.1 _ (by omega) z.2).1
        omega
    · have hi2 : i < nLc S := by omega
      obtain ⟨k1, k2, k3⟩ := h.1 i hi2
      refine ⟨fun j hj hm => ?_, fun j hj => ?_, fun o ho => ?_⟩
      · rw [nl_M e] at hm
        obtain ⟨a1, a2, a3⟩ := k1 j hj hm
        have ej : j ≠ sN S 2 0 := by omega
        rw [nl_N6 e, nl_N6 ej]
        refine ⟨a1, a2, fun k hk hkm => ?_⟩
        rw [nl_M ej] at hkm
        rw [nl_M e]; exact a3 k hk hkm
      · rw [nl_M e, k2 j hj]
        by_cases ej : j = sN S 2 0
        · rw [ej, nl_s (Or.inl rfl)]
          exact ⟨fun z => absurd z.1 (Nat.lt_irrefl _), fun z => absurd z.2 (by decide)⟩
        · rw [nl_M ej]
          exact ⟨fun z => ⟨by omega, z.2⟩, fun z => ⟨by omega, z.2⟩⟩
      · rw [nl_M e, nl_Mk (Or.inl rfl)]; exact k3 o ho
  · rw [nl_nO] at ho
    rw [nl_Mk (Or.inl rfl)] at hm
    obtain ⟨a1, a2⟩ := h.2 o ho j hj hm
    rw [nl_nL]
    refine ⟨by omega, fun k hk hkm => ?_⟩
    rw [nl_M (by omega)] at hkm
    rw [nl_Mk (Or.inl rfl)]; exact a2 k hk hkm
theorem IHd.nl (h : IHd S) : IHd (nlS S p qy co) := by
  intro j hj hm
  rw [nl_Mk (Or.inr rfl)] at hm
  rw [nl_nL]
  have := h j hj hm
  omega
theorem sm_c_nl : sm (fun i => cT (nlS S p qy co) i) (nLc (nlS S p qy co)) = sm (fun i => cT S i) (nLc S) + co.toInt := by
  rw [nl_nL, sm_s]
  have z : cT (nlS S p qy co) (nLc S) = co.toInt := by unfold cT; rw [show nLc S = sN S 2 0 from rfl, nl_3]
  rw [z, sm_congr (f := fun i => cT (nlS S p qy co) i) (g := fun i => cT S i) (fun i hi => by
    show cT (nlS S p qy co) i = cT S i
    unfold cT
    rw [nl_J (Nat.ne_of_lt hi)])]
end NL
