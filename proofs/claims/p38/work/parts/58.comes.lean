/-! PURE: scrapping, a lot that comes in, a new order, the start keep Inv -/
theorem Inv.scrap {S : St} (hI : Inv S) {o : Nat} (ho : o < nOc S) (hw : inWk S o) {k : Int32} (h1 : 0 ≤ k.toInt) (h2 : k.toInt ≤ (sI S 60 o).toInt) : Inv (scS S o k) ∧ Keep S (scS S o k) ∧ (sI S 60 o - k).toInt = (sI S 60 o).toInt - k.toInt := by
  obtain ⟨⟨hW, hP, hB, hQ, hV, hO, hJ, hD, hM, hTr, hHd, hC, hN⟩, hH⟩ := hI
  have k0 := hJ o ho
  have h50 := (hO o ho).2.2.2.1
  have hs := k0.2.1 (Or.inl hw)
  have hnd : ¬ isDn S o := fun z => by
    rcases k0.2.2.2.2.1.mp z with e | ⟨e, -⟩ <;> (rcases hw with y | y <;> (rw [y] at e; exact absurd e (by decide)))
  have e60 : (sI S 60 o - k).toInt = (sI S 60 o).toInt - k.toInt := i32_sub (by omega) (by omega)
  have e61 : (sI S 61 o + k).toInt = (sI S 61 o).toInt + k.toInt := i32_add (by omega) (by omega)
  have tI : ∀ k' i, ¬ (k' = 60 ∧ i = o) → ¬ (k' = 61 ∧ i = o) → sI (scS S o k) k' i = sI S k' i := fun k' i a b => by
    show up2 (up2 (sI S) 60 o (sI S 60 o - k)) 61 o (up2 (sI S) 60 o (sI S 60 o - k) 61 o + k) k' i = _
    rw [up2_ne _ _ b, up2_ne _ _ a]
  have t60 : sI (scS S o k) 60 o = sI S 60 o - k := by
    show up2 (up2 (sI S) 60 o (sI S 60 o - k)) 61 o (up2 (sI S) 60 o (sI S 60 o - k) 61 o + k) 60 o = _
    rw [up2_nk _ _ (by decide), up2_self]
  have t61 : sI (scS S o k) 61 o = sI S 61 o + k := by
    show up2 (up2 (sI S) 60 o (sI S 60 o - k)) 61 o (up2 (sI S) 60 o (sI S 60 o - k) 61 o + k) 61 o = _
    rw [up2_self, up2_nk _ _ (by decide)]
  have tn : sN (scS S o k) = sN S := rfl
  have tr : sR (scS S o k) = sR S := rfl
  have tp : sP (scS S o k) = sP S := rfl
  have tj : sJ (scS S o k) = sJ S := rfl
  have tW : WT (scS S o k) := hW
  generalize scS S o k = T at tI t60 t61 tn tr tp tj tW ⊢
  have tk : ∀ k', k' ≠ 60 ∧ k' ≠ 61 → ∀ i, sI T k' i = sI S k' i := fun k' h i => tI k' i (fun z => h.1 z.1) (fun z => h.2 z.1)
  have pp : ∀ k i, sP T k i = sP S k i := fun k i => by rw [tp]
  have rr : ∀ k i, sR T k i = sR S k i := fun k i => by rw [tr]
  have jj : ∀ k i, sJ T k i = sJ S k i := fun k i => by rw [tj]
  have fc : ∀ c i, sI T 53 i = c ↔ sI S 53 i = c := fun c i => by rw [tk 53 (by decide)]
  refine ⟨⟨⟨tW, hP.fr tn (tk 30 (by decide)) (tk 20 (by decide)), hB.fr tn (tk 40 (by decide)) (tk 41 (by decide)) (tk 42 (by decide)) (tk 43 (by decide)) (jj 3), hQ.fr tn (tk 40 (by decide)) (tk 41 (by decide)) (tk 43 (by decide)) (fc 112) pp, hV.fr tn (tk 42 (by decide)) (fc 112) pp, hO.fr tn (tk 20 (by decide)) (tk 50 (by decide)) (tk 53 (by decide)) pp, ?_, hD.fr tn (tk 43 (by decide)) (tk 50 (by decide)) (tk 55 (by decide)) (fc 100) (jj 4) (jj 26) (jj 27), hM.fr tn (rr 1) (tk 2 (by decide) 0) (tk 10 (by decide)) (tk 14 (by decide)) (tk 17 (by decide)) (tk 19 (by decide)) (fc 111), hTr.fr tn (fun k _ i j => nsM_congr jj k i j), hHd.fr (by rw [tn]; exact Nat.le_refl _) (fun j => nsM_congr jj 14 0 j), hC.fr tn (jj 3) (jj 5) (jj 4) (jj 1 0) (jj 2 0) (tk 1 (by decide) 0) (tk 63 (by decide)) (rr 4), hN.fr tn (rr 4) (tk 1 (by decide) 0) (tk 2 (by decide) 0)⟩, hH.fr tn (tk 42 (by decide)) (fun k _ i => ⟨jj _ i, jj _ i⟩)⟩, ⟨congrFun (congrFun tn 3) 0, congrFun (congrFun tn 0) 0, tk 1 (by decide) 0, tk 2 (by decide) 0, jj 1 0⟩, e60⟩
  intro o' ho'
  rw [show nOc T = nOc S from congrFun (congrFun tn 3) 0] at ho'
  have k9 := hJ o' ho'
  unfold inWk isDn eT
  rw [show nLc T = nLc S from congrFun (congrFun tn 2) 0, tk 50 (by decide), tk 20 (by decide), tk 53 (by decide), tk 63 (by decide), tn, tj, tr]
  simp only [tk 40 (by decide)]
  by_cases e : o' = o
  · subst e
    rw [t60, t61, e60, e61]
    refine ⟨⟨by omega, by omega⟩, fun _ => by omega, fun z => absurd hw z, k9.2.2.2.1, k9.2.2.2.2.1, k9.2.2.2.2.2.1, fun i z => absurd (k9.2.2.2.2.2.2.1 i z).1 hnd, fun z => absurd z hnd, k9.2.2.2.2.2.2.2.2.1, fun z => absurd hw z⟩
  · rw [tI 60 o' (fun z => e z.2) (by simp), tI 61 o' (by simp) (fun z => e z.2)]
    exact k9
/-- q * c as whole numbers -/
theorem qc_int {qy co : Int32} (h1 : 0 ≤ qy.toInt) (h2 : qy.toInt ≤ 500) (h3 : 0 ≤ co.toInt) (h4 : co.toInt ≤ 999) : (qy.toInt64 * co.toInt64).toInt = qy.toInt * co.toInt ∧ 0 ≤ qy.toInt * co.toInt ∧ qy.toInt * co.toInt ≤ 499500 := by
  have m0 : 0 ≤ qy.toInt * co.toInt := Int.mul_nonneg h1 h3
  have m1 : qy.toInt * co.toInt ≤ 500 * 999 := Int.mul_le_mul h2 h4 h3 (by decide)
  refine ⟨?_, m0, by omega⟩
  rw [Int64.toInt_mul, Int32.toInt_toInt64, Int32.toInt_toInt64]
  exact Int.bmod_eq_of_le_mul_two (by omega) (by omega)
/-- what a new lot leaves -/
def RcK (S T : St) (qy co : Int32) : Prop := nLc T = nLc S + 1 ∧ nOc T = nOc S ∧ nMc T = nMc S ∧ (sI T 1 0).toInt = (sI S 1 0).toInt + 1 ∧ sI T 2 0 = sI S 2 0 ∧ (sJ T 1 0).toInt = (sJ S 1 0).toInt + qy.toInt * co.toInt ∧ sI T 41 (nLc S) = qy ∧ (sJ T 3 (nLc S)).toInt = qy.toInt * co.toInt
theorem Inv.rc {S : St} (hI : Inv S) {p : Nat} {qy co : Int32} (hp : p < nPc S) (h1 : 1 ≤ qy.toInt) (h2 : qy.toInt ≤ 500) (h3 : 0 ≤ co.toInt) (h4 : co.toInt ≤ 999) (hb : (sI S 1 0).toInt < 60) (hn : nLc S < 90) : Inv (rcT S p qy co) ∧ RcK S (rcT S p qy co) qy co := by
  obtain ⟨m1, m2, m3⟩ := qc_int (by omega) h2 h3 h4
  obtain ⟨-, -, k3, -, k5⟩ := hI.1.cost
  obtain ⟨⟨hW, hP, hB, hQ, hV, hO, hJ, hD, hM, hTr, hHd, hC, hN⟩, hH⟩ := hI
  unfold rcT
  generalize hc : qy.toInt64 * co.toInt64 = c at m1 ⊢
  have b1 : (sI S 1 0 + 1).toInt = (sI S 1 0).toInt + 1 := i32_addV rfl rfl (by have := hN.1; omega) (by omega)
  have b2 : (sJ S 1 0 + c).toInt = (sJ S 1 0).toInt + qy.toInt * co.toInt := i64_addV rfl m1 (by omega) (by omega)
  have tI : ∀ k, k ≠ 1 → ∀ i, sI (uJ (uI S 1 0 (sI S 1 0 + 1)) 1 0 (sJ S 1 0 + c)) k i = sI S k i := fun k a i => up2_nk (sI S) (sI S 1 0 + 1) a
  have tJ : ∀ k, k ≠ 1 → ∀ i, sJ (uJ (uI S 1 0 (sI S 1 0 + 1)) 1 0 (sJ S 1 0 + c)) k i = sJ S k i := fun k a i => up2_nk (sJ S) (sJ S 1 0 + c) a
  have tI1 : sI (uJ (uI S 1 0 (sI S 1 0 + 1)) 1 0 (sJ S 1 0 + c)) 1 0 = sI S 1 0 + 1 := up2_self (sI S) 1 0 (sI S 1 0 + 1)
  have tJ1 : sJ (uJ (uI S 1 0 (sI S 1 0 + 1)) 1 0 (sJ S 1 0 + c)) 1 0 = sJ S 1 0 + c := up2_self (sJ S) 1 0 (sJ S 1 0 + c)
  have tn : sN (uJ (uI S 1 0 (sI S 1 0 + 1)) 1 0 (sJ S 1 0 + c)) = sN S := rfl
  have tr : sR (uJ (uI S 1 0 (sI S 1 0 + 1)) 1 0 (sJ S 1 0 + c)) = sR S := rfl
  have tp : sP (uJ (uI S 1 0 (sI S 1 0 + 1)) 1 0 (sJ S 1 0 + c)) = sP S := rfl
  have tW : WT (uJ (uI S 1 0 (sI S 1 0 + 1)) 1 0 (sJ S 1 0 + c)) := hW
  generalize uJ (uI S 1 0 (sI S 1 0 + 1)) 1 0 (sJ S 1 0 + c) = B at tI tJ tI1 tJ1 tn tr tp tW ⊢
  have pp : ∀ k i, sP B k i = sP S k i := fun k i => by rw [tp]
  have rr : ∀ k i, sR B k i = sR S k i := fun k i => by rw [tr]
  have fc : ∀ c i, sI B 53 i = c ↔ sI S 53 i = c := fun c i => by rw [tI 53 (by decide)]
  have en : nLc B = nLc S := congrFun (congrFun tn 2) 0
  have eo : nOc B = nOc S := congrFun (congrFun tn 3) 0
  have hO' := hO.fr tn (tI 20 (by decide)) (tI 50 (by decide)) (tI 53 (by decide)) pp
  have nI1 : sI (nlS B p qy c) 1 0 = sI S 1 0 + 1 := (nl_Ik (by decide)).trans tI1
  have nJ1 : sJ (nlS B p qy c) 1 0 = sJ S 1 0 + c := (nl_Jk (by decide)).trans tJ1
  refine ⟨⟨⟨tW.nl (by rw [tn]; exact hp) (by rw [tn]; exact hn), (hP.fr tn (tI 30 (by decide)) (tI 20 (by decide))).nl, (hB.fr tn (tI 40 (by decide)) (tI 41 (by decide)) (tI 42 (by decide)) (tI 43 (by decide)) (tJ 3 (by decide))).nl (by omega) h2 (by omega) (fun z => by omega), (hQ.fr tn (tI 40 (by decide)) (tI 41 (by decide)) (tI 43 (by decide)) (fc 112) pp).nl hO', (hV.fr tn (tI 42 (by decide)) (fc 112) pp).nl hO', hO'.nl, (hJ.fr tn (tI 20 (by decide)) (tI 40 (by decide)) (tI 50 (by decide)) (fc 119) (fc 111) (fc 102) (fc 100) (tI 60 (by decide)) (tI 61 (by decide)) (tI 63 (by decide)) (rr 3) (rr 4) (tJ 5 (by decide))).nl, (hD.fr tn (tI 43 (by decide)) (tI 50 (by decide)) (tI 55 (by decide)) (fc 100) (tJ 4 (by decide)) (tJ 26 (by decide)) (tJ 27 (by decide))).nl, (hM.fr tn (rr 1) (tI 2 (by decide) 0) (tI 10 (by decide)) (tI 14 (by decide)) (tI 17 (by decide)) (tI 19 (by decide)) (fc 111)).nl, (hTr.fr tn (fun k hk i j => nsM_fr (tJ (2 * k) (by omega)) (tJ (2 * k + 1) (by omega)) i j)).nl (by rw [en]; exact hn), (hHd.fr (by rw [tn]; exact Nat.le_refl _) (fun j => nsM_fr (tJ (2 * 14) (by decide)) (tJ (2 * 14 + 1) (by decide)) 0 j)).nl, ?_, ?_⟩, (hH.fr tn (tI 42 (by decide)) (fun k hk i => ⟨tJ (2 * k) (by omega) i, tJ (2 * k + 1) (by omega) i⟩)).nl⟩, ?_⟩
  · obtain ⟨c1, c2, c3, c4⟩ := hC
    have q1 : sm (fun i => cT (nlS B p qy c) i) (nLc (nlS B p qy c)) = sm (fun i => cT B i) (nLc B) + c.toInt := sm_c_nl
    have q2 : sm (fun i => cT B i) (nLc B) = sm (fun i => cT S i) (nLc S) := by
      rw [en]; exact sm_congr (fun i _ => congrArg Int64.toInt (tJ 3 (by decide) i))
    have q3 : sm (fun o => eT (nlS B p qy c) o + gD (nlS B p qy c) o) (nOc S) = sm (fun o => eT S o + gD S o) (nOc S) := sm_congr (fun o _ => by
      unfold eT gD
      rw [nl_Jk (by decide), nl_Jk (by decide), tJ 5 (by decide), tJ 4 (by decide)])
    have l2 : sJ (nlS B p qy c) 2 0 = sJ S 2 0 := (nl_Jk (by decide)).trans (tJ 2 (by decide) 0)
    refine ⟨?_, by rw [l2]; exact c2, by rw [nJ1, nI1, b1, b2]; omega, fun z => ?_⟩
    · rw [q1, q2, nl_nO, eo, q3, l2, nJ1, b2]; omega
    · rw [l2] at z
      obtain ⟨o', a1, a2, a3⟩ := c4 z
      refine ⟨o', by rw [nl_nO, eo]; exact a1, ?_, by show sR B 4 o' = none; rw [tr]; exact a3⟩
      unfold isDn
      rw [nl_Ik (by decide), tI 63 (by decide)]; exact a2
  · obtain ⟨n1, n2, n3, n4, n5⟩ := hN
    have e2 : sI (nlS B p qy c) 2 0 = sI S 2 0 := (nl_Ik (by decide)).trans (tI 2 (by decide) 0)
    refine ⟨by rw [nI1, b1]; omega, by rw [nI1, b1]; omega, ?_, by rw [e2]; exact n4, by rw [e2]; exact n5⟩
    rw [nI1, b1, nl_nL, nl_nO, eo, en]
    have : sm (fun o => bZ (sR (nlS B p qy c) 4 o).isSome) (nOc S) = sm (fun o => bZ (sR S 4 o).isSome) (nOc S) := sm_congr (fun o _ => by
      show bZ (sR B 4 o).isSome = _
      rw [tr])
    rw [this]; omega
  · have e41 : sI (nlS B p qy c) 41 (nLc S) = qy := by rw [← en]; exact nl_41
    have e3 : sJ (nlS B p qy c) 3 (nLc S) = c := by rw [← en]; exact nl_3
    exact ⟨by rw [nl_nL, en], by rw [nl_nO, eo], (nlS_n (by decide) (by decide)).trans (congrFun (congrFun tn 0) 0), by rw [nI1, b1], (nl_Ik (by decide)).trans (tI 2 (by decide) 0), by rw [nJ1, b2], e41, by rw [e3, m1]⟩
theorem Inv.sup {S T : St} (hI : Inv S) (h : SupEq S T) : Inv T := by
  obtain ⟨⟨hW, hP, hB, hQ, hV, hO, hJ, hD, hM, hTr, hHd, hC, hN⟩, hH⟩ := hI
  have tn : sN T = sN S := h.1
  have tj : sJ T = sJ S := congrArg Prod.fst h.2.1
  have tr : sR T = sR S := congrArg (fun z => z.2.1) h.2.1
  have tp : sP T = sP S := congrArg (fun z => z.2.2) h.2.1
  have tI : ∀ k, k ≠ 33 ∧ k ≠ 34 ∧ k ≠ 35 → ∀ i, sI T k i = sI S k i := fun k a i => h.2.2 k i a.1 a.2.1 a.2.2
  have pp : ∀ k i, sP T k i = sP S k i := fun k i => by rw [tp]
  have rr : ∀ k i, sR T k i = sR S k i := fun k i => by rw [tr]
  have jj : ∀ k i, sJ T k i = sJ S k i := fun k i => by rw [tj]
  have fc : ∀ c i, sI T 53 i = c ↔ sI S 53 i = c := fun c i => by rw [tI 53 (by decide)]
  exact ⟨⟨hW.fr tn tr, hP.fr tn (tI 30 (by decide)) (tI 20 (by decide)), hB.fr tn (tI 40 (by decide)) (tI 41 (by decide)) (tI 42 (by decide)) (tI 43 (by decide)) (jj 3), hQ.fr tn (tI 40 (by decide)) (tI 41 (by decide)) (tI 43 (by decide)) (fc 112) pp, hV.fr tn (tI 42 (by decide)) (fc 112) pp, hO.fr tn (tI 20 (by decide)) (tI 50 (by decide)) (tI 53 (by decide)) pp, hJ.fr tn (tI 20 (by decide)) (tI 40 (by decide)) (tI 50 (by decide)) (fc 119) (fc 111) (fc 102) (fc 100) (tI 60 (by decide)) (tI 61 (by decide)) (tI 63 (by decide)) (rr 3) (rr 4) (jj 5), hD.fr tn (tI 43 (by decide)) (tI 50 (by decide)) (tI 55 (by decide)) (fc 100) (jj 4) (jj 26) (jj 27), hM.fr tn (rr 1) (tI 2 (by decide) 0) (tI 10 (by decide)) (tI 14 (by decide)) (tI 17 (by decide)) (tI 19 (by decide)) (fc 111), hTr.fr tn (fun k _ i j => nsM_congr jj k i j), hHd.fr (by rw [tn]; exact Nat.le_refl _) (fun j => nsM_congr jj 14 0 j), hC.fr tn (jj 3) (jj 5) (jj 4) (jj 1 0) (jj 2 0) (tI 1 (by decide) 0) (tI 63 (by decide)) (rr 4), hN.fr tn (rr 4) (tI 1 (by decide) 0) (tI 2 (by decide) 0)⟩, hH.fr tn (tI 42 (by decide)) (fun k _ i => ⟨jj _ i, jj _ i⟩)⟩
/-- the newest lot, of which nothing is made, is put on hold -/
theorem Inv.addHold {S : St} (hI : Inv S) {n : Nat} (hn : nLc S = n + 1) (hv : sI S 42 n = 0) : Inv (sAdd S 14 0 n) := by
  have hL : nLc S ≤ 90 := hI.1.1.nL
  have n128 : n < 128 := by omega
  refine ⟨hI.1.held rfl (sAdd_I S 14 0 n) rfl (sAdd_P S 14 0 n) (fun k z a b => sAdd_J S 14 0 n k z (fun q => a (by omega)) (fun q => b (by omega))) ?_, ?_⟩
  · intro j hj hm
    rw [sAdd_M n128 hj] at hm
    show j < nLc S
    rcases (Bool.or_eq_true _ _).mp hm with z | z
    · exact hI.1.2.2.2.2.2.2.2.2.2.2.1 j hj z
    · rw [Bool.and_eq_true] at z
      have := of_decide_eq_true z.2
      omega
  · intro i hi hvi
    have hi : i < nLc S := hi
    have hvi : 0 < vT S i := by
      have : vT (sAdd S 14 0 n) i = vT S i := by show (sI (sAdd S 14 0 n) 42 i).toInt = _; rw [sAdd_I]
      omega
    have ne : i ≠ n := fun z => by
      have : vT S i = 0 := by show (sI S 42 i).toInt = 0; rw [z, hv]; rfl
      omega
    have h0 := hI.2 i hi hvi
    rcases hb : barred (sAdd S 14 0 n) i with _ | _
    · rfl
    · exfalso
      have i128 : i < 128 := by omega
      have : barred S i = true := (barred_iff S i).mpr (((barred_iff _ i).mp hb).imp (fun z => by
        rw [sAdd_M n128 i128, Bool.or_eq_true, Bool.and_eq_true] at z
        rcases z with z | z
        · exact z
        · exact absurd (of_decide_eq_true z.2) ne) (fun ⟨j, a, b, c⟩ => by
        have b8 : nsM S 8 i j = true := by
          have e : nsM (sAdd S 14 0 n) 8 i j = nsM S 8 i j := by rw [sAdd_M n128 a]; simp
          rw [← e]; exact b
        have jl := ((hI.1.2.2.2.2.2.2.2.2.2.1.1 i hi).1 j a b8).1
        refine ⟨j, a, b8, ?_⟩
        rw [sAdd_M n128 a, Bool.or_eq_true, Bool.and_eq_true] at c
        rcases c with c | c
        · exact c
        · exact absurd (of_decide_eq_true c.2) (by omega)))
      rw [this] at h0; exact absurd h0 (by decide)
theorem Inv.receive {S U T : St} (hI : Inv S) {p : Nat} {qy co : Int32} (hp : p < nPc S) (h1 : 1 ≤ qy.toInt) (h2 : qy.toInt ≤ 500) (h3 : 0 ≤ co.toInt) (h4 : co.toInt ≤ 999) (hb : (sI S 1 0).toInt < 60) (hn : nLc S < 90) (hT : SupEq (rcT S p qy co) T) (hU : U = T ∨ U = sAdd T 14 0 (sN S 2 0)) : Inv U ∧ RcK S U qy co := by
  obtain ⟨a, b⟩ := hI.rc hp h1 h2 h3 h4 hb hn
  have c := a.sup hT
  have e42 : sI (rcT S p qy co) 42 (nLc S) = 0 := nl_42 (S := uJ (uI S 1 0 (sI S 1 0 + 1)) 1 0 (sJ S 1 0 + qy.toInt64 * co.toInt64))
  generalize rcT S p qy co = R at a b hT e42
  have tn : sN T = sN R := hT.1
  have tj : sJ T = sJ R := congrArg Prod.fst hT.2.1
  have tI : ∀ k, k ≠ 33 ∧ k ≠ 34 ∧ k ≠ 35 → ∀ i, sI T k i = sI R k i := fun k a i => hT.2.2 k i a.1 a.2.1 a.2.2
  have bT : RcK S T qy co := by
    unfold RcK nLc nOc nMc
    rw [tn, tj, tI 1 (by decide), tI 2 (by decide), tI 41 (by decide)]
    exact b
  rcases hU with rfl | rfl
  · exact ⟨c, bT⟩
  · refine ⟨c.addHold (n := sN S 2 0) bT.1 ((tI 42 (by decide) _).trans e42), ?_⟩
    unfold RcK
    rw [sAdd_I, sAdd_J _ _ _ _ _ _ (by omega) (by omega), sAdd_J _ _ _ _ _ _ (by omega) (by omega)]
    exact bT
