/-! PURE: what each part of Inv reads -/
theorem beq_iff {a b c : Int32} (h : a = c ↔ b = c) : (a == c) = (b == c) := by
  by_cases z : b = c
  · rw [z, h.mpr z]
  · rw [beq_false_of_ne z, beq_false_of_ne (fun y => z (h.mp y))]
theorem IPart.fr {S T : St} (h : IPart S) (hn : sN T = sN S) (h30 : ∀ i, sI T 30 i = sI S 30 i) : IPart T := by
  simp only [IPart, nPc, hn, h30]
  exact h
theorem IOrd.fr {S T : St} (h : IOrd S) (hn : sN T = sN S) (h20 : ∀ i, sI T 20 i = sI S 20 i) (h50 : ∀ i, sI T 50 i = sI S 50 i) (h53 : ∀ i, sI T 53 i = sI S 53 i) (hp : ∀ o i, sP T o i = sP S o i) : IOrd T := by
  simp only [IOrd, nOc, nLc, pT, hn, h20, h50, h53, hp]
  exact h
theorem IDel.fr {S T : St} (h : IDel S) (hn : sN T = sN S) (h43 : ∀ i, sI T 43 i = sI S 43 i) (h50 : ∀ i, sI T 50 i = sI S 50 i) (h55 : ∀ i, sI T 55 i = sI S 55 i) (h53 : ∀ i, sI T 53 i = 100 ↔ sI S 53 i = 100) (h4 : ∀ i, sJ T 4 i = sJ S 4 i) (h26 : ∀ i, sJ T 26 i = sJ S 26 i) (h27 : ∀ i, sJ T 27 i = sJ S 27 i) : IDel T := by
  have eM : ∀ i j, nsM T 13 i j = nsM S 13 i j := fun i j => by
    show nsb (sJ T 26 i) (sJ T 27 i) j = nsb (sJ S 26 i) (sJ S 27 i) j
    rw [h26, h27]
  simp only [IDel, nOc, nLc, gD, dT, hn, h43, h50, h55, h53, h4, eM]
  exact h
theorem IMach.fr {S T : St} (h : IMach S) (hn : sN T = sN S) (hr : ∀ i, sR T 1 i = sR S 1 i) (h2 : sI T 2 0 = sI S 2 0) (h10 : ∀ i, sI T 10 i = sI S 10 i) (h14 : ∀ i, sI T 14 i = sI S 14 i) (h17 : ∀ i, sI T 17 i = sI S 17 i) (h19 : ∀ i, sI T 19 i = sI S 19 i) (h53 : ∀ i, sI T 53 i = 111 ↔ sI S 53 i = 111) : IMach T := by
  have e53 : ∀ i, (sI T 53 i == 111) = (sI S 53 i == 111) := fun i => beq_iff (h53 i)
  simp only [IMach, nMc, nOc, hn, hr, h2, h10, h14, h17, h19, h53, e53]
  exact h
theorem nsM_fr {S T : St} {k : Nat} (h1 : ∀ i, sJ T (2 * k) i = sJ S (2 * k) i) (h2 : ∀ i, sJ T (2 * k + 1) i = sJ S (2 * k + 1) i) (i j : Nat) : nsM T k i j = nsM S k i j := by
  show nsb (sJ T (2 * k) i) (sJ T (2 * k + 1) i) j = nsb (sJ S (2 * k) i) (sJ S (2 * k + 1) i) j
  rw [h1, h2]
theorem ITr.fr {S T : St} (h : ITr S) (hn : sN T = sN S) (hM : ∀ k, k = 8 ∨ k = 9 ∨ k = 10 ∨ k = 13 → ∀ i j, nsM T k i j = nsM S k i j) : ITr T := by
  have e8 := hM 8 (by decide)
  have e9 := hM 9 (by decide)
  have e10 := hM 10 (by decide)
  have e13 := hM 13 (by decide)
  simp only [ITr, nOc, nLc, hn, e8, e9, e10, e13]
  exact h
theorem IHd.fr {S T : St} (h : IHd S) (hn : sN S 2 0 ≤ sN T 2 0) (hM : ∀ j, nsM T 14 0 j = nsM S 14 0 j) : IHd T := fun j hj hm => by
  rw [hM] at hm
  exact Nat.lt_of_lt_of_le (h j hj hm) hn
theorem ICnt.fr {S T : St} (h : ICnt S) (hn : sN T = sN S) (hr : ∀ i, sR T 4 i = sR S 4 i) (h1 : sI T 1 0 = sI S 1 0) (h2 : sI T 2 0 = sI S 2 0) : ICnt T := by
  simp only [ICnt, nOc, nLc, hn, hr, h1, h2]
  exact h
theorem ILB.fr {S T : St} (h : ILB S) (hn : sN T = sN S) (h40 : ∀ i, sI T 40 i = sI S 40 i) (h41 : ∀ i, sI T 41 i = sI S 41 i) (h42 : ∀ i, sI T 42 i = sI S 42 i) (h43 : ∀ i, sI T 43 i = sI S 43 i) (h3 : ∀ i, sJ T 3 i = sJ S 3 i) : ILB T := by
  simp only [ILB, nLc, vT, rT, dT, qT, cT, hn, h40, h41, h42, h43, h3]
  exact h
theorem ILQ.fr {S T : St} (h : ILQ S) (hn : sN T = sN S) (h40 : ∀ i, sI T 40 i = sI S 40 i) (h41 : ∀ i, sI T 41 i = sI S 41 i) (h43 : ∀ i, sI T 43 i = sI S 43 i) (h53 : ∀ i, sI T 53 i = 112 ↔ sI S 53 i = 112) (hp : ∀ o i, sP T o i = sP S o i) : ILQ T := by
  simp only [ILQ, nLc, nOc, rT, dT, qT, pK, pT, hn, h40, h41, h43, h53, hp]
  exact h
theorem ILV.fr {S T : St} (h : ILV S) (hn : sN T = sN S) (h42 : ∀ i, sI T 42 i = sI S 42 i) (h53 : ∀ i, sI T 53 i = 112 ↔ sI S 53 i = 112) (hp : ∀ o i, sP T o i = sP S o i) : ILV T := by
  simp only [ILV, nLc, nOc, vT, pR, pT, hn, h42, h53, hp]
  exact h
theorem ILH.fr {S T : St} (h : ILH S) (hn : sN T = sN S) (h42 : ∀ i, sI T 42 i = sI S 42 i) (hM : ∀ k, k = 8 ∨ k = 14 → ∀ i, sJ T (2 * k) i = sJ S (2 * k) i ∧ sJ T (2 * k + 1) i = sJ S (2 * k + 1) i) : ILH T := by
  have e : ∀ i, barred T i = barred S i := fun i => by
    unfold barred
    rw [show nsM T 14 0 i = nsM S 14 0 i from nsM_fr (fun i => (hM 14 (Or.inr rfl) i).1) (fun i => (hM 14 (Or.inr rfl) i).2) 0 i, show nsLo T 8 i = nsLo S 8 i from (hM 8 (Or.inl rfl) i).1, show nsHi T 8 i = nsHi S 8 i from (hM 8 (Or.inl rfl) i).2, show nsLo T 14 0 = nsLo S 14 0 from (hM 14 (Or.inr rfl) 0).1, show nsHi T 14 0 = nsHi S 14 0 from (hM 14 (Or.inr rfl) 0).2]
  simp only [ILH, nLc, vT, hn, h42, e]
  exact h
/-- the job of an order that isn't promised or untouched alone; x: of it where it waits is left open -/
theorem IJob.fr {S T : St} {x : Nat} (h : IJob S x) (hn : sN T = sN S) (h20 : ∀ i, sI T 20 i = sI S 20 i) (h40 : ∀ i, sI T 40 i = sI S 40 i) (h50 : ∀ i, sI T 50 i = sI S 50 i) (h53 : ∀ i, sI T 53 i = sI S 53 i) (h60 : ∀ i, sI T 60 i = sI S 60 i) (h61 : ∀ i, sI T 61 i = sI S 61 i) (h63 : ∀ i, sI T 63 i = sI S 63 i) (h3 : ∀ i, sR T 3 i = sR S 3 i) (h4 : ∀ i, sR T 4 i = sR S 4 i) (h5 : ∀ i, sJ T 5 i = sJ S 5 i) : IJob T x := by
  simp only [IJob, nLc, nOc, inWk, isDn, eT, hn, h20, h40, h50, h53, h60, h61, h63, h3, h4, h5]
  exact h
theorem ICost.fr {S T : St} (h : ICost S) (hn : sN T = sN S) (h3 : ∀ i, sJ T 3 i = sJ S 3 i) (h5 : ∀ i, sJ T 5 i = sJ S 5 i) (h4 : ∀ i, sJ T 4 i = sJ S 4 i) (h1 : sJ T 1 0 = sJ S 1 0) (h2 : sJ T 2 0 = sJ S 2 0) (hb : sI T 1 0 = sI S 1 0) (h63 : ∀ i, sI T 63 i = sI S 63 i) (hr : ∀ i, sR T 4 i = sR S 4 i) : ICost T := by
  simp only [ICost, nLc, nOc, cT, eT, gD, isDn, hn, h3, h4, h5, h1, h2, hb, h63, hr]
  exact h
