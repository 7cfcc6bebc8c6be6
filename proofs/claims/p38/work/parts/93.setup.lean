/-! PURE: the states in which the law sets its factory up -/
section SUS
variable {S T : St}
def SU (S : St) : Prop := WT S ∧ nLc S = 0 ∧ nOc S = 0 ∧ IPart0 S ∧ (∀ m, m < nMc S → sI S 10 m = 0 ∧ sI S 14 m = 45 ∧ sR S 1 m = none ∧ sI S 19 m = 0) ∧ (sJ S 28 0 = 0 ∧ sJ S 29 0 = 0) ∧ (sI S 1 0 = 0 ∧ sI S 2 0 = 0 ∧ sJ S 1 0 = 0 ∧ sJ S 2 0 = 0)
theorem z32 : (0 : Int32).toInt = 0 := rfl
theorem z64 : (0 : Int64).toInt = 0 := by decide
theorem sm_z (f : Nat → Int) : sm f 0 = 0 := rfl
theorem SU.mach (h : SU S) : IMach S := by
  obtain ⟨hW, hL, hO, hP, hM, -, e1, e2, e3, e4⟩ := h
  refine ⟨fun m hm => ?_, ?_⟩
  · obtain ⟨a, b, c, d⟩ := hM m hm
    refine ⟨a, Or.inl b, ⟨fun z => ?_, fun z => absurd c z⟩, fun o ho => ?_, ?_, ?_⟩
    · exact absurd z (i_ne b (by decide))
    · rw [c] at ho; cases ho
    · rw [d, z32]; exact Int.le_refl _
    · rw [d, e2]; exact Int.le_refl _
  · rw [hO, sm_z]
    have : ∀ n, n ≤ nMc S → sm (fun m => bZ (sI S 14 m == 111)) n = 0 := fun n => by
      induction n with
      | zero => intro _; rfl
      | succ n ih =>
        intro hn
        have k := ih (by omega)
        show sm _ n + bZ (sI S 14 n == 111) = 0
        rw [k, beq_false_of_ne (i_ne (hM n (by omega)).2.1 (by decide))]; rfl
    exact this _ (Nat.le_refl _)
theorem SU.hd (h : SU S) : IHd S := fun j hj hm => by
  obtain ⟨hW, hL, hO, hP, hM, ⟨hH1, hH2⟩, e1⟩ := h
  have hm : nsb (sJ S 28 0) (sJ S 29 0) j = true := hm
  rw [hH1, hH2] at hm
  unfold nsb at hm
  split at hm
  · rw [lb_0] at hm; cases hm
  · rw [lb_0] at hm; cases hm
theorem SU.cost (h : SU S) : ICost S := by
  obtain ⟨hW, hL, hO, hP, hM, -, e1, e2, e3, e4⟩ := h
  refine ⟨?_, ?_, ?_, fun z => ?_⟩
  · rw [hO, hL, e4, e3, sm_z, sm_z]; omega
  · rw [e4, z64]; exact Int.le_refl _
  · rw [e3, e1, z64, z32]; omega
  · rw [e4, z64] at z; omega
theorem SU.cnt (h : SU S) : ICnt S := by
  obtain ⟨hW, hL, hO, hP, hM, -, e1, e2, e3, e4⟩ := h
  refine ⟨?_, ?_, ?_, ?_, ?_⟩
  · rw [e1, z32]; exact Int.le_refl _
  · rw [e1, z32]; omega
  · rw [hL, hO, e1, sm_z, z32]; omega
  · rw [e2, z32]; exact Int.le_refl _
  · rw [e2, z32]; omega
theorem SU.inv (h : SU S) (h6 : nPc S = 6) (h0 : sI S 20 0 = 0) (h1 : sI S 20 1 = 0) : Inv S := by
  have nl : ∀ {P : Nat → Prop}, ∀ i, i < nLc S → P i := fun i hi => by rw [h.2.1] at hi; exact absurd hi (Nat.not_lt_zero i)
  have no : ∀ {P : Nat → Prop}, ∀ i, i < nOc S → P i := fun i hi => by rw [h.2.2.1] at hi; exact absurd hi (Nat.not_lt_zero i)
  refine ⟨⟨h.1, ⟨h.2.2.2.1, h6, h0, h1⟩, nl, nl, nl, no, no, ⟨no, ?_⟩, h.mach, ⟨nl, no⟩, h.hd, h.cost, h.cnt⟩, nl⟩
  rw [h.2.1, h.2.2.1, sm_z, sm_z]
theorem SU.m {ra se li re : Int32} (h : SU S) (hn : sN S 0 0 < 5) (hra : ra = 0) : SU (nwMS S ra se li re) := by
  obtain ⟨hW, hL, hO, hP, hM, hH, e1⟩ := h
  have eN : ∀ k i, k ≠ 0 → sN (nwMS S ra se li re) k i = sN S k i := fun k i hk => up2_ne _ _ (fun z => hk z.1)
  have e0 : sN (nwMS S ra se li re) 0 0 = sN S 0 0 + 1 := by simp [nwMS, sN, up2]
  have eR : ∀ k i, ¬ (k = 1 ∧ i = sN S 0 0) → sR (nwMS S ra se li re) k i = sR S k i := fun k i hk => up2_ne _ _ hk
  have eRn : sR (nwMS S ra se li re) 1 (sN S 0 0) = none := up2_self _ _ _ _
  have eI : ∀ k i, i ≠ sN S 0 0 → sI (nwMS S ra se li re) k i = sI S k i := fun k i hi => by simp [nwMS, sI, up2, show ¬ i = sN S 0 0 from hi]
  have eIk : ∀ k i, (k < 10 ∨ 19 < k) → sI (nwMS S ra se li re) k i = sI S k i := fun k i hk => by
    have : ¬ k = 10 ∧ ¬ k = 11 ∧ ¬ k = 12 ∧ ¬ k = 13 ∧ ¬ k = 14 ∧ ¬ k = 15 ∧ ¬ k = 16 ∧ ¬ k = 17 ∧ ¬ k = 18 ∧ ¬ k = 19 := by omega
    simp [nwMS, sI, up2, this]
  have en : sI (nwMS S ra se li re) 10 (sN S 0 0) = ra ∧ sI (nwMS S ra se li re) 14 (sN S 0 0) = 45 ∧ sI (nwMS S ra se li re) 19 (sN S 0 0) = 0 := by simp [nwMS, sI, up2]
  have eJ : ∀ k i, sJ (nwMS S ra se li re) k i = sJ S k i := fun k i => rfl
  have hV : ∀ q, (V (nwMS S ra se li re) 4 q → V S 4 q) ∧ (V (nwMS S ra se li re) 5 q → V S 5 q) := fun q => by
    unfold V
    rw [eN 1 0 (by decide), eN 4 _ (by decide), eN 5 _ (by decide)]
    exact ⟨id, id⟩
  generalize (nwMS S ra se li re) = T at *
  have eL : nLc T = 0 := (eN 2 0 (by decide)).trans hL
  have eO : nOc T = 0 := (eN 3 0 (by decide)).trans hO
  refine ⟨⟨fun i hi => ?_, fun o ho => ?_, fun q hq => ?_, fun q hq => ?_, fun q a hq ha => ?_, fun i o hi ha => ?_, fun o i ho ha => ?_, fun o i ho ha => ?_, ?_, ?_, ?_, ?_, fun z hz => ?_, fun z hz => ?_⟩, eL, eO, ?_, fun m hm => ?_, ⟨by rw [eJ]; exact hH.1, by rw [eJ]; exact hH.2⟩, ⟨by rw [eIk 1 0 (by omega)]; exact e1.1, by rw [eIk 2 0 (by omega)]; exact e1.2.1, by rw [eJ]; exact e1.2.2.1, by rw [eJ]; exact e1.2.2.2⟩⟩
  · exact absurd hi (by rw [show sN T 2 0 = 0 from eL]; omega)
  · exact absurd ho (by rw [show sN T 3 0 = 0 from eO]; omega)
  · rw [eN 8 _ (by decide), eN 1 _ (by decide)]; exact hW.compPart ((hV q).1 hq)
  · rw [eN 9 _ (by decide), e0]; have := hW.opMach ((hV q).2 hq); omega
  · rw [eR 2 q (by omega)] at ha; rw [e0]; have := hW.alt ((hV q).2 hq) ha; omega
  · rw [e0] at hi
    by_cases e : i = sN S 0 0
    · rw [e, eRn] at ha; cases ha
    · rw [eR 1 i (fun z => e z.2), (hM i (by show i < sN S 0 0; omega)).2.2.1] at ha; cases ha
  · exact absurd ho (by rw [show sN T 3 0 = 0 from eO]; omega)
  · exact absurd ho (by rw [show sN T 3 0 = 0 from eO]; omega)
  · rw [e0]; omega
  · rw [eN 1 _ (by decide)]; exact hW.nP
  · rw [show sN T 2 0 = 0 from eL]; omega
  · rw [show sN T 3 0 = 0 from eO]; omega
  · rw [eN 1 _ (by decide)] at hz; rw [eN 4 _ (by decide)]; exact hW.nC hz
  · rw [eN 1 _ (by decide)] at hz; rw [eN 5 _ (by decide)]; exact hW.nOp hz
  · intro p j hp hj
    have hp : p < sN T 1 0 := hp
    rw [eN 1 _ (by decide)] at hp
    rw [eN 4 _ (by decide)] at hj
    rw [eN 8 _ (by decide), eIk 30 _ (by omega)]; exact hP p j hp hj
  · have hm : m < sN T 0 0 := hm
    rw [e0] at hm
    by_cases e : m = sN S 0 0
    · rw [e]; exact ⟨en.1.trans hra, en.2.1, eRn, en.2.2⟩
    · rw [eI 10 m e, eI 14 m e, eI 19 m e, eR 1 m (fun z => e z.2)]; exact hM m (by show m < sN S 0 0; omega)
theorem SU.p {mk fa : Int32} (h : SU S) (hn : sN S 1 0 < 12) : SU (nwPS S mk fa) := by
  obtain ⟨hW, hL, hO, hP, hM, hH, e1⟩ := h
  have eN : ∀ k i, k ≠ 1 → (k ≠ 4 ∧ k ≠ 5 ∨ i ≠ sN S 1 0) → sN (nwPS S mk fa) k i = sN S k i := fun k i h1 h2 => by
    rcases h2 with h2 | h2
    · simp [nwPS, sN, up2, h1, h2.1, h2.2]
    · simp [nwPS, sN, up2, h1, show ¬ i = S.1 1 0 from h2]
  have e0 : sN (nwPS S mk fa) 1 0 = sN S 1 0 + 1 := by simp [nwPS, sN, up2]
  have e4 : sN (nwPS S mk fa) 4 (sN S 1 0) = 0 ∧ sN (nwPS S mk fa) 5 (sN S 1 0) = 0 := by simp [nwPS, sN, up2]
  have eR : ∀ k i, sR (nwPS S mk fa) k i = sR S k i := fun k i => rfl
  have eIk : ∀ k i, (k < 20 ∨ 26 < k) → sI (nwPS S mk fa) k i = sI S k i := fun k i hk => by
    have : ¬ k = 20 ∧ ¬ k = 21 ∧ ¬ k = 22 ∧ ¬ k = 23 ∧ ¬ k = 24 ∧ ¬ k = 25 ∧ ¬ k = 26 := by omega
    simp [nwPS, sI, up2, this]
  have eJ : ∀ k i, sJ (nwPS S mk fa) k i = sJ S k i := fun k i => rfl
  have hV : ∀ q, (V (nwPS S mk fa) 4 q → V S 4 q) ∧ (V (nwPS S mk fa) 5 q → V S 5 q) := fun q => by
    unfold V
    rw [e0]
    by_cases e : q / 4 = sN S 1 0
    · rw [e, e4.1, e4.2]; exact ⟨fun z => absurd z.2 (Nat.not_lt_zero _), fun z => absurd z.2 (Nat.not_lt_zero _)⟩
    · rw [eN 4 _ (by decide) (Or.inr e), eN 5 _ (by decide) (Or.inr e)]; exact ⟨fun z => ⟨Nat.lt_of_le_of_ne (Nat.lt_succ_iff.mp z.1) e, z.2⟩, fun z => ⟨Nat.lt_of_le_of_ne (Nat.lt_succ_iff.mp z.1) e, z.2⟩⟩
  generalize (nwPS S mk fa) = T at *
  have eL : nLc T = 0 := (eN 2 0 (by decide) (Or.inl (by decide))).trans hL
  have eO : nOc T = 0 := (eN 3 0 (by decide) (Or.inl (by decide))).trans hO
  have em : sN T 0 0 = sN S 0 0 := eN 0 0 (by decide) (Or.inl (by decide))
  refine ⟨⟨fun i hi => ?_, fun o ho => ?_, fun q hq => ?_, fun q hq => ?_, fun q a hq ha => ?_, fun i o hi ha => ?_, fun o i ho ha => ?_, fun o i ho ha => ?_, ?_, ?_, ?_, ?_, fun z hz => ?_, fun z hz => ?_⟩, eL, eO, ?_, fun m hm => ?_, ⟨by rw [eJ]; exact hH.1, by rw [eJ]; exact hH.2⟩, ⟨by rw [eIk 1 0 (by omega)]; exact e1.1, by rw [eIk 2 0 (by omega)]; exact e1.2.1, by rw [eJ]; exact e1.2.2.1, by rw [eJ]; exact e1.2.2.2⟩⟩
  · exact absurd hi (by rw [show sN T 2 0 = 0 from eL]; omega)
  · exact absurd ho (by rw [show sN T 3 0 = 0 from eO]; omega)
  · rw [eN 8 _ (by decide) (Or.inl (by decide)), e0]; have := hW.compPart ((hV q).1 hq); omega
  · rw [eN 9 _ (by decide) (Or.inl (by decide)), em]; exact hW.opMach ((hV q).2 hq)
  · rw [eR] at ha; rw [em]; exact hW.alt ((hV q).2 hq) ha
  · rw [em] at hi; rw [eR, (hM i hi).2.2.1] at ha; cases ha
  · exact absurd ho (by rw [show sN T 3 0 = 0 from eO]; omega)
  · exact absurd ho (by rw [show sN T 3 0 = 0 from eO]; omega)
  · rw [em]; exact hW.nM
  · rw [e0]; omega
  · rw [show sN T 2 0 = 0 from eL]; omega
  · rw [show sN T 3 0 = 0 from eO]; omega
  · rw [e0] at hz
    by_cases e : z = sN S 1 0
    · rw [e, e4.1]; omega
    · rw [eN 4 _ (by decide) (Or.inr e)]; exact hW.nC (by omega)
  · rw [e0] at hz
    by_cases e : z = sN S 1 0
    · rw [e, e4.2]; omega
    · rw [eN 5 _ (by decide) (Or.inr e)]; exact hW.nOp (by omega)
  · intro p j hp hj
    have hp : p < sN T 1 0 := hp
    rw [e0] at hp
    by_cases e : p = sN S 1 0
    · rw [e, e4.1] at hj; exact absurd hj (Nat.not_lt_zero _)
    · rw [eN 4 _ (by decide) (Or.inr e)] at hj
      rw [eN 8 _ (by decide) (Or.inl (by decide)), eIk 30 _ (by omega)]; exact hP p j (by show p < sN S 1 0; omega) hj
  · have hm : m < sN T 0 0 := hm
    rw [em] at hm
    rw [eIk 10 m (by omega), eIk 14 m (by omega), eIk 19 m (by omega), eR]; exact hM m hm
theorem SU.c {p cz : Nat} {pc op : Int32} (h : SU S) (hp : p < sN S 1 0) (hc : cz < sN S 1 0) (hcp : cz < p) (h1 : 1 ≤ pc.toInt) (h9 : pc.toInt ≤ 9) (hn : sN S 4 p < 4) : SU (nwCS S p cz pc op) := by
  obtain ⟨hW, hL, hO, hP, hM, hH, e1⟩ := h
  have eN : ∀ k i, k ≠ 4 → k ≠ 8 → sN (nwCS S p cz pc op) k i = sN S k i := fun k i h1 h2 => by simp [nwCS, sN, up2, h1, h2]
  have e4 : ∀ i, sN (nwCS S p cz pc op) 4 i = if i = p then sN S 4 p + 1 else sN S 4 i := fun i => by by_cases e : i = p <;> simp [nwCS, sN, up2, e]
  have e8 : ∀ i, sN (nwCS S p cz pc op) 8 i = if i = 4 * p + sN S 4 p then cz else sN S 8 i := fun i => by by_cases e : i = 4 * p + sN S 4 p <;> simp [nwCS, sN, up2, e]
  have eR : ∀ k i, sR (nwCS S p cz pc op) k i = sR S k i := fun k i => rfl
  have eIk : ∀ k i, k ≠ 30 → k ≠ 31 → sI (nwCS S p cz pc op) k i = sI S k i := fun k i h1 h2 => by simp [nwCS, sI, up2, h1, h2]
  have e30 : ∀ i, sI (nwCS S p cz pc op) 30 i = if i = 4 * p + sN S 4 p then pc else sI S 30 i := fun i => by by_cases e : i = 4 * p + sN S 4 p <;> simp [nwCS, sI, up2, e]
  have eJ : ∀ k i, sJ (nwCS S p cz pc op) k i = sJ S k i := fun k i => rfl
  have hV4 : ∀ q, V (nwCS S p cz pc op) 4 q → q = 4 * p + sN S 4 p ∨ V S 4 q := fun q z => by
    have z1 : q / 4 < sN (nwCS S p cz pc op) 1 0 := z.1
    have z2 : q % 4 < sN (nwCS S p cz pc op) 4 (q / 4) := z.2
    rw [eN 1 0 (by decide) (by decide)] at z1
    rw [e4] at z2
    by_cases e : q / 4 = p
    · rw [if_pos e] at z2
      by_cases e2 : q % 4 = sN S 4 p
      · left; omega
      · right; exact ⟨z1, by rw [e]; omega⟩
    · rw [if_neg e] at z2; exact Or.inr ⟨z1, z2⟩
  have hV5 : ∀ q, V (nwCS S p cz pc op) 5 q → V S 5 q := fun q z => by
    have z1 : q / 4 < sN (nwCS S p cz pc op) 1 0 := z.1
    have z2 : q % 4 < sN (nwCS S p cz pc op) 5 (q / 4) := z.2
    rw [eN 1 0 (by decide) (by decide)] at z1
    rw [eN 5 _ (by decide) (by decide)] at z2
    exact ⟨z1, z2⟩
  generalize (nwCS S p cz pc op) = T at *
  have eL : nLc T = 0 := (eN 2 0 (by decide) (by decide)).trans hL
  have eO : nOc T = 0 := (eN 3 0 (by decide) (by decide)).trans hO
  have em : sN T 0 0 = sN S 0 0 := eN 0 0 (by decide) (by decide)
  have ep : sN T 1 0 = sN S 1 0 := eN 1 0 (by decide) (by decide)
  refine ⟨⟨fun i hi => ?_, fun o ho => ?_, fun q hq => ?_, fun q hq => ?_, fun q a hq ha => ?_, fun i o hi ha => ?_, fun o i ho ha => ?_, fun o i ho ha => ?_, ?_, ?_, ?_, ?_, fun z hz => ?_, fun z hz => ?_⟩, eL, eO, ?_, fun m hm => ?_, ⟨by rw [eJ]; exact hH.1, by rw [eJ]; exact hH.2⟩, ⟨by rw [eIk 1 0 (by decide) (by decide)]; exact e1.1, by rw [eIk 2 0 (by decide) (by decide)]; exact e1.2.1, by rw [eJ]; exact e1.2.2.1, by rw [eJ]; exact e1.2.2.2⟩⟩
  · exact absurd hi (by rw [show sN T 2 0 = 0 from eL]; omega)
  · exact absurd ho (by rw [show sN T 3 0 = 0 from eO]; omega)
  · rw [e8, ep]
    by_cases e : q = 4 * p + sN S 4 p
    · rw [if_pos e]; exact hc
    · rw [if_neg e]; exact hW.compPart ((hV4 q hq).resolve_left e)
  · rw [eN 9 _ (by decide) (by decide), em]; exact hW.opMach (hV5 q hq)
  · rw [eR] at ha; rw [em]; exact hW.alt (hV5 q hq) ha
  · rw [em] at hi; rw [eR, (hM i hi).2.2.1] at ha; cases ha
  · exact absurd ho (by rw [show sN T 3 0 = 0 from eO]; omega)
  · exact absurd ho (by rw [show sN T 3 0 = 0 from eO]; omega)
  · rw [em]; exact hW.nM
  · rw [ep]; exact hW.nP
  · rw [show sN T 2 0 = 0 from eL]; omega
  · rw [show sN T 3 0 = 0 from eO]; omega
  · rw [ep] at hz
    rw [e4]
    by_cases e : z = p
    · rw [if_pos e]; omega
    · rw [if_neg e]; exact hW.nC hz
  · rw [ep] at hz; rw [eN 5 _ (by decide) (by decide)]; exact hW.nOp hz
  · intro p2 j hp2 hj
    have hp2 : p2 < sN T 1 0 := hp2
    rw [ep] at hp2
    rw [e4] at hj
    rw [e8, e30]
    have h4 := hW.nC hp
    by_cases e : p2 = p
    · rw [if_pos e] at hj
      by_cases e2 : j = sN S 4 p
      · rw [if_pos (by rw [e, e2]), if_pos (by rw [e, e2]), e]; exact ⟨hcp, h1, h9⟩
      · rw [if_neg (by omega), if_neg (by omega)]; exact hP p2 j hp2 (by rw [e]; omega)
    · rw [if_neg e] at hj
      have h42 := hW.nC hp2
      rw [if_neg (by omega), if_neg (by omega)]; exact hP p2 j hp2 hj
  · have hm : m < sN T 0 0 := hm
    rw [em] at hm
    rw [eIk 10 m (by decide) (by decide), eIk 14 m (by decide) (by decide), eIk 19 m (by decide) (by decide), eR]; exact hM m hm
theorem SU.w {p mz : Nat} {al : Option Nat} {ti : Int32} (h : SU S) (hp : p < sN S 1 0) (hmz : mz < sN S 0 0) (hal : ∀ a, al = some a → a < sN S 0 0) (hn : sN S 5 p < 3) : SU (nwWS S p mz al ti) := by
  obtain ⟨hW, hL, hO, hP, hM, hH, e1⟩ := h
  have eN : ∀ k i, k ≠ 5 → k ≠ 9 → sN (nwWS S p mz al ti) k i = sN S k i := fun k i h1 h2 => by simp [nwWS, sN, up2, h1, h2]
  have e5 : ∀ i, sN (nwWS S p mz al ti) 5 i = if i = p then sN S 5 p + 1 else sN S 5 i := fun i => by by_cases e : i = p <;> simp [nwWS, sN, up2, e]
  have e9 : ∀ i, sN (nwWS S p mz al ti) 9 i = if i = 4 * p + sN S 5 p then mz else sN S 9 i := fun i => by by_cases e : i = 4 * p + sN S 5 p <;> simp [nwWS, sN, up2, e]
  have eR : ∀ k i, k ≠ 2 → sR (nwWS S p mz al ti) k i = sR S k i := fun k i hk => up2_ne _ _ (fun z => hk z.1)
  have eR2 : ∀ i, sR (nwWS S p mz al ti) 2 i = if i = 4 * p + sN S 5 p then al else sR S 2 i := fun i => by by_cases e : i = 4 * p + sN S 5 p <;> simp [nwWS, sR, up2, e]
  have eIk : ∀ k i, k ≠ 32 → sI (nwWS S p mz al ti) k i = sI S k i := fun k i h1 => by simp [nwWS, sI, up2, h1]
  have eJ : ∀ k i, sJ (nwWS S p mz al ti) k i = sJ S k i := fun k i => rfl
  have hV5 : ∀ q, V (nwWS S p mz al ti) 5 q → q = 4 * p + sN S 5 p ∨ V S 5 q := fun q z => by
    have z1 : q / 4 < sN (nwWS S p mz al ti) 1 0 := z.1
    have z2 : q % 4 < sN (nwWS S p mz al ti) 5 (q / 4) := z.2
    rw [eN 1 0 (by decide) (by decide)] at z1
    rw [e5] at z2
    by_cases e : q / 4 = p
    · rw [if_pos e] at z2
      by_cases e2 : q % 4 = sN S 5 p
      · left; omega
      · right; exact ⟨z1, by rw [e]; omega⟩
    · rw [if_neg e] at z2; exact Or.inr ⟨z1, z2⟩
  have hV4 : ∀ q, V (nwWS S p mz al ti) 4 q → V S 4 q := fun q z => by
    have z1 : q / 4 < sN (nwWS S p mz al ti) 1 0 := z.1
    have z2 : q % 4 < sN (nwWS S p mz al ti) 4 (q / 4) := z.2
    rw [eN 1 0 (by decide) (by decide)] at z1
    rw [eN 4 _ (by decide) (by decide)] at z2
    exact ⟨z1, z2⟩
  generalize (nwWS S p mz al ti) = T at *
  have eL : nLc T = 0 := (eN 2 0 (by decide) (by decide)).trans hL
  have eO : nOc T = 0 := (eN 3 0 (by decide) (by decide)).trans hO
  have em : sN T 0 0 = sN S 0 0 := eN 0 0 (by decide) (by decide)
  have ep : sN T 1 0 = sN S 1 0 := eN 1 0 (by decide) (by decide)
  refine ⟨⟨fun i hi => ?_, fun o ho => ?_, fun q hq => ?_, fun q hq => ?_, fun q a hq ha => ?_, fun i o hi ha => ?_, fun o i ho ha => ?_, fun o i ho ha => ?_, ?_, ?_, ?_, ?_, fun z hz => ?_, fun z hz => ?_⟩, eL, eO, ?_, fun m hm => ?_, ⟨by rw [eJ]; exact hH.1, by rw [eJ]; exact hH.2⟩, ⟨by rw [eIk 1 0 (by decide)]; exact e1.1, by rw [eIk 2 0 (by decide)]; exact e1.2.1, by rw [eJ]; exact e1.2.2.1, by rw [eJ]; exact e1.2.2.2⟩⟩
  · exact absurd hi (by rw [show sN T 2 0 = 0 from eL]; omega)
  · exact absurd ho (by rw [show sN T 3 0 = 0 from eO]; omega)
  · rw [eN 8 _ (by decide) (by decide), ep]; exact hW.compPart (hV4 q hq)
  · rw [e9, em]
    by_cases e : q = 4 * p + sN S 5 p
    · rw [if_pos e]; exact hmz
    · rw [if_neg e]; exact hW.opMach ((hV5 q hq).resolve_left e)
  · rw [eR2] at ha; rw [em]
    by_cases e : q = 4 * p + sN S 5 p
    · rw [if_pos e] at ha; exact hal a ha
    · rw [if_neg e] at ha; exact hW.alt ((hV5 q hq).resolve_left e) ha
  · rw [em] at hi; rw [eR 1 i (by decide), (hM i hi).2.2.1] at ha; cases ha
  · exact absurd ho (by rw [show sN T 3 0 = 0 from eO]; omega)
  · exact absurd ho (by rw [show sN T 3 0 = 0 from eO]; omega)
  · rw [em]; exact hW.nM
  · rw [ep]; exact hW.nP
  · rw [show sN T 2 0 = 0 from eL]; omega
  · rw [show sN T 3 0 = 0 from eO]; omega
  · rw [ep] at hz; rw [eN 4 _ (by decide) (by decide)]; exact hW.nC hz
  · rw [ep] at hz
    rw [e5]
    by_cases e : z = p
    · rw [if_pos e]; omega
    · rw [if_neg e]; exact hW.nOp hz
  · intro p2 j hp2 hj
    have hp2 : p2 < sN T 1 0 := hp2
    rw [ep] at hp2
    rw [eN 4 _ (by decide) (by decide)] at hj
    rw [eN 8 _ (by decide) (by decide), eIk 30 _ (by decide)]; exact hP p2 j hp2 hj
  · have hm : m < sN T 0 0 := hm
    rw [em] at hm
    rw [eIk 10 m (by decide), eIk 14 m (by decide), eIk 19 m (by decide), eR 1 m (by decide)]; exact hM m hm
end SUS
