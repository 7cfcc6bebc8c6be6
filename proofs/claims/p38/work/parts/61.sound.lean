/-! PURE: isSound says yes -/
theorem piN_sm {S : St} (hI : Inv S) {i : Nat} (hi : i < nLc S) : (piN S i 0).toInt = sm (fun o => pK S o i) (nOc S) ∧ (piN S i 1).toInt = sm (fun o => pR S o i) (nOc S) := by
  obtain ⟨⟨hW, -, hB, hQ, hV, hO, -⟩, -⟩ := hI
  have hO30 : nOc S ≤ 30 := hW.nO
  obtain ⟨b1, b2, b3, b4, b5⟩ := lot_bd hB hQ hO hi
  have q1 := hQ i hi
  have q2 := hV i hi
  have p0 : ∀ o, o < nOc S → 0 ≤ pT S o i := fun o ho => ((hO o ho).2.1 i).1
  constructor
  · have q := it_sm (g := pi1 S i 0) (f := fun o => if o < nOc S then pK S o i else 0) (a := 0) (B := 500) (by decide) 30 (fun o ho => by
      show 0 ≤ (if o < nOc S then pK S o i else 0)
      split
      · rename_i h; exact pK_nn (p0 o h)
      · exact Int.le_refl _) (by rw [sm_if hO30]; show (0 : Int) + _ ≤ 500; omega) (fun o x ho h0 hb => by
      unfold pi1
      by_cases h : o < sN S 3 0
      · have h' : o < nOc S := h
        rw [if_pos h'] at hb
        rw [if_pos h, if_pos h']
        have := pK_nn (p0 o h')
        by_cases h2 : sI S 53 o = 112
        · rw [if_pos h2, if_neg (by decide)]
          have : pK S o i = 0 := if_pos h2
          omega
        · rw [if_neg h2, if_pos rfl]
          have e : pK S o i = pT S o i := if_neg h2
          rw [e] at hb this ⊢
          exact i32_addV rfl rfl (by omega) (by omega)
      · have h' : ¬ o < nOc S := h
        rw [if_neg h, if_neg h']; omega)
    rw [sm_if hO30] at q
    have q : (piN S i 0).toInt = 0 + sm (fun o => pK S o i) (nOc S) := q
    omega
  · have q := it_sm (g := pi1 S i 1) (f := fun o => if o < nOc S then pR S o i else 0) (a := 0) (B := 500) (by decide) 30 (fun o ho => by
      show 0 ≤ (if o < nOc S then pR S o i else 0)
      split
      · rename_i h; exact pR_nn (p0 o h)
      · exact Int.le_refl _) (by rw [sm_if hO30]; show (0 : Int) + _ ≤ 500; omega) (fun o x ho h0 hb => by
      unfold pi1
      by_cases h : o < sN S 3 0
      · have h' : o < nOc S := h
        rw [if_pos h'] at hb
        rw [if_pos h, if_pos h']
        have := pR_nn (p0 o h')
        by_cases h2 : sI S 53 o = 112
        · rw [if_pos h2, if_pos rfl]
          have e : pR S o i = pT S o i := if_pos h2
          rw [e] at hb this ⊢
          exact i32_addV rfl rfl (by omega) (by omega)
        · rw [if_neg h2, if_neg (by decide)]
          have : pR S o i = 0 := if_neg h2
          omega
      · have h' : ¬ o < nOc S := h
        rw [if_neg h, if_neg h']; omega)
    rw [sm_if hO30] at q
    have q : (piN S i 1).toInt = 0 + sm (fun o => pR S o i) (nOc S) := q
    omega
theorem Inv.sound {S : St} (hI : Inv S) : sndB S = true := by
  have hp := fun i (hi : i < nLc S) => piN_sm hI hi
  have hlot := fun i (hi : i < nLc S) => hI.lot hi
  obtain ⟨k1, k2, k3, k4, k5⟩ := hI.1.cost
  obtain ⟨⟨hW, hP, hB, hQ, hV, hO, hJ, hD, hM, hTr, hHd, hC, hN⟩, hH⟩ := hI
  have hL90 : nLc S ≤ 90 := hW.nL
  have hO30 : nOc S ≤ 30 := hW.nO
  have a1 : alS S = true := by
    refine allN_iff.mpr (fun i _ => ?_)
    unfold alB
    split
    · rename_i h
      have h' : i < nLc S := h
      obtain ⟨b1, b2, b3, b4, b5⟩ := lot_bd hB hQ hO h'
      have q := hQ i h'
      have p := (hp i h').1
      have e1 := i32_addV (a := sI S 41 i) (b := piN S i 0) (x := rT S i) (y := sm (fun o => pK S o i) (nOc S)) rfl p (by omega) (by omega)
      have e2 := i32_addV (a := sI S 41 i + piN S i 0) (b := sI S 43 i) (y := dT S i) e1 rfl (by omega) (by omega)
      rw [if_pos (i32_ext (by show qT S i = _; rw [e2]; omega))]
    · rfl
  have a2 : ajS S = true := by
    unfold ajS
    rw [Bool.and_eq_true, decide_eq_true_iff]
    refine ⟨allN_iff.mpr (fun o _ => ?_), ?_⟩
    · unfold ajB
      split
      · rename_i h
        have h' : o < nOc S := h
        have k := hJ o h'
        have d := hD.1 o h'
        have h50 := (hO o h').2.2.2.1
        have add : inWk S o ∨ isDn S o → sI S 60 o + sI S 61 o = sI S 50 o := fun z => by
          have := k.2.1 z
          have := k.1
          exact i32_ext (by rw [i32_add (by omega) (by omega)]; omega)
        have hwb : oInWork S o = true ↔ inWk S o := by
          show (sI S 53 o == 119 || sI S 53 o == 111) = true ↔ _
          rw [Bool.or_eq_true, beq_iff_eq, beq_iff_eq]
        unfold osB
        rw [Bool.and_eq_true, Bool.and_eq_true]
        refine ⟨⟨?_, ?_⟩, ?_⟩
        · unfold osW osRel
          by_cases hw : oInWork S o = true
          · rw [if_pos hw, if_pos rfl, if_pos (add (Or.inl (hwb.mp hw)))]
          · rw [if_neg hw]
            by_cases h63 : sI S 63 o = -1
            · rw [if_pos h63, if_neg (by decide)]
              obtain ⟨z1, z2⟩ := k.2.2.1 (fun z => hw (hwb.mpr z)) (fun z => z h63)
              rw [z1, z2]; rfl
            · rw [if_neg h63, if_pos rfl, if_pos (add (Or.inr h63))]
        · unfold osM
          cases e : sR S 4 o with
          | none => rfl
          | some i =>
            dsimp only
            rw [if_pos (k.2.2.2.2.2.2.1 i e).2.2]
        · unfold osD
          by_cases h100 : sI S 53 o = 100
          · rw [if_pos h100, if_pos (d.2.2 h100).1]
          · rw [if_neg h100, if_pos (d.2.1 h100).2.1]
      · rfl
    · have d0 : ∀ o, o < nOc S → 0 ≤ (sI S 55 o).toInt ∧ (sI S 55 o).toInt ≤ 100 := fun o ho => by
        have h50 := (hO o ho).2.2.2.1
        by_cases h100 : sI S 53 o = 100
        · rw [((hD.1 o ho).2.2 h100).1]; omega
        · rw [((hD.1 o ho).2.1 h100).2.1]; exact ⟨by decide, by decide⟩
      have s0 := sm_nonneg (f := fun o => (sI S 55 o).toInt) (n := nOc S) (fun o ho => (d0 o ho).1)
      have s1 := sm_bound (f := fun o => (sI S 55 o).toInt) (n := nOc S) (b := 100) (fun o ho => (d0 o ho).2)
      have q := it_sm (g := aj1 S) (f := fun o => if o < nOc S then (sI S 55 o).toInt else 0) (a := 0) (B := 3000) (by decide) 30 (fun o ho => by
        show 0 ≤ (if o < nOc S then (sI S 55 o).toInt else 0)
        split
        · rename_i h; exact (d0 o h).1
        · exact Int.le_refl _) (by rw [sm_if hO30]; show (0 : Int) + _ ≤ 3000; omega) (fun o x ho h0 hb => by
        unfold aj1
        by_cases h : o < sN S 3 0
        · have h' : o < nOc S := h
          rw [if_pos h'] at hb
          rw [if_pos h, if_pos h']
          have := d0 o h'
          exact i32_add (by omega) (by omega)
        · have h' : ¬ o < nOc S := h
          rw [if_neg h, if_neg h']; omega)
      rw [sm_if hO30] at q
      have q : (ajL S 30).toInt = 0 + sm (fun o => (sI S 55 o).toInt) (nOc S) := q
      have e3 := hD.2
      -- the lots' deliveries are taken off
      have dd : ∀ i, i < nLc S → 0 ≤ dT S i := fun i hi => (hB i hi).1.2.2.1
      have key : ∀ n, n ≤ 90 → (ajM S n).toInt = (ajL S 30).toInt - sm (fun i => dT S i) (min n (nLc S)) := by
        intro n
        induction n with
        | zero => intro _; rw [Nat.zero_min]; show (ajL S 30).toInt = _ - 0; omega
        | succ n ih =>
          intro hn
          have ih := ih (by omega)
          have m0 := sm_le_of (f := fun i => dT S i) (n := min (n + 1) (nLc S)) (m := nLc S) (Nat.min_le_right _ _) dd
          have m1 := sm_nonneg (f := fun i => dT S i) (n := min n (nLc S)) (fun i hi => dd i (by omega))
          show (aj2 S n (ajM S n)).toInt = _
          generalize ajM S n = a at ih ⊢
          unfold aj2
          by_cases h : n < sN S 2 0
          · have h' : n < nLc S := h
            rw [if_pos h, Nat.min_eq_left (show n + 1 ≤ nLc S from h'), sm_s]
            rw [Nat.min_eq_left (show n + 1 ≤ nLc S from h'), sm_s] at m0
            rw [Nat.min_eq_left (Nat.le_of_lt h')] at ih m1
            have := dd n h'
            rw [i32_subV (y := dT S n) ih rfl (by omega) (by omega)]; omega
          · have h' : ¬ n < nLc S := h
            rw [if_neg h, Nat.min_eq_right (show nLc S ≤ n + 1 by omega)]
            rw [Nat.min_eq_right (show nLc S ≤ n by omega)] at ih
            rw [Int32.sub_zero]; exact ih
      have z := key 90 (Nat.le_refl _)
      rw [Nat.min_eq_right hL90] at z
      exact i32_ext (by show _ = (0 : Int); omega)
  have a3 : acS S = true := by
    unfold acS
    rw [decide_eq_true_iff]
    obtain ⟨c1, c2, c3, c4⟩ := hC
    have c0 : ∀ i, i < nLc S → 0 ≤ cT S i := fun i hi => (hB i hi).2.1
    have g0 : ∀ o, o < nOc S → 0 ≤ eT S o ∧ 0 ≤ gD S o := fun o ho => ⟨(hJ o ho).2.2.2.2.2.2.2.2.1, (hD.1 o ho).1⟩
    have s1 := sm_nonneg (f := fun i => cT S i) (n := nLc S) c0
    have s2 := sm_nonneg (f := fun o => eT S o + gD S o) (n := nOc S) (fun o ho => by have := g0 o ho; show 0 ≤ eT S o + gD S o; omega)
    have hh : (sJ S 2 0).toInt + sm (fun i => cT S i) (nLc S) ≤ 100000000 := by omega
    have q1 := it_sm64 (g := ac1 S) (f := fun i => if i < nLc S then cT S i else 0) (a := sJ S 2 0) (B := 100000000) c2 90 (fun i hi => by
      show 0 ≤ (if i < nLc S then cT S i else 0)
      split
      · rename_i h; exact c0 i h
      · exact Int.le_refl _) (by rw [sm_if hL90]; exact hh) (fun i x hi h0 hb => by
      unfold ac1
      by_cases h : i < sN S 2 0
      · have h' : i < nLc S := h
        rw [if_pos h'] at hb
        rw [if_pos h, if_pos h']
        have := c0 i h'
        exact i64_addV rfl rfl (by omega) (by omega)
      · have h' : ¬ i < nLc S := h
        rw [if_neg h, if_neg h', Int64.add_zero]; omega)
    rw [sm_if hL90] at q1
    have q1 : (acL S 90).toInt = (sJ S 2 0).toInt + sm (fun i => cT S i) (nLc S) := q1
    have hh2 : (acL S 90).toInt + sm (fun o => eT S o + gD S o) (nOc S) ≤ 100000000 := by omega
    have q2 := it_sm64 (g := ac2 S) (f := fun o => if o < nOc S then eT S o + gD S o else 0) (a := acL S 90) (B := 100000000) (by omega) 30 (fun o ho => by
      show 0 ≤ (if o < nOc S then eT S o + gD S o else 0)
      split
      · rename_i h; have := g0 o h; omega
      · exact Int.le_refl _) (by rw [sm_if hO30]; exact hh2) (fun o x ho h0 hb => by
      unfold ac2
      by_cases h : o < sN S 3 0
      · have h' : o < nOc S := h
        rw [if_pos h'] at hb
        rw [if_pos h, if_pos h']
        have := g0 o h'
        have e := i64_addV (a := sJ S 5 o) (b := sJ S 4 o) (x := eT S o) (y := gD S o) rfl rfl (by omega) (by omega)
        exact i64_addV rfl e (by omega) (by omega)
      · have h' : ¬ o < nOc S := h
        rw [if_neg h, if_neg h', Int64.add_zero]; omega)
    rw [sm_if hO30] at q2
    have q2 : (acM S 30).toInt = (acL S 90).toInt + sm (fun o => eT S o + gD S o) (nOc S) := q2
    exact i64_ext (by omega)
  have a4 : apS S = true := by
    refine allN_iff.mpr (fun i _ => ?_)
    unfold apB
    split
    · rename_i h
      have h' : i < nLc S := h
      obtain ⟨l1, l2, l3, -⟩ := hlot i h'
      rw [if_pos (i32_ext (by rw [(hp i h').2]; exact hV i h')), if_neg (fun z => by have z := i32_lt.mp z; have z : rT S i < vT S i := z; omega)]
      split
      · rfl
      · rename_i hz
        split
        · rename_i hb
          have := l3 hb
          exact absurd (i32_le.mpr (show vT S i ≤ 0 by omega)) hz
        · rfl
    · rfl
  have a5 : atS S = true := by
    refine allN_iff.mpr (fun i _ => ?_)
    unfold atB
    split
    · rename_i h
      have h' : i < nLc S := h
      obtain ⟨t1, t2, t3⟩ := hTr.1 i h'
      unfold tS
      rw [Bool.and_eq_true]
      refine ⟨allN_iff.mpr (fun j _ => ?_), allN_iff.mpr (fun o _ => ?_)⟩
      · unfold tB1
        split
        · rename_i hj
          have hj' : j < nLc S := hj
          have q := t2 j (by omega)
          have e : nsM S 9 i j = nsM S 8 j i := by
            cases e1 : nsM S 8 j i with
            | true => exact q.mpr ⟨hj', e1⟩
            | false =>
              cases e2 : nsM S 9 i j with
              | false => rfl
              | true => rw [(q.mp e2).2] at e1; exact absurd e1 (by decide)
          rw [e, if_pos rfl]
        · rfl
      · unfold tB2
        split
        · rename_i ho
          have ho' : o < nOc S := ho
          have q := t3 o (by omega)
          have e : nsM S 10 i o = nsM S 13 o i := by
            cases e1 : nsM S 13 o i with
            | true => exact q.mpr ⟨ho', e1⟩
            | false =>
              cases e2 : nsM S 10 i o with
              | false => rfl
              | true => rw [(q.mp e2).2] at e1; exact absurd e1 (by decide)
          rw [e, if_pos rfl]
        · rfl
    · rfl
  unfold sndB
  rw [a1, a2, a3, a4, a5]; rfl
