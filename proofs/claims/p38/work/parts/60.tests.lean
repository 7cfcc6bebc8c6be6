/-! PURE: what the law tests follows from Inv -/
theorem it_sm {g : Nat → Int32 → Int32} {f : Nat → Int} {a : Int32} {B : Int} (h0 : 0 ≤ a.toInt) (n : Nat) (hf : ∀ j, j < n → 0 ≤ f j) (hs : a.toInt + sm f n ≤ B) (hg : ∀ j x, j < n → 0 ≤ x.toInt → x.toInt + f j ≤ B → (g j x).toInt = x.toInt + f j) : (it g n a).toInt = a.toInt + sm f n := by
  induction n with
  | zero => rw [it_0]; show a.toInt = a.toInt + 0; omega
  | succ n ih =>
    rw [sm_s] at hs
    have h1 := hf n (Nat.lt_succ_self n)
    have h2 := sm_nonneg (f := f) (n := n) (fun j hj => hf j (by omega))
    have e := ih (fun j hj => hf j (by omega)) (by omega) (fun j x hj => hg j x (by omega))
    rw [it_s, hg n _ (Nat.lt_succ_self n) (by omega) (by omega), e, sm_s]; omega
theorem it_sm64 {g : Nat → Int64 → Int64} {f : Nat → Int} {a : Int64} {B : Int} (h0 : 0 ≤ a.toInt) (n : Nat) (hf : ∀ j, j < n → 0 ≤ f j) (hs : a.toInt + sm f n ≤ B) (hg : ∀ j x, j < n → 0 ≤ x.toInt → x.toInt + f j ≤ B → (g j x).toInt = x.toInt + f j) : (it g n a).toInt = a.toInt + sm f n := by
  induction n with
  | zero => rw [it_0]; show a.toInt = a.toInt + 0; omega
  | succ n ih =>
    rw [sm_s] at hs
    have h1 := hf n (Nat.lt_succ_self n)
    have h2 := sm_nonneg (f := f) (n := n) (fun j hj => hf j (by omega))
    have e := ih (fun j hj => hf j (by omega)) (by omega) (fun j x hj => hg j x (by omega))
    rw [it_s, hg n _ (Nat.lt_succ_self n) (by omega) (by omega), e, sm_s]; omega
/-- a sum over the first n of what is counted below m alone -/
theorem sm_if {f : Nat → Int} {n m : Nat} (h : m ≤ n) : sm (fun j => if j < m then f j else 0) n = sm f m := by
  rw [sm_cut h (fun j hj _ => if_neg (by omega))]
  exact sm_congr (fun j hj => if_pos hj)
/-- how many orders a lot went into; how many lots an order was delivered of -/
abbrev tch (S : St) (i : Nat) : Int32 := nsSize (nsLo S 10 i) (nsHi S 10 i)
abbrev lin (S : St) (o : Nat) : Int32 := nsSize (nsLo S 13 o) (nsHi S 13 o)
theorem Inv.lot {S : St} (hI : Inv S) {i : Nat} (hi : i < nLc S) : 0 ≤ vT S i ∧ vT S i ≤ rT S i ∧ (barred S i = true → vT S i = 0) ∧ (rT S i = 0 → cT S i = 0) ∧ 0 ≤ cT S i := by
  obtain ⟨⟨-, -, hB, -⟩, hH⟩ := hI
  obtain ⟨⟨b1, b2, b3, b4⟩, b5, b6⟩ := hB i hi
  refine ⟨b1, b2, fun z => ?_, b6, b5⟩
  have h : ¬ 0 < vT S i := fun y => by rw [hH i hi y] at z; exact absurd z (by decide)
  omega
theorem Inv.lotin {S : St} (hI : Inv S) {i j : Nat} (hi : i < nLc S) (hj : j < nLc S) (h : nsM S 8 j i = true) : i < j ∧ nsM S 8 i j = false ∧ (barred S i = true → barred S j = true) ∧ (tch S j).toInt ≤ (tch S i).toInt ∧ sN S 6 i < sN S 6 j := by
  obtain ⟨⟨hW, -, -, -, -, -, -, -, -, hT, -⟩, -⟩ := hI
  have hL : nLc S ≤ 90 := hW.nL
  obtain ⟨k1, k2, k3⟩ := (hT.1 j hj).1 i (by omega) h
  refine ⟨k1, ?_, fun hb => ?_, ?_, k2⟩
  · cases e : nsM S 8 i j with
    | false => rfl
    | true =>
      have := ((hT.1 i hi).1 j (by omega) e).1
      omega
  · rw [barred_iff] at hb ⊢
    rcases hb with z | ⟨k, a, b, c⟩
    · exact Or.inr ⟨i, by omega, h, z⟩
    · exact Or.inr ⟨k, a, k3 k a b, c⟩
  · refine nsSize_le (fun o ho z => ?_)
    obtain ⟨a, b⟩ := ((hT.1 j hj).2.2 o ho).mp z
    exact ((hT.1 i hi).2.2 o ho).mpr ⟨a, (hT.2 o a j (by omega) b).2 i (by omega) h⟩
theorem Inv.ordt {S : St} (hI : Inv S) {o : Nat} (ho : o < nOc S) : (0 < (lin S o).toInt ↔ sI S 53 o = 100) ∧ 0 ≤ gD S o ∧ (¬ sI S 53 o = 102 → ¬ sI S 53 o = 100 → sR S 4 o = none) ∧ (∀ i, sR S 4 o = some i → 0 ≤ (sI S 63 o).toInt ∧ ¬ sI S 63 o = -1) ∧ (sI S 53 o = 45 ∨ sI S 53 o = 112 ∨ sI S 53 o = 119 ∨ sI S 53 o = 111 ∨ sI S 53 o = 102 ∨ sI S 53 o = 100) := by
  obtain ⟨⟨hW, -, -, -, -, hO, hJ, hD, -⟩, -⟩ := hI
  have k := hJ o ho
  have d := hD.1 o ho
  refine ⟨?_, d.1, fun a b => ?_, fun i e => ?_, (hO o ho).1⟩
  · rw [nsSize_pos]
    constructor
    · rintro ⟨j, a, b⟩
      refine Classical.byContradiction (fun z => ?_)
      have := (d.2.1 z).2.2 j a
      have b : nsM S 13 o j = true := b
      rw [b] at this; exact absurd this (by decide)
    · intro z; exact (d.2.2 z).2
  · cases e : sR S 4 o with
    | none => rfl
    | some i =>
      rcases k.2.2.2.2.1.mp (k.2.2.2.2.2.2.1 i e).1 with y | y
      · exact absurd y a
      · exact absurd y.1 b
  · have z := (k.2.2.2.2.2.2.1 i e).1
    exact ⟨k.2.2.2.2.2.1 z, z⟩
/-- forward and back tell the same -/
theorem Inv.both {S : St} (hI : Inv S) : sm (fun i => (tch S i).toInt) (nLc S) = sm (fun o => (lin S o).toInt) (nOc S) ∧ (∀ i, i < nLc S → 0 ≤ (tch S i).toInt ∧ (tch S i).toInt ≤ 128) ∧ (∀ o, o < nOc S → 0 ≤ (lin S o).toInt ∧ (lin S o).toInt ≤ 128) := by
  obtain ⟨⟨hW, -, -, -, -, -, -, -, -, hT, -⟩, -⟩ := hI
  have hL : nLc S ≤ 90 := hW.nL
  have hO : nOc S ≤ 30 := hW.nO
  have e1 : ∀ i, i < nLc S → (tch S i).toInt = sm (fun o => bZ (nsM S 13 o i)) (nOc S) := fun i hi => by
    rw [nsSize_sm, sm_cut (f := fun o => bZ (nsb (nsLo S 10 i) (nsHi S 10 i) o)) (n := nOc S) (m := 128) (by omega) (fun o h1 h2 => by
      show bZ (nsM S 10 i o) = 0
      cases e : nsM S 10 i o with
      | false => rfl
      | true => exact absurd (((hT.1 i hi).2.2 o h2).mp e).1 (by omega))]
    refine sm_congr (fun o ho => ?_)
    show bZ (nsM S 10 i o) = bZ (nsM S 13 o i)
    have q := (hT.1 i hi).2.2 o (by omega)
    cases e : nsM S 13 o i with
    | true => rw [q.mpr ⟨ho, e⟩]
    | false =>
      cases e2 : nsM S 10 i o with
      | false => rfl
      | true => rw [(q.mp e2).2] at e; exact absurd e (by decide)
  have e2 : ∀ o, o < nOc S → (lin S o).toInt = sm (fun i => bZ (nsM S 13 o i)) (nLc S) := fun o ho => by
    rw [nsSize_sm, sm_cut (f := fun i => bZ (nsb (nsLo S 13 o) (nsHi S 13 o) i)) (n := nLc S) (m := 128) (by omega) (fun i h1 h2 => by
      show bZ (nsM S 13 o i) = 0
      cases e : nsM S 13 o i with
      | false => rfl
      | true => exact absurd (hT.2 o ho i h2 e).1 (by omega))]
  have b1 : ∀ (f : Nat → Bool) n, 0 ≤ sm (fun i => bZ (f i)) n ∧ sm (fun i => bZ (f i)) n ≤ n := fun f n => by
    have a := sm_nonneg (f := fun i => bZ (f i)) (n := n) (fun i _ => bZ_nn _)
    have b := sm_bound (f := fun i => bZ (f i)) (n := n) (b := 1) (fun i _ => by show bZ _ ≤ 1; cases f i <;> decide)
    rw [Int.mul_one] at b
    exact ⟨a, b⟩
  refine ⟨?_, fun i hi => ?_, fun o ho => ?_⟩
  · rw [sm_congr (f := fun i => (tch S i).toInt) (g := fun i => sm (fun o => bZ (nsM S 13 o i)) (nOc S)) (fun i hi => e1 i hi), sm_congr (f := fun o => (lin S o).toInt) (g := fun o => sm (fun i => bZ (nsM S 13 o i)) (nLc S)) (fun o ho => e2 o ho)]
    exact sm_swap (fun i o => bZ (nsM S 13 o i)) (nLc S) (nOc S)
  · rw [e1 i hi]
    have := b1 (fun o => nsM S 13 o i) (nOc S)
    omega
  · rw [e2 o ho]
    have := b1 (fun i => nsM S 13 o i) (nLc S)
    omega
/-- costs: what is in rests and in what was delivered is not more than what came in, and all of it where no job is under way and none is lost -/
theorem Inv.costs {S : St} (hI : Inv S) : sm (fun i => cT S i) (nLc S) + sm (fun o => if sI S 53 o = 100 then gD S o else 0) (nOc S) ≤ (sJ S 1 0).toInt ∧ ((∀ o, o < nOc S → ¬ inWk S o ∧ ¬ (isDn S o ∧ sR S 4 o = none)) → sm (fun i => cT S i) (nLc S) + sm (fun o => if sI S 53 o = 100 then gD S o else 0) (nOc S) = (sJ S 1 0).toInt) := by
  obtain ⟨⟨hW, -, hB, -, -, -, hJ, hD, -, -, -, hC, -⟩, -⟩ := hI
  obtain ⟨c1, c2, c3, c4⟩ := hC
  have eg : ∀ o, o < nOc S → (if sI S 53 o = 100 then gD S o else 0) = gD S o := fun o ho => by
    by_cases h : sI S 53 o = 100
    · rw [if_pos h]
    · rw [if_neg h, ((hD.1 o ho).2.1 h).1]
  have q1 : sm (fun o => if sI S 53 o = 100 then gD S o else 0) (nOc S) = sm (fun o => gD S o) (nOc S) := sm_congr (fun o ho => eg o ho)
  have q2 : sm (fun o => eT S o + gD S o) (nOc S) = sm (fun o => eT S o) (nOc S) + sm (fun o => gD S o) (nOc S) := sm_add (fun o => eT S o) (fun o => gD S o) (nOc S)
  have q3 : 0 ≤ sm (fun o => eT S o) (nOc S) := sm_nonneg (f := fun o => eT S o) (fun o ho => (hJ o ho).2.2.2.2.2.2.2.2.1)
  rw [q1]
  refine ⟨by omega, fun h => ?_⟩
  have z : sm (fun o => eT S o) (nOc S) = 0 := sm_zero (f := fun o => eT S o) (fun o ho => (hJ o ho).2.2.2.2.2.2.2.2.2 (h o ho).1)
  have l0 : (sJ S 2 0).toInt = 0 := by
    refine Classical.byContradiction (fun y => ?_)
    obtain ⟨o, a, b, c⟩ := c4 (by omega)
    exact (h o a).2 ⟨b, c⟩
  omega
/-- what machines did is not more than the time -/
theorem Inv.busy {S : St} (hI : Inv S) : ∃ b : Nat, (mbL S 5).toInt = b ∧ (b : Int) ≤ nMc S * (sI S 2 0).toInt := by
  obtain ⟨⟨hW, -, -, -, -, -, -, -, hM, -, -, -, hN⟩, -⟩ := hI
  have hnow := hN.2.2.2.1
  have hnow2 := hN.2.2.2.2
  have hM5 : nMc S ≤ 5 := hW.nM
  have bd : ∀ m, m < nMc S → 0 ≤ (buN S m (sI S 2 0)).toInt ∧ (buN S m (sI S 2 0)).toInt ≤ (sI S 2 0).toInt := fun m hm => by
    have k := hM.1 m hm
    unfold buN
    cases e : sR S 1 m with
    | none => rw [if_pos rfl]; exact k.2.2.2.2
    | some o =>
      rw [if_neg (by simp)]
      obtain ⟨a1, a2, a3, -⟩ := k.2.2.2.1 o e
      have k5 := k.2.2.2.2
      have e1 : (sI S 19 m + sI S 2 0).toInt = (sI S 19 m).toInt + (sI S 2 0).toInt := i32_add (by omega) (by omega)
      have e2 := i32_subV (a := sI S 19 m + sI S 2 0) (b := sI S 17 m) e1 rfl (by omega) (by omega)
      rw [e2]; omega
  have q := it_sm64 (g := mb1 S) (f := fun m => if m < nMc S then (buN S m (sI S 2 0)).toInt else 0) (a := 0) (B := 1000000) (by decide) 5 (fun m hm => by
    show 0 ≤ (if m < nMc S then (buN S m (sI S 2 0)).toInt else 0)
    split
    · rename_i h; exact (bd m h).1
    · exact Int.le_refl _) (by
    rw [sm_if hM5]
    have := sm_bound (f := fun m => (buN S m (sI S 2 0)).toInt) (n := nMc S) (b := 5000) (fun m hm => by have := (bd m hm).2; show (buN S m (sI S 2 0)).toInt ≤ 5000; omega)
    show (0 : Int) + _ ≤ _
    omega) (fun m x hm h0 hB => by
    unfold mb1
    by_cases h : m < sN S 0 0
    · have h' : m < nMc S := h
      rw [if_pos h']  at hB
      rw [if_pos h, if_pos h']
      have := bd m h'
      exact i64_addV rfl (Int32.toInt_toInt64 _) (by omega) (by omega)
    · have h' : ¬ m < nMc S := h
      rw [if_neg h, if_neg h']; omega)
  have q : (mbL S 5).toInt = (0 : Int) + sm (fun m => if m < nMc S then (buN S m (sI S 2 0)).toInt else 0) 5 := q
  rw [sm_if hM5] at q
  have s0 := sm_nonneg (f := fun m => (buN S m (sI S 2 0)).toInt) (n := nMc S) (fun m hm => (bd m hm).1)
  have s1 := sm_bound (f := fun m => (buN S m (sI S 2 0)).toInt) (n := nMc S) (b := (sI S 2 0).toInt) (fun m hm => (bd m hm).2)
  refine ⟨(mbL S 5).toInt.toNat, ?_, ?_⟩ <;> omega
