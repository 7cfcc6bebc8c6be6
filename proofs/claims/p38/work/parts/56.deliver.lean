/-! PURE: an order is delivered -/
def DlP (S : St) (o : Nat) (w : Int32) (U : St) : Prop :=
  (sN U = sN S ∧ sR U = sR S ∧ sP U = sP S) ∧ (∀ k i, k ≠ 41 → k ≠ 43 → ¬ (k = 55 ∧ i = o) → sI U k i = sI S k i) ∧
  (∀ k i, k ≠ 3 → ¬ (k = 4 ∧ i = o) → ¬ ((k = 26 ∨ k = 27) ∧ i = o) → sJ U k i = sJ S k i) ∧
  (∀ i, i < nLc S → rT U i + dT U i = rT S i + dT S i ∧ vT S i ≤ rT U i ∧ dT S i ≤ dT U i ∧ 0 ≤ cT U i ∧ cT U i ≤ cT S i ∧ (rT U i = 0 → cT U i = 0)) ∧
  (0 ≤ w.toInt ∧ w.toInt ≤ (sI S 50 o).toInt ∧ (sI U 55 o).toInt = (sI S 50 o).toInt - w.toInt) ∧
  sm (fun i => dT U i) (nLc S) = sm (fun i => dT S i) (nLc S) + ((sI S 50 o).toInt - w.toInt) ∧
  (sm (fun i => cT U i) (nLc S) + gD U o = sm (fun i => cT S i) (nLc S) ∧ 0 ≤ gD U o) ∧
  (∀ j, j < 128 → nsM U 13 o j = true → j < nLc S ∧ ∀ k, k < 128 → nsM S 8 j k = true → nsM U 13 o k = true) ∧
  (w.toInt < (sI S 50 o).toInt → ∃ j, j < 128 ∧ nsM U 13 o j = true)
/-- what is free of a lot, as a whole number -/
def fT (S : St) (i : Nat) : Int := if barred S i = true then 0 else rT S i - vT S i
theorem fT_free {S : St} {i : Nat} (h0 : 0 ≤ vT S i) (h1 : vT S i ≤ rT S i) (h2 : rT S i ≤ 500) : (free S i).toInt = fT S i ∧ 0 ≤ fT S i ∧ fT S i ≤ 500 := by
  unfold free fT
  cases hb : barred S i with
  | true => rw [if_pos rfl, if_pos rfl]; exact ⟨rfl, Int.le_refl _, by decide⟩
  | false =>
    rw [if_neg (by decide), if_neg (by decide)]
    exact ⟨i32_subV rfl rfl (by omega) (by omega), by omega, by omega⟩
section DL
variable {S : St} {o : Nat}
theorem DlP.v {w : Int32} {U : St} (h : DlP S o w U) (i : Nat) : vT U i = vT S i := congrArg Int32.toInt (h.2.1 42 i (by decide) (by decide) (by simp))
theorem DlP.bar {w : Int32} {U : St} (h : DlP S o w U) (i : Nat) : barred U i = barred S i := by
  have j := h.2.2.1
  unfold barred
  rw [show nsM U 14 0 i = nsM S 14 0 i from nsM_fr (fun i => j (2 * 14) i (by decide) (by simp) (by simp)) (fun i => j (2 * 14 + 1) i (by decide) (by simp) (by simp)) 0 i, show nsLo U 8 i = nsLo S 8 i from j (2 * 8) i (by decide) (by simp) (by simp), show nsHi U 8 i = nsHi S 8 i from j (2 * 8 + 1) i (by decide) (by simp) (by simp), show nsLo U 14 0 = nsLo S 14 0 from j (2 * 14) 0 (by decide) (by simp) (by simp), show nsHi U 14 0 = nsHi S 14 0 from j (2 * 14 + 1) 0 (by decide) (by simp) (by simp)]
theorem DlP.free {w : Int32} {U : St} (hB : ILB S) (hQ : ILQ S) (hO : IOrd S) (h : DlP S o w U) {i : Nat} (hi : i < nLc S) : (free U i).toInt = fT U i ∧ 0 ≤ fT U i ∧ fT U i ≤ 500 ∧ rT U i ≤ 500 ∧ 0 ≤ rT U i := by
  obtain ⟨b1, b2, b3, b4, b5⟩ := lot_bd hB hQ hO hi
  obtain ⟨c1, c2, c3, -⟩ := h.2.2.2.1 i hi
  have e := h.v i
  obtain ⟨f1, f2, f3⟩ := fT_free (S := U) (i := i) (by omega) (by omega) (by omega)
  exact ⟨f1, f2, f3, by omega, by omega⟩
theorem do_step (hB : ILB S) (hQ : ILQ S) (hO : IOrd S) (hT9 : ITr S) (hL : nLc S ≤ 90) (ho : o < nOc S) (hc : ∀ i, i < nLc S → cT S i ≤ 29970000) (hcs : sm (fun i => cT S i) (nLc S) ≤ 29970000) {w : Int32} {U : St} (h : DlP S o w U) {i : Nat} (hi : i < nLc S) :
    DlP S o (w - doR U i w) (doS U i o w) ∧ (∀ j, j ≠ i → fT (doS U i o w) j = fT U j) ∧ (w - doR U i w).toInt = w.toInt - (if fT U i < w.toInt then fT U i else w.toInt) ∧ fT (doS U i o w) i = fT U i - (if fT U i < w.toInt then fT U i else w.toInt) := by
  obtain ⟨f1, f2, f3, f4, f5⟩ := h.free hB hQ hO hi
  have hm := imin_T w (free U i)
  rw [f1] at hm
  have hw0 := h.2.2.2.2.1.1
  have hw1 := h.2.2.2.2.1.2.1
  have h50 := (hO o ho).2.2.2.1
  unfold doS doR
  by_cases hk : 0 < imin w (free U i)
  · rw [if_pos hk, if_pos hk]
    generalize imin w (free U i) = k at hm hk ⊢
    have hk' : 0 < k.toInt := i32_lt.mp hk
    have hkf : k.toInt ≤ fT U i := by rw [hm]; split <;> omega
    have hkw : k.toInt ≤ w.toInt := by rw [hm]; split <;> omega
    have hbar : barred U i = false := by
      cases hb : barred U i with
      | false => rfl
      | true => 
        have : fT U i = 0 := by unfold fT; rw [hb]; rfl
        omega
    have hfr : fT U i = rT U i - vT U i := by unfold fT; rw [hbar]; rfl
    have hv := h.v i
    have bv := (lot_bd hB hQ hO hi).1
    obtain ⟨c1, c2, c3, c4, c5, c6⟩ := h.2.2.2.1 i hi
    have hci := hc i hi
    obtain ⟨⟨s1, s2, s3, s4⟩, s5, s6, s7, s8, s9⟩ := tk_spec (S := U) (i := i) (k := k) (by omega) (by omega) f4 c4 (by omega) c6
    have hwk : (w - k).toInt = w.toInt - k.toInt := i32_sub (by omega) (by omega)
    obtain ⟨⟨g1, g2, g3⟩, g4, g5, g6, g7, g8, ⟨g9, g9'⟩, g10, g11⟩ := h
    have i128 : i < 128 := by omega
    -- the state behind
    have yI : ∀ k' i', sI (uI (sAddW (doT U i o k) 13 o i) 43 i (sI (sAddW (doT U i o k) 13 o i) 43 i + k)) k' i' = up2 (sI (doT U i o k)) 43 i (sI (doT U i o k) 43 i + k) k' i' := fun k' i' => by
      show up2 (sI (sAddW (doT U i o k) 13 o i)) 43 i (sI (sAddW (doT U i o k) 13 o i) 43 i + k) k' i' = _
      rw [sAddW_I]
    have yI2 : ∀ k' i', sI (doT U i o k) k' i' = up2 (sI (tkS U i k)) 55 o (sI (tkS U i k) 55 o + k) k' i' := fun _ _ => rfl
    have yJ2 : ∀ k' i', sJ (doT U i o k) k' i' = up2 (sJ (tkS U i k)) 4 o (sJ U 4 o + tkC U i k) k' i' := fun _ _ => rfl
    have yJ : ∀ k' i', ¬ ((k' = 26 ∨ k' = 27) ∧ i' = o) → sJ (uI (sAddW (doT U i o k) 13 o i) 43 i (sI (sAddW (doT U i o k) 13 o i) 43 i + k)) k' i' = sJ (doT U i o k) k' i' := fun k' i' a => sAddW_J (doT U i o k) 13 o i k' i' (fun z => a ⟨Or.inl z.1, z.2⟩) (fun z => a ⟨Or.inr z.1, z.2⟩)
    have yM : ∀ m, m < 128 → nsM (uI (sAddW (doT U i o k) 13 o i) 43 i (sI (sAddW (doT U i o k) 13 o i) 43 i + k)) 13 o m = (nsM (doT U i o k) 13 o m || (decide (m = i) || nsM (doT U i o k) 8 i m)) := fun m hm => by
      have q := sAddW_M (S := doT U i o k) (k := 13) (i := o) (j := i) (k' := 13) (i' := o) i128 hm (fun z => absurd z (by decide))
      rw [decide_eq_true (show (13 : Nat) = 13 ∧ o = o from ⟨rfl, rfl⟩), Bool.true_and] at q
      exact q
    have yP : sP (uI (sAddW (doT U i o k) 13 o i) 43 i (sI (sAddW (doT U i o k) 13 o i) 43 i + k)) = sP U := (sAddW_P (doT U i o k) 13 o i).trans s9
    have yE : sM U (sA (uI (sAddW (doT U i o k) 13 o i) 43 i (sI (sAddW (doT U i o k) 13 o i) 43 i + k))) = uI (sAddW (doT U i o k) 13 o i) 43 i (sI (sAddW (doT U i o k) 13 o i) 43 i + k) := sM_sA rfl rfl
    rw [yE]
    have yN : sN (uI (sAddW (doT U i o k) 13 o i) 43 i (sI (sAddW (doT U i o k) 13 o i) 43 i + k)) = sN U := rfl
    have yR : sR (uI (sAddW (doT U i o k) 13 o i) 43 i (sI (sAddW (doT U i o k) 13 o i) 43 i + k)) = sR U := rfl
    generalize uI (sAddW (doT U i o k) 13 o i) 43 i (sI (sAddW (doT U i o k) 13 o i) 43 i + k) = T at yI yJ yM yP yN yR ⊢
    generalize doT U i o k = Y at yI yI2 yJ yJ2 yM
    generalize tkS U i k = X at s5 s6 s7 s8 s9 yI2 yJ2
    have r41 : sI T 41 i = sI X 41 i := by rw [yI, up2_nk _ _ (by decide), yI2, up2_nk _ _ (by decide)]
    have r41n : ∀ j, j ≠ i → sI T 41 j = sI U 41 j := fun j e => by rw [yI, up2_nk _ _ (by decide), yI2, up2_nk _ _ (by decide), s5 41 j (fun z => e z.2)]
    have r43 : sI T 43 i = sI U 43 i + k := by rw [yI, up2_self, yI2, up2_nk _ _ (by decide), s5 43 i (by simp)]
    have r43n : ∀ j, j ≠ i → sI T 43 j = sI U 43 j := fun j e => by rw [yI, up2_ne _ _ (fun z => e z.2), yI2, up2_nk _ _ (by decide), s5 43 j (by simp)]
    have r55 : sI T 55 o = sI U 55 o + k := by rw [yI, up2_nk _ _ (by decide), yI2, up2_self, s5 55 o (by simp)]
    have rI : ∀ k' j, k' ≠ 41 → k' ≠ 43 → ¬ (k' = 55 ∧ j = o) → sI T k' j = sI U k' j := fun k' j a b c => by rw [yI, up2_nk _ _ b, yI2, up2_ne _ _ c, s5 k' j (fun z => a z.1)]
    have rJ : ∀ k' j, k' ≠ 3 → ¬ (k' = 4 ∧ j = o) → ¬ ((k' = 26 ∨ k' = 27) ∧ j = o) → sJ T k' j = sJ U k' j := fun k' j a b c => by rw [yJ k' j c, yJ2, up2_ne _ _ b, s7 k' j (fun z => a z.1)]
    have r3 : sJ T 3 i = sJ X 3 i := by rw [yJ 3 i (by simp), yJ2, up2_nk _ _ (by decide)]
    have r3n : ∀ j, j ≠ i → sJ T 3 j = sJ U 3 j := fun j e => by rw [yJ 3 j (by simp), yJ2, up2_nk _ _ (by decide), s7 3 j (fun z => e z.2)]
    have r4 : sJ T 4 o = sJ U 4 o + tkC U i k := by rw [yJ 4 o (by simp), yJ2, up2_self]
    have rM13 : ∀ m, nsM Y 13 o m = nsM U 13 o m := fun m => by
      show nsb (sJ Y 26 o) (sJ Y 27 o) m = nsb (sJ U 26 o) (sJ U 27 o) m
      rw [yJ2, yJ2, up2_nk _ _ (by decide), up2_nk _ _ (by decide), s7 26 o (by simp), s7 27 o (by simp)]
    have rM8 : ∀ m, nsM Y 8 i m = nsM S 8 i m := fun m => by
      show nsb (sJ Y 16 i) (sJ Y 17 i) m = nsb (sJ S 16 i) (sJ S 17 i) m
      rw [yJ2, yJ2, up2_nk _ _ (by decide), up2_nk _ _ (by decide), s7 16 i (by simp), s7 17 i (by simp), g5 16 i (by decide) (by simp) (by simp), g5 17 i (by decide) (by simp) (by simp)]
    have R41 : rT T i = rT U i - k.toInt := (congrArg Int32.toInt r41).trans s6
    have R43 : dT T i = dT U i + k.toInt := by
      show (sI T 43 i).toInt = _
      rw [r43]
      have := (lot_bd hB hQ hO hi).2.2
      exact i32_addV rfl rfl (by omega) (by omega)
    have R3 : cT T i = cT U i - (tkC U i k).toInt := (congrArg Int64.toInt r3).trans s8
    have cnn : ∀ j, j < nLc S → 0 ≤ cT U j := fun j hj => (g6 j hj).2.2.2.1
    have csum : cT U i ≤ sm (fun i => cT U i) (nLc S) := sm_one (f := fun i => cT U i) hi cnn
    have R4 : gD T o = gD U o + (tkC U i k).toInt := by
      show (sJ T 4 o).toInt = _
      rw [r4]
      exact i64_addV rfl rfl (by omega) (by omega)
    have q43 : sm (fun i => dT T i) (nLc S) = sm (fun i => dT U i) (nLc S) + (dT T i - dT U i) := sm_upd (f := fun i => dT U i) (g := fun i => dT T i) hi (fun j _ e => congrArg Int32.toInt (r43n j e))
    have q3 : sm (fun i => cT T i) (nLc S) = sm (fun i => cT U i) (nLc S) + (cT T i - cT U i) := sm_upd (f := fun i => cT U i) (g := fun i => cT T i) hi (fun j _ e => congrArg Int64.toInt (r3n j e))
    obtain ⟨g71, g72, g73⟩ := g7
    have R55 : (sI T 55 o).toInt = (sI U 55 o).toInt + k.toInt := by
      rw [r55]; exact i32_add (by omega) (by omega)
    have eb : ∀ j, barred T j = barred U j := fun j => by
      unfold barred
      rw [show nsM T 14 0 j = nsM U 14 0 j from nsM_fr (fun i => rJ (2 * 14) i (by decide) (by simp) (by simp)) (fun i => rJ (2 * 14 + 1) i (by decide) (by simp) (by simp)) 0 j, show nsLo T 8 j = nsLo U 8 j from rJ (2 * 8) j (by decide) (by simp) (by simp), show nsHi T 8 j = nsHi U 8 j from rJ (2 * 8 + 1) j (by decide) (by simp) (by simp), show nsLo T 14 0 = nsLo U 14 0 from rJ (2 * 14) 0 (by decide) (by simp) (by simp), show nsHi T 14 0 = nsHi U 14 0 from rJ (2 * 14 + 1) 0 (by decide) (by simp) (by simp)]
    have ev : ∀ j, vT T j = vT U j := fun j => congrArg Int32.toInt (rI 42 j (by decide) (by decide) (by simp))
    have hmn : (if fT U i < w.toInt then fT U i else w.toInt) = k.toInt := hm.symm
    rw [hmn]
    refine ⟨⟨⟨yN.trans g1, yR.trans g2, yP.trans g3⟩, fun k' j a b c => (rI k' j a b c).trans (g4 k' j a b c), fun k' j a b c => (rJ k' j a b c).trans (g5 k' j a b c), fun j hj => ?_, ⟨by omega, by omega, by omega⟩, by omega, ⟨by omega, by omega⟩, fun j hj hmem => ?_, fun _ => ⟨i, i128, ?_⟩⟩, fun j e => ?_, hwk, ?_⟩
    · by_cases e : j = i
      · subst e
        rw [R41, R43, R3]
        exact ⟨by omega, by omega, by omega, by omega, by omega, fun z => by have := s4 (by omega); omega⟩
      · have a1 : rT T j = rT U j := congrArg Int32.toInt (r41n j e)
        have a2 : dT T j = dT U j := congrArg Int32.toInt (r43n j e)
        have a3 : cT T j = cT U j := congrArg Int64.toInt (r3n j e)
        rw [a1, a2, a3]; exact g6 j hj
    · rw [yM j hj, rM13, rM8, Bool.or_eq_true, Bool.or_eq_true, decide_eq_true_iff] at hmem
      have up : ∀ k', k' < 128 → (nsM U 13 o k' = true ∨ k' = i ∨ nsM S 8 i k' = true) → nsM T 13 o k' = true := fun k' hk' z => by
        rw [yM k' hk', rM13, rM8, Bool.or_eq_true, Bool.or_eq_true, decide_eq_true_iff]; exact z
      rcases hmem with z | z | z
      · obtain ⟨a, b⟩ := g10 j hj z
        exact ⟨a, fun k' hk' hz => up k' hk' (Or.inl (b k' hk' hz))⟩
      · subst z
        exact ⟨hi, fun k' hk' hz => up k' hk' (Or.inr (Or.inr hz))⟩
      · have t1 := (hT9.1 i hi).1 j hj z
        exact ⟨by omega, fun k' hk' hz => up k' hk' (Or.inr (Or.inr (t1.2.2 k' hk' hz)))⟩
    · rw [yM i i128, Bool.or_eq_true, Bool.or_eq_true, decide_eq_true_iff]
      exact Or.inr (Or.inl rfl)
    · unfold fT
      rw [eb, ev, show rT T j = rT U j from congrArg Int32.toInt (r41n j e)]
    · have : fT T i = rT T i - vT T i := by unfold fT; rw [eb, hbar]; rfl
      rw [this, ev, R41, hfr]; omega
  · rw [if_neg hk, if_neg hk]
    have hk' : ¬ 0 < (imin w (free U i)).toInt := fun z => hk (i32_lt.mpr z)
    have h0 : (if fT U i < w.toInt then fT U i else w.toInt) = 0 := by rw [← hm]; rw [hm] at hk' ⊢; split <;> (split at hk' <;> omega)
    have e9 : sM U (sA U) = U := sM_sA rfl rfl
    rw [h0, e9, Int32.sub_zero]
    exact ⟨h, fun _ _ => rfl, by omega, by omega⟩
/-- free pieces of a part's lots from j on -/
def fS (U : St) (p n : Nat) : Nat → Int := fun i => if i < n then 0 else if sN U 6 i = p then fT U i else 0
theorem fS_N {U V : St} (h : sN V = sN U) (p n i : Nat) : fS V p n i = if i < n then 0 else if sN U 6 i = p then fT V i else 0 := by unfold fS; rw [h]
theorem td_spec (hB : ILB S) (hQ : ILQ S) (hO : IOrd S) (hT9 : ITr S) (hL : nLc S ≤ 90) (ho : o < nOc S) (hc : ∀ i, i < nLc S → cT S i ≤ 29970000) (hcs : sm (fun i => cT S i) (nLc S) ≤ 29970000) {w0 : Int32} {U0 : St} (h0 : DlP S o w0 U0) (hw : w0.toInt ≤ sm (fS U0 (sN S 7 o) 0) (nLc S)) {x0 : IJP × Int32} (hx : sM S x0.1 = U0) (hx2 : x0.2 = w0) (n : Nat) :
    DlP S o (it (td1 S o) n x0).2 (sM S (it (td1 S o) n x0).1) ∧ (it (td1 S o) n x0).2.toInt ≤ sm (fS (sM S (it (td1 S o) n x0).1) (sN S 7 o) n) (nLc S) := by
  induction n with
  | zero => rw [it_0, hx, hx2]; exact ⟨h0, hw⟩
  | succ n ih =>
    obtain ⟨h1, h2⟩ := ih
    rw [it_s]
    generalize it (td1 S o) n x0 = x at h1 h2 ⊢
    unfold td1
    generalize hU : sM S x.1 = U at h1 h2 ⊢
    have un : sN U = sN S := h1.1.1
    have fnn : ∀ V w, DlP S o w V → ∀ i, i < nLc S → 0 ≤ fT V i := fun V w hV i hi => (hV.free hB hQ hO hi).2.1
    by_cases hn : n < sN S 2 0
    · have hn' : n < nLc S := hn
      rw [if_pos hn]
      by_cases hp : sN S 6 n = sN S 7 o
      · rw [if_pos hp]
        obtain ⟨a1, a2, a3, a4⟩ := do_step hB hQ hO hT9 hL ho hc hcs h1 hn'
        have e9 : sM S (sA (doS U n o x.2)) = doS U n o x.2 := sM_sA a1.1.1 a1.1.2.1
        show DlP S o (x.2 - doR U n x.2) (sM S (sA (doS U n o x.2))) ∧ (x.2 - doR U n x.2).toInt ≤ sm (fS (sM S (sA (doS U n o x.2))) (sN S 7 o) (n + 1)) (nLc S)
        rw [e9]
        refine ⟨a1, ?_⟩
        rw [a3]
        have dn : sN (doS U n o x.2) = sN S := a1.1.1
        have q : sm (fS (doS U n o x.2) (sN S 7 o) (n + 1)) (nLc S) = sm (fS U (sN S 7 o) n) (nLc S) + (fS (doS U n o x.2) (sN S 7 o) (n + 1) n - fS U (sN S 7 o) n n) := sm_upd (f := fS U (sN S 7 o) n) (g := fS (doS U n o x.2) (sN S 7 o) (n + 1)) hn' (fun i hi e => by
          rw [fS_N dn, fS_N un, a2 i e]
          by_cases z : i < n
          · rw [if_pos z, if_pos (show i < n + 1 by omega)]
          · rw [if_neg z, if_neg (show ¬ i < n + 1 by omega)])
        have z1 : fS (doS U n o x.2) (sN S 7 o) (n + 1) n = 0 := by unfold fS; rw [if_pos (Nat.lt_succ_self n)]
        have z2 : fS U (sN S 7 o) n n = fT U n := by rw [fS_N un, if_neg (Nat.lt_irrefl n), if_pos hp]
        have nn : 0 ≤ sm (fS (doS U n o x.2) (sN S 7 o) (n + 1)) (nLc S) := sm_nonneg (fun i hi => by
          unfold fS
          split
          · exact Int.le_refl _
          · split
            · exact fnn _ _ a1 i hi
            · exact Int.le_refl _)
        rw [z1, z2] at q
        have w1 := h1.2.2.2.2.1.1
        split <;> omega
      · rw [if_neg hp, hU]
        refine ⟨h1, ?_⟩
        have q : sm (fS U (sN S 7 o) (n + 1)) (nLc S) = sm (fS U (sN S 7 o) n) (nLc S) := sm_congr (fun i hi => by
          rw [fS_N un, fS_N un]
          by_cases z : i < n
          · rw [if_pos z, if_pos (show i < n + 1 by omega)]
          · rw [if_neg z]
            by_cases y : i < n + 1
            · rw [if_pos y, if_neg (by rw [show i = n by omega]; exact hp)]
            · rw [if_neg y])
        rw [q]; exact h2
    · rw [if_neg hn, hU]
      have hn' : ¬ n < nLc S := hn
      refine ⟨h1, ?_⟩
      have q : sm (fS U (sN S 7 o) (n + 1)) (nLc S) = sm (fS U (sN S 7 o) n) (nLc S) := sm_congr (fun i hi => by
        unfold fS
        rw [if_pos (show i < n + 1 by omega), if_pos (show i < n by omega)])
      rw [q]; exact h2
theorem fpo_sm (hB : ILB S) (hQ : ILQ S) (hO : IOrd S) (hL : nLc S ≤ 90) (p : Nat) : (fpo S p).toInt = sm (fS S p 0) (nLc S) := by
  have key : ∀ n, n ≤ 90 → (it (fpo1 S p) n 0).toInt = sm (fS S p 0) (min n (nLc S)) ∧ 0 ≤ (it (fpo1 S p) n 0).toInt ∧ (it (fpo1 S p) n 0).toInt ≤ 500 * n := by
    intro n
    induction n with
    | zero => intro _; rw [Nat.zero_min]; exact ⟨rfl, Int.le_refl _, by show (0 : Int) ≤ 500 * ((0 : Nat) : Int); decide⟩
    | succ n ih =>
      intro hn
      obtain ⟨i1, i2, i3⟩ := ih (by omega)
      rw [it_s]
      generalize it (fpo1 S p) n 0 = a at i1 i2 i3 ⊢
      unfold fpo1
      by_cases hl : n < sN S 2 0
      · have hl' : n < nLc S := hl
        rw [if_pos hl, Nat.min_eq_left (show n + 1 ≤ nLc S from hl), sm_s]
        rw [Nat.min_eq_left (Nat.le_of_lt hl')] at i1
        obtain ⟨b1, b2, b3, b4, b5⟩ := lot_bd hB hQ hO hl'
        obtain ⟨f1, f2, f3⟩ := fT_free (S := S) (i := n) b1 b2 (by omega)
        by_cases hp : sN S 6 n = p
        · rw [if_pos hp]
          have z : fS S p 0 n = fT S n := by unfold fS; rw [if_neg (Nat.not_lt_zero n), if_pos hp]
          rw [z, ← f1, ← i1]
          have e := i32_add (a := a) (b := free S n) (by omega) (by omega)
          exact ⟨e, by rw [e]; omega, by rw [e]; omega⟩
        · rw [if_neg hp]
          have z : fS S p 0 n = 0 := by unfold fS; rw [if_neg (Nat.not_lt_zero n), if_neg hp]
          rw [z]
          exact ⟨by omega, i2, by omega⟩
      · have hl' : ¬ n < nLc S := hl
        rw [if_neg hl, Nat.min_eq_right (show nLc S ≤ n + 1 by omega)]
        rw [Nat.min_eq_right (show nLc S ≤ n by omega)] at i1
        exact ⟨i1, i2, by omega⟩
  have := (key 90 (Nat.le_refl _)).1
  rw [Nat.min_eq_right hL] at this
  exact this
/-- noteOrderOnLots -/
theorem no_spec {U : St} (hL : nLc U ≤ 90) (ho : o < 128) (n : Nat) :
    sI (sM U (noL U o n)) = sI U ∧ sP (sM U (noL U o n)) = sP U ∧ (∀ k i, k ≠ 20 → k ≠ 21 → sJ (sM U (noL U o n)) k i = sJ U k i) ∧
    ∀ j m, m < 128 → nsM (sM U (noL U o n)) 10 j m = (nsM U 10 j m || (decide (j < n ∧ j < nLc U) && nsM U 13 o j && decide (m = o))) := by
  induction n with
  | zero =>
    refine ⟨rfl, rfl, fun _ _ _ _ => rfl, fun j m hm => ?_⟩
    rw [decide_eq_false (fun z => Nat.not_lt_zero j z.1), Bool.false_and, Bool.false_and, Bool.or_false]; rfl
  | succ t ih =>
    obtain ⟨h1, h2, h3, h4⟩ := ih
    rw [noL_s]
    unfold no1
    have hAN : sN (sM U (noL U o t)) = sN U := rfl
    have hAR : sR (sM U (noL U o t)) = sR U := rfl
    generalize hB : sM U (noL U o t) = B at h1 h2 h3 h4 hAN hAR ⊢
    have e13 : nsM B 13 o t = nsM U 13 o t := by
      show nsb (sJ B 26 o) (sJ B 27 o) t = nsb (sJ U 26 o) (sJ U 27 o) t
      rw [h3 26 o (by decide) (by decide), h3 27 o (by decide) (by decide)]
    have keep : (∀ j, (j < t + 1 ∧ j < nLc U) → nsM U 13 o j = true → j < t) → ∀ j m, m < 128 → nsM B 10 j m = (nsM U 10 j m || (decide (j < t + 1 ∧ j < nLc U) && nsM U 13 o j && decide (m = o))) := fun hk j m hm => by
      rw [h4 j m hm]
      congr 2
      cases e : nsM U 13 o j with
      | false => rw [Bool.and_false, Bool.and_false]
      | true =>
        rw [Bool.and_true, Bool.and_true]
        exact decide_eq_decide.mpr ⟨fun z => ⟨by omega, z.2⟩, fun z => ⟨hk j z e, z.2⟩⟩
    by_cases ht : t < sN U 2 0
    · rw [if_pos ht, e13]
      by_cases hz : nsM U 13 o t = true
      · rw [if_pos hz]
        have ht' : t < nLc U := ht
        have e9 : sM U (sA (sAdd B 10 t o)) = sAdd B 10 t o := sM_sA hAN hAR
        rw [e9]
        refine ⟨(sAdd_I B 10 t o).trans h1, (sAdd_P B 10 t o).trans h2, fun k i a b => (sAdd_J B 10 t o k i (fun z => a z.1) (fun z => b z.1)).trans (h3 k i a b), fun j m hm => ?_⟩
        rw [sAdd_M ho hm, h4 j m hm, Bool.or_assoc]
        congr 1
        by_cases ej : j = t
        · subst ej
          rw [decide_eq_false (show ¬ (j < j ∧ j < nLc U) from fun z => Nat.lt_irrefl j z.1), decide_eq_true (show (10 : Nat) = 10 ∧ j = j from ⟨rfl, rfl⟩), decide_eq_true (show j < j + 1 ∧ j < nLc U from ⟨Nat.lt_succ_self j, ht'⟩), hz]
          rfl
        · rw [decide_eq_false (show ¬ ((10 : Nat) = 10 ∧ j = t) from fun z => ej z.2), Bool.false_and, Bool.or_false]
          congr 2
          exact decide_eq_decide.mpr ⟨fun z => ⟨by omega, z.2⟩, fun z => ⟨by omega, z.2⟩⟩
      · rw [if_neg hz, hB]
        refine ⟨h1, h2, h3, keep (fun j z e => ?_)⟩
        have : j ≠ t := fun q => hz (q ▸ e)
        omega
    · rw [if_neg ht, hB]
      have ht' : ¬ t < nLc U := ht
      exact ⟨h1, h2, h3, keep (fun j z e => by omega)⟩
end DL
