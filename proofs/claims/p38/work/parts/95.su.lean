/-! PURE: where the set-up stands -/
def fl1 (p : Nat) : Int32 := if 1 < p then 1 else 0
def SB (S : St) (nm np : Nat) : Prop := SU S ∧ sN S 0 0 = nm ∧ sN S 1 0 = np ∧ ∀ p, p < np → sI S 20 p = fl1 p ∧ sN S 4 p = 0 ∧ sN S 5 p = 0
def SE (S : St) (nm k : Nat) : Prop := SU S ∧ sN S 0 0 = nm ∧ sN S 1 0 = 6 ∧ (∀ p, p < 6 → sI S 20 p = fl1 p) ∧ ∀ p, k ≤ p → p < 6 → sN S 4 p = 0 ∧ sN S 5 p = 0
def SC (S : St) (nm k c w : Nat) : Prop := SE S nm (k + 1) ∧ sN S 4 k = c ∧ sN S 5 k = w
section SUB
variable {S : St} {nm j k c w : Nat}
theorem SB0 : SB S0 0 0 := ⟨SU0, rfl, rfl, fun p hp => absurd hp (Nat.not_lt_zero p)⟩
theorem SB.m {se li re : Int32} (h : SB S j 0) (hj : j < 5) : SB (nwMS S 0 se li re) (j + 1) 0 := by
  obtain ⟨h1, h2, h3, h4⟩ := h
  exact ⟨h1.m (by omega) rfl, by rw [← h2]; simp [nwMS, sN, up2], (show sN (nwMS S 0 se li re) 1 0 = sN S 1 0 by simp [nwMS, sN, up2]).trans h3, fun p hp => absurd hp (Nat.not_lt_zero p)⟩
theorem SB.p {mk fa : Int32} (h : SB S nm j) (hj : j < 12) (hm : mk = fl1 j) : SB (nwPS S mk fa) nm (j + 1) := by
  obtain ⟨h1, h2, h3, h4⟩ := h
  refine ⟨h1.p (by omega), by rw [← h2]; simp [nwPS, sN, up2], by rw [← h3]; simp [nwPS, sN, up2], fun p hp => ?_⟩
  by_cases e : p = sN S 1 0
  · have e' : p = j := by omega
    refine ⟨?_, ?_, ?_⟩
    · rw [e, show fl1 (sN S 1 0) = mk by rw [← e, e', hm]]; simp [nwPS, sI, up2]
    · rw [e]; simp [nwPS, sN, up2]
    · rw [e]; simp [nwPS, sN, up2]
  · obtain ⟨a, b, c⟩ := h4 p (by omega)
    have e' : ¬ p = S.1 1 0 := e
    refine ⟨?_, ?_, ?_⟩
    · rw [← a]; simp [nwPS, sI, up2, show ¬ p = sN S 1 0 from e]
    · rw [← b]; simp [nwPS, sN, up2, e']
    · rw [← c]; simp [nwPS, sN, up2, e']
theorem SB.e (h : SB S nm 6) : SE S nm 2 := ⟨h.1, h.2.1, h.2.2.1, fun p hp => (h.2.2.2 p hp).1, fun p _ hp => (h.2.2.2 p hp).2⟩
theorem SE.toC (h : SE S nm k) (hk : k < 6) : SC S nm k 0 0 := ⟨⟨h.1, h.2.1, h.2.2.1, h.2.2.2.1, fun p h1 h2 => h.2.2.2.2 p (by omega) h2⟩, (h.2.2.2.2 k (Nat.le_refl _) hk).1, (h.2.2.2.2 k (Nat.le_refl _) hk).2⟩
theorem SC.addC {cz : Nat} {pc op : Int32} (h : SC S nm k c w) (hk : k < 6) (hz : cz < k) (h1 : 1 ≤ pc.toInt) (h9 : pc.toInt ≤ 9) (hc : c < 4) : SC (nwCS S k cz pc op) nm k (c + 1) w := by
  obtain ⟨⟨a, b, d, e, f⟩, h4, h5⟩ := h
  refine ⟨⟨a.c (by omega) (by omega) hz h1 h9 (by omega), by rw [← b]; simp [nwCS, sN, up2], by rw [← d]; simp [nwCS, sN, up2], fun p hp => by rw [← e p hp]; simp [nwCS, sI, up2], fun p hp1 hp2 => ?_⟩, ?_, ?_⟩
  · have g := f p hp1 hp2
    have n : ¬ p = k := by omega
    refine ⟨?_, ?_⟩
    · rw [← g.1]; simp [nwCS, sN, up2, n]
    · rw [← g.2]; simp [nwCS, sN, up2]
  · rw [← h4]; simp [nwCS, sN, up2]
  · rw [← h5]; simp [nwCS, sN, up2]
theorem SC.addW {mz : Nat} {al : Option Nat} {ti : Int32} (h : SC S nm k c w) (hk : k < 6) (hm : mz < nm) (hal : ∀ a, al = some a → a < nm) (hw : w < 3) : SC (nwWS S k mz al ti) nm k c (w + 1) := by
  obtain ⟨⟨a, b, d, e, f⟩, h4, h5⟩ := h
  refine ⟨⟨a.w (by omega) (by omega) (fun x hx => by rw [b]; exact hal x hx) (by omega), by rw [← b]; simp [nwWS, sN, up2], by rw [← d]; simp [nwWS, sN, up2], fun p hp => by rw [← e p hp]; simp [nwWS, sI, up2], fun p hp1 hp2 => ?_⟩, ?_, ?_⟩
  · have g := f p hp1 hp2
    have n : ¬ p = k := by omega
    refine ⟨?_, ?_⟩
    · rw [← g.1]; simp [nwWS, sN, up2]
    · rw [← g.2]; simp [nwWS, sN, up2, n]
  · rw [← h4]; simp [nwWS, sN, up2]
  · rw [← h5]; simp [nwWS, sN, up2]
theorem SE.ti (h : SE S nm k) (h1 : 1 ≤ nm) (h3 : nm ≤ 3) : TI S 0 ∧ sN S 3 0 = 0 ∧ sI S 2 0 = 0 ∧ sJ S 1 0 = 0 := by
  obtain ⟨a, b, d, e, f⟩ := h
  have hI := a.inv d (e 0 (by omega)) (e 1 (by omega))
  obtain ⟨-, -, hO, -, -, -, e1, e2, e3, e4⟩ := a
  have b' : nMc S = nm := b
  refine ⟨⟨hI, by omega, by omega, ?_, ?_⟩, hO, e2, e3⟩
  · rw [e2, z32]; omega
  · rw [e1, z32, hO]; omega
theorem SC.made (h : SC S nm k c w) (h1 : 1 < k) (h6 : k < 6) : ¬ sI S 20 k = 0 := by
  rw [h.1.2.2.2.1 k h6, fl1, if_pos h1]; decide
end SUB
theorem op_in {v : Nat} (h : v < 3) : inR (nI v - 1) (-1) 2 = true := by
  rcases (show v = 0 ∨ v = 1 ∨ v = 2 by omega) with rfl | rfl | rfl <;> decide
theorem nI_dec (i : Nat) : nI (i + 1) + Int32.ofInt (-1) = nI i := by
  rw [show Int32.ofInt (-1) = -1 by decide, ← Int32.sub_eq_add_neg]
  exact nI_pred i
theorem fl_le {j : Nat} (hj : j < 100) (h : nI j ≤ 1) : bI false = fl1 j := by
  have := (nI_leI (a := j) (b := 1) (by omega) (by omega)).mp h
  rw [fl1, if_neg (by omega)]; rfl
theorem fl_gt {j : Nat} (hj : j < 100) (h : ¬ nI j ≤ 1) : bI true = fl1 j := by
  have : 1 < j := Nat.not_le.mp (fun z => h ((nI_leI (a := j) (b := 1) (by omega) (by omega)).mpr z))
  rw [fl1, if_pos this]; rfl
