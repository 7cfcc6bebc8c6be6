/-! BITS of a long: lb x j; and a set of numbers below 128 in two longs: nsb lo hi j.  (ts_bit, wb_c, wb_cu: out of kit/laws/BITS, pasted) -/
theorem ts_bit {w : Int64} {s : UInt64} {j : Nat} (hj : j < 64) (hs : s.toNat = j) : ((w.toUInt64 >>> s).toInt64 &&& 1) = 0 ↔ w.toBitVec.getLsbD j = false := by
  have e : (w.toUInt64 >>> s).toInt64.toBitVec = w.toBitVec >>> j := by
    apply BitVec.eq_of_toNat_eq
    show (w.toUInt64 >>> s).toNat = _
    rw [UInt64.toNat_shiftRight, hs, Nat.mod_eq_of_lt hj, BitVec.toNat_ushiftRight]
    rfl
  rw [← Int64.toBitVec_inj, Int64.toBitVec_and, e]
  show w.toBitVec >>> j &&& 1#64 = 0#64 ↔ _
  constructor
  · intro h
    have t := congrArg (fun x => x.getLsbD 0) h
    simpa using t
  · intro h
    apply BitVec.eq_of_getLsbD_eq
    intro i hi
    cases i with
    | zero => simp [h]
    | succ i => simp
theorem wb_cu : ∀ k, k < 64 → ((nI k).toInt64.toUInt64 &&& Int64.toUInt64 63) = UInt64.ofNat k := by decide +kernel
def lb (x : Int64) (j : Nat) : Bool := x.toBitVec.getLsbD j
theorem lb_ext {x y : Int64} (h : ∀ i, i < 64 → lb x i = lb y i) : x = y := Int64.toBitVec_inj.mp (BitVec.eq_of_getLsbD_eq (fun i hi => h i hi))
theorem lb_or (x y : Int64) (i : Nat) : lb (x ||| y) i = (lb x i || lb y i) := by unfold lb; rw [Int64.toBitVec_or, BitVec.getLsbD_or]
theorem lb_and (x y : Int64) (i : Nat) : lb (x &&& y) i = (lb x i && lb y i) := by unfold lb; rw [Int64.toBitVec_and, BitVec.getLsbD_and]
theorem lb_xor (x y : Int64) (i : Nat) : lb (x ^^^ y) i = (lb x i ^^ lb y i) := by unfold lb; rw [Int64.toBitVec_xor, BitVec.getLsbD_xor]
theorem lb_big {x : Int64} {i : Nat} (h : 64 ≤ i) : lb x i = false := BitVec.getLsbD_of_ge _ _ h
theorem lb_0 (i : Nat) : lb 0 i = false := BitVec.getLsbD_zero
theorem lb_m1 : ∀ i, i < 64 → lb (-1) i = true := by decide +kernel
theorem lb_one_eq : ∀ j, j < 64 → ((1 : Int64) <<< ((nI j).toInt64 &&& 63)).toBitVec = BitVec.twoPow 64 j := by decide +kernel
theorem lb_one {j : Nat} (hj : j < 64) (i : Nat) : lb ((1 : Int64) <<< ((nI j).toInt64 &&& 63)) i = decide (i = j) := by
  unfold lb
  rw [lb_one_eq j hj, BitVec.getLsbD_twoPow]
  by_cases h : i = j
  · subst h; simp [hj]
  · simp [h]; intro _; omega
theorem lb_bit {x : Int64} {j : Nat} (hj : j < 64) : ((x.toUInt64 >>> ((nI j).toInt64.toUInt64 &&& Int64.toUInt64 63)).toInt64 &&& 1) = 0 ↔ lb x j = false := by
  rw [wb_cu j hj]
  exact ts_bit hj (by
    show (BitVec.ofNat 64 j).toNat = j
    rw [BitVec.toNat_ofNat, Nat.mod_eq_of_lt (by omega)])
def nsb (lo hi : Int64) (j : Nat) : Bool := if j < 64 then lb lo j else lb hi (j - 64)
theorem nI_m64 {j : Nat} (h : 64 ≤ j) : nI j - 64 = nI (j - 64) := by
  obtain ⟨k, rfl⟩ : ∃ k, j = k + 64 := ⟨j - 64, by omega⟩
  rw [Nat.add_sub_cancel, ← nI_add]
  show nI k + 64 - 64 = nI k
  exact Int32.add_sub_cancel ..
theorem has_t {x : Int64} {j : Nat} (hj : j < 64) (h : ¬ lg_cmp ((x.toUInt64 >>> ((nI j).toInt64.toUInt64 &&& Int64.toUInt64 63)).toInt64 &&& 1) 0 = 0) : (1 : Int32) = bI (lb x j) := by
  have q : lb x j = true := by
    cases q : lb x j with
    | false => exact absurd ((lg_cmp_eq _ _).mpr ((lb_bit hj).mpr q)) h
    | true => rfl
  rw [q]; rfl
theorem has_f {x : Int64} {j : Nat} (hj : j < 64) (h : lg_cmp ((x.toUInt64 >>> ((nI j).toInt64.toUInt64 &&& Int64.toUInt64 63)).toInt64 &&& 1) 0 = 0) : (0 : Int32) = bI (lb x j) := by
  rw [(lb_bit hj).mp ((lg_cmp_eq _ _).mp h)]; rfl
theorem has_t64 {x : Int64} {j : Nat} (hj : 64 ≤ j) (hj2 : j < 128) (h : ¬ lg_cmp ((x.toUInt64 >>> ((nI j - 64).toInt64.toUInt64 &&& Int64.toUInt64 63)).toInt64 &&& 1) 0 = 0) : (1 : Int32) = bI (lb x (j - 64)) := by
  rw [nI_m64 hj] at h; exact has_t (by omega) h
theorem has_f64 {x : Int64} {j : Nat} (hj : 64 ≤ j) (hj2 : j < 128) (h : lg_cmp ((x.toUInt64 >>> ((nI j - 64).toInt64.toUInt64 &&& Int64.toUInt64 63)).toInt64 &&& 1) 0 = 0) : (0 : Int32) = bI (lb x (j - 64)) := by
  rw [nI_m64 hj] at h; exact has_f (by omega) h
/-- j put into a set, taken out of it -/
def nsAdd (lo hi : Int64) (j : Nat) : Int64 × Int64 := if j < 64 then (lo ||| ((1 : Int64) <<< ((nI j).toInt64 &&& 63)), hi) else (lo, hi ||| ((1 : Int64) <<< ((nI (j - 64)).toInt64 &&& 63)))
def nsDel (lo hi : Int64) (j : Nat) : Int64 × Int64 := if j < 64 then (lo &&& (((1 : Int64) <<< ((nI j).toInt64 &&& 63)) ^^^ (-1)), hi) else (lo, hi &&& (((1 : Int64) <<< ((nI (j - 64)).toInt64 &&& 63)) ^^^ (-1)))
theorem nsb_add {lo hi : Int64} {j i : Nat} (hj : j < 128) (hi2 : i < 128) : nsb (nsAdd lo hi j).1 (nsAdd lo hi j).2 i = (nsb lo hi i || decide (i = j)) := by
  unfold nsAdd nsb
  by_cases h : j < 64 <;> by_cases h2 : i < 64 <;> simp only [h, h2, if_true, if_false, if_pos, if_neg, lb_or]
  · rw [lb_one h]
  · rw [decide_eq_false (by omega), Bool.or_false]
  · rw [decide_eq_false (by omega), Bool.or_false]
  · rw [lb_one (by omega)]
    congr 1
    by_cases q : i = j
    · subst q; simp
    · rw [decide_eq_false q, decide_eq_false (by omega)]
theorem nsb_del {lo hi : Int64} {j i : Nat} (hj : j < 128) (hi2 : i < 128) : nsb (nsDel lo hi j).1 (nsDel lo hi j).2 i = (nsb lo hi i && !decide (i = j)) := by
  unfold nsDel nsb
  by_cases h : j < 64 <;> by_cases h2 : i < 64 <;> simp only [h, h2, if_true, if_false, if_pos, if_neg, lb_and, lb_xor]
  · rw [lb_one h, lb_m1 i h2]; simp
  · rw [decide_eq_false (by omega)]; simp
  · rw [decide_eq_false (by omega)]; simp
  · rw [lb_one (by omega), lb_m1 _ (by omega)]
    congr 1
    by_cases q : i = j
    · subst q; simp
    · rw [decide_eq_false q, decide_eq_false (by omega)]; rfl
/-- two sets as one -/
theorem nsb_or {lo hi lo2 hi2 : Int64} {i : Nat} : nsb (lo ||| lo2) (hi ||| hi2) i = (nsb lo hi i || nsb lo2 hi2 i) := by
  unfold nsb
  by_cases h : i < 64 <;> simp only [h, if_true, if_false, lb_or]
def nsMeets (lo hi lo2 hi2 : Int64) : Bool := !((lo &&& lo2) == 0) || !((hi &&& hi2) == 0)
theorem lb_zero_iff {x : Int64} : x = 0 ↔ ∀ i, i < 64 → lb x i = false := ⟨fun h i _ => by rw [h, lb_0], fun h => lb_ext (fun i hi => by rw [h i hi, lb_0])⟩
theorem nsMeets_iff {lo hi lo2 hi2 : Int64} : nsMeets lo hi lo2 hi2 = true ↔ ∃ i, i < 128 ∧ nsb lo hi i = true ∧ nsb lo2 hi2 i = true := by
  constructor
  · intro h
    simp only [nsMeets, Bool.or_eq_true, Bool.not_eq_true', beq_eq_false_iff_ne, ne_eq] at h
    rcases h with h | h
    · rw [lb_zero_iff] at h
      obtain ⟨i, h2⟩ := Classical.not_forall.mp h
      obtain ⟨h3, h4⟩ := Classical.not_imp.mp h2
      rw [lb_and, Bool.not_eq_false, Bool.and_eq_true] at h4
      exact ⟨i, by omega, by unfold nsb; rw [if_pos h3]; exact h4.1, by unfold nsb; rw [if_pos h3]; exact h4.2⟩
    · rw [lb_zero_iff] at h
      obtain ⟨i, h2⟩ := Classical.not_forall.mp h
      obtain ⟨h3, h4⟩ := Classical.not_imp.mp h2
      rw [lb_and, Bool.not_eq_false, Bool.and_eq_true] at h4
      exact ⟨i + 64, by omega, by unfold nsb; rw [if_neg (by omega), Nat.add_sub_cancel]; exact h4.1, by unfold nsb; rw [if_neg (by omega), Nat.add_sub_cancel]; exact h4.2⟩
  · rintro ⟨i, hi, h1, h2⟩
    unfold nsb at h1 h2
    simp only [nsMeets, Bool.or_eq_true, Bool.not_eq_true', beq_eq_false_iff_ne, ne_eq]
    by_cases h : i < 64
    · rw [if_pos h] at h1 h2
      exact Or.inl (fun q => by have := (lb_zero_iff.mp q) i h; rw [lb_and, h1, h2] at this; cases this)
    · rw [if_neg h] at h1 h2
      exact Or.inr (fun q => by have := (lb_zero_iff.mp q) (i - 64) (by omega); rw [lb_and, h1, h2] at this; cases this)
theorem nsMeets_a {a b c d : Int64} (h : ¬ lg_cmp (a &&& c) 0 = 0) : (1 : Int32) = bI (nsMeets a b c d) := by
  have q : nsMeets a b c d = true := by
    unfold nsMeets
    rw [beq_eq_false_iff_ne.mpr (fun z => h ((lg_cmp_eq _ _).mpr z))]; rfl
  rw [q]; rfl
theorem nsMeets_b {a b c d : Int64} (_ : lg_cmp (a &&& c) 0 = 0) (h : ¬ lg_cmp (b &&& d) 0 = 0) : (1 : Int32) = bI (nsMeets a b c d) := by
  have q : nsMeets a b c d = true := by
    unfold nsMeets
    rw [beq_eq_false_iff_ne.mpr (fun z => h ((lg_cmp_eq _ _).mpr z))]; simp
  rw [q]; rfl
theorem nsMeets_c {a b c d : Int64} (h1 : lg_cmp (a &&& c) 0 = 0) (h : lg_cmp (b &&& d) 0 = 0) : (0 : Int32) = bI (nsMeets a b c d) := by
  have q : nsMeets a b c d = false := by
    unfold nsMeets
    rw [(lg_cmp_eq _ _).mp h1, (lg_cmp_eq _ _).mp h]; rfl
  rw [q]; rfl
