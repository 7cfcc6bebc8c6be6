/-! PURE: how many numbers are in a set -/
/-- the bits of n below k -/
def cbN (n : Nat) : Nat → Nat
  | 0 => 0
  | k + 1 => cbN n k + (if n.testBit k = true then 1 else 0)
theorem cbN_add (n a : Nat) : ∀ b, cbN n (a + b) = cbN n a + cbN (n / 2 ^ a) b
  | 0 => rfl
  | b + 1 => by
    have e : (n / 2 ^ a).testBit b = n.testBit (a + b) := by
      rw [Nat.testBit_div_two_pow]
      try rw [Nat.add_comm]
    show cbN n (a + b) + (if n.testBit (a + b) = true then 1 else 0) = cbN n a + (cbN (n / 2 ^ a) b + (if (n / 2 ^ a).testBit b = true then 1 else 0))
    rw [cbN_add n a b, e]
    omega
theorem cbN_congr {n m : Nat} : ∀ k, (∀ j, j < k → n.testBit j = m.testBit j) → cbN n k = cbN m k
  | 0, _ => rfl
  | k + 1, h => by
    show cbN n k + (if n.testBit k = true then 1 else 0) = cbN m k + (if m.testBit k = true then 1 else 0)
    rw [cbN_congr k (fun j hj => h j (by omega)), h k (by omega)]
theorem cbN_mod (n : Nat) : cbN (n % 256) 8 = cbN n 8 := cbN_congr 8 (fun j hj => by
  rw [show (256 : Nat) = 2 ^ 8 from rfl, Nat.testBit_mod_two_pow, decide_eq_true hj, Bool.true_and])
theorem pb_cb : ∀ b, b < 256 → pb b = cbN b 8 := by decide +kernel
theorem popN_cb : ∀ k n, popN k n = cbN n (8 * k)
  | 0, _ => rfl
  | k + 1, n => by
    have e : 8 * (k + 1) = 8 + 8 * k := by omega
    rw [popN, pb_cb _ (Nat.mod_lt _ (by decide)), cbN_mod, popN_cb k, e, cbN_add]
theorem cbN_le (n : Nat) : ∀ k, cbN n k ≤ k
  | 0 => Nat.le_refl 0
  | k + 1 => by
    have h := cbN_le n k
    show cbN n k + (if n.testBit k = true then 1 else 0) ≤ k + 1
    split <;> omega
theorem bcN_cb (x : Int64) : bcN x = nI (cbN x.toBitVec.toNat 64) := by
  obtain ⟨n, hn, rfl⟩ := wb_of x
  rw [bcN_n hn, popN_cb, wb_tn hn]
/-- a truth as a number -/
abbrev bZ (b : Bool) : Int := if b = true then 1 else 0
theorem cbN_sm (x : Int64) : ∀ k, (cbN x.toBitVec.toNat k : Int) = sm (fun j => bZ (lb x j)) k
  | 0 => rfl
  | k + 1 => by
    show ((cbN x.toBitVec.toNat k + (if x.toBitVec.toNat.testBit k = true then 1 else 0) : Nat) : Int) = sm (fun j => bZ (lb x j)) k + bZ (lb x k)
    have e : lb x k = x.toBitVec.toNat.testBit k := rfl
    rw [Int.natCast_add, cbN_sm x k, e]
    split <;> rfl
theorem sm_app (f : Nat → Int) (a : Nat) : ∀ b, sm f (a + b) = sm f a + sm (fun j => f (a + j)) b
  | 0 => by show sm f a = sm f a + 0; omega
  | b + 1 => by
    show sm f (a + b) + f (a + b) = sm f a + (sm (fun j => f (a + j)) b + f (a + b))
    rw [sm_app f a b]; omega
/-- the size of a set is the number of its members -/
theorem nsSize_sm (lo hi : Int64) : (nsSize lo hi).toInt = sm (fun j => bZ (nsb lo hi j)) 128 := by
  have h1 := cbN_le lo.toBitVec.toNat 64
  have h2 := cbN_le hi.toBitVec.toNat 64
  unfold nsSize
  rw [bcN_cb, bcN_cb, nI_add, nI_toInt (by omega), Int.natCast_add, cbN_sm, cbN_sm, show (128 : Nat) = 64 + 64 from rfl, sm_app]
  have e1 : sm (fun j => bZ (lb lo j)) 64 = sm (fun j => bZ (nsb lo hi j)) 64 := sm_congr (fun j hj => by rw [nsb, if_pos hj])
  have e2 : sm (fun j => bZ (lb hi j)) 64 = sm (fun j => bZ (nsb lo hi (64 + j))) 64 := sm_congr (fun j hj => by rw [nsb, if_neg (by omega), Nat.add_sub_cancel_left])
  rw [e1, e2]
theorem bZ_nn (b : Bool) : 0 ≤ bZ b := by cases b <;> decide
/-- members below n alone -/
theorem sm_cut {f : Nat → Int} {n m : Nat} (hnm : n ≤ m) (h : ∀ j, n ≤ j → j < m → f j = 0) : sm f m = sm f n := by
  obtain ⟨d, rfl⟩ : ∃ d, m = n + d := ⟨m - n, by omega⟩
  rw [sm_app, sm_zero (fun j hj => h (n + j) (by omega) (by omega))]; omega
theorem nsSize_le {lo hi lo2 hi2 : Int64} (h : ∀ j, j < 128 → nsb lo hi j = true → nsb lo2 hi2 j = true) : (nsSize lo hi).toInt ≤ (nsSize lo2 hi2).toInt := by
  rw [nsSize_sm, nsSize_sm]
  refine sm_le (fun j hj => ?_)
  cases e : nsb lo hi j with
  | false => exact bZ_nn _
  | true => rw [h j hj e]; exact Int.le_refl _
theorem nsSize_pos {lo hi : Int64} : 0 < (nsSize lo hi).toInt ↔ ∃ j, j < 128 ∧ nsb lo hi j = true := by
  rw [nsSize_sm]
  constructor
  · intro h
    refine Classical.byContradiction (fun hn => ?_)
    have z : sm (fun j => bZ (nsb lo hi j)) 128 = 0 := sm_zero (fun j hj => by
      cases e : nsb lo hi j with
      | false => rfl
      | true => exact absurd ⟨j, hj, e⟩ hn)
    omega
  · rintro ⟨j, hj, e⟩
    have := sm_one (f := fun j => bZ (nsb lo hi j)) hj (fun i _ => bZ_nn _)
    have e1 : bZ (nsb lo hi j) = 1 := by rw [e]; rfl
    have : bZ (nsb lo hi j) ≤ sm (fun j => bZ (nsb lo hi j)) 128 := this
    omega
