/-! Long.bitCount, and the size of a set (nx_and out of kit/laws/BITS) -/
theorem nx_and (a b : Nat) : nI a &&& nI b = nI (a &&& b) := by
  apply Int32.toBitVec_inj.1
  show BitVec.ofNat 32 a &&& BitVec.ofNat 32 b = BitVec.ofNat 32 (a &&& b)
  apply BitVec.eq_of_getLsbD_eq
  intro i hi
  simp [hi]
def bc1 (x : Int64) : Int64 := x - ((x.toUInt64 >>> ((1 : Int32).toInt64.toUInt64 &&& Int64.toUInt64 63)).toInt64 &&& 6148914691236517205)
def bc2 (x : Int64) : Int64 := (x &&& 3689348814741910323) + ((x.toUInt64 >>> ((2 : Int32).toInt64.toUInt64 &&& Int64.toUInt64 63)).toInt64 &&& 3689348814741910323)
def bc3 (x : Int64) : Int64 := (x + (x.toUInt64 >>> ((4 : Int32).toInt64.toUInt64 &&& Int64.toUInt64 63)).toInt64) &&& 1085102592571150095
def bcA (k : Int32) (x : Int64) : Int64 := x + (x.toUInt64 >>> (k.toInt64.toUInt64 &&& Int64.toUInt64 63)).toInt64
def bcN (x : Int64) : Int32 := (bcA 32 (bcA 16 (bcA 8 (bc3 (bc2 (bc1 x)))))).toInt32 &&& 127
theorem rep_lt {c : Nat} (hc : c < 128) : ∀ k, k ≤ 8 → rep c k < 2 ^ (8 * k) := by
  intro k
  induction k with
  | zero => intro _; exact (by decide : (0 : Nat) < 1)
  | succ k ih =>
    intro h
    have h1 := ih (by omega)
    rw [rep, show 8 * (k + 1) = 8 * k + 8 by omega, Nat.pow_add]
    omega
theorem bc1_n {n : Nat} (hn : n < 2 ^ 64) : bc1 (lN n) = lN (f1 8 n) ∧ f1 8 n < 2 ^ 64 := by
  have e : (6148914691236517205 : Int64) = lN (rep 85 8) := by decide +kernel
  have h2 : n / 2 < 2 ^ 64 := Nat.lt_of_le_of_lt (Nat.div_le_self _ _) hn
  refine ⟨?_, Nat.lt_of_le_of_lt (Nat.sub_le _ _) hn⟩
  unfold bc1
  rw [show ((lN n).toUInt64 >>> ((1 : Int32).toInt64.toUInt64 &&& Int64.toUInt64 63)).toInt64 = lN (n / 2) from wb_shr (k := 1) hn (by decide), e, wb_and h2 (by decide +kernel), lN_sub (Nat.le_trans Nat.and_le_left (Nat.div_le_self _ _))]
  rfl
theorem bc2_n {n : Nat} (hn : n < 2 ^ 64) : bc2 (lN n) = lN (f2 8 n) ∧ f2 8 n ≤ 7378697629483820646 := by
  have e : (3689348814741910323 : Int64) = lN (rep 51 8) := by decide +kernel
  have e2 : rep 51 8 = 3689348814741910323 := by decide +kernel
  have h2 : n / 4 < 2 ^ 64 := Nat.lt_of_le_of_lt (Nat.div_le_self _ _) hn
  refine ⟨?_, ?_⟩
  · unfold bc2
    rw [show ((lN n).toUInt64 >>> ((2 : Int32).toInt64.toUInt64 &&& Int64.toUInt64 63)).toInt64 = lN (n / 4) from wb_shr (k := 2) hn (by decide), e, wb_and hn (by decide +kernel), wb_and h2 (by decide +kernel), lN_add]
    rfl
  · unfold f2
    have a := Nat.and_le_right (n := n) (m := rep 51 8)
    have b := Nat.and_le_right (n := n / 4) (m := rep 51 8)
    rw [e2] at a b ⊢
    omega
theorem bc3_n {n : Nat} (hn : n ≤ 7378697629483820646) : bc3 (lN n) = lN (f3 8 n) ∧ f3 8 n < 2 ^ 62 := by
  have e : (1085102592571150095 : Int64) = lN (rep 15 8) := by decide +kernel
  have e2 : rep 15 8 = 1085102592571150095 := by decide +kernel
  refine ⟨?_, ?_⟩
  · unfold bc3
    rw [show ((lN n).toUInt64 >>> ((4 : Int32).toInt64.toUInt64 &&& Int64.toUInt64 63)).toInt64 = lN (n / 16) from wb_shr (k := 4) (by omega) (by decide), e, lN_add, wb_and (by omega) (by decide +kernel)]
    rfl
  · unfold f3
    have b := Nat.and_le_right (n := n + n / 16) (m := rep 15 8)
    rw [e2] at b ⊢
    omega
theorem bcA_n {n k : Nat} (hk : k < 64) (hn : n < 2 ^ 64) : bcA (nI k) (lN n) = lN (n + n / 2 ^ k) := by
  unfold bcA
  rw [wb_shr hn hk, lN_add]
/-- Long.bitCount tells the bits -/
theorem bcN_n {n : Nat} (hn : n < 2 ^ 64) : bcN (lN n) = nI (popN 8 n) := by
  obtain ⟨a1, a2⟩ := bc1_n hn
  obtain ⟨b1, b2⟩ := bc2_n a2
  obtain ⟨c1, c2⟩ := bc3_n b2
  obtain ⟨b0, d1, d2, d3, d4, d5, d6, d7, hb, ht, hp⟩ := f_all n hn
  generalize hT : f3 8 (f2 8 (f1 8 n)) = t at *
  have l1 : t + t / 256 < 2 ^ 63 := by have := Nat.div_le_self t 256; omega
  obtain ⟨s1, h1⟩ : ∃ z, z = t + t / 256 := ⟨_, rfl⟩
  obtain ⟨s2, h2⟩ : ∃ z, z = s1 + s1 / 65536 := ⟨_, rfl⟩
  obtain ⟨s3, h3⟩ : ∃ z, z = s2 + s2 / 4294967296 := ⟨_, rfl⟩
  have l2 : s2 < 2 ^ 64 := by rw [h2]; have := Nat.div_le_self s1 65536; omega
  obtain ⟨r1, r2⟩ := popN_sum hb ht h1 h2 h3
  unfold bcN
  rw [a1, b1, c1, show bcA 8 (lN t) = lN s1 by rw [h1]; exact bcA_n (k := 8) (by decide) (by omega), show bcA 16 (lN s1) = lN s2 by rw [h2]; exact bcA_n (k := 16) (by decide) (by omega), show bcA 32 (lN s2) = lN s3 by rw [h3]; exact bcA_n (k := 32) (by decide) l2, lN_i, show (127 : Int32) = nI 127 from rfl, nx_and, show s3 &&& 127 = s3 % 128 from Nat.and_two_pow_sub_one_eq_mod s3 7, r1, hp]
