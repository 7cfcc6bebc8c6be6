/-! HOW MANY BITS: Long.bitCount by its bytes (the wb_ rows: out of kit/laws/BITS) -/
theorem wb_tb (n : Nat) : (lN n).toBitVec = BitVec.ofNat 64 n := rfl
theorem wb_inj {a b : Int64} (h : a.toBitVec = b.toBitVec) : a = b := Int64.toBitVec_inj.mp h
theorem wb_tn {n : Nat} (h : n < 2 ^ 64) : (lN n).toBitVec.toNat = n := by rw [wb_tb, BitVec.toNat_ofNat, Nat.mod_eq_of_lt h]
theorem wb_of (x : Int64) : ∃ n, n < 2 ^ 64 ∧ x = lN n := ⟨x.toBitVec.toNat, x.toBitVec.isLt, wb_inj (by rw [wb_tb]; simp)⟩
theorem wb_lt2 {a b : Nat} (h : a < b) : 2 ^ a < 2 ^ b := Nat.pow_lt_pow_right (by decide) h
theorem wb_shr {n k : Nat} (hn : n < 2 ^ 64) (hk : k < 64) : ((lN n).toUInt64 >>> ((nI k).toInt64.toUInt64 &&& Int64.toUInt64 63)).toInt64 = lN (n / 2 ^ k) := by
  rw [wb_cu k hk]
  apply wb_inj
  apply BitVec.eq_of_toNat_eq
  show ((lN n).toUInt64 >>> UInt64.ofNat k).toNat = (BitVec.ofNat 64 _).toNat
  have h1 : (UInt64.ofNat k).toNat = k := by
    show (BitVec.ofNat 64 k).toNat = k
    rw [BitVec.toNat_ofNat, Nat.mod_eq_of_lt (by omega)]
  have h2 : (lN n).toUInt64.toNat = n := wb_tn hn
  rw [UInt64.toNat_shiftRight, h1, h2, Nat.mod_eq_of_lt hk, Nat.shiftRight_eq_div_pow, BitVec.toNat_ofNat, Nat.mod_eq_of_lt (Nat.lt_of_le_of_lt (Nat.div_le_self _ _) hn)]
theorem wb_and {a b : Nat} (ha : a < 2 ^ 64) (hb : b < 2 ^ 64) : lN a &&& lN b = lN (a &&& b) := by
  apply wb_inj
  rw [Int64.toBitVec_and, wb_tb, wb_tb, wb_tb]
  apply BitVec.eq_of_toNat_eq
  rw [BitVec.toNat_and, BitVec.toNat_ofNat, BitVec.toNat_ofNat, BitVec.toNat_ofNat, Nat.mod_eq_of_lt ha, Nat.mod_eq_of_lt hb, Nat.mod_eq_of_lt (Nat.and_lt_two_pow _ hb)]
theorem land_split {x u y v : Nat} (hx : x < 256) (hu : u < 256) : (x + 256 * y) &&& (u + 256 * v) = (x &&& u) + 256 * (y &&& v) := by
  have h1 : ((x + 256 * y) &&& (u + 256 * v)) % 2 ^ 8 = x &&& u := by
    rw [Nat.and_mod_two_pow, show (x + 256 * y) % 2 ^ 8 = x by omega, show (u + 256 * v) % 2 ^ 8 = u by omega]
  have h2 : ((x + 256 * y) &&& (u + 256 * v)) / 2 ^ 8 = y &&& v := by
    rw [Nat.and_div_two_pow, show (x + 256 * y) / 2 ^ 8 = y by omega, show (u + 256 * v) / 2 ^ 8 = v by omega]
  omega
/-- a byte c, k times -/
def rep (c : Nat) : Nat → Nat
  | 0 => 0
  | k + 1 => c + 256 * rep c k
def g1 (b : Nat) : Nat := b - ((b / 2) &&& 85)
def g2 (b : Nat) : Nat := (b &&& 51) + ((b / 4) &&& 51)
def g3 (b : Nat) : Nat := (b + b / 16) &&& 15
def f1 (k n : Nat) : Nat := n - ((n / 2) &&& rep 85 k)
def f2 (k n : Nat) : Nat := (n &&& rep 51 k) + ((n / 4) &&& rep 51 k)
def f3 (k n : Nat) : Nat := (n + n / 16) &&& rep 15 k
theorem mk1 : ∀ b, b < 256 → ∀ t, t < 2 → ((b / 2 + 128 * t) &&& 85) = ((b / 2) &&& 85) := by decide +kernel
theorem mk2 : ∀ b, b < 256 → ∀ t, t < 4 → ((b / 4 + 64 * t) &&& 51) = ((b / 4) &&& 51) := by decide +kernel
theorem mk3 : ∀ b, b < 70 → ∀ t, t < 5 → ((b + b / 16 + 16 * t) &&& 15) = ((b + b / 16) &&& 15) := by decide +kernel
theorem g1_lt : ∀ b, b < 256 → g1 b < 256 := by decide +kernel
theorem g2_lt : ∀ b, b < 256 → g2 (g1 b) < 70 ∧ g2 (g1 b) % 16 < 5 := by decide +kernel
theorem f1_s {b m k : Nat} (hb : b < 256) : f1 (k + 1) (b + 256 * m) = g1 b + 256 * f1 k m := by
  unfold f1 g1
  have e : (b + 256 * m) / 2 = (b / 2 + 128 * (m % 2)) + 256 * (m / 2) := by omega
  rw [e, rep, land_split (by omega) (by decide), mk1 b hb _ (Nat.mod_lt _ (by decide))]
  have h1 : (b / 2) &&& 85 ≤ b := Nat.le_trans (Nat.and_le_left) (Nat.div_le_self _ _)
  have h2 : (m / 2) &&& rep 85 k ≤ m := Nat.le_trans (Nat.and_le_left) (Nat.div_le_self _ _)
  omega
theorem f2_s {b m k : Nat} (hb : b < 256) : f2 (k + 1) (b + 256 * m) = g2 b + 256 * f2 k m := by
  unfold f2 g2
  have e : (b + 256 * m) / 4 = (b / 4 + 64 * (m % 4)) + 256 * (m / 4) := by omega
  rw [e, rep, land_split hb (by decide), land_split (by omega) (by decide), mk2 b hb _ (Nat.mod_lt _ (by decide))]
  omega
theorem f3_s {b m k : Nat} (hb : b < 70) (hm : m % 16 < 5) : f3 (k + 1) (b + 256 * m) = g3 b + 256 * f3 k m := by
  unfold f3 g3
  have e : (b + 256 * m) + (b + 256 * m) / 16 = (b + b / 16 + 16 * (m % 16)) + 256 * (m + m / 16) := by omega
  rw [e, rep, land_split (by omega) (by decide), mk3 b hb _ hm]
/-- all three steps, by bytes -/
def h8 (b : Nat) : Nat := g3 (g2 (g1 b))
theorem f_0 : f3 0 (f2 0 (f1 0 0)) = 0 := by decide
theorem f21_mod {b m k : Nat} (hb : b < 256) : f2 (k + 1) (f1 (k + 1) (b + 256 * m)) % 16 < 5 := by
  rw [f1_s hb, f2_s (g1_lt b hb)]
  have := (g2_lt b hb).2
  omega
theorem f_s {b m k : Nat} (hb : b < 256) (hm : f2 k (f1 k m) % 16 < 5) : f3 (k + 1) (f2 (k + 1) (f1 (k + 1) (b + 256 * m))) = h8 b + 256 * f3 k (f2 k (f1 k m)) := by
  rw [f1_s hb, f2_s (g1_lt b hb), f3_s (g2_lt b hb).1 hm]; rfl
/-- the bits of a byte -/
def pb (b : Nat) : Nat := b % 2 + b / 2 % 2 + b / 4 % 2 + b / 8 % 2 + b / 16 % 2 + b / 32 % 2 + b / 64 % 2 + b / 128 % 2
theorem h8_pb : ∀ b, b < 256 → h8 b = pb b := by decide +kernel
theorem pb_le : ∀ b, b < 256 → pb b ≤ 8 := by decide +kernel
def popN : Nat → Nat → Nat
  | 0, _ => 0
  | k + 1, n => pb (n % 256) + popN k (n / 256)
theorem f_all (n : Nat) (hn : n < 2 ^ 64) : ∃ b0 b1 b2 b3 b4 b5 b6 b7 : Nat, (b0 ≤ 8 ∧ b1 ≤ 8 ∧ b2 ≤ 8 ∧ b3 ≤ 8 ∧ b4 ≤ 8 ∧ b5 ≤ 8 ∧ b6 ≤ 8 ∧ b7 ≤ 8) ∧ f3 8 (f2 8 (f1 8 n)) = b0 + 256 * (b1 + 256 * (b2 + 256 * (b3 + 256 * (b4 + 256 * (b5 + 256 * (b6 + 256 * b7)))))) ∧ popN 8 n = b0 + (b1 + (b2 + (b3 + (b4 + (b5 + (b6 + (b7 + 0))))))) := by
  have key : ∀ k n : Nat, f2 k (f1 k n) % 16 < 5 → f3 (k + 1) (f2 (k + 1) (f1 (k + 1) n)) = f3 (k + 1) (f2 (k + 1) (f1 (k + 1) (n % 256 + 256 * (n / 256)))) := fun k n _ => by rw [Nat.mod_add_div]
  have st : ∀ k m : Nat, (k = 0 → m / 256 = 0) → f3 (k + 1) (f2 (k + 1) (f1 (k + 1) m)) = pb (m % 256) + 256 * f3 k (f2 k (f1 k (m / 256))) := by
    intro k m hk
    have hb : m % 256 < 256 := Nat.mod_lt _ (by decide)
    have hm : f2 k (f1 k (m / 256)) % 16 < 5 := by
      cases k with
      | zero => rw [hk rfl]; decide
      | succ k => rw [← Nat.mod_add_div (m / 256) 256]; exact f21_mod (Nat.mod_lt _ (by decide))
    have := f_s (k := k) hb hm
    rw [Nat.mod_add_div, h8_pb _ hb] at this
    exact this
  have le : ∀ m : Nat, pb (m % 256) ≤ 8 := fun m => pb_le _ (Nat.mod_lt _ (by decide))
  refine ⟨_, _, _, _, _, _, _, _, ⟨le n, le (n / 256), le (n / 256 / 256), le (n / 256 / 256 / 256), le (n / 256 / 256 / 256 / 256), le (n / 256 / 256 / 256 / 256 / 256), le (n / 256 / 256 / 256 / 256 / 256 / 256), le (n / 256 / 256 / 256 / 256 / 256 / 256 / 256)⟩, ?_, rfl⟩
  have z : n / 256 / 256 / 256 / 256 / 256 / 256 / 256 / 256 = 0 := by omega
  rw [st 7 n (fun y => absurd y (by decide)), st 6 _ (fun y => absurd y (by decide)), st 5 _ (fun y => absurd y (by decide)), st 4 _ (fun y => absurd y (by decide)), st 3 _ (fun y => absurd y (by decide)), st 2 _ (fun y => absurd y (by decide)), st 1 _ (fun y => absurd y (by decide)), st 0 _ (fun _ => z), z, f_0, Nat.mul_zero, Nat.add_zero]
theorem dg {d m : Nat} (h : d < 256) : (d + 256 * m) / 256 = m := by omega
theorem dgs {x y a b p q : Nat} (hx : x = a + 256 * p) (hy : y = b + 256 * q) : x + y = (a + b) + 256 * (p + q) := by omega
theorem dv2 {x a b p y : Nat} (hx : x = a + 256 * y) (hy : y = b + 256 * p) (h : a < 256 ∧ b < 256) : x / 65536 = p := by omega
theorem dv4 {x a b c d y z w p : Nat} (hx : x = a + 256 * y) (hy : y = b + 256 * z) (hz : z = c + 256 * w) (hw : w = d + 256 * p) (h : a < 256 ∧ b < 256 ∧ c < 256 ∧ d < 256) : x / 4294967296 = p := by omega
theorem dm {x a p : Nat} (hx : x = a + 256 * p) (h : a < 128) : x % 128 = a := by omega
theorem dlt {t s1 s2 s3 : Nat} (ht : t < 2 ^ 60) (h1 : s1 = t + t / 256) (h2 : s2 = s1 + s1 / 65536) (h3 : s3 = s2 + s2 / 4294967296) : s3 < 2 ^ 64 := by
  have a1 : s1 ≤ 2 * t := by rw [h1]; have := Nat.div_le_self t 256; omega
  have a2 : s2 ≤ 2 * s1 := by rw [h2]; have := Nat.div_le_self s1 65536; omega
  have a3 : s3 ≤ 2 * s2 := by rw [h3]; have := Nat.div_le_self s2 4294967296; omega
  omega
theorem tlt {b0 b1 b2 b3 b4 b5 b6 b7 : Nat} (a0 : b0 ≤ 8) (a1 : b1 ≤ 8) (a2 : b2 ≤ 8) (a3 : b3 ≤ 8) (a4 : b4 ≤ 8) (a5 : b5 ≤ 8) (a6 : b6 ≤ 8) (a7 : b7 ≤ 8) : b0 + 256 * (b1 + 256 * (b2 + 256 * (b3 + 256 * (b4 + 256 * (b5 + 256 * (b6 + 256 * b7)))))) < 2 ^ 60 := by omega
theorem sm8 {b0 b1 b2 b3 b4 b5 b6 b7 : Nat} : b0 + b1 + (b2 + b3) + (b4 + b5 + (b6 + b7)) = b0 + (b1 + (b2 + (b3 + (b4 + (b5 + (b6 + (b7 + 0))))))) := by omega
theorem popN_sum {b0 b1 b2 b3 b4 b5 b6 b7 t s1 s2 s3 : Nat} (h : b0 ≤ 8 ∧ b1 ≤ 8 ∧ b2 ≤ 8 ∧ b3 ≤ 8 ∧ b4 ≤ 8 ∧ b5 ≤ 8 ∧ b6 ≤ 8 ∧ b7 ≤ 8) (ht : t = b0 + 256 * (b1 + 256 * (b2 + 256 * (b3 + 256 * (b4 + 256 * (b5 + 256 * (b6 + 256 * b7))))))) (h1 : s1 = t + t / 256) (h2 : s2 = s1 + s1 / 65536) (h3 : s3 = s2 + s2 / 4294967296) : s3 % 128 = b0 + (b1 + (b2 + (b3 + (b4 + (b5 + (b6 + (b7 + 0))))))) ∧ s3 < 2 ^ 64 := by
  obtain ⟨a0, a1, a2, a3, a4, a5, a6, a7⟩ := h
  refine ⟨?_, dlt (by rw [ht]; exact tlt a0 a1 a2 a3 a4 a5 a6 a7) h1 h2 h3⟩
  obtain ⟨t7, e7⟩ : ∃ z, z = b7 + 256 * 0 := ⟨_, rfl⟩
  obtain ⟨t6, e6⟩ : ∃ z, z = b6 + 256 * t7 := ⟨_, rfl⟩
  obtain ⟨t5, e5⟩ : ∃ z, z = b5 + 256 * t6 := ⟨_, rfl⟩
  obtain ⟨t4, e4⟩ : ∃ z, z = b4 + 256 * t5 := ⟨_, rfl⟩
  obtain ⟨t3, e3⟩ : ∃ z, z = b3 + 256 * t4 := ⟨_, rfl⟩
  obtain ⟨t2, e2⟩ : ∃ z, z = b2 + 256 * t3 := ⟨_, rfl⟩
  obtain ⟨t1, e1⟩ : ∃ z, z = b1 + 256 * t2 := ⟨_, rfl⟩
  have e0 : t = b0 + 256 * t1 := by rw [ht, e1, e2, e3, e4, e5, e6, e7, Nat.mul_zero, Nat.add_zero]
  have d0 : t / 256 = t1 := by rw [e0, dg (Nat.lt_of_le_of_lt a0 (by decide))]
  have lt2 : ∀ x y : Nat, x ≤ 8 → y ≤ 8 → x + y ≤ 16 := fun x y hx hy => Nat.add_le_add hx hy
  have c0 : s1 = (b0 + b1) + 256 * (t1 + t2) := by rw [h1, d0]; exact dgs e0 e1
  have c1 := dgs e1 e2
  have c2 := dgs e2 e3
  have c3 := dgs e3 e4
  have c4 := dgs e4 e5
  have c5 := dgs e5 e6
  have c6 := dgs e6 e7
  have g0 : s1 / 65536 = t2 + t3 := dv2 c0 c1 ⟨Nat.lt_of_le_of_lt (lt2 _ _ a0 a1) (by decide), Nat.lt_of_le_of_lt (lt2 _ _ a1 a2) (by decide)⟩
  have k0 : s2 = (b0 + b1 + (b2 + b3)) + 256 * ((t1 + t2) + (t3 + t4)) := by rw [h2, g0]; exact dgs c0 c2
  have k1 := dgs c1 c3
  have k2 := dgs c2 c4
  have k3 := dgs c3 c5
  have k4 := dgs c4 c6
  have lt4 : ∀ x y : Nat, x ≤ 16 → y ≤ 16 → x + y < 256 := fun x y hx hy => Nat.lt_of_le_of_lt (Nat.add_le_add hx hy) (by decide)
  have m0 : s2 / 4294967296 = (t4 + t5) + (t6 + t7) := dv4 k0 k1 k2 k3 ⟨lt4 _ _ (lt2 _ _ a0 a1) (lt2 _ _ a2 a3), lt4 _ _ (lt2 _ _ a1 a2) (lt2 _ _ a3 a4), lt4 _ _ (lt2 _ _ a2 a3) (lt2 _ _ a4 a5), lt4 _ _ (lt2 _ _ a3 a4) (lt2 _ _ a5 a6)⟩
  have r := dgs k0 k4
  rw [← m0, ← h3] at r
  rw [dm r (Nat.lt_of_le_of_lt (Nat.add_le_add (Nat.add_le_add (lt2 _ _ a0 a1) (lt2 _ _ a2 a3)) (Nat.add_le_add (lt2 _ _ a4 a5) (lt2 _ _ a6 a7))) (by decide))]
  exact sm8
