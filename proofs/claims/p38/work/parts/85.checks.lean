/-! PURE: what the law adds up and compares -/
section CK
variable {S : St} {o m : Nat}
abbrev undC (S : St) (o : Nat) : Prop := sI S 53 o = 119 ∨ sI S 53 o = 111 ∨ (sI S 53 o = 102 ∧ sR S 4 o = none) ∨ (sI S 53 o = 100 ∧ sR S 4 o = none ∧ ¬ sI S 63 o = -1)
def cS (S : St) (n : Nat) : Int64 := it (fun i a => a + sJ S 3 i) n 0
def oS (S : St) (n : Nat) : Int64 := it (fun o a => a + (if sI S 53 o = 100 then sJ S 4 o else 0)) n (cS S (sN S 2 0))
def unS (S : St) (n : Nat) : Int32 := it (fun o a => a ||| bI (decide (undC S o))) n 0
def dgS (S : St) (n : Nat) : Int32 := it (fun o a => a + bI (sI S 53 o == 111)) n 0
def buS (S : St) (n : Nat) : Int32 := it (fun m a => a + bI (sI S 14 m == 111)) n 0
theorem cS_s : cS S (m + 1) = cS S m + sJ S 3 m := rfl
theorem oS_t (h : sI S 53 o = 100) : oS S (o + 1) = oS S o + sJ S 4 o := by show oS S o + (if _ then _ else _) = _; rw [if_pos h]
theorem oS_f (h : ¬ sI S 53 o = 100) : oS S (o + 1) = oS S o + 0 := by show oS S o + (if _ then _ else _) = _; rw [if_neg h]
theorem un_t (h : undC S o) : unS S (o + 1) = unS S o ||| 1 := by show unS S o ||| bI (decide (undC S o)) = _; rw [decide_eq_true h]; rfl
theorem un_f (h : ¬ undC S o) : unS S (o + 1) = unS S o ||| 0 := by show unS S o ||| bI (decide (undC S o)) = _; rw [decide_eq_false h]; rfl
theorem un_w (h : sI S 53 o = 119) : unS S (o + 1) = unS S o ||| 1 := un_t (Or.inl h)
theorem un_o (h : sI S 53 o = 111) : unS S (o + 1) = unS S o ||| 1 := un_t (Or.inr (Or.inl h))
theorem un_fn (h : sI S 53 o = 102) (g : sR S 4 o = none) : unS S (o + 1) = unS S o ||| 1 := un_t (Or.inr (Or.inr (Or.inl ⟨h, g⟩)))
theorem un_dn (h : sI S 53 o = 100) (g : sR S 4 o = none) (k : ¬ sI S 63 o = -1) : unS S (o + 1) = unS S o ||| 1 := un_t (Or.inr (Or.inr (Or.inr ⟨h, g, k⟩)))
theorem i_ne {x a b : Int32} (h : x = a) (n : ¬ a = b) : ¬ x = b := fun z => n (h.symm.trans z)
theorem un_fs {i : Nat} (h : sI S 53 o = 102) (g : sR S 4 o = some i) : unS S (o + 1) = unS S o ||| 0 := un_f (fun z => by
  rcases z with z | z | z | z
  · exact i_ne h (by decide) z
  · exact i_ne h (by decide) z
  · rw [g] at z; cases z.2
  · exact i_ne h (by decide) z.1)
theorem un_ds {i : Nat} (h : sI S 53 o = 100) (g : sR S 4 o = some i) : unS S (o + 1) = unS S o ||| 0 := un_f (fun z => by
  rcases z with z | z | z | z
  · exact i_ne h (by decide) z
  · exact i_ne h (by decide) z
  · exact i_ne h (by decide) z.1
  · rw [g] at z; cases z.2.1)
theorem un_dk (h : sI S 53 o = 100) (k : sI S 63 o = -1) : unS S (o + 1) = unS S o ||| 0 := un_f (fun z => by
  rcases z with z | z | z | z
  · exact i_ne h (by decide) z
  · exact i_ne h (by decide) z
  · exact i_ne h (by decide) z.1
  · exact z.2.2 k)
theorem un_x (h1 : ¬ sI S 53 o = 119) (h2 : ¬ sI S 53 o = 111) (h3 : ¬ sI S 53 o = 102) (h4 : ¬ sI S 53 o = 100) : unS S (o + 1) = unS S o ||| 0 := un_f (fun z => by
  rcases z with z | z | z | z
  · exact h1 z
  · exact h2 z
  · exact h3 z.1
  · exact h4 z.1)
theorem do_t (h : sI S 53 o = 111) : dgS S (o + 1) = dgS S o + 1 := by show dgS S o + bI (sI S 53 o == 111) = _; rw [h]; rfl
theorem do_f (h : ¬ sI S 53 o = 111) : dgS S (o + 1) = dgS S o + 0 := by show dgS S o + bI (sI S 53 o == 111) = _; rw [beq_false_of_ne h]; rfl
theorem bu_t (h : sI S 14 m = 111) : buS S (m + 1) = buS S m + 1 := by show buS S m + bI (sI S 14 m == 111) = _; rw [h]; rfl
theorem bu_f (h : ¬ sI S 14 m = 111) : buS S (m + 1) = buS S m + 0 := by show buS S m + bI (sI S 14 m == 111) = _; rw [beq_false_of_ne h]; rfl
theorem bI_bZ (b : Bool) : (bI b).toInt = bZ b := by cases b <;> rfl
theorem bZ_01 (b : Bool) : 0 ≤ bZ b ∧ bZ b ≤ 1 := by cases b <;> decide
theorem it_bI (u : Nat → Bool) (n : Nat) (hn : n ≤ 100) : (it (fun o a => a + bI (u o)) n (0 : Int32)).toInt = sm (fun o => bZ (u o)) n := by
  have s1 := sm_bound (f := fun o => bZ (u o)) (n := n) (b := 1) (fun o _ => (bZ_01 (u o)).2)
  have q := it_sm (g := fun o a => a + bI (u o)) (f := fun o => bZ (u o)) (a := 0) (B := 1000) (by decide) n (fun o _ => (bZ_01 (u o)).1) (by show (0 : Int) + _ ≤ _; omega) (fun o x _ h0 hb => by
    have k := bZ_01 (u o)
    exact i32_addV rfl (bI_bZ _) (by omega) (by omega))
  rw [q]; show (0 : Int) + _ = _; omega
theorem ck_do (hI : Inv S) : dgS S (sN S 3 0) = buS S (sN S 0 0) := by
  have hM : nMc S ≤ 5 := hI.1.1.nM
  have hO : nOc S ≤ 30 := hI.1.1.nO
  have h := hI.1.2.2.2.2.2.2.2.2.1.2
  have q1 := it_bI (fun o => sI S 53 o == 111) (nOc S) (by omega)
  have q2 := it_bI (fun m => sI S 14 m == 111) (nMc S) (by omega)
  exact i32_ext (q1.trans (h.symm.trans q2.symm))
theorem cS_int (hI : Inv S) : (cS S (nLc S)).toInt = sm (fun i => cT S i) (nLc S) ∧ 0 ≤ sm (fun i => cT S i) (nLc S) := by
  have c := hI.costs.1
  have c2 := hI.1.cost.2.2.1
  have s2 := sm_nonneg (f := fun o => if sI S 53 o = 100 then gD S o else 0) (n := nOc S) (fun o ho => by
    show 0 ≤ (if sI S 53 o = 100 then gD S o else 0)
    split
    · exact (hI.ordt ho).2.1
    · exact Int.le_refl _)
  have s0 := sm_nonneg (f := fun i => cT S i) (n := nLc S) (fun i hi => (hI.lot hi).2.2.2.2)
  have q := it_sm64 (g := fun i a => a + sJ S 3 i) (f := fun i => cT S i) (a := 0) (B := 100000000) (by decide) (nLc S) (fun i hi => (hI.lot hi).2.2.2.2) (by show (0 : Int) + _ ≤ _; omega) (fun i x hi h0 hb => by
    have k := (hI.lot hi).2.2.2.2
    exact i64_addV rfl rfl (by show -9223372036854775808 ≤ x.toInt + cT S i; omega) (by show x.toInt + cT S i < _; omega))
  exact ⟨by rw [show cS S (nLc S) = it (fun i a => a + sJ S 3 i) (nLc S) 0 from rfl, q]; show (0 : Int) + _ = _; omega, s0⟩
theorem oS_int (hI : Inv S) : (oS S (nOc S)).toInt = sm (fun i => cT S i) (nLc S) + sm (fun o => if sI S 53 o = 100 then gD S o else 0) (nOc S) := by
  have c := hI.costs.1
  have c2 := hI.1.cost.2.2.1
  obtain ⟨k1, k2⟩ := cS_int hI
  have nn : ∀ o, o < nOc S → 0 ≤ (if sI S 53 o = 100 then gD S o else 0) := fun o ho => by
    split
    · exact (hI.ordt ho).2.1
    · exact Int.le_refl _
  have q := it_sm64 (g := fun o a => a + (if sI S 53 o = 100 then sJ S 4 o else 0)) (f := fun o => if sI S 53 o = 100 then gD S o else 0) (a := cS S (nLc S)) (B := 100000000) (by omega) (nOc S) nn (by omega) (fun o x ho h0 hb => by
    have k := nn o ho
    show (x + (if sI S 53 o = 100 then sJ S 4 o else 0)).toInt = x.toInt + (if sI S 53 o = 100 then gD S o else 0)
    by_cases e : sI S 53 o = 100
    · rw [if_pos e] at k hb ⊢
      rw [if_pos e]
      exact i64_addV rfl rfl (by show -9223372036854775808 ≤ x.toInt + gD S o; omega) (by show x.toInt + gD S o < _; omega)
    · rw [if_neg e, if_neg e]
      exact i64_addV rfl rfl (by show -9223372036854775808 ≤ x.toInt + 0; omega) (by show x.toInt + 0 < _; omega))
  rw [show oS S (nOc S) = it (fun o a => a + (if sI S 53 o = 100 then sJ S 4 o else 0)) (nOc S) (cS S (nLc S)) from rfl, q, k1]
theorem ck_le (hI : Inv S) : ¬ 0 < lg_cmp (oS S (sN S 3 0)) (sJ S 1 0) := fun z => by
  have h : sJ S 1 0 < oS S (sN S 3 0) := (lg_cmp_gt _ _).mp z
  have h := i64_lt.mp h
  have h2 := oS_int hI
  have c := hI.costs.1
  have h2 : (oS S (sN S 3 0)).toInt = _ := h2
  omega
theorem un_01 (u : Nat → Bool) : ∀ n : Nat, (it (fun o a => a ||| bI (u o)) n (0 : Int32) = 0 ∧ ∀ o, o < n → u o = false) ∨ it (fun o a => a ||| bI (u o)) n (0 : Int32) = 1
  | 0 => Or.inl ⟨rfl, fun _ h => absurd h (Nat.not_lt_zero _)⟩
  | n + 1 => by
    rw [it_s]
    rcases un_01 u n with ⟨e, h⟩ | e
    · rw [e]
      cases hu : u n with
      | true => right; show (0 : Int32) ||| bI true = 1; decide
      | false => left; exact ⟨by show (0 : Int32) ||| bI false = 0; decide, fun o ho => by
          rcases Nat.lt_succ_iff_lt_or_eq.mp ho with z | rfl
          · exact h o z
          · exact hu⟩
    · rw [e]
      right
      cases u n <;> decide
theorem ck_eq (hI : Inv S) (h : unS S (sN S 3 0) = 0) : lg_cmp (oS S (sN S 3 0)) (sJ S 1 0) = 0 := by
  have hu : ∀ o, o < nOc S → ¬ undC S o := fun o ho => by
    rcases un_01 (fun o => decide (undC S o)) (nOc S) with ⟨-, k⟩ | k
    · exact of_decide_eq_false (k o ho)
    · exact absurd (k.symm.trans (show it _ (nOc S) (0 : Int32) = 0 from h)) (by decide)
  have hc := hI.costs.2 (fun o ho => by
    have u := hu o ho
    have hj := (hI.1.2.2.2.2.2.2.1 o ho).2.2.2.2.1
    refine ⟨fun z => u (z.elim Or.inl (fun y => Or.inr (Or.inl y))), fun z => ?_⟩
    obtain ⟨z1, z2⟩ := z
    rcases hj.mp z1 with y | y
    · exact u (Or.inr (Or.inr (Or.inl ⟨y, z2⟩)))
    · exact u (Or.inr (Or.inr (Or.inr ⟨y.1, z2, z1⟩))))
  have h2 : (oS S (sN S 3 0)).toInt = _ := oS_int hI
  have e : oS S (sN S 3 0) = sJ S 1 0 := i64_ext (by rw [h2]; exact hc)
  rw [e, (lg_cmp_eq _ _).mpr rfl]
end CK
/-! the mean of the busy times is not above the time: doubles by their places on the line -/
def dvl (x : UInt64) : Option Nat := match Jvm.FP.Core.decode Jvm.FP.Core.b64 x.toNat with
  | .fin false c q => if -1074 ≤ q then some (c * 2 ^ (q + 1074).toNat) else none
  | _ => none
def dck (n b : Nat) : Bool := decide (FP.ddiv (FP.l2d (lN b)) (FP.i2d (nI n)) &&& 0x7fffffffffffffff ≤ 0x7ff0000000000000) && match dvl (FP.ddiv (FP.l2d (lN b)) (FP.i2d (nI n))) with
  | some v => decide (v ≤ ((b + n - 1) / n) * 2 ^ 1074)
  | none => false
theorem dck_1 : ∀ i, i < 30 → ∀ j, j < 25 → dck 1 (25 * i + j) = true := by decide +kernel
theorem dck_2 : ∀ i, i < 60 → ∀ j, j < 25 → dck 2 (25 * i + j) = true := by decide +kernel
theorem dck_3 : ∀ i, i < 90 → ∀ j, j < 25 → dck 3 (25 * i + j) = true := by decide +kernel
theorem dtm : ∀ i, i < 30 → ∀ j, j < 25 → dvl (FP.i2d (nI (25 * i + j))) = some ((25 * i + j) * 2 ^ 1074) := by decide +kernel
theorem dck_all {n b : Nat} (h0 : 1 ≤ n) (h3 : n ≤ 3) (hb : b ≤ n * 720) : dck n b = true := by
  have e : b = 25 * (b / 25) + b % 25 := (Nat.div_add_mod b 25).symm
  rw [e]
  rcases (show n = 1 ∨ n = 2 ∨ n = 3 by omega) with rfl | rfl | rfl
  · exact dck_1 _ (by omega) _ (by omega)
  · exact dck_2 _ (by omega) _ (by omega)
  · exact dck_3 _ (by omega) _ (by omega)
theorem dtm_all {t : Nat} (h : t ≤ 720) : dvl (FP.i2d (nI t)) = some (t * 2 ^ 1074) := by
  have e : t = 25 * (t / 25) + t % 25 := (Nat.div_add_mod t 25).symm
  rw [e]
  exact dtm _ (by omega) _ (by omega)
theorem dcm_le {x y : UInt64} {v w : Nat} {op : CmpOp} (hx : dvl x = some v) (hy : dvl y = some w) (h : v ≤ w) : ¬ 0 < Op.cmpValue (FP.dcmp x y) op := by
  unfold dvl at hx hy
  show ¬ 0 < Op.cmpValue (Jvm.FP.Core.order (Jvm.FP.Core.decode Jvm.FP.Core.b64 x.toNat) (Jvm.FP.Core.decode Jvm.FP.Core.b64 y.toNat)) op
  generalize Jvm.FP.Core.decode Jvm.FP.Core.b64 x.toNat = dx at hx ⊢
  generalize Jvm.FP.Core.decode Jvm.FP.Core.b64 y.toNat = dy at hy ⊢
  match dx, dy, hx, hy with
  | .fin false c q, .fin false d r, hx, hy =>
    dsimp only at hx hy
    by_cases hq : -1074 ≤ q
    · by_cases hr : -1074 ≤ r
      · rw [if_pos hq] at hx
        rw [if_pos hr] at hy
        cases hx; cases hy
        obtain ⟨k, hk⟩ : ∃ k : Nat, min q r + 1074 = (k : Int) := ⟨(min q r + 1074).toNat, by omega⟩
        have e1 : (q + 1074).toNat = (q - min q r).toNat + k := by omega
        have e2 : (r + 1074).toNat = (r - min q r).toNat + k := by omega
        rw [e1, e2, Nat.pow_add, Nat.pow_add, ← Nat.mul_assoc, ← Nat.mul_assoc] at h
        have h := Nat.le_of_mul_le_mul_right h (Nat.two_pow_pos k)
        show ¬ 0 < Op.cmpValue (some (compare ((c * 2 ^ (q - min q r).toNat : Nat) : Int) ((d * 2 ^ (r - min q r).toNat : Nat) : Int))) op
        have h9 : compare ((c * 2 ^ (q - min q r).toNat : Nat) : Int) ((d * 2 ^ (r - min q r).toNat : Nat) : Int) ≠ .gt := fun z => by
          rw [Int.compare_eq_gt] at z
          omega
        generalize compare ((c * 2 ^ (q - min q r).toNat : Nat) : Int) ((d * 2 ^ (r - min q r).toNat : Nat) : Int) = cc at h9 ⊢
        cases cc
        · show ¬ (0 : Int32) < -1; decide
        · show ¬ (0 : Int32) < 0; decide
        · exact absurd rfl h9
      · rw [if_neg hr] at hy; cases hy
    · rw [if_neg hq] at hx; cases hx
theorem ck_mb {S : St} (hI : Inv S) (h1 : 1 ≤ nMc S) (h3 : nMc S ≤ 3) (ht : (sI S 2 0).toInt ≤ 720) : vf_n64 (FP.ddiv (FP.l2d (mbL S 5)) (FP.i2d (nI (sN S 0 0)))) ∧ ∀ op, ¬ 0 < Op.cmpValue (FP.dcmp (mbD S) (FP.i2d (sI S 2 0))) op := by
  obtain ⟨b, hb, hle⟩ := hI.busy
  have h0 : 0 ≤ (sI S 2 0).toInt := hI.1.2.2.2.2.2.2.2.2.2.2.2.2.2.2.2.1
  obtain ⟨t, hT⟩ : ∃ t : Nat, (sI S 2 0).toInt = t := ⟨(sI S 2 0).toInt.toNat, by omega⟩
  have et : sI S 2 0 = nI t := i32_ext (by rw [nI_toInt (by omega)]; exact hT)
  rw [hT] at hle ht
  have hle : b ≤ nMc S * t := by exact_mod_cast hle
  have hbn : b ≤ nMc S * 720 := Nat.le_trans hle (Nat.mul_le_mul_left _ (by omega))
  have hb9 : b ≤ 2160 := by have := Nat.mul_le_mul_right 720 h3; omega
  have eb : mbL S 5 = lN b := i64_ext (by rw [lN_toInt (by omega)]; exact hb)
  have k := dck_all h1 h3 hbn
  unfold dck at k
  rw [Bool.and_eq_true] at k
  obtain ⟨k1, k2⟩ := k
  have k1 := of_decide_eq_true k1
  rw [eb]
  refine ⟨k1, fun op => ?_⟩
  show ¬ 0 < Op.cmpValue (FP.dcmp (FP.ddiv (FP.l2d (mbL S 5)) (FP.i2d (nI (nMc S)))) (FP.i2d (sI S 2 0))) op
  rw [eb, et]
  generalize FP.ddiv (FP.l2d (lN b)) (FP.i2d (nI (nMc S))) = x at k2 ⊢
  cases hx : dvl x with
  | none => rw [hx] at k2; exact absurd (show false = true from k2) Bool.false_ne_true
  | some v =>
    rw [hx] at k2
    have k2 : v ≤ ((b + nMc S - 1) / nMc S) * 2 ^ 1074 := of_decide_eq_true k2
    refine dcm_le hx (dtm_all (by omega)) (Nat.le_trans k2 (Nat.mul_le_mul_right _ ?_))
    have hlt : b + nMc S - 1 < nMc S * (t + 1) := by rw [Nat.mul_succ]; omega
    exact Nat.lt_succ_iff.mp (Nat.div_lt_of_lt_mul hlt)
