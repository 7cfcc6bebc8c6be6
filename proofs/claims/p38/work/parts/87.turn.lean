/-! PURE: what holds before each turn of the law -/
theorem nI_mul (a b : Nat) : nI a * nI b = nI (a * b) := (Int32.ofNat_mul a b).symm
theorem nI_nm1 {n : Nat} (h : n < 2 ^ 31) : ¬ nI n = -1000000 := fun z => nI_pos h (by rw [z]; decide)
theorem nI_nm15 {n : Nat} (h : n < 2 ^ 31) : ¬ nI n = -1500000 := fun z => nI_pos h (by rw [z]; decide)
theorem inR_n {v a b : Nat} (h1 : a ≤ v) (h2 : v ≤ b) (hb : b < 2 ^ 31) : inR (nI v) (nI a) (nI b) = true := inR_t (nI_le h1 (by omega)) (nI_le h2 hb)
def TI (S : St) (tu : Nat) : Prop := Inv S ∧ 1 ≤ nMc S ∧ nMc S ≤ 3 ∧ (sI S 2 0).toInt ≤ 12 * tu ∧ (sI S 1 0).toInt + nOc S ≤ tu
section TIS
variable {S T : St} {tu : Nat}
theorem TI.same (hT : TI S tu) : TI S (tu + 1) := ⟨hT.1, hT.2.1, hT.2.2.1, by have := hT.2.2.2.1; omega, by have := hT.2.2.2.2; omega⟩
theorem TI.keep (hT : TI S tu) (hI : Inv T) (k : Keep S T) : TI T (tu + 1) := by
  obtain ⟨k1, k2, k3, k4, k5⟩ := k
  obtain ⟨-, h2, h3, h4, h5⟩ := hT
  exact ⟨hI, by rw [k2]; exact h2, by rw [k2]; exact h3, by rw [k4]; omega, by rw [k3, k1]; omega⟩
theorem TI.rc (hT : TI S tu) {qy co : Int32} (hI : Inv T) (k : RcK S T qy co) : TI T (tu + 1) := by
  obtain ⟨-, k2, k3, k4, k5, -⟩ := k
  obtain ⟨-, h2, h3, h4, h5⟩ := hT
  exact ⟨hI, by rw [k3]; exact h2, by rw [k3]; exact h3, by rw [k5]; omega, by rw [k4, k2]; omega⟩
theorem TI.no (hT : TI S tu) {p : Nat} {qy op du : Int32} (h : Inv (nwOS S p qy op du) ∧ nOc (nwOS S p qy op du) = nOc S + 1 ∧ nMc (nwOS S p qy op du) = nMc S ∧ sI (nwOS S p qy op du) 1 0 = sI S 1 0 ∧ sI (nwOS S p qy op du) 2 0 = sI S 2 0 ∧ sJ (nwOS S p qy op du) 1 0 = sJ S 1 0) : TI (nwOS S p qy op du) (tu + 1) := by
  obtain ⟨k0, k1, k2, k3, k4, -⟩ := h
  obtain ⟨-, h2, h3, h4, h5⟩ := hT
  exact ⟨k0, by rw [k2]; exact h2, by rw [k2]; exact h3, by rw [k4]; omega, by rw [k3, k1]; omega⟩
theorem TI.adv (hT : TI S tu) {b : Nat} (hb : b ≤ 12) (hI : Inv T) (k : Keep2 S T b) : TI T (tu + 1) := by
  obtain ⟨k1, k2, k3, k4, -⟩ := k
  obtain ⟨-, h2, h3, h4, h5⟩ := hT
  exact ⟨hI, by rw [k2]; exact h2, by rw [k2]; exact h3, by rw [k4]; omega, by rw [k3, k1]; omega⟩
theorem TI.bought (hT : TI S tu) (htu : tu < 60) : sI S 1 0 < 60 ∧ (sI S 1 0).toInt < 60 := by
  have h5 := hT.2.2.2.2
  have : (sI S 1 0).toInt < 60 := by omega
  exact ⟨i32_lt.mpr (by show (sI S 1 0).toInt < 60; exact this), this⟩
theorem TI.lots (hT : TI S tu) (htu : tu < 60) : sN S 2 0 < 90 := by
  have h5 := hT.2.2.2.2
  have := hT.1.1.lots
  have : (sN S 2 0 : Int) ≤ _ := this
  omega
theorem TI.parts (hT : TI S tu) : sN S 1 0 = 6 ∧ sI S 20 0 = 0 ∧ sI S 20 1 = 0 := hT.1.1.2.1.2
theorem TI.p01 (hT : TI S tu) {p : Nat} (h : p < 2) : p < sN S 1 0 ∧ sI S 20 p = 0 := by
  obtain ⟨a, b, c⟩ := hT.parts
  rcases (show p = 0 ∨ p = 1 by omega) with rfl | rfl
  · exact ⟨by omega, b⟩
  · exact ⟨by omega, c⟩
theorem TI.now (hT : TI S tu) : 0 ≤ (sI S 2 0).toInt := hT.1.1.2.2.2.2.2.2.2.2.2.2.2.2.2.2.2.1
end TIS
theorem rc_cost {S T : St} {a b : Nat} (h1 : 1 ≤ a) (h2 : a ≤ 500) (h4 : b ≤ 999) (k : RcK S T (nI a) (nI b)) : lg_cmp (sJ T 3 (sN S 2 0)) ((nI a).toInt64 * (nI b).toInt64) = 0 := by
  have e : sJ T 3 (sN S 2 0) = (nI a).toInt64 * (nI b).toInt64 := i64_ext (by
    have ha := nI_toInt (n := a) (by omega)
    have hb := nI_toInt (n := b) (by omega)
    rw [(qc_int (qy := nI a) (co := nI b) (by omega) (by omega) (by omega) (by omega)).1]
    exact k.2.2.2.2.2.2.2)
  rw [e, (lg_cmp_eq _ _).mpr rfl]
theorem rc_came {S T : St} {a b : Nat} (hI : Inv S) (h1 : 1 ≤ a) (h2 : a ≤ 500) (h4 : b ≤ 999) (k : RcK S T (nI a) (nI b)) : sJ T 1 0 = sJ S 1 0 + (nI a).toInt64 * (nI b).toInt64 := i64_ext (by
  have ha := nI_toInt (n := a) (by omega)
  have hb := nI_toInt (n := b) (by omega)
  obtain ⟨q1, q2, q3⟩ := qc_int (qy := nI a) (co := nI b) (by omega) (by omega) (by omega) (by omega)
  have c1 := hI.1.cost.2.2.1
  have c2 := hI.1.cost.2.2.2.2
  have e := k.2.2.2.2.2.1
  rw [i64_addV rfl q1 (by omega) (by omega)]
  exact e)
theorem adv_now {S T : St} {b : Nat} (hT : 0 ≤ (sI S 2 0).toInt) (h2 : (sI S 2 0).toInt ≤ 720) (hb : b ≤ 12) (k : Keep2 S T b) : sI T 2 0 = sI S 2 0 + nI b := i32_ext (by
  have e := k.2.2.2.1
  have eb := nI_toInt (n := b) (by omega)
  rw [i32_addV rfl eb (by omega) (by omega)]
  exact e)
theorem keep_poh {S T : St} (h : sN T = sN S ∧ sI T 1 0 = sI S 1 0 ∧ sI T 2 0 = sI S 2 0 ∧ sJ T 1 0 = sJ S 1 0) : Keep S T := ⟨by show sN T 3 0 = _; rw [h.1], by show sN T 0 0 = _; rw [h.1], h.2.1, h.2.2.1, h.2.2.2⟩
theorem keep_PF {S T : St} (h : PF S T) : Keep S T := ⟨by show sN T 3 0 = _; rw [h.1], by show sN T 0 0 = _; rw [h.1], h.2.2.1 1 0 (by decide) (by decide), h.2.2.1 2 0 (by decide) (by decide), h.2.2.2.1 1 0⟩
theorem keep_del {S : St} (i : Nat) : Keep S (sDel S 14 0 i) := ⟨rfl, rfl, congrFun (congrFun (sDel_I S 14 0 i) 1) 0, congrFun (congrFun (sDel_I S 14 0 i) 2) 0, sDel_J S 14 0 i 1 0 (fun q => absurd q.1 (by decide)) (fun q => absurd q.1 (by decide))⟩
theorem sc_res {S : St} {o : Nat} (hI : Inv S) (ho : o < sN S 3 0) (h : inR 1 1 (sI S 60 o) = true) : 0 ≤ sI S 60 o - 1 ∧ (0 ≤ (1 : Int32).toInt ∧ (1 : Int32).toInt ≤ (sI S 60 o).toInt) := by
  have h2 : (1 : Int32) ≤ sI S 60 o := by
    unfold inR at h
    rw [Bool.and_eq_true] at h
    exact of_decide_eq_true h.2
  have h2 := i32_le.mp h2
  have h2 : 1 ≤ (sI S 60 o).toInt := h2
  refine ⟨i32_le.mpr ?_, by decide, h2⟩
  have hlt := Int32.toInt_lt (sI S 60 o)
  rw [i32_subV (a := sI S 60 o) (b := 1) (x := (sI S 60 o).toInt) (y := 1) rfl rfl (by omega) (by omega)]
  show (0 : Int) ≤ _; omega
theorem wk_iff {S : St} {o : Nat} (h : oInWork S o = true) : inWk S o := by
  unfold oInWork at h
  by_cases a : sI S 53 o = 119
  · exact Or.inl a
  · by_cases b : sI S 53 o = 111
    · exact Or.inr b
    · simp [a, b] at h
theorem TI.nw {S : St} {tu b : Nat} (hT : TI S tu) (htu : tu < 60) (hb : b ≤ 12) : sI S 2 0 + nI b ≤ 5000 ∧ (sI S 2 0).toInt + b ≤ 5000 ∧ (sI S 2 0).toInt ≤ 720 ∧ (sI S 1 0).toInt + nOc S < 90 := by
  have h4 := hT.2.2.2.1
  have h5 := hT.2.2.2.2
  have h0 := hT.now
  have eb := nI_toInt (n := b) (by omega)
  refine ⟨i32_le.mpr ?_, by omega, by omega, by omega⟩
  rw [i32_addV rfl eb (by omega) (by omega)]
  show _ ≤ (5000 : Int); omega
theorem nI_ne30 {n : Nat} (h : n < 30) : ¬ nI n = 30 := fun z => by
  have := (nI_eq (a := n) (b := 30) (by omega) (by omega)).mp z
  omega
