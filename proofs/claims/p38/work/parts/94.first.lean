/-! the factory as it is made: nothing in it -/
def S0 : St := (fun _ _ => 0, fun k _ => if k = 33 then 110 else 0, fun _ _ => 0, fun _ _ => none, fun _ _ => 0)
def ad0 (q a1 a2 a3 a4 a5 h6 s0 s1 s2 s3 : Nat) (k i : Nat) : Nat := match k with
  | 0 => q
  | 6 => match i with
    | 0 => s0
    | 1 => s1
    | 2 => s2
    | _ => s3
  | 14 => h6
  | 15 => a1
  | 16 => a2
  | 17 => a3
  | 18 => a4
  | 19 => a5
  | _ => 0
theorem V0 {k i : Nat} (h : V S0 k i) : (k = 0 ∧ i = 0) ∨ (k = 6 ∧ (i = 0 ∨ i = 1 ∨ i = 2 ∨ i = 3)) ∨ (i = 0 ∧ (k = 14 ∨ k = 15 ∨ k = 16 ∨ k = 17 ∨ k = 18 ∨ k = 19)) := by
  have z : ∀ n : Nat, n < sN S0 0 0 → False := fun n hn => Nat.not_lt_zero n hn
  match k, h with
  | 0, h => exact Or.inl ⟨rfl, h⟩
  | 1, h => exact (Nat.not_lt_zero _ h).elim
  | 2, h => exact (Nat.not_lt_zero _ h).elim
  | 3, h => exact (Nat.not_lt_zero _ h).elim
  | 4, h => exact (Nat.not_lt_zero _ h.1).elim
  | 5, h => exact (Nat.not_lt_zero _ h.1).elim
  | 6, h => have h : i < 4 := h; exact Or.inr (Or.inl ⟨rfl, by omega⟩)
  | 7, h => exact (Nat.not_lt_zero _ h).elim
  | 8, h => exact (Nat.not_lt_zero _ h).elim
  | 9, h => exact (Nat.not_lt_zero _ h).elim
  | 10, h => exact (Nat.not_lt_zero _ h).elim
  | 11, h => exact (Nat.not_lt_zero _ h).elim
  | 12, h => exact (Nat.not_lt_zero _ h).elim
  | 13, h => exact (Nat.not_lt_zero _ h).elim
  | 14, h => exact Or.inr (Or.inr ⟨h, by decide⟩)
  | 15, h => exact Or.inr (Or.inr ⟨h, by decide⟩)
  | 16, h => exact Or.inr (Or.inr ⟨h, by decide⟩)
  | 17, h => exact Or.inr (Or.inr ⟨h, by decide⟩)
  | 18, h => exact Or.inr (Or.inr ⟨h, by decide⟩)
  | 19, h => exact Or.inr (Or.inr ⟨h, by decide⟩)
  | 20, h => exact (Nat.not_lt_zero _ h).elim
  | 21, h => exact (Nat.not_lt_zero _ h).elim
  | 22, h => exact (Nat.not_lt_zero _ h).elim
  | k + 23, h => exact False.elim h
theorem Rep0 {tA : Nat → ClassId} {q a1 a2 a3 a4 a5 h6 s0 s1 s2 s3 : Nat} {L : List Nat} {f : Nat → va_E} (hq : q ∈ L) (ha1 : a1 ∈ L) (ha2 : a2 ∈ L) (ha3 : a3 ∈ L) (ha4 : a4 ∈ L) (ha5 : a5 ∈ L) (hh6 : h6 ∈ L) (hs0 : s0 ∈ L) (hs1 : s1 ∈ L) (hs2 : s2 ∈ L) (hs3 : s3 ∈ L)
    (eq : f q = .inr (12, [.ref a1, .ref a2, .ref a3, .ref a4, .ref a5, .ref h6, .int 0, .int 0, .int 0, .int 0, .int 0, .int 0, .long 0, .long 0])) (e1 : f a1 = .inl (tA 1, 5, .inr (.inr (.inr (.inr (fun _ => none)))))) (e2 : f a2 = .inl (tA 2, 12, .inr (.inr (.inr (.inr (fun _ => none))))))
    (e3 : f a3 = .inl (tA 3, 4, .inr (.inr (.inr (.inr (va_up (va_up (va_up (va_up (fun _ => none) 0 (some s0)) 1 (some s1)) 2 (some s2)) 3 (some s3))))))) (e4 : f a4 = .inl (tA 4, 90, .inr (.inr (.inr (.inr (fun _ => none)))))) (e5 : f a5 = .inl (tA 5, 30, .inr (.inr (.inr (.inr (fun _ => none)))))) (e6 : f h6 = .inr (7, [.long 0, .long 0]))
    (es0 : f s0 = .inr (11, [.int 110, .int 0, .int 0])) (es1 : f s1 = .inr (11, [.int 110, .int 0, .int 0])) (es2 : f s2 = .inr (11, [.int 110, .int 0, .int 0])) (es3 : f s3 = .inr (11, [.int 110, .int 0, .int 0])) (hnd : [q, a1, a2, a3, a4, a5, h6, s0, s1, s2, s3].Nodup) : Rep tA S0 (ad0 q a1 a2 a3 a4 a5 h6 s0 s1 s2 s3) L f := by
  have fn : ∀ (g : Nat → Nat), (fun j => if j < 0 then some (g j) else none) = (fun _ => (none : Option Nat)) := fun g => funext fun j => if_neg (Nat.not_lt_zero j)
  refine ⟨fun k i hv => ?_, fun k i k' i' h1 h2 he => ?_⟩
  · rcases V0 hv with ⟨rfl, rfl⟩ | ⟨rfl, rfl | rfl | rfl | rfl⟩ | ⟨rfl, rfl | rfl | rfl | rfl | rfl | rfl⟩
    · exact ⟨hq, eq⟩
    · exact ⟨hs0, es0⟩
    · exact ⟨hs1, es1⟩
    · exact ⟨hs2, es2⟩
    · exact ⟨hs3, es3⟩
    · exact ⟨hh6, e6⟩
    · exact ⟨ha1, e1.trans (congrArg (fun g => (.inl (tA 1, 5, .inr (.inr (.inr (.inr g)))) : va_E)) (fn _).symm)⟩
    · exact ⟨ha2, e2.trans (congrArg (fun g => (.inl (tA 2, 12, .inr (.inr (.inr (.inr g)))) : va_E)) (fn _).symm)⟩
    · refine ⟨ha3, e3.trans (congrArg (fun g => (.inl (tA 3, 4, .inr (.inr (.inr (.inr g)))) : va_E)) (funext fun j => ?_))⟩
      match j with
      | 0 => rfl
      | 1 => rfl
      | 2 => rfl
      | 3 => rfl
      | j + 4 =>
        rw [if_neg (by omega)]
        simp [va_up]
    · exact ⟨ha4, e4.trans (congrArg (fun g => (.inl (tA 4, 90, .inr (.inr (.inr (.inr g)))) : va_E)) (fn _).symm)⟩
    · exact ⟨ha5, e5.trans (congrArg (fun g => (.inl (tA 5, 30, .inr (.inr (.inr (.inr g)))) : va_E)) (fn _).symm)⟩
  · simp only [List.nodup_cons, List.mem_cons, List.not_mem_nil, or_false, not_or] at hnd
    rcases V0 h1 with ⟨rfl, rfl⟩ | ⟨rfl, rfl | rfl | rfl | rfl⟩ | ⟨rfl, rfl | rfl | rfl | rfl | rfl | rfl⟩ <;> rcases V0 h2 with ⟨rfl, rfl⟩ | ⟨rfl, rfl | rfl | rfl | rfl⟩ | ⟨rfl, rfl | rfl | rfl | rfl | rfl | rfl⟩ <;> first | exact ⟨rfl, rfl⟩ | (simp only [ad0] at he; simp [he] at hnd)
theorem SU0 : SU S0 := by
  have z : ∀ {P : Nat → Prop} (i : Nat), i < 0 → P i := fun i hi => (Nat.not_lt_zero i hi).elim
  refine ⟨⟨z, z, fun q hq => (Nat.not_lt_zero _ hq.1).elim, fun q hq => (Nat.not_lt_zero _ hq.1).elim, fun q a hq _ => (Nat.not_lt_zero _ hq.1).elim, fun i o hi _ => (Nat.not_lt_zero _ hi).elim, fun i o hi _ => (Nat.not_lt_zero _ hi).elim, fun i o hi _ => (Nat.not_lt_zero _ hi).elim, by show 0 ≤ 5; omega, by show 0 ≤ 12; omega, by show 0 ≤ 90; omega, by show 0 ≤ 30; omega, z, z⟩, rfl, rfl, fun p j hp _ => (Nat.not_lt_zero _ hp).elim, z, ⟨rfl, rfl⟩, rfl, rfl, rfl, rfl⟩
