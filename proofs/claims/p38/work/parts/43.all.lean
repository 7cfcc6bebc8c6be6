theorem sM_sA {S T : St} (h1 : sN T = sN S) (h2 : sR T = sR S) : sM S (sA T) = T := by
  show (sN S, sI T, sJ T, sR S, sP T) = T
  rw [← h1, ← h2]
/-- reserving for all components: the state ahead of the end, whether something was wanting -/
theorem ra_spec {S : St} {o : Nat} {K : Nat → Prop} (hS : RsvOK S o) (hK : ∀ j, j < sN S 4 (sN S 7 o) → K (sN S 8 (4 * sN S 7 o + j)) ∧ 0 ≤ (sI S 50 o * sI S 30 (4 * sN S 7 o + j)).toInt) (hL : sN S 2 0 ≤ 90) (n : Nat) :
    ∃ T, Rsv S T o K ∧ (((raL S o n).2 = false ∧ sM S (raL S o n).1 = T) ∨ ((raL S o n).2 = true ∧ sM S (raL S o n).1 = dpS T o)) := by
  induction n with
  | zero => exact ⟨S, Rsv.refl hS, Or.inl ⟨rfl, rfl⟩⟩
  | succ n ih =>
    obtain ⟨T, hT, h⟩ := ih
    rw [raL_s]
    unfold ra1
    rcases h with ⟨h1, h2⟩ | ⟨h1, h2⟩
    · rw [if_neg (by rw [h1]; decide)]
      by_cases hn : n < sN S 4 (sN S 7 o)
      · rw [if_pos hn, h2]
        obtain ⟨k1, k2⟩ := hK n hn
        have e50 : sI T 50 o = sI S 50 o := hT.1 50 o (by decide)
        have e30 : sI T 30 (4 * sN S 7 o + n) = sI S 30 (4 * sN S 7 o + n) := hT.1 30 _ (by decide)
        have eN : sN T = sN S := hT.2.2.2.2.1.1
        by_cases hf : isForB T (4 * sN S 7 o + n) (sI T 51 o) = true
        · rw [if_pos hf]
          obtain ⟨r1, r2, r3⟩ := rs_spec (S := T) (o := o) (q := 4 * sN S 7 o + n) (K := K) (hT.ok hS) (by rw [eN]; exact k1) (by rw [e50, e30]; exact k2) 90
          by_cases hr : rsR T o (4 * sN S 7 o + n) = true
          · rw [if_pos hr]
            exact ⟨rsS T o (4 * sN S 7 o + n), hT.trans r1, Or.inl ⟨rfl, by
              show sM S (sA (rsS T o (4 * sN S 7 o + n))) = rsS T o (4 * sN S 7 o + n)
              exact sM_sA eN hT.2.2.2.2.1.2⟩⟩
          · rw [if_neg hr]
            exact ⟨rsS T o (4 * sN S 7 o + n), hT.trans r1, Or.inr ⟨rfl, by
              show sM S (sA (dpS (rsS T o (4 * sN S 7 o + n)) o)) = dpS (rsS T o (4 * sN S 7 o + n)) o
              exact sM_sA eN hT.2.2.2.2.1.2⟩⟩
        · rw [if_neg hf]; exact ⟨T, hT, Or.inl ⟨h1, h2⟩⟩
      · rw [if_neg hn]; exact ⟨T, hT, Or.inl ⟨h1, h2⟩⟩
    · rw [if_pos h1]; exact ⟨T, hT, Or.inr ⟨h1, h2⟩⟩
theorem St_ext {S T : St} (h1 : sN T = sN S) (h2 : ∀ k i, sI T k i = sI S k i) (h3 : ∀ k i, sJ T k i = sJ S k i) (h4 : sR T = sR S) (h5 : ∀ o i, sP T o i = sP S o i) : T = S :=
  Prod.ext h1 (Prod.ext (funext fun k => funext fun i => h2 k i) (Prod.ext (funext fun k => funext fun i => h3 k i) (Prod.ext h4 (funext fun o => funext fun i => h5 o i))))
/-- what was reserved for an order without a promise is taken back: all is as it was -/
theorem Rsv.back {S T : St} {o : Nat} {K : Nat → Prop} (h : Rsv S T o K) (hS : RsvOK S o) (hL : sN S 2 0 ≤ 90) (h53 : sI S 53 o = 45) (hp : ∀ i, i < sN S 2 0 → sP S o i = 0) {x : Int32} : dpS (uI T 53 o x) o = S ∧ dpS T o = S := by
  obtain ⟨h1, h2, h3, h4, ⟨h5, h5'⟩, h6⟩ := id h
  have hT := h.ok hS
  have key : ∀ U : St, sN U = sN T → sR U = sR T → (∀ k i, ¬ (k = 53 ∧ i = o) → sI U k i = sI T k i) → (∀ k i, sJ U k i = sJ T k i) → (∀ a i, sP U a i = sP T a i) → dpS U o = S := by
    intro U u1 u2 u3 u4 u5
    obtain ⟨d1, d2, d3, d4, d5⟩ := dpS_at U o (by rw [u1, h5]; exact hL)
    rw [u1, h5] at d1 d2
    refine St_ext (by rw [d4, u1, h5]) (fun k i => ?_) (fun k i => by rw [d3, u4, h3]) (by rw [d5, u2, h5']) (fun a i => ?_)
    · rw [d1 k i]
      by_cases e : k = 53 ∧ i = o
      · rw [if_pos e, e.1, e.2]; exact h53.symm
      · rw [if_neg e]
        by_cases e2 : k = 42 ∧ i < sN S 2 0
        · rw [if_pos e2, e2.1, u3 42 i (fun q => absurd q.1 (by decide)), u5]
          obtain ⟨a1, a2, a3, a4⟩ := hT i (by rw [h5]; exact e2.2)
          obtain ⟨b1, b2, b3, b4⟩ := h6 i e2.2
          have p0 : pT S o i = 0 := by show (sP S o i).toInt = 0; rw [hp i e2.2]; rfl
          apply i32_ext
          refine (i32_subV (x := vT T i) (y := pT T o i) rfl rfl (by omega) (by omega)).trans ?_
          show vT T i - pT T o i = vT S i
          omega
        · rw [if_neg e2, u3 k i e]
          by_cases e3 : k = 42
          · subst e3; exact (h4 i (by rcases Nat.lt_or_ge i (sN S 2 0) with z | z; exact absurd ⟨rfl, z⟩ e2; exact z)).1
          · exact h1 k i e3
    · rw [d2 a i]
      by_cases e : a = o ∧ i < sN S 2 0
      · rw [if_pos e, e.1]; exact (hp i e.2).symm
      · rw [if_neg e, u5]
        by_cases e3 : a = o
        · subst e3; exact (h4 i (by rcases Nat.lt_or_ge i (sN S 2 0) with z | z; exact absurd ⟨rfl, z⟩ e; exact z)).2
        · exact h2 a i e3
  exact ⟨key _ rfl rfl (fun k i hk => up2_ne _ _ hk) (fun _ _ => rfl) (fun _ _ => rfl), key _ rfl rfl (fun _ _ _ => rfl) (fun _ _ => rfl) (fun _ _ => rfl)⟩
