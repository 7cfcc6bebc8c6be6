/-! an int array beside the class' world -/
section AR
variable {p : Program} {l : Launch} {e : Env} {R : Room} {s : State} {m : MethodId} {args : Array Value} {below : List Frame} {meth : Method} {c : Code} {H H0 : Heap} {locs : List Loc} {cells slots mc ms : Nat} {Q : State → Prop}
variable {cc : ByteArray} {pc : Nat} {ls : Array Slot} {rest st0 : List Value} {D : va_G} {A : Nat → Prop} {tA : Nat → ClassId} {L : List Nat} {f : Nat → va_E} {q : Nat} {cA : ClassId} {g : Nat → Int32} {a : Array Value} {cl : List vw_C} {w1 w2 : va_W} {x9 : va_E}
abbrev aG (D : va_G) (q : Nat) (cA : ClassId) (g : Nat → Int32) (H : Heap) : Prop := va_P D vwCl [(q, .inl (cA, 100, .inl g))] H
theorem mem_pl {k : Nat} {z : Nat × va_E} (h : (va_pl L f)[k]? = some z) : z.1 ∈ L := by
  obtain ⟨a, ha, rfl⟩ := List.mem_map.mp (List.mem_of_getElem? h)
  exact ha
theorem a_lft {k : Nat} {z : Nat × va_E} (h : w1[k]? = some z) : (w1 ++ w2)[k]? = some z := by
  rw [List.getElem?_append_left (List.getElem?_eq_some_iff.mp h).1]; exact h
theorem a_rgt {k : Nat} {z : Nat × va_E} (h : w2[k]? = some z) : (w1 ++ w2)[w1.length + k]? = some z := by
  rw [List.getElem?_append_right (by omega), Nat.add_sub_cancel_left]; exact h
theorem a_pre (hP : va_P D cl (w1 ++ w2) H) : va_P D cl w1 H := fun k q hk => hP k q (a_lft hk)
theorem a_suf (hP : va_P D cl (w1 ++ w2) H) : va_P D cl w2 H := fun k q hk => hP _ q (a_rgt hk)
theorem a_preD (h : va_D A (w1 ++ w2)) : va_D A w1 := ⟨fun i j p q hi hj e => h.1 i j p q (a_lft hi) (a_lft hj) e, fun k q hk => h.2 k q (a_lft hk)⟩
theorem a_one {k : Nat} {z y : Nat × va_E} (h : [y][k]? = some z) : z = y ∧ k = 0 := by
  have hz : k < 1 := (List.getElem?_eq_some_iff.mp h).1
  have hk : k = 0 := by omega
  subst hk
  cases h
  exact ⟨rfl, rfl⟩
theorem a_cons {k : Nat} {z y : Nat × va_E} {w : va_W} (h : (y :: w)[k]? = some z) : (k = 0 ∧ z = y) ∨ ∃ k', k = k' + 1 ∧ w[k']? = some z := by
  cases k with
  | zero => left; cases h; exact ⟨rfl, rfl⟩
  | succ k => exact Or.inr ⟨k, rfl, h⟩
theorem a_D (hD : va_D A (va_pl L f)) (hq : q ∉ L) (hA : A q) : va_D A ((q, x9) :: va_pl L f) := by
  refine ⟨fun i j p r hi hj e => ?_, fun k r hk => ?_⟩
  · rcases a_cons hi with ⟨i1, i2⟩ | ⟨i', i1, i2⟩ <;> rcases a_cons hj with ⟨j1, j2⟩ | ⟨j', j1, j2⟩
    · omega
    · exact absurd (show q ∈ L from by have := mem_pl j2; rw [← e, i2] at this; exact this) hq
    · exact absurd (show q ∈ L from by have := mem_pl i2; rw [e, j2] at this; exact this) hq
    · have := hD.1 i' j' p r i2 j2 e
      omega
  · rcases a_cons hk with ⟨-, h2⟩ | ⟨k', -, h2⟩
    · rw [h2]; exact hA
    · exact hD.2 k' r h2
theorem a_new (hx : p.tables.exec = Jvm.exec) (hb : c.code = cc) (harr : (Cond.arrayClass .int).before args s = true) (hK : va_K D vwCl (gT tA) s) (hP : va_P D vwCl (va_pl L f) H) (hD : va_D A (va_pl L f)) (hS : va_S A H0 H locs) (hA : ∀ q, H0.size ≤ q → A q)
    (hcells : cells + 1 ≤ R.cells) (hslots : slots + 100 ≤ R.slots) (hdg : decode cc pc = .ok (.newarray .int, 2))
    (kk : ∀ (q : Nat) (cA : ClassId) (H1 : Heap), va_P D vwCl (va_pl L f) H1 → va_D A (va_pl L f) → va_S A H0 H1 locs → aG D q cA (fun _ => 0) H1 → va_K D vwCl [(cA, .int)] s → q ∉ L → A q →
      W p l e R s m args below meth c H1 locs (cells + 1) (slots + 100) Q (F0 m (pc + 2) ls (.ref q :: rest))) : W p l e R s m args below meth c H locs cells slots Q (F0 m pc ls (.int 100 :: rest)) := by
  refine va_newa (atype := .int) (ty := .int) (N' := 100) (a0 := (100, .inl (fun _ => 0))) hx hb harr rfl hK hP hD hS hA (fun cA => rfl) (by decide) (by decide) (by decide) hcells hslots hdg (fun q cA H1 hK9 hP9 hD9 hS9 => ?_)
  have hlast : (va_pl L f ++ [(q, (.inl (cA, 100, .inl (fun _ => 0)) : va_E))])[(va_pl L f).length]? = some (q, .inl (cA, 100, .inl (fun _ => 0))) := a_rgt (k := 0) rfl
  refine kk q cA H1 (a_pre hP9) (a_preD hD9) hS9 (a_suf hP9) ⟨hK9.1, fun k z hz => ?_⟩ (fun hq => ?_) (hD9.2 _ _ hlast)
  · have hz1 : k < 1 := (List.getElem?_eq_some_iff.mp hz).1
    have hk0 : k = 0 := by omega
    subst hk0
    cases hz
    exact hK9.2 8 (cA, .int) rfl
  · obtain ⟨k, hk⟩ := va_pl_get (X := []) (f := f) hq
    rw [List.nil_append] at hk
    have := hD9.1 k _ _ _ (a_lft hk) hlast rfl
    have hlt := (List.getElem?_eq_some_iff.mp hk).1
    omega
theorem a_ld (hx : p.tables.exec = Jvm.exec) (hb : c.code = cc) (hKa : va_K D vwCl [(cA, .int)] s) (hG : aG D q cA g H) {j : Nat} (hj : j < 100) (hdg : decode cc pc = .ok (.iaload, 1))
    (kk : W p l e R s m args below meth c H locs cells slots Q (F0 m (pc + 1) ls (.int (g j) :: rest))) : W p l e R s m args below meth c H locs cells slots Q (F0 m pc ls (.int (nI j) :: .ref q :: rest)) :=
  va_iald hx hb hKa hG 0 0 rfl rfl (vp_in_nI hj (by decide)) hdg (by rw [nI_clamp (by omega)]; exact kk)
theorem a_st (hx : p.tables.exec = Jvm.exec) (hb : c.code = cc) (hKa : va_K D vwCl [(cA, .int)] s) (hP : va_P D vwCl (va_pl L f) H) (hD : va_D A (va_pl L f)) (hS : va_S A H0 H locs) (hG : aG D q cA g H) (hq : q ∉ L) (hAq : A q) {j : Nat} {v : Int32} (hj : j < 100) (hdg : decode cc pc = .ok (.iastore, 1))
    (kk : ∀ (H1 : Heap) (locs1 : List Loc), va_P D vwCl (va_pl L f) H1 → va_S A H0 H1 locs1 → aG D q cA (upd g j v) H1 → W p l e R s m args below meth c H1 locs1 cells slots Q (F0 m (pc + 1) ls rest)) : W p l e R s m args below meth c H locs cells slots Q (F0 m pc ls (.int v :: .int (nI j) :: .ref q :: rest)) := by
  refine va_iast (ws := (q, .inl (cA, 100, .inl g)) :: va_pl L f) hx hb hKa (hG.app hP) (a_D hD hq hAq) hS 0 0 rfl rfl (vp_in_nI hj (by decide)) hdg (fun H1 locs1 hP1 hD1 hS1 => ?_)
  rw [nI_clamp (by omega)] at hP1
  exact kk H1 locs1 (a_suf (w1 := [(q, .inl (cA, 100, .inl (upd g j v)))]) hP1) hS1 (a_pre (w1 := [(q, .inl (cA, 100, .inl (upd g j v)))]) (w2 := va_pl L f) hP1)
theorem gsw_iA {post : Int32 → gU → Prop} (hr : va_Run p l e R s m args below meth c H locs cells slots mc ms (F0 m pc ls st0) rest (va_Qi post (gE D tA (va_A (va_pl L f) H.size)) (va_A (va_pl L f) H.size) a) (va_A (va_pl L f) H.size))
    (hD : va_D A (va_pl L f)) (hS : va_S A s.heap H locs) (hA : ∀ q, s.heap.size ≤ q → A q) (hG : aG D q cA g H) (hq : q ∉ L)
    (kk : ∀ (r : Int32) (u : gU) (H1 : Heap) (locs1 : List Loc), post r u → Rep tA u.1 u.2.1 u.2.2.1 u.2.2.2 → va_P D vwCl (va_pl u.2.2.1 u.2.2.2) H1 → va_D A (va_pl u.2.2.1 u.2.2.2) → va_S A s.heap H1 locs1 → aG D q cA g H1 → W p l e R s m args below meth c H1 locs1 (cells + mc) (slots + ms) Q (F0 m (pc + 3) ls (.int r :: rest))) : W p l e R s m args below meth c H locs cells slots Q (F0 m pc ls st0) := by
  have hFc := gA_in hD hS hA
  exact va_calli hr hS (fun q _ h => hFc q h) hFc (fun r u t H1 locs1 ht hvm hw hB hz1 hk1 hS1 => kk r u H1 locs1 hw hB.1 (ht ▸ hB.2.1) (gD_weak hB.2.2.2 hFc) hS1 (hG.kept (fun k z hz => by
    have hlt := (hG k z hz).lt
    have e1 := (a_one hz).1
    refine hk1 z.1 hlt (fun hA9 => ?_)
    rcases hA9 with ⟨k9, e9, h9⟩ | h9
    · exact hq (by have := mem_pl h9; rw [e1] at this; exact this)
    · omega)))
end AR
/-! what a promise took, lot by lot -/
def arF (S : St) (n : Nat) (k : Nat) : Int32 := if k < n then sI S 42 k else 0
theorem arF_0 (S : St) : arF S 0 = fun _ => 0 := funext fun k => if_neg (Nat.not_lt_zero k)
theorem arF_s (S : St) (j : Nat) : upd (arF S j) j (sI S 42 j) = arF S (j + 1) := by
  funext k
  unfold upd arF
  by_cases h : k = j
  · subst h; rw [if_pos rfl, if_pos (Nat.lt_succ_self k)]
  · rw [if_neg h]
    by_cases h2 : k < j
    · rw [if_pos h2, if_pos (by omega)]
    · rw [if_neg h2, if_neg (by omega)]
theorem arF_in {S : St} {n k : Nat} (h : k < n) : arF S n k = sI S 42 k := if_pos h
def psS (S T : St) (n : Nat) : Int32 := it (fun k a => a + (sI T 42 k - sI S 42 k)) n 0
theorem ps_eq {S T : St} {o : Nat} (hS : Inv S) (hI : Inv T) (hn : sN T = sN S) (ho : o < nOc T) (h : sI T 53 o = 112) (hv : ∀ i, i < nLc S → vT T i - vT S i = pT T o i) : dpR T o = psS S T (sN T 2 0) := by
  have k := dpR_sm hI ho h
  have hO := hI.1.2.2.2.2.2.1
  have hlt := Int32.toInt_lt (dpR T o)
  have eL : nLc T = nLc S := by show sN T 2 0 = _; rw [hn]
  have q := it_sm (g := fun k a => a + (sI T 42 k - sI S 42 k)) (f := fun i => pT T o i) (a := 0) (B := 2147483647) (by decide) (nLc T) (fun i hi => ((hO o ho).2.1 i).1) (by show (0 : Int) + _ ≤ _; omega) (fun i x hi h0 hb => by
    have hi' : i < nLc S := by omega
    have e := hv i hi'
    have a1 := (hI.lot hi).1
    have a2 := (hS.lot hi').1
    have b1 := Int32.toInt_lt (sI T 42 i)
    have b2 := Int32.toInt_lt (sI S 42 i)
    have p0 := ((hO o ho).2.1 i).1
    have e1 : (sI T 42 i - sI S 42 i).toInt = pT T o i := by
      rw [i32_subV (a := sI T 42 i) (b := sI S 42 i) (x := vT T i) (y := vT S i) rfl rfl (by omega) (by omega)]
      exact e
    exact i32_addV rfl e1 (by omega) (by omega))
  exact i32_ext (by rw [k, show psS S T (sN T 2 0) = it (fun k a => a + (sI T 42 k - sI S 42 k)) (nLc T) 0 from rfl, q]; show _ = (0 : Int) + _; omega)
