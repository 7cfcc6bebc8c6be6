/-! THE WORLD of Foundrymark (made by wip/gen/world.py). A state S: maps by a field's key and an object's number:
sN plain numbers (0 machines, 1 parts, 2 lots, 3 orders; 4, 5 components and operations of a part; 6, 7 the part of a lot, of an order; 8 of a component; 9 the machine of an operation),
sI ints, sJ longs, sR references that may be null (by the number of what they show), sP the pieces of an order by lots. -/
abbrev St : Type := (Nat → Nat → Nat) × (Nat → Nat → Int32) × (Nat → Nat → Int64) × (Nat → Nat → Option Nat) × (Nat → Nat → Int32)
abbrev sN (S : St) : Nat → Nat → Nat := S.1
abbrev sI (S : St) : Nat → Nat → Int32 := S.2.1
abbrev sJ (S : St) : Nat → Nat → Int64 := S.2.2.1
abbrev sR (S : St) : Nat → Nat → Option Nat := S.2.2.2.1
abbrev sP (S : St) : Nat → Nat → Int32 := S.2.2.2.2
def up2 {α : Type} (f : Nat → Nat → α) (k i : Nat) (v : α) : Nat → Nat → α := fun k' i' => if k' = k ∧ i' = i then v else f k' i'
theorem up2_self {α : Type} (f : Nat → Nat → α) (k i : Nat) (v : α) : up2 f k i v k i = v := by simp [up2]
theorem up2_ne {α : Type} (f : Nat → Nat → α) {k i k' i' : Nat} (v : α) (h : ¬ (k' = k ∧ i' = i)) : up2 f k i v k' i' = f k' i' := by simp [up2, h]
theorem up2_nk {α : Type} (f : Nat → Nat → α) {k i k' i' : Nat} (v : α) (h : k' ≠ k) : up2 f k i v k' i' = f k' i' := up2_ne f v (fun q => h q.1)
theorem up2_k {α : Type} (f : Nat → Nat → α) {k i i' : Nat} (v : α) : up2 f k i v k i' = if i' = i then v else f k i' := by simp [up2]
abbrev uN (S : St) (k i : Nat) (v : Nat) : St := (up2 S.1 k i v, S.2)
abbrev uI (S : St) (k i : Nat) (v : Int32) : St := (S.1, up2 S.2.1 k i v, S.2.2)
abbrev uJ (S : St) (k i : Nat) (v : Int64) : St := (S.1, S.2.1, up2 S.2.2.1 k i v, S.2.2.2)
abbrev uR (S : St) (k i : Nat) (v : Option Nat) : St := (S.1, S.2.1, S.2.2.1, up2 S.2.2.2.1 k i v, S.2.2.2.2)
abbrev uP (S : St) (k i : Nat) (v : Int32) : St := (S.1, S.2.1, S.2.2.1, S.2.2.2.1, up2 S.2.2.2.2 k i v)
def rf (ad : Nat → Nat → Nat) (k : Nat) (o : Option Nat) : Value := va_rf (o.map (ad k))
theorem rf_none (ad : Nat → Nat → Nat) (k : Nat) : rf ad k none = .null := rfl
theorem rf_some (ad : Nat → Nat → Nat) (k i : Nat) : rf ad k (some i) = .ref (ad k i) := rfl
/-- the kinds of arrays, by their places -/
abbrev gT (tA : Nat → ClassId) : List (ClassId × FieldType) := [(tA 0, .int), (tA 1, .object RX4), (tA 2, .object RX8), (tA 3, .object RX9), (tA 4, .object RX3), (tA 5, .object RX7), (tA 6, .object RX1), (tA 7, .object RX6)]
def V (S : St) (k i : Nat) : Prop := match k with
  | 0 => i = 0
  | 1 => i < sN S 0 0
  | 2 => i < sN S 1 0
  | 3 => i < sN S 1 0
  | 4 => i / 4 < sN S 1 0 ∧ i % 4 < sN S 4 (i / 4)
  | 5 => i / 4 < sN S 1 0 ∧ i % 4 < sN S 5 (i / 4)
  | 6 => i < 4
  | 7 => i < sN S 2 0
  | 8 => i < sN S 2 0
  | 9 => i < sN S 2 0
  | 10 => i < sN S 2 0
  | 11 => i < sN S 3 0
  | 12 => i < sN S 3 0
  | 13 => i < sN S 3 0
  | 14 => i = 0
  | 15 => i = 0
  | 16 => i = 0
  | 17 => i = 0
  | 18 => i = 0
  | 19 => i = 0
  | 20 => i < sN S 1 0
  | 21 => i < sN S 1 0
  | 22 => i < sN S 3 0
  | _ => False
/-- what the cell of an object holds -/
def C (tA : Nat → ClassId) (S : St) (ad : Nat → Nat → Nat) (k i : Nat) : va_E := match k with
  | 0 => .inr (12, [.ref (ad 15 0), .ref (ad 16 0), .ref (ad 17 0), .ref (ad 18 0), .ref (ad 19 0), .ref (ad 14 0), .int (nI (sN S 0 0)), .int (nI (sN S 1 0)), .int (nI (sN S 2 0)), .int (sI S 1 i), .int (nI (sN S 3 0)), .int (sI S 2 i), .long (sJ S 1 i), .long (sJ S 2 i)])
  | 1 => .inr (6, [.int (sI S 10 i), .int (sI S 11 i), .int (sI S 12 i), .int (sI S 13 i), .int (sI S 14 i), .int (sI S 15 i), .int (sI S 16 i), .int (sI S 17 i), .int (sI S 18 i), .int (sI S 19 i), rf ad 11 (sR S 1 i)])
  | 2 => .inr (10, [.int (nI i), .int (sI S 20 i), .int (sI S 21 i), .ref (ad 20 i), .ref (ad 21 i), .ref (ad 3 i), .int (nI (sN S 4 i)), .int (nI (sN S 5 i))])
  | 3 => .inr (2, [.int (sI S 22 i), .int (sI S 23 i), .int (sI S 24 i), .int (sI S 25 i), .int (sI S 26 i)])
  | 4 => .inr (3, [.ref (ad 2 (sN S 8 i)), .int (sI S 30 i), .int (sI S 31 i)])
  | 5 => .inr (8, [.ref (ad 1 (sN S 9 i)), rf ad 1 (sR S 2 i), .int (sI S 32 i)])
  | 6 => .inr (11, [.int (sI S 33 i), .int (sI S 34 i), .int (sI S 35 i)])
  | 7 => .inr (5, [.int (nI i), .ref (ad 2 (sN S 6 i)), .int (sI S 40 i), .ref (ad 8 i), .ref (ad 9 i), .ref (ad 10 i), .int (sI S 41 i), .int (sI S 42 i), .int (sI S 43 i), .long (sJ S 3 i)])
  | 8 => .inr (7, [.long (sJ S 16 i), .long (sJ S 17 i)])
  | 9 => .inr (7, [.long (sJ S 18 i), .long (sJ S 19 i)])
  | 10 => .inr (7, [.long (sJ S 20 i), .long (sJ S 21 i)])
  | 11 => .inr (9, [.int (nI i), .ref (ad 2 (sN S 7 i)), .int (sI S 50 i), .int (sI S 51 i), .int (sI S 52 i), .ref (ad 12 i), .ref (ad 13 i), .ref (ad 22 i), .int (sI S 53 i), .int (sI S 54 i), .int (sI S 55 i), .long (sJ S 4 i)])
  | 12 => .inr (4, [.int (sI S 60 i), .int (sI S 61 i), .int (sI S 62 i), .int (sI S 63 i), .long (sJ S 5 i), rf ad 1 (sR S 3 i), rf ad 7 (sR S 4 i)])
  | 13 => .inr (7, [.long (sJ S 26 i), .long (sJ S 27 i)])
  | 14 => .inr (7, [.long (sJ S 28 i), .long (sJ S 29 i)])
  | 15 => .inl (tA 1, 5, .inr (.inr (.inr (.inr (fun j => if j < sN S 0 0 then some (ad 1 j) else none)))))
  | 16 => .inl (tA 2, 12, .inr (.inr (.inr (.inr (fun j => if j < sN S 1 0 then some (ad 2 j) else none)))))
  | 17 => .inl (tA 3, 4, .inr (.inr (.inr (.inr (fun j => if j < 4 then some (ad 6 j) else none)))))
  | 18 => .inl (tA 4, 90, .inr (.inr (.inr (.inr (fun j => if j < sN S 2 0 then some (ad 7 j) else none)))))
  | 19 => .inl (tA 5, 30, .inr (.inr (.inr (.inr (fun j => if j < sN S 3 0 then some (ad 11 j) else none)))))
  | 20 => .inl (tA 6, 4, .inr (.inr (.inr (.inr (fun j => if j < sN S 4 i then some (ad 4 (4 * i + j)) else none)))))
  | 21 => .inl (tA 7, 3, .inr (.inr (.inr (.inr (fun j => if j < sN S 5 i then some (ad 5 (4 * i + j)) else none)))))
  | 22 => .inl (tA 0, 90, .inl (fun j => sP S i j))
  | _ => .inr (0, [])
/-- the cells L, f hold the state S, each object at its own address -/
def Rep (tA : Nat → ClassId) (S : St) (ad : Nat → Nat → Nat) (L : List Nat) (f : Nat → va_E) : Prop := (∀ k i, V S k i → ad k i ∈ L ∧ f (ad k i) = C tA S ad k i) ∧ ∀ k i k' i', V S k i → V S k' i' → ad k i = ad k' i' → k = k' ∧ i = i'
theorem Rep.get {tA : Nat → ClassId} {S : St} {ad : Nat → Nat → Nat} {L : List Nat} {f : Nat → va_E} (h : Rep tA S ad L f) {k i : Nat} (hv : V S k i) : ∃ q : Nat, (va_pl L f)[q]? = some (ad k i, C tA S ad k i) := by
  obtain ⟨q, hq⟩ := va_pl_get (X := []) (f := f) (h.1 k i hv).1
  rw [List.nil_append, (h.1 k i hv).2] at hq
  exact ⟨q, hq⟩
theorem Rep.put {tA : Nat → ClassId} {S S' : St} {ad : Nat → Nat → Nat} {L : List Nat} {f : Nat → va_E} {A : Nat → Prop} {k i q : Nat} {e : va_E} (h : Rep tA S ad L f) (hD : va_D A (va_pl L f)) (hv : V S k i) (hq : (va_pl L f)[q]? = some (ad k i, C tA S ad k i))
    (hV : ∀ k i, V S' k i → V S k i) (hC : ∀ k' i', V S k' i' → ¬ (k' = k ∧ i' = i) → C tA S' ad k' i' = C tA S ad k' i') (he : C tA S' ad k i = e) : ∃ f' : Nat → va_E, (va_pl L f).set q (ad k i, e) = va_pl L f' ∧ Rep tA S' ad L f' := by
  have h2 := va_pl_set (X := []) (e := e) (by rw [List.nil_append]; exact hD) (h.1 k i hv).1 (by rw [List.nil_append, (h.1 k i hv).2]; exact hq)
  rw [List.nil_append, List.nil_append] at h2
  refine ⟨_, h2, ⟨fun k' i' hv' => ⟨(h.1 k' i' (hV _ _ hv')).1, ?_⟩, fun a b c d h1 h3 => h.2 a b c d (hV _ _ h1) (hV _ _ h3)⟩⟩
  by_cases hb : k' = k ∧ i' = i
  · obtain ⟨rfl, rfl⟩ := hb
    rw [va_up_self, he]
  · rw [va_up_ne _ _ (fun hq2 => hb (h.2 _ _ _ _ (hV _ _ hv') hv hq2)), (h.1 k' i' (hV _ _ hv')).2, hC _ _ (hV _ _ hv') hb]
theorem Rep.ne {tA : Nat → ClassId} {S : St} {ad : Nat → Nat → Nat} {L : List Nat} {f : Nat → va_E} (h : Rep tA S ad L f) {k i k' i' : Nat} (h1 : V S k i) (h2 : V S k' i') (hn : ¬ (k = k' ∧ i = i')) : ad k i ≠ ad k' i' := fun q => hn (h.2 _ _ _ _ h1 h2 q)
section WR
variable {p : Program} {l : Launch} {e : Env} {R : Room} {s : State} {m : MethodId} {args : Array Value} {below : List Frame} {meth : Method} {c : Code} {H : Heap} {locs : List Loc} {cells slots : Nat} {Q : State → Prop}
variable {cc : ByteArray} {pc : Nat} {ls : Array Slot} {rest : List Value} {D : va_G} {A : Nat → Prop} {H0 : Heap} {tA : Nat → ClassId} {S : St} {ad : Nat → Nat → Nat} {L : List Nat} {f : Nat → va_E} {own : String} {index i : Nat} {Ts : List Cond}
theorem cell_0 (h : Rep tA S ad L f) (hi : V S 0 i) : ∃ q : Nat, (va_pl L f)[q]? = some (ad 0 i, .inr (12, [.ref (ad 15 0), .ref (ad 16 0), .ref (ad 17 0), .ref (ad 18 0), .ref (ad 19 0), .ref (ad 14 0), .int (nI (sN S 0 0)), .int (nI (sN S 1 0)), .int (nI (sN S 2 0)), .int (sI S 1 i), .int (nI (sN S 3 0)), .int (sI S 2 i), .long (sJ S 1 i), .long (sJ S 2 i)])) := h.get (k := 0) hi
theorem get_machines_0 (hx : p.tables.exec = Jvm.exec) (hb : c.code = cc) (hts : ∀ w ∈ Ts, w.before args s = true) (hin : ∀ w ∈ u_ws RX10 TX10 14, w ∈ Ts) (hown : s.vm.findClass own = some m.cls) (hK : va_K D vwCl (gT tA) s) (hP : va_P D vwCl (va_pl L f) H) (hR : Rep tA S ad L f) (hi : V S 0 i) (hlink : (Cond.fieldLink own index (TX10 0).1 (TX10 0).2.1 (TX10 0).2.2.1).before args s = true) (hdg : decode cc pc = .ok (.getfield index, 3))
    (kk : W p l e R s m args below meth c H locs cells slots Q (F0 m (pc + 3) ls (.ref (ad 15 0) :: rest))) : W p l e R s m args below meth c H locs cells slots Q (F0 m pc ls (.ref (ad 0 i) :: rest)) := by
  obtain ⟨q, hq⟩ := cell_0 hR hi
  exact va_get (D := D) (ci := 12) (C := RX10) (T := TX10) (N := 14) hx hb hts hin hown hK hP q hq rfl 0 (by decide) hlink (fun _ h9 => h9) rfl hdg kk
theorem get_parts_0 (hx : p.tables.exec = Jvm.exec) (hb : c.code = cc) (hts : ∀ w ∈ Ts, w.before args s = true) (hin : ∀ w ∈ u_ws RX10 TX10 14, w ∈ Ts) (hown : s.vm.findClass own = some m.cls) (hK : va_K D vwCl (gT tA) s) (hP : va_P D vwCl (va_pl L f) H) (hR : Rep tA S ad L f) (hi : V S 0 i) (hlink : (Cond.fieldLink own index (TX10 1).1 (TX10 1).2.1 (TX10 1).2.2.1).before args s = true) (hdg : decode cc pc = .ok (.getfield index, 3))
    (kk : W p l e R s m args below meth c H locs cells slots Q (F0 m (pc + 3) ls (.ref (ad 16 0) :: rest))) : W p l e R s m args below meth c H locs cells slots Q (F0 m pc ls (.ref (ad 0 i) :: rest)) := by
  obtain ⟨q, hq⟩ := cell_0 hR hi
  exact va_get (D := D) (ci := 12) (C := RX10) (T := TX10) (N := 14) hx hb hts hin hown hK hP q hq rfl 1 (by decide) hlink (fun _ h9 => h9) rfl hdg kk
theorem get_suppliers_0 (hx : p.tables.exec = Jvm.exec) (hb : c.code = cc) (hts : ∀ w ∈ Ts, w.before args s = true) (hin : ∀ w ∈ u_ws RX10 TX10 14, w ∈ Ts) (hown : s.vm.findClass own = some m.cls) (hK : va_K D vwCl (gT tA) s) (hP : va_P D vwCl (va_pl L f) H) (hR : Rep tA S ad L f) (hi : V S 0 i) (hlink : (Cond.fieldLink own index (TX10 2).1 (TX10 2).2.1 (TX10 2).2.2.1).before args s = true) (hdg : decode cc pc = .ok (.getfield index, 3))
    (kk : W p l e R s m args below meth c H locs cells slots Q (F0 m (pc + 3) ls (.ref (ad 17 0) :: rest))) : W p l e R s m args below meth c H locs cells slots Q (F0 m pc ls (.ref (ad 0 i) :: rest)) := by
  obtain ⟨q, hq⟩ := cell_0 hR hi
  exact va_get (D := D) (ci := 12) (C := RX10) (T := TX10) (N := 14) hx hb hts hin hown hK hP q hq rfl 2 (by decide) hlink (fun _ h9 => h9) rfl hdg kk
theorem get_lots_0 (hx : p.tables.exec = Jvm.exec) (hb : c.code = cc) (hts : ∀ w ∈ Ts, w.before args s = true) (hin : ∀ w ∈ u_ws RX10 TX10 14, w ∈ Ts) (hown : s.vm.findClass own = some m.cls) (hK : va_K D vwCl (gT tA) s) (hP : va_P D vwCl (va_pl L f) H) (hR : Rep tA S ad L f) (hi : V S 0 i) (hlink : (Cond.fieldLink own index (TX10 3).1 (TX10 3).2.1 (TX10 3).2.2.1).before args s = true) (hdg : decode cc pc = .ok (.getfield index, 3))
    (kk : W p l e R s m args below meth c H locs cells slots Q (F0 m (pc + 3) ls (.ref (ad 18 0) :: rest))) : W p l e R s m args below meth c H locs cells slots Q (F0 m pc ls (.ref (ad 0 i) :: rest)) := by
  obtain ⟨q, hq⟩ := cell_0 hR hi
  exact va_get (D := D) (ci := 12) (C := RX10) (T := TX10) (N := 14) hx hb hts hin hown hK hP q hq rfl 3 (by decide) hlink (fun _ h9 => h9) rfl hdg kk
theorem get_orders_0 (hx : p.tables.exec = Jvm.exec) (hb : c.code = cc) (hts : ∀ w ∈ Ts, w.before args s = true) (hin : ∀ w ∈ u_ws RX10 TX10 14, w ∈ Ts) (hown : s.vm.findClass own = some m.cls) (hK : va_K D vwCl (gT tA) s) (hP : va_P D vwCl (va_pl L f) H) (hR : Rep tA S ad L f) (hi : V S 0 i) (hlink : (Cond.fieldLink own index (TX10 4).1 (TX10 4).2.1 (TX10 4).2.2.1).before args s = true) (hdg : decode cc pc = .ok (.getfield index, 3))
    (kk : W p l e R s m args below meth c H locs cells slots Q (F0 m (pc + 3) ls (.ref (ad 19 0) :: rest))) : W p l e R s m args below meth c H locs cells slots Q (F0 m pc ls (.ref (ad 0 i) :: rest)) := by
  obtain ⟨q, hq⟩ := cell_0 hR hi
  exact va_get (D := D) (ci := 12) (C := RX10) (T := TX10) (N := 14) hx hb hts hin hown hK hP q hq rfl 4 (by decide) hlink (fun _ h9 => h9) rfl hdg kk
theorem get_onHold_0 (hx : p.tables.exec = Jvm.exec) (hb : c.code = cc) (hts : ∀ w ∈ Ts, w.before args s = true) (hin : ∀ w ∈ u_ws RX10 TX10 14, w ∈ Ts) (hown : s.vm.findClass own = some m.cls) (hK : va_K D vwCl (gT tA) s) (hP : va_P D vwCl (va_pl L f) H) (hR : Rep tA S ad L f) (hi : V S 0 i) (hlink : (Cond.fieldLink own index (TX10 5).1 (TX10 5).2.1 (TX10 5).2.2.1).before args s = true) (hdg : decode cc pc = .ok (.getfield index, 3))
    (kk : W p l e R s m args below meth c H locs cells slots Q (F0 m (pc + 3) ls (.ref (ad 14 0) :: rest))) : W p l e R s m args below meth c H locs cells slots Q (F0 m pc ls (.ref (ad 0 i) :: rest)) := by
  obtain ⟨q, hq⟩ := cell_0 hR hi
  exact va_get (D := D) (ci := 12) (C := RX10) (T := TX10) (N := 14) hx hb hts hin hown hK hP q hq rfl 5 (by decide) hlink (fun _ h9 => h9) rfl hdg kk
theorem get_machineCount_0 (hx : p.tables.exec = Jvm.exec) (hb : c.code = cc) (hts : ∀ w ∈ Ts, w.before args s = true) (hin : ∀ w ∈ u_ws RX10 TX10 14, w ∈ Ts) (hown : s.vm.findClass own = some m.cls) (hK : va_K D vwCl (gT tA) s) (hP : va_P D vwCl (va_pl L f) H) (hR : Rep tA S ad L f) (hi : V S 0 i) (hlink : (Cond.fieldLink own index (TX10 6).1 (TX10 6).2.1 (TX10 6).2.2.1).before args s = true) (hdg : decode cc pc = .ok (.getfield index, 3))
    (kk : W p l e R s m args below meth c H locs cells slots Q (F0 m (pc + 3) ls (.int (nI (sN S 0 0)) :: rest))) : W p l e R s m args below meth c H locs cells slots Q (F0 m pc ls (.ref (ad 0 i) :: rest)) := by
  obtain ⟨q, hq⟩ := cell_0 hR hi
  exact va_get (D := D) (ci := 12) (C := RX10) (T := TX10) (N := 14) hx hb hts hin hown hK hP q hq rfl 6 (by decide) hlink (fun _ h9 => h9) rfl hdg kk
theorem get_partCount_0 (hx : p.tables.exec = Jvm.exec) (hb : c.code = cc) (hts : ∀ w ∈ Ts, w.before args s = true) (hin : ∀ w ∈ u_ws RX10 TX10 14, w ∈ Ts) (hown : s.vm.findClass own = some m.cls) (hK : va_K D vwCl (gT tA) s) (hP : va_P D vwCl (va_pl L f) H) (hR : Rep tA S ad L f) (hi : V S 0 i) (hlink : (Cond.fieldLink own index (TX10 7).1 (TX10 7).2.1 (TX10 7).2.2.1).before args s = true) (hdg : decode cc pc = .ok (.getfield index, 3))
    (kk : W p l e R s m args below meth c H locs cells slots Q (F0 m (pc + 3) ls (.int (nI (sN S 1 0)) :: rest))) : W p l e R s m args below meth c H locs cells slots Q (F0 m pc ls (.ref (ad 0 i) :: rest)) := by
  obtain ⟨q, hq⟩ := cell_0 hR hi
  exact va_get (D := D) (ci := 12) (C := RX10) (T := TX10) (N := 14) hx hb hts hin hown hK hP q hq rfl 7 (by decide) hlink (fun _ h9 => h9) rfl hdg kk
theorem get_lotCount_0 (hx : p.tables.exec = Jvm.exec) (hb : c.code = cc) (hts : ∀ w ∈ Ts, w.before args s = true) (hin : ∀ w ∈ u_ws RX10 TX10 14, w ∈ Ts) (hown : s.vm.findClass own = some m.cls) (hK : va_K D vwCl (gT tA) s) (hP : va_P D vwCl (va_pl L f) H) (hR : Rep tA S ad L f) (hi : V S 0 i) (hlink : (Cond.fieldLink own index (TX10 8).1 (TX10 8).2.1 (TX10 8).2.2.1).before args s = true) (hdg : decode cc pc = .ok (.getfield index, 3))
    (kk : W p l e R s m args below meth c H locs cells slots Q (F0 m (pc + 3) ls (.int (nI (sN S 2 0)) :: rest))) : W p l e R s m args below meth c H locs cells slots Q (F0 m pc ls (.ref (ad 0 i) :: rest)) := by
  obtain ⟨q, hq⟩ := cell_0 hR hi
  exact va_get (D := D) (ci := 12) (C := RX10) (T := TX10) (N := 14) hx hb hts hin hown hK hP q hq rfl 8 (by decide) hlink (fun _ h9 => h9) rfl hdg kk
theorem get_boughtCount_0 (hx : p.tables.exec = Jvm.exec) (hb : c.code = cc) (hts : ∀ w ∈ Ts, w.before args s = true) (hin : ∀ w ∈ u_ws RX10 TX10 14, w ∈ Ts) (hown : s.vm.findClass own = some m.cls) (hK : va_K D vwCl (gT tA) s) (hP : va_P D vwCl (va_pl L f) H) (hR : Rep tA S ad L f) (hi : V S 0 i) (hlink : (Cond.fieldLink own index (TX10 9).1 (TX10 9).2.1 (TX10 9).2.2.1).before args s = true) (hdg : decode cc pc = .ok (.getfield index, 3))
    (kk : W p l e R s m args below meth c H locs cells slots Q (F0 m (pc + 3) ls (.int (sI S 1 i) :: rest))) : W p l e R s m args below meth c H locs cells slots Q (F0 m pc ls (.ref (ad 0 i) :: rest)) := by
  obtain ⟨q, hq⟩ := cell_0 hR hi
  exact va_get (D := D) (ci := 12) (C := RX10) (T := TX10) (N := 14) hx hb hts hin hown hK hP q hq rfl 9 (by decide) hlink (fun _ h9 => h9) rfl hdg kk
theorem get_orderCount_0 (hx : p.tables.exec = Jvm.exec) (hb : c.code = cc) (hts : ∀ w ∈ Ts, w.before args s = true) (hin : ∀ w ∈ u_ws RX10 TX10 14, w ∈ Ts) (hown : s.vm.findClass own = some m.cls) (hK : va_K D vwCl (gT tA) s) (hP : va_P D vwCl (va_pl L f) H) (hR : Rep tA S ad L f) (hi : V S 0 i) (hlink : (Cond.fieldLink own index (TX10 10).1 (TX10 10).2.1 (TX10 10).2.2.1).before args s = true) (hdg : decode cc pc = .ok (.getfield index, 3))
    (kk : W p l e R s m args below meth c H locs cells slots Q (F0 m (pc + 3) ls (.int (nI (sN S 3 0)) :: rest))) : W p l e R s m args below meth c H locs cells slots Q (F0 m pc ls (.ref (ad 0 i) :: rest)) := by
  obtain ⟨q, hq⟩ := cell_0 hR hi
  exact va_get (D := D) (ci := 12) (C := RX10) (T := TX10) (N := 14) hx hb hts hin hown hK hP q hq rfl 10 (by decide) hlink (fun _ h9 => h9) rfl hdg kk
theorem get_now_0 (hx : p.tables.exec = Jvm.exec) (hb : c.code = cc) (hts : ∀ w ∈ Ts, w.before args s = true) (hin : ∀ w ∈ u_ws RX10 TX10 14, w ∈ Ts) (hown : s.vm.findClass own = some m.cls) (hK : va_K D vwCl (gT tA) s) (hP : va_P D vwCl (va_pl L f) H) (hR : Rep tA S ad L f) (hi : V S 0 i) (hlink : (Cond.fieldLink own index (TX10 11).1 (TX10 11).2.1 (TX10 11).2.2.1).before args s = true) (hdg : decode cc pc = .ok (.getfield index, 3))
    (kk : W p l e R s m args below meth c H locs cells slots Q (F0 m (pc + 3) ls (.int (sI S 2 i) :: rest))) : W p l e R s m args below meth c H locs cells slots Q (F0 m pc ls (.ref (ad 0 i) :: rest)) := by
  obtain ⟨q, hq⟩ := cell_0 hR hi
  exact va_get (D := D) (ci := 12) (C := RX10) (T := TX10) (N := 14) hx hb hts hin hown hK hP q hq rfl 11 (by decide) hlink (fun _ h9 => h9) rfl hdg kk
theorem get_costIn_0 (hx : p.tables.exec = Jvm.exec) (hb : c.code = cc) (hts : ∀ w ∈ Ts, w.before args s = true) (hin : ∀ w ∈ u_ws RX10 TX10 14, w ∈ Ts) (hown : s.vm.findClass own = some m.cls) (hK : va_K D vwCl (gT tA) s) (hP : va_P D vwCl (va_pl L f) H) (hR : Rep tA S ad L f) (hi : V S 0 i) (hlink : (Cond.fieldLink own index (TX10 12).1 (TX10 12).2.1 (TX10 12).2.2.1).before args s = true) (hdg : decode cc pc = .ok (.getfield index, 3))
    (kk : W p l e R s m args below meth c H locs cells slots Q (F0 m (pc + 3) ls (.long (sJ S 1 i) :: rest))) : W p l e R s m args below meth c H locs cells slots Q (F0 m pc ls (.ref (ad 0 i) :: rest)) := by
  obtain ⟨q, hq⟩ := cell_0 hR hi
  exact va_get (D := D) (ci := 12) (C := RX10) (T := TX10) (N := 14) hx hb hts hin hown hK hP q hq rfl 12 (by decide) hlink (fun _ h9 => h9) rfl hdg kk
theorem get_costLost_0 (hx : p.tables.exec = Jvm.exec) (hb : c.code = cc) (hts : ∀ w ∈ Ts, w.before args s = true) (hin : ∀ w ∈ u_ws RX10 TX10 14, w ∈ Ts) (hown : s.vm.findClass own = some m.cls) (hK : va_K D vwCl (gT tA) s) (hP : va_P D vwCl (va_pl L f) H) (hR : Rep tA S ad L f) (hi : V S 0 i) (hlink : (Cond.fieldLink own index (TX10 13).1 (TX10 13).2.1 (TX10 13).2.2.1).before args s = true) (hdg : decode cc pc = .ok (.getfield index, 3))
    (kk : W p l e R s m args below meth c H locs cells slots Q (F0 m (pc + 3) ls (.long (sJ S 2 i) :: rest))) : W p l e R s m args below meth c H locs cells slots Q (F0 m pc ls (.ref (ad 0 i) :: rest)) := by
  obtain ⟨q, hq⟩ := cell_0 hR hi
  exact va_get (D := D) (ci := 12) (C := RX10) (T := TX10) (N := 14) hx hb hts hin hown hK hP q hq rfl 13 (by decide) hlink (fun _ h9 => h9) rfl hdg kk
theorem cell_1 (h : Rep tA S ad L f) (hi : V S 1 i) : ∃ q : Nat, (va_pl L f)[q]? = some (ad 1 i, .inr (6, [.int (sI S 10 i), .int (sI S 11 i), .int (sI S 12 i), .int (sI S 13 i), .int (sI S 14 i), .int (sI S 15 i), .int (sI S 16 i), .int (sI S 17 i), .int (sI S 18 i), .int (sI S 19 i), rf ad 11 (sR S 1 i)])) := h.get (k := 1) hi
theorem get_rate_1 (hx : p.tables.exec = Jvm.exec) (hb : c.code = cc) (hts : ∀ w ∈ Ts, w.before args s = true) (hin : ∀ w ∈ u_ws RX4 TX4 11, w ∈ Ts) (hown : s.vm.findClass own = some m.cls) (hK : va_K D vwCl (gT tA) s) (hP : va_P D vwCl (va_pl L f) H) (hR : Rep tA S ad L f) (hi : V S 1 i) (hlink : (Cond.fieldLink own index (TX4 0).1 (TX4 0).2.1 (TX4 0).2.2.1).before args s = true) (hdg : decode cc pc = .ok (.getfield index, 3))
    (kk : W p l e R s m args below meth c H locs cells slots Q (F0 m (pc + 3) ls (.int (sI S 10 i) :: rest))) : W p l e R s m args below meth c H locs cells slots Q (F0 m pc ls (.ref (ad 1 i) :: rest)) := by
  obtain ⟨q, hq⟩ := cell_1 hR hi
  exact va_get (D := D) (ci := 6) (C := RX4) (T := TX4) (N := 11) hx hb hts hin hown hK hP q hq rfl 0 (by decide) hlink (fun _ h9 => h9) rfl hdg kk
theorem get_setup_1 (hx : p.tables.exec = Jvm.exec) (hb : c.code = cc) (hts : ∀ w ∈ Ts, w.before args s = true) (hin : ∀ w ∈ u_ws RX4 TX4 11, w ∈ Ts) (hown : s.vm.findClass own = some m.cls) (hK : va_K D vwCl (gT tA) s) (hP : va_P D vwCl (va_pl L f) H) (hR : Rep tA S ad L f) (hi : V S 1 i) (hlink : (Cond.fieldLink own index (TX4 1).1 (TX4 1).2.1 (TX4 1).2.2.1).before args s = true) (hdg : decode cc pc = .ok (.getfield index, 3))
    (kk : W p l e R s m args below meth c H locs cells slots Q (F0 m (pc + 3) ls (.int (sI S 11 i) :: rest))) : W p l e R s m args below meth c H locs cells slots Q (F0 m pc ls (.ref (ad 1 i) :: rest)) := by
  obtain ⟨q, hq⟩ := cell_1 hR hi
  exact va_get (D := D) (ci := 6) (C := RX4) (T := TX4) (N := 11) hx hb hts hin hown hK hP q hq rfl 1 (by decide) hlink (fun _ h9 => h9) rfl hdg kk
theorem get_life_1 (hx : p.tables.exec = Jvm.exec) (hb : c.code = cc) (hts : ∀ w ∈ Ts, w.before args s = true) (hin : ∀ w ∈ u_ws RX4 TX4 11, w ∈ Ts) (hown : s.vm.findClass own = some m.cls) (hK : va_K D vwCl (gT tA) s) (hP : va_P D vwCl (va_pl L f) H) (hR : Rep tA S ad L f) (hi : V S 1 i) (hlink : (Cond.fieldLink own index (TX4 2).1 (TX4 2).2.1 (TX4 2).2.2.1).before args s = true) (hdg : decode cc pc = .ok (.getfield index, 3))
    (kk : W p l e R s m args below meth c H locs cells slots Q (F0 m (pc + 3) ls (.int (sI S 12 i) :: rest))) : W p l e R s m args below meth c H locs cells slots Q (F0 m pc ls (.ref (ad 1 i) :: rest)) := by
  obtain ⟨q, hq⟩ := cell_1 hR hi
  exact va_get (D := D) (ci := 6) (C := RX4) (T := TX4) (N := 11) hx hb hts hin hown hK hP q hq rfl 2 (by decide) hlink (fun _ h9 => h9) rfl hdg kk
theorem get_repair_1 (hx : p.tables.exec = Jvm.exec) (hb : c.code = cc) (hts : ∀ w ∈ Ts, w.before args s = true) (hin : ∀ w ∈ u_ws RX4 TX4 11, w ∈ Ts) (hown : s.vm.findClass own = some m.cls) (hK : va_K D vwCl (gT tA) s) (hP : va_P D vwCl (va_pl L f) H) (hR : Rep tA S ad L f) (hi : V S 1 i) (hlink : (Cond.fieldLink own index (TX4 3).1 (TX4 3).2.1 (TX4 3).2.2.1).before args s = true) (hdg : decode cc pc = .ok (.getfield index, 3))
    (kk : W p l e R s m args below meth c H locs cells slots Q (F0 m (pc + 3) ls (.int (sI S 13 i) :: rest))) : W p l e R s m args below meth c H locs cells slots Q (F0 m pc ls (.ref (ad 1 i) :: rest)) := by
  obtain ⟨q, hq⟩ := cell_1 hR hi
  exact va_get (D := D) (ci := 6) (C := RX4) (T := TX4) (N := 11) hx hb hts hin hown hK hP q hq rfl 3 (by decide) hlink (fun _ h9 => h9) rfl hdg kk
theorem get_state_1 (hx : p.tables.exec = Jvm.exec) (hb : c.code = cc) (hts : ∀ w ∈ Ts, w.before args s = true) (hin : ∀ w ∈ u_ws RX4 TX4 11, w ∈ Ts) (hown : s.vm.findClass own = some m.cls) (hK : va_K D vwCl (gT tA) s) (hP : va_P D vwCl (va_pl L f) H) (hR : Rep tA S ad L f) (hi : V S 1 i) (hlink : (Cond.fieldLink own index (TX4 4).1 (TX4 4).2.1 (TX4 4).2.2.1).before args s = true) (hdg : decode cc pc = .ok (.getfield index, 3))
    (kk : W p l e R s m args below meth c H locs cells slots Q (F0 m (pc + 3) ls (.int (sI S 14 i) :: rest))) : W p l e R s m args below meth c H locs cells slots Q (F0 m pc ls (.ref (ad 1 i) :: rest)) := by
  obtain ⟨q, hq⟩ := cell_1 hR hi
  exact va_get (D := D) (ci := 6) (C := RX4) (T := TX4) (N := 11) hx hb hts hin hown hK hP q hq rfl 4 (by decide) hlink (fun _ h9 => h9) rfl hdg kk
theorem get_family_1 (hx : p.tables.exec = Jvm.exec) (hb : c.code = cc) (hts : ∀ w ∈ Ts, w.before args s = true) (hin : ∀ w ∈ u_ws RX4 TX4 11, w ∈ Ts) (hown : s.vm.findClass own = some m.cls) (hK : va_K D vwCl (gT tA) s) (hP : va_P D vwCl (va_pl L f) H) (hR : Rep tA S ad L f) (hi : V S 1 i) (hlink : (Cond.fieldLink own index (TX4 5).1 (TX4 5).2.1 (TX4 5).2.2.1).before args s = true) (hdg : decode cc pc = .ok (.getfield index, 3))
    (kk : W p l e R s m args below meth c H locs cells slots Q (F0 m (pc + 3) ls (.int (sI S 15 i) :: rest))) : W p l e R s m args below meth c H locs cells slots Q (F0 m pc ls (.ref (ad 1 i) :: rest)) := by
  obtain ⟨q, hq⟩ := cell_1 hR hi
  exact va_get (D := D) (ci := 6) (C := RX4) (T := TX4) (N := 11) hx hb hts hin hown hK hP q hq rfl 5 (by decide) hlink (fun _ h9 => h9) rfl hdg kk
theorem get_wear_1 (hx : p.tables.exec = Jvm.exec) (hb : c.code = cc) (hts : ∀ w ∈ Ts, w.before args s = true) (hin : ∀ w ∈ u_ws RX4 TX4 11, w ∈ Ts) (hown : s.vm.findClass own = some m.cls) (hK : va_K D vwCl (gT tA) s) (hP : va_P D vwCl (va_pl L f) H) (hR : Rep tA S ad L f) (hi : V S 1 i) (hlink : (Cond.fieldLink own index (TX4 6).1 (TX4 6).2.1 (TX4 6).2.2.1).before args s = true) (hdg : decode cc pc = .ok (.getfield index, 3))
    (kk : W p l e R s m args below meth c H locs cells slots Q (F0 m (pc + 3) ls (.int (sI S 16 i) :: rest))) : W p l e R s m args below meth c H locs cells slots Q (F0 m pc ls (.ref (ad 1 i) :: rest)) := by
  obtain ⟨q, hq⟩ := cell_1 hR hi
  exact va_get (D := D) (ci := 6) (C := RX4) (T := TX4) (N := 11) hx hb hts hin hown hK hP q hq rfl 6 (by decide) hlink (fun _ h9 => h9) rfl hdg kk
theorem get_begunAt_1 (hx : p.tables.exec = Jvm.exec) (hb : c.code = cc) (hts : ∀ w ∈ Ts, w.before args s = true) (hin : ∀ w ∈ u_ws RX4 TX4 11, w ∈ Ts) (hown : s.vm.findClass own = some m.cls) (hK : va_K D vwCl (gT tA) s) (hP : va_P D vwCl (va_pl L f) H) (hR : Rep tA S ad L f) (hi : V S 1 i) (hlink : (Cond.fieldLink own index (TX4 7).1 (TX4 7).2.1 (TX4 7).2.2.1).before args s = true) (hdg : decode cc pc = .ok (.getfield index, 3))
    (kk : W p l e R s m args below meth c H locs cells slots Q (F0 m (pc + 3) ls (.int (sI S 17 i) :: rest))) : W p l e R s m args below meth c H locs cells slots Q (F0 m pc ls (.ref (ad 1 i) :: rest)) := by
  obtain ⟨q, hq⟩ := cell_1 hR hi
  exact va_get (D := D) (ci := 6) (C := RX4) (T := TX4) (N := 11) hx hb hts hin hown hK hP q hq rfl 7 (by decide) hlink (fun _ h9 => h9) rfl hdg kk
theorem get_endsAt_1 (hx : p.tables.exec = Jvm.exec) (hb : c.code = cc) (hts : ∀ w ∈ Ts, w.before args s = true) (hin : ∀ w ∈ u_ws RX4 TX4 11, w ∈ Ts) (hown : s.vm.findClass own = some m.cls) (hK : va_K D vwCl (gT tA) s) (hP : va_P D vwCl (va_pl L f) H) (hR : Rep tA S ad L f) (hi : V S 1 i) (hlink : (Cond.fieldLink own index (TX4 8).1 (TX4 8).2.1 (TX4 8).2.2.1).before args s = true) (hdg : decode cc pc = .ok (.getfield index, 3))
    (kk : W p l e R s m args below meth c H locs cells slots Q (F0 m (pc + 3) ls (.int (sI S 18 i) :: rest))) : W p l e R s m args below meth c H locs cells slots Q (F0 m pc ls (.ref (ad 1 i) :: rest)) := by
  obtain ⟨q, hq⟩ := cell_1 hR hi
  exact va_get (D := D) (ci := 6) (C := RX4) (T := TX4) (N := 11) hx hb hts hin hown hK hP q hq rfl 8 (by decide) hlink (fun _ h9 => h9) rfl hdg kk
theorem get_busy_1 (hx : p.tables.exec = Jvm.exec) (hb : c.code = cc) (hts : ∀ w ∈ Ts, w.before args s = true) (hin : ∀ w ∈ u_ws RX4 TX4 11, w ∈ Ts) (hown : s.vm.findClass own = some m.cls) (hK : va_K D vwCl (gT tA) s) (hP : va_P D vwCl (va_pl L f) H) (hR : Rep tA S ad L f) (hi : V S 1 i) (hlink : (Cond.fieldLink own index (TX4 9).1 (TX4 9).2.1 (TX4 9).2.2.1).before args s = true) (hdg : decode cc pc = .ok (.getfield index, 3))
    (kk : W p l e R s m args below meth c H locs cells slots Q (F0 m (pc + 3) ls (.int (sI S 19 i) :: rest))) : W p l e R s m args below meth c H locs cells slots Q (F0 m pc ls (.ref (ad 1 i) :: rest)) := by
  obtain ⟨q, hq⟩ := cell_1 hR hi
  exact va_get (D := D) (ci := 6) (C := RX4) (T := TX4) (N := 11) hx hb hts hin hown hK hP q hq rfl 9 (by decide) hlink (fun _ h9 => h9) rfl hdg kk
theorem get_doing_1 (hx : p.tables.exec = Jvm.exec) (hb : c.code = cc) (hts : ∀ w ∈ Ts, w.before args s = true) (hin : ∀ w ∈ u_ws RX4 TX4 11, w ∈ Ts) (hown : s.vm.findClass own = some m.cls) (hK : va_K D vwCl (gT tA) s) (hP : va_P D vwCl (va_pl L f) H) (hR : Rep tA S ad L f) (hi : V S 1 i) (hlink : (Cond.fieldLink own index (TX4 10).1 (TX4 10).2.1 (TX4 10).2.2.1).before args s = true) (hdg : decode cc pc = .ok (.getfield index, 3))
    (kk : W p l e R s m args below meth c H locs cells slots Q (F0 m (pc + 3) ls (rf ad 11 (sR S 1 i) :: rest))) : W p l e R s m args below meth c H locs cells slots Q (F0 m pc ls (.ref (ad 1 i) :: rest)) := by
  obtain ⟨q, hq⟩ := cell_1 hR hi
  exact va_get (D := D) (ci := 6) (C := RX4) (T := TX4) (N := 11) hx hb hts hin hown hK hP q hq rfl 10 (by decide) hlink (fun _ h9 => h9) rfl hdg kk
theorem cell_2 (h : Rep tA S ad L f) (hi : V S 2 i) : ∃ q : Nat, (va_pl L f)[q]? = some (ad 2 i, .inr (10, [.int (nI i), .int (sI S 20 i), .int (sI S 21 i), .ref (ad 20 i), .ref (ad 21 i), .ref (ad 3 i), .int (nI (sN S 4 i)), .int (nI (sN S 5 i))])) := h.get (k := 2) hi
theorem get_number_2 (hx : p.tables.exec = Jvm.exec) (hb : c.code = cc) (hts : ∀ w ∈ Ts, w.before args s = true) (hin : ∀ w ∈ u_ws RX8 TX8 8, w ∈ Ts) (hown : s.vm.findClass own = some m.cls) (hK : va_K D vwCl (gT tA) s) (hP : va_P D vwCl (va_pl L f) H) (hR : Rep tA S ad L f) (hi : V S 2 i) (hlink : (Cond.fieldLink own index (TX8 0).1 (TX8 0).2.1 (TX8 0).2.2.1).before args s = true) (hdg : decode cc pc = .ok (.getfield index, 3))
    (kk : W p l e R s m args below meth c H locs cells slots Q (F0 m (pc + 3) ls (.int (nI i) :: rest))) : W p l e R s m args below meth c H locs cells slots Q (F0 m pc ls (.ref (ad 2 i) :: rest)) := by
  obtain ⟨q, hq⟩ := cell_2 hR hi
  exact va_get (D := D) (ci := 10) (C := RX8) (T := TX8) (N := 8) hx hb hts hin hown hK hP q hq rfl 0 (by decide) hlink (fun _ h9 => h9) rfl hdg kk
theorem get_isMade_2 (hx : p.tables.exec = Jvm.exec) (hb : c.code = cc) (hts : ∀ w ∈ Ts, w.before args s = true) (hin : ∀ w ∈ u_ws RX8 TX8 8, w ∈ Ts) (hown : s.vm.findClass own = some m.cls) (hK : va_K D vwCl (gT tA) s) (hP : va_P D vwCl (va_pl L f) H) (hR : Rep tA S ad L f) (hi : V S 2 i) (hlink : (Cond.fieldLink own index (TX8 1).1 (TX8 1).2.1 (TX8 1).2.2.1).before args s = true) (hdg : decode cc pc = .ok (.getfield index, 3))
    (kk : W p l e R s m args below meth c H locs cells slots Q (F0 m (pc + 3) ls (.int (sI S 20 i) :: rest))) : W p l e R s m args below meth c H locs cells slots Q (F0 m pc ls (.ref (ad 2 i) :: rest)) := by
  obtain ⟨q, hq⟩ := cell_2 hR hi
  exact va_get (D := D) (ci := 10) (C := RX8) (T := TX8) (N := 8) hx hb hts hin hown hK hP q hq rfl 1 (by decide) hlink (fun _ h9 => h9) rfl hdg kk
theorem get_family_2 (hx : p.tables.exec = Jvm.exec) (hb : c.code = cc) (hts : ∀ w ∈ Ts, w.before args s = true) (hin : ∀ w ∈ u_ws RX8 TX8 8, w ∈ Ts) (hown : s.vm.findClass own = some m.cls) (hK : va_K D vwCl (gT tA) s) (hP : va_P D vwCl (va_pl L f) H) (hR : Rep tA S ad L f) (hi : V S 2 i) (hlink : (Cond.fieldLink own index (TX8 2).1 (TX8 2).2.1 (TX8 2).2.2.1).before args s = true) (hdg : decode cc pc = .ok (.getfield index, 3))
    (kk : W p l e R s m args below meth c H locs cells slots Q (F0 m (pc + 3) ls (.int (sI S 21 i) :: rest))) : W p l e R s m args below meth c H locs cells slots Q (F0 m pc ls (.ref (ad 2 i) :: rest)) := by
  obtain ⟨q, hq⟩ := cell_2 hR hi
  exact va_get (D := D) (ci := 10) (C := RX8) (T := TX8) (N := 8) hx hb hts hin hown hK hP q hq rfl 2 (by decide) hlink (fun _ h9 => h9) rfl hdg kk
theorem get_components_2 (hx : p.tables.exec = Jvm.exec) (hb : c.code = cc) (hts : ∀ w ∈ Ts, w.before args s = true) (hin : ∀ w ∈ u_ws RX8 TX8 8, w ∈ Ts) (hown : s.vm.findClass own = some m.cls) (hK : va_K D vwCl (gT tA) s) (hP : va_P D vwCl (va_pl L f) H) (hR : Rep tA S ad L f) (hi : V S 2 i) (hlink : (Cond.fieldLink own index (TX8 3).1 (TX8 3).2.1 (TX8 3).2.2.1).before args s = true) (hdg : decode cc pc = .ok (.getfield index, 3))
    (kk : W p l e R s m args below meth c H locs cells slots Q (F0 m (pc + 3) ls (.ref (ad 20 i) :: rest))) : W p l e R s m args below meth c H locs cells slots Q (F0 m pc ls (.ref (ad 2 i) :: rest)) := by
  obtain ⟨q, hq⟩ := cell_2 hR hi
  exact va_get (D := D) (ci := 10) (C := RX8) (T := TX8) (N := 8) hx hb hts hin hown hK hP q hq rfl 3 (by decide) hlink (fun _ h9 => h9) rfl hdg kk
theorem get_operations_2 (hx : p.tables.exec = Jvm.exec) (hb : c.code = cc) (hts : ∀ w ∈ Ts, w.before args s = true) (hin : ∀ w ∈ u_ws RX8 TX8 8, w ∈ Ts) (hown : s.vm.findClass own = some m.cls) (hK : va_K D vwCl (gT tA) s) (hP : va_P D vwCl (va_pl L f) H) (hR : Rep tA S ad L f) (hi : V S 2 i) (hlink : (Cond.fieldLink own index (TX8 4).1 (TX8 4).2.1 (TX8 4).2.2.1).before args s = true) (hdg : decode cc pc = .ok (.getfield index, 3))
    (kk : W p l e R s m args below meth c H locs cells slots Q (F0 m (pc + 3) ls (.ref (ad 21 i) :: rest))) : W p l e R s m args below meth c H locs cells slots Q (F0 m pc ls (.ref (ad 2 i) :: rest)) := by
  obtain ⟨q, hq⟩ := cell_2 hR hi
  exact va_get (D := D) (ci := 10) (C := RX8) (T := TX8) (N := 8) hx hb hts hin hown hK hP q hq rfl 4 (by decide) hlink (fun _ h9 => h9) rfl hdg kk
theorem get_chart_2 (hx : p.tables.exec = Jvm.exec) (hb : c.code = cc) (hts : ∀ w ∈ Ts, w.before args s = true) (hin : ∀ w ∈ u_ws RX8 TX8 8, w ∈ Ts) (hown : s.vm.findClass own = some m.cls) (hK : va_K D vwCl (gT tA) s) (hP : va_P D vwCl (va_pl L f) H) (hR : Rep tA S ad L f) (hi : V S 2 i) (hlink : (Cond.fieldLink own index (TX8 5).1 (TX8 5).2.1 (TX8 5).2.2.1).before args s = true) (hdg : decode cc pc = .ok (.getfield index, 3))
    (kk : W p l e R s m args below meth c H locs cells slots Q (F0 m (pc + 3) ls (.ref (ad 3 i) :: rest))) : W p l e R s m args below meth c H locs cells slots Q (F0 m pc ls (.ref (ad 2 i) :: rest)) := by
  obtain ⟨q, hq⟩ := cell_2 hR hi
  exact va_get (D := D) (ci := 10) (C := RX8) (T := TX8) (N := 8) hx hb hts hin hown hK hP q hq rfl 5 (by decide) hlink (fun _ h9 => h9) rfl hdg kk
theorem get_componentCount_2 (hx : p.tables.exec = Jvm.exec) (hb : c.code = cc) (hts : ∀ w ∈ Ts, w.before args s = true) (hin : ∀ w ∈ u_ws RX8 TX8 8, w ∈ Ts) (hown : s.vm.findClass own = some m.cls) (hK : va_K D vwCl (gT tA) s) (hP : va_P D vwCl (va_pl L f) H) (hR : Rep tA S ad L f) (hi : V S 2 i) (hlink : (Cond.fieldLink own index (TX8 6).1 (TX8 6).2.1 (TX8 6).2.2.1).before args s = true) (hdg : decode cc pc = .ok (.getfield index, 3))
    (kk : W p l e R s m args below meth c H locs cells slots Q (F0 m (pc + 3) ls (.int (nI (sN S 4 i)) :: rest))) : W p l e R s m args below meth c H locs cells slots Q (F0 m pc ls (.ref (ad 2 i) :: rest)) := by
  obtain ⟨q, hq⟩ := cell_2 hR hi
  exact va_get (D := D) (ci := 10) (C := RX8) (T := TX8) (N := 8) hx hb hts hin hown hK hP q hq rfl 6 (by decide) hlink (fun _ h9 => h9) rfl hdg kk
theorem get_operationCount_2 (hx : p.tables.exec = Jvm.exec) (hb : c.code = cc) (hts : ∀ w ∈ Ts, w.before args s = true) (hin : ∀ w ∈ u_ws RX8 TX8 8, w ∈ Ts) (hown : s.vm.findClass own = some m.cls) (hK : va_K D vwCl (gT tA) s) (hP : va_P D vwCl (va_pl L f) H) (hR : Rep tA S ad L f) (hi : V S 2 i) (hlink : (Cond.fieldLink own index (TX8 7).1 (TX8 7).2.1 (TX8 7).2.2.1).before args s = true) (hdg : decode cc pc = .ok (.getfield index, 3))
    (kk : W p l e R s m args below meth c H locs cells slots Q (F0 m (pc + 3) ls (.int (nI (sN S 5 i)) :: rest))) : W p l e R s m args below meth c H locs cells slots Q (F0 m pc ls (.ref (ad 2 i) :: rest)) := by
  obtain ⟨q, hq⟩ := cell_2 hR hi
  exact va_get (D := D) (ci := 10) (C := RX8) (T := TX8) (N := 8) hx hb hts hin hown hK hP q hq rfl 7 (by decide) hlink (fun _ h9 => h9) rfl hdg kk
theorem cell_3 (h : Rep tA S ad L f) (hi : V S 3 i) : ∃ q : Nat, (va_pl L f)[q]? = some (ad 3 i, .inr (2, [.int (sI S 22 i), .int (sI S 23 i), .int (sI S 24 i), .int (sI S 25 i), .int (sI S 26 i)])) := h.get (k := 3) hi
theorem get_centre_3 (hx : p.tables.exec = Jvm.exec) (hb : c.code = cc) (hts : ∀ w ∈ Ts, w.before args s = true) (hin : ∀ w ∈ u_ws RX0 TX0 5, w ∈ Ts) (hown : s.vm.findClass own = some m.cls) (hK : va_K D vwCl (gT tA) s) (hP : va_P D vwCl (va_pl L f) H) (hR : Rep tA S ad L f) (hi : V S 3 i) (hlink : (Cond.fieldLink own index (TX0 0).1 (TX0 0).2.1 (TX0 0).2.2.1).before args s = true) (hdg : decode cc pc = .ok (.getfield index, 3))
    (kk : W p l e R s m args below meth c H locs cells slots Q (F0 m (pc + 3) ls (.int (sI S 22 i) :: rest))) : W p l e R s m args below meth c H locs cells slots Q (F0 m pc ls (.ref (ad 3 i) :: rest)) := by
  obtain ⟨q, hq⟩ := cell_3 hR hi
  exact va_get (D := D) (ci := 2) (C := RX0) (T := TX0) (N := 5) hx hb hts hin hown hK hP q hq rfl 0 (by decide) hlink (fun _ h9 => h9) rfl hdg kk
theorem get_width_3 (hx : p.tables.exec = Jvm.exec) (hb : c.code = cc) (hts : ∀ w ∈ Ts, w.before args s = true) (hin : ∀ w ∈ u_ws RX0 TX0 5, w ∈ Ts) (hown : s.vm.findClass own = some m.cls) (hK : va_K D vwCl (gT tA) s) (hP : va_P D vwCl (va_pl L f) H) (hR : Rep tA S ad L f) (hi : V S 3 i) (hlink : (Cond.fieldLink own index (TX0 1).1 (TX0 1).2.1 (TX0 1).2.2.1).before args s = true) (hdg : decode cc pc = .ok (.getfield index, 3))
    (kk : W p l e R s m args below meth c H locs cells slots Q (F0 m (pc + 3) ls (.int (sI S 23 i) :: rest))) : W p l e R s m args below meth c H locs cells slots Q (F0 m pc ls (.ref (ad 3 i) :: rest)) := by
  obtain ⟨q, hq⟩ := cell_3 hR hi
  exact va_get (D := D) (ci := 2) (C := RX0) (T := TX0) (N := 5) hx hb hts hin hown hK hP q hq rfl 1 (by decide) hlink (fun _ h9 => h9) rfl hdg kk
theorem get_side_3 (hx : p.tables.exec = Jvm.exec) (hb : c.code = cc) (hts : ∀ w ∈ Ts, w.before args s = true) (hin : ∀ w ∈ u_ws RX0 TX0 5, w ∈ Ts) (hown : s.vm.findClass own = some m.cls) (hK : va_K D vwCl (gT tA) s) (hP : va_P D vwCl (va_pl L f) H) (hR : Rep tA S ad L f) (hi : V S 3 i) (hlink : (Cond.fieldLink own index (TX0 2).1 (TX0 2).2.1 (TX0 2).2.2.1).before args s = true) (hdg : decode cc pc = .ok (.getfield index, 3))
    (kk : W p l e R s m args below meth c H locs cells slots Q (F0 m (pc + 3) ls (.int (sI S 24 i) :: rest))) : W p l e R s m args below meth c H locs cells slots Q (F0 m pc ls (.ref (ad 3 i) :: rest)) := by
  obtain ⟨q, hq⟩ := cell_3 hR hi
  exact va_get (D := D) (ci := 2) (C := RX0) (T := TX0) (N := 5) hx hb hts hin hown hK hP q hq rfl 2 (by decide) hlink (fun _ h9 => h9) rfl hdg kk
theorem get_row_3 (hx : p.tables.exec = Jvm.exec) (hb : c.code = cc) (hts : ∀ w ∈ Ts, w.before args s = true) (hin : ∀ w ∈ u_ws RX0 TX0 5, w ∈ Ts) (hown : s.vm.findClass own = some m.cls) (hK : va_K D vwCl (gT tA) s) (hP : va_P D vwCl (va_pl L f) H) (hR : Rep tA S ad L f) (hi : V S 3 i) (hlink : (Cond.fieldLink own index (TX0 3).1 (TX0 3).2.1 (TX0 3).2.2.1).before args s = true) (hdg : decode cc pc = .ok (.getfield index, 3))
    (kk : W p l e R s m args below meth c H locs cells slots Q (F0 m (pc + 3) ls (.int (sI S 25 i) :: rest))) : W p l e R s m args below meth c H locs cells slots Q (F0 m pc ls (.ref (ad 3 i) :: rest)) := by
  obtain ⟨q, hq⟩ := cell_3 hR hi
  exact va_get (D := D) (ci := 2) (C := RX0) (T := TX0) (N := 5) hx hb hts hin hown hK hP q hq rfl 3 (by decide) hlink (fun _ h9 => h9) rfl hdg kk
theorem get_measured_3 (hx : p.tables.exec = Jvm.exec) (hb : c.code = cc) (hts : ∀ w ∈ Ts, w.before args s = true) (hin : ∀ w ∈ u_ws RX0 TX0 5, w ∈ Ts) (hown : s.vm.findClass own = some m.cls) (hK : va_K D vwCl (gT tA) s) (hP : va_P D vwCl (va_pl L f) H) (hR : Rep tA S ad L f) (hi : V S 3 i) (hlink : (Cond.fieldLink own index (TX0 4).1 (TX0 4).2.1 (TX0 4).2.2.1).before args s = true) (hdg : decode cc pc = .ok (.getfield index, 3))
    (kk : W p l e R s m args below meth c H locs cells slots Q (F0 m (pc + 3) ls (.int (sI S 26 i) :: rest))) : W p l e R s m args below meth c H locs cells slots Q (F0 m pc ls (.ref (ad 3 i) :: rest)) := by
  obtain ⟨q, hq⟩ := cell_3 hR hi
  exact va_get (D := D) (ci := 2) (C := RX0) (T := TX0) (N := 5) hx hb hts hin hown hK hP q hq rfl 4 (by decide) hlink (fun _ h9 => h9) rfl hdg kk
theorem cell_4 (h : Rep tA S ad L f) (hi : V S 4 i) : ∃ q : Nat, (va_pl L f)[q]? = some (ad 4 i, .inr (3, [.ref (ad 2 (sN S 8 i)), .int (sI S 30 i), .int (sI S 31 i)])) := h.get (k := 4) hi
theorem get_part_4 (hx : p.tables.exec = Jvm.exec) (hb : c.code = cc) (hts : ∀ w ∈ Ts, w.before args s = true) (hin : ∀ w ∈ u_ws RX1 TX1 3, w ∈ Ts) (hown : s.vm.findClass own = some m.cls) (hK : va_K D vwCl (gT tA) s) (hP : va_P D vwCl (va_pl L f) H) (hR : Rep tA S ad L f) (hi : V S 4 i) (hlink : (Cond.fieldLink own index (TX1 0).1 (TX1 0).2.1 (TX1 0).2.2.1).before args s = true) (hdg : decode cc pc = .ok (.getfield index, 3))
    (kk : W p l e R s m args below meth c H locs cells slots Q (F0 m (pc + 3) ls (.ref (ad 2 (sN S 8 i)) :: rest))) : W p l e R s m args below meth c H locs cells slots Q (F0 m pc ls (.ref (ad 4 i) :: rest)) := by
  obtain ⟨q, hq⟩ := cell_4 hR hi
  exact va_get (D := D) (ci := 3) (C := RX1) (T := TX1) (N := 3) hx hb hts hin hown hK hP q hq rfl 0 (by decide) hlink (fun _ h9 => h9) rfl hdg kk
theorem get_pieces_4 (hx : p.tables.exec = Jvm.exec) (hb : c.code = cc) (hts : ∀ w ∈ Ts, w.before args s = true) (hin : ∀ w ∈ u_ws RX1 TX1 3, w ∈ Ts) (hown : s.vm.findClass own = some m.cls) (hK : va_K D vwCl (gT tA) s) (hP : va_P D vwCl (va_pl L f) H) (hR : Rep tA S ad L f) (hi : V S 4 i) (hlink : (Cond.fieldLink own index (TX1 1).1 (TX1 1).2.1 (TX1 1).2.2.1).before args s = true) (hdg : decode cc pc = .ok (.getfield index, 3))
    (kk : W p l e R s m args below meth c H locs cells slots Q (F0 m (pc + 3) ls (.int (sI S 30 i) :: rest))) : W p l e R s m args below meth c H locs cells slots Q (F0 m pc ls (.ref (ad 4 i) :: rest)) := by
  obtain ⟨q, hq⟩ := cell_4 hR hi
  exact va_get (D := D) (ci := 3) (C := RX1) (T := TX1) (N := 3) hx hb hts hin hown hK hP q hq rfl 1 (by decide) hlink (fun _ h9 => h9) rfl hdg kk
theorem get_option_4 (hx : p.tables.exec = Jvm.exec) (hb : c.code = cc) (hts : ∀ w ∈ Ts, w.before args s = true) (hin : ∀ w ∈ u_ws RX1 TX1 3, w ∈ Ts) (hown : s.vm.findClass own = some m.cls) (hK : va_K D vwCl (gT tA) s) (hP : va_P D vwCl (va_pl L f) H) (hR : Rep tA S ad L f) (hi : V S 4 i) (hlink : (Cond.fieldLink own index (TX1 2).1 (TX1 2).2.1 (TX1 2).2.2.1).before args s = true) (hdg : decode cc pc = .ok (.getfield index, 3))
    (kk : W p l e R s m args below meth c H locs cells slots Q (F0 m (pc + 3) ls (.int (sI S 31 i) :: rest))) : W p l e R s m args below meth c H locs cells slots Q (F0 m pc ls (.ref (ad 4 i) :: rest)) := by
  obtain ⟨q, hq⟩ := cell_4 hR hi
  exact va_get (D := D) (ci := 3) (C := RX1) (T := TX1) (N := 3) hx hb hts hin hown hK hP q hq rfl 2 (by decide) hlink (fun _ h9 => h9) rfl hdg kk
theorem cell_5 (h : Rep tA S ad L f) (hi : V S 5 i) : ∃ q : Nat, (va_pl L f)[q]? = some (ad 5 i, .inr (8, [.ref (ad 1 (sN S 9 i)), rf ad 1 (sR S 2 i), .int (sI S 32 i)])) := h.get (k := 5) hi
theorem get_machine_5 (hx : p.tables.exec = Jvm.exec) (hb : c.code = cc) (hts : ∀ w ∈ Ts, w.before args s = true) (hin : ∀ w ∈ u_ws RX6 TX6 3, w ∈ Ts) (hown : s.vm.findClass own = some m.cls) (hK : va_K D vwCl (gT tA) s) (hP : va_P D vwCl (va_pl L f) H) (hR : Rep tA S ad L f) (hi : V S 5 i) (hlink : (Cond.fieldLink own index (TX6 0).1 (TX6 0).2.1 (TX6 0).2.2.1).before args s = true) (hdg : decode cc pc = .ok (.getfield index, 3))
    (kk : W p l e R s m args below meth c H locs cells slots Q (F0 m (pc + 3) ls (.ref (ad 1 (sN S 9 i)) :: rest))) : W p l e R s m args below meth c H locs cells slots Q (F0 m pc ls (.ref (ad 5 i) :: rest)) := by
  obtain ⟨q, hq⟩ := cell_5 hR hi
  exact va_get (D := D) (ci := 8) (C := RX6) (T := TX6) (N := 3) hx hb hts hin hown hK hP q hq rfl 0 (by decide) hlink (fun _ h9 => h9) rfl hdg kk
theorem get_alternative_5 (hx : p.tables.exec = Jvm.exec) (hb : c.code = cc) (hts : ∀ w ∈ Ts, w.before args s = true) (hin : ∀ w ∈ u_ws RX6 TX6 3, w ∈ Ts) (hown : s.vm.findClass own = some m.cls) (hK : va_K D vwCl (gT tA) s) (hP : va_P D vwCl (va_pl L f) H) (hR : Rep tA S ad L f) (hi : V S 5 i) (hlink : (Cond.fieldLink own index (TX6 1).1 (TX6 1).2.1 (TX6 1).2.2.1).before args s = true) (hdg : decode cc pc = .ok (.getfield index, 3))
    (kk : W p l e R s m args below meth c H locs cells slots Q (F0 m (pc + 3) ls (rf ad 1 (sR S 2 i) :: rest))) : W p l e R s m args below meth c H locs cells slots Q (F0 m pc ls (.ref (ad 5 i) :: rest)) := by
  obtain ⟨q, hq⟩ := cell_5 hR hi
  exact va_get (D := D) (ci := 8) (C := RX6) (T := TX6) (N := 3) hx hb hts hin hown hK hP q hq rfl 1 (by decide) hlink (fun _ h9 => h9) rfl hdg kk
theorem get_time_5 (hx : p.tables.exec = Jvm.exec) (hb : c.code = cc) (hts : ∀ w ∈ Ts, w.before args s = true) (hin : ∀ w ∈ u_ws RX6 TX6 3, w ∈ Ts) (hown : s.vm.findClass own = some m.cls) (hK : va_K D vwCl (gT tA) s) (hP : va_P D vwCl (va_pl L f) H) (hR : Rep tA S ad L f) (hi : V S 5 i) (hlink : (Cond.fieldLink own index (TX6 2).1 (TX6 2).2.1 (TX6 2).2.2.1).before args s = true) (hdg : decode cc pc = .ok (.getfield index, 3))
    (kk : W p l e R s m args below meth c H locs cells slots Q (F0 m (pc + 3) ls (.int (sI S 32 i) :: rest))) : W p l e R s m args below meth c H locs cells slots Q (F0 m pc ls (.ref (ad 5 i) :: rest)) := by
  obtain ⟨q, hq⟩ := cell_5 hR hi
  exact va_get (D := D) (ci := 8) (C := RX6) (T := TX6) (N := 3) hx hb hts hin hown hK hP q hq rfl 2 (by decide) hlink (fun _ h9 => h9) rfl hdg kk
theorem cell_6 (h : Rep tA S ad L f) (hi : V S 6 i) : ∃ q : Nat, (va_pl L f)[q]? = some (ad 6 i, .inr (11, [.int (sI S 33 i), .int (sI S 34 i), .int (sI S 35 i)])) := h.get (k := 6) hi
theorem get_rule_6 (hx : p.tables.exec = Jvm.exec) (hb : c.code = cc) (hts : ∀ w ∈ Ts, w.before args s = true) (hin : ∀ w ∈ u_ws RX9 TX9 3, w ∈ Ts) (hown : s.vm.findClass own = some m.cls) (hK : va_K D vwCl (gT tA) s) (hP : va_P D vwCl (va_pl L f) H) (hR : Rep tA S ad L f) (hi : V S 6 i) (hlink : (Cond.fieldLink own index (TX9 0).1 (TX9 0).2.1 (TX9 0).2.2.1).before args s = true) (hdg : decode cc pc = .ok (.getfield index, 3))
    (kk : W p l e R s m args below meth c H locs cells slots Q (F0 m (pc + 3) ls (.int (sI S 33 i) :: rest))) : W p l e R s m args below meth c H locs cells slots Q (F0 m pc ls (.ref (ad 6 i) :: rest)) := by
  obtain ⟨q, hq⟩ := cell_6 hR hi
  exact va_get (D := D) (ci := 11) (C := RX9) (T := TX9) (N := 3) hx hb hts hin hown hK hP q hq rfl 0 (by decide) hlink (fun _ h9 => h9) rfl hdg kk
theorem get_refusals_6 (hx : p.tables.exec = Jvm.exec) (hb : c.code = cc) (hts : ∀ w ∈ Ts, w.before args s = true) (hin : ∀ w ∈ u_ws RX9 TX9 3, w ∈ Ts) (hown : s.vm.findClass own = some m.cls) (hK : va_K D vwCl (gT tA) s) (hP : va_P D vwCl (va_pl L f) H) (hR : Rep tA S ad L f) (hi : V S 6 i) (hlink : (Cond.fieldLink own index (TX9 1).1 (TX9 1).2.1 (TX9 1).2.2.1).before args s = true) (hdg : decode cc pc = .ok (.getfield index, 3))
    (kk : W p l e R s m args below meth c H locs cells slots Q (F0 m (pc + 3) ls (.int (sI S 34 i) :: rest))) : W p l e R s m args below meth c H locs cells slots Q (F0 m pc ls (.ref (ad 6 i) :: rest)) := by
  obtain ⟨q, hq⟩ := cell_6 hR hi
  exact va_get (D := D) (ci := 11) (C := RX9) (T := TX9) (N := 3) hx hb hts hin hown hK hP q hq rfl 1 (by decide) hlink (fun _ h9 => h9) rfl hdg kk
theorem get_seen_6 (hx : p.tables.exec = Jvm.exec) (hb : c.code = cc) (hts : ∀ w ∈ Ts, w.before args s = true) (hin : ∀ w ∈ u_ws RX9 TX9 3, w ∈ Ts) (hown : s.vm.findClass own = some m.cls) (hK : va_K D vwCl (gT tA) s) (hP : va_P D vwCl (va_pl L f) H) (hR : Rep tA S ad L f) (hi : V S 6 i) (hlink : (Cond.fieldLink own index (TX9 2).1 (TX9 2).2.1 (TX9 2).2.2.1).before args s = true) (hdg : decode cc pc = .ok (.getfield index, 3))
    (kk : W p l e R s m args below meth c H locs cells slots Q (F0 m (pc + 3) ls (.int (sI S 35 i) :: rest))) : W p l e R s m args below meth c H locs cells slots Q (F0 m pc ls (.ref (ad 6 i) :: rest)) := by
  obtain ⟨q, hq⟩ := cell_6 hR hi
  exact va_get (D := D) (ci := 11) (C := RX9) (T := TX9) (N := 3) hx hb hts hin hown hK hP q hq rfl 2 (by decide) hlink (fun _ h9 => h9) rfl hdg kk
theorem cell_7 (h : Rep tA S ad L f) (hi : V S 7 i) : ∃ q : Nat, (va_pl L f)[q]? = some (ad 7 i, .inr (5, [.int (nI i), .ref (ad 2 (sN S 6 i)), .int (sI S 40 i), .ref (ad 8 i), .ref (ad 9 i), .ref (ad 10 i), .int (sI S 41 i), .int (sI S 42 i), .int (sI S 43 i), .long (sJ S 3 i)])) := h.get (k := 7) hi
theorem get_number_7 (hx : p.tables.exec = Jvm.exec) (hb : c.code = cc) (hts : ∀ w ∈ Ts, w.before args s = true) (hin : ∀ w ∈ u_ws RX3 TX3 10, w ∈ Ts) (hown : s.vm.findClass own = some m.cls) (hK : va_K D vwCl (gT tA) s) (hP : va_P D vwCl (va_pl L f) H) (hR : Rep tA S ad L f) (hi : V S 7 i) (hlink : (Cond.fieldLink own index (TX3 0).1 (TX3 0).2.1 (TX3 0).2.2.1).before args s = true) (hdg : decode cc pc = .ok (.getfield index, 3))
    (kk : W p l e R s m args below meth c H locs cells slots Q (F0 m (pc + 3) ls (.int (nI i) :: rest))) : W p l e R s m args below meth c H locs cells slots Q (F0 m pc ls (.ref (ad 7 i) :: rest)) := by
  obtain ⟨q, hq⟩ := cell_7 hR hi
  exact va_get (D := D) (ci := 5) (C := RX3) (T := TX3) (N := 10) hx hb hts hin hown hK hP q hq rfl 0 (by decide) hlink (fun _ h9 => h9) rfl hdg kk
theorem get_part_7 (hx : p.tables.exec = Jvm.exec) (hb : c.code = cc) (hts : ∀ w ∈ Ts, w.before args s = true) (hin : ∀ w ∈ u_ws RX3 TX3 10, w ∈ Ts) (hown : s.vm.findClass own = some m.cls) (hK : va_K D vwCl (gT tA) s) (hP : va_P D vwCl (va_pl L f) H) (hR : Rep tA S ad L f) (hi : V S 7 i) (hlink : (Cond.fieldLink own index (TX3 1).1 (TX3 1).2.1 (TX3 1).2.2.1).before args s = true) (hdg : decode cc pc = .ok (.getfield index, 3))
    (kk : W p l e R s m args below meth c H locs cells slots Q (F0 m (pc + 3) ls (.ref (ad 2 (sN S 6 i)) :: rest))) : W p l e R s m args below meth c H locs cells slots Q (F0 m pc ls (.ref (ad 7 i) :: rest)) := by
  obtain ⟨q, hq⟩ := cell_7 hR hi
  exact va_get (D := D) (ci := 5) (C := RX3) (T := TX3) (N := 10) hx hb hts hin hown hK hP q hq rfl 1 (by decide) hlink (fun _ h9 => h9) rfl hdg kk
theorem get_quantity_7 (hx : p.tables.exec = Jvm.exec) (hb : c.code = cc) (hts : ∀ w ∈ Ts, w.before args s = true) (hin : ∀ w ∈ u_ws RX3 TX3 10, w ∈ Ts) (hown : s.vm.findClass own = some m.cls) (hK : va_K D vwCl (gT tA) s) (hP : va_P D vwCl (va_pl L f) H) (hR : Rep tA S ad L f) (hi : V S 7 i) (hlink : (Cond.fieldLink own index (TX3 2).1 (TX3 2).2.1 (TX3 2).2.2.1).before args s = true) (hdg : decode cc pc = .ok (.getfield index, 3))
    (kk : W p l e R s m args below meth c H locs cells slots Q (F0 m (pc + 3) ls (.int (sI S 40 i) :: rest))) : W p l e R s m args below meth c H locs cells slots Q (F0 m pc ls (.ref (ad 7 i) :: rest)) := by
  obtain ⟨q, hq⟩ := cell_7 hR hi
  exact va_get (D := D) (ci := 5) (C := RX3) (T := TX3) (N := 10) hx hb hts hin hown hK hP q hq rfl 2 (by decide) hlink (fun _ h9 => h9) rfl hdg kk
theorem get_inside_7 (hx : p.tables.exec = Jvm.exec) (hb : c.code = cc) (hts : ∀ w ∈ Ts, w.before args s = true) (hin : ∀ w ∈ u_ws RX3 TX3 10, w ∈ Ts) (hown : s.vm.findClass own = some m.cls) (hK : va_K D vwCl (gT tA) s) (hP : va_P D vwCl (va_pl L f) H) (hR : Rep tA S ad L f) (hi : V S 7 i) (hlink : (Cond.fieldLink own index (TX3 3).1 (TX3 3).2.1 (TX3 3).2.2.1).before args s = true) (hdg : decode cc pc = .ok (.getfield index, 3))
    (kk : W p l e R s m args below meth c H locs cells slots Q (F0 m (pc + 3) ls (.ref (ad 8 i) :: rest))) : W p l e R s m args below meth c H locs cells slots Q (F0 m pc ls (.ref (ad 7 i) :: rest)) := by
  obtain ⟨q, hq⟩ := cell_7 hR hi
  exact va_get (D := D) (ci := 5) (C := RX3) (T := TX3) (N := 10) hx hb hts hin hown hK hP q hq rfl 3 (by decide) hlink (fun _ h9 => h9) rfl hdg kk
theorem get_intoLots_7 (hx : p.tables.exec = Jvm.exec) (hb : c.code = cc) (hts : ∀ w ∈ Ts, w.before args s = true) (hin : ∀ w ∈ u_ws RX3 TX3 10, w ∈ Ts) (hown : s.vm.findClass own = some m.cls) (hK : va_K D vwCl (gT tA) s) (hP : va_P D vwCl (va_pl L f) H) (hR : Rep tA S ad L f) (hi : V S 7 i) (hlink : (Cond.fieldLink own index (TX3 4).1 (TX3 4).2.1 (TX3 4).2.2.1).before args s = true) (hdg : decode cc pc = .ok (.getfield index, 3))
    (kk : W p l e R s m args below meth c H locs cells slots Q (F0 m (pc + 3) ls (.ref (ad 9 i) :: rest))) : W p l e R s m args below meth c H locs cells slots Q (F0 m pc ls (.ref (ad 7 i) :: rest)) := by
  obtain ⟨q, hq⟩ := cell_7 hR hi
  exact va_get (D := D) (ci := 5) (C := RX3) (T := TX3) (N := 10) hx hb hts hin hown hK hP q hq rfl 4 (by decide) hlink (fun _ h9 => h9) rfl hdg kk
theorem get_intoOrders_7 (hx : p.tables.exec = Jvm.exec) (hb : c.code = cc) (hts : ∀ w ∈ Ts, w.before args s = true) (hin : ∀ w ∈ u_ws RX3 TX3 10, w ∈ Ts) (hown : s.vm.findClass own = some m.cls) (hK : va_K D vwCl (gT tA) s) (hP : va_P D vwCl (va_pl L f) H) (hR : Rep tA S ad L f) (hi : V S 7 i) (hlink : (Cond.fieldLink own index (TX3 5).1 (TX3 5).2.1 (TX3 5).2.2.1).before args s = true) (hdg : decode cc pc = .ok (.getfield index, 3))
    (kk : W p l e R s m args below meth c H locs cells slots Q (F0 m (pc + 3) ls (.ref (ad 10 i) :: rest))) : W p l e R s m args below meth c H locs cells slots Q (F0 m pc ls (.ref (ad 7 i) :: rest)) := by
  obtain ⟨q, hq⟩ := cell_7 hR hi
  exact va_get (D := D) (ci := 5) (C := RX3) (T := TX3) (N := 10) hx hb hts hin hown hK hP q hq rfl 5 (by decide) hlink (fun _ h9 => h9) rfl hdg kk
theorem get_rest_7 (hx : p.tables.exec = Jvm.exec) (hb : c.code = cc) (hts : ∀ w ∈ Ts, w.before args s = true) (hin : ∀ w ∈ u_ws RX3 TX3 10, w ∈ Ts) (hown : s.vm.findClass own = some m.cls) (hK : va_K D vwCl (gT tA) s) (hP : va_P D vwCl (va_pl L f) H) (hR : Rep tA S ad L f) (hi : V S 7 i) (hlink : (Cond.fieldLink own index (TX3 6).1 (TX3 6).2.1 (TX3 6).2.2.1).before args s = true) (hdg : decode cc pc = .ok (.getfield index, 3))
    (kk : W p l e R s m args below meth c H locs cells slots Q (F0 m (pc + 3) ls (.int (sI S 41 i) :: rest))) : W p l e R s m args below meth c H locs cells slots Q (F0 m pc ls (.ref (ad 7 i) :: rest)) := by
  obtain ⟨q, hq⟩ := cell_7 hR hi
  exact va_get (D := D) (ci := 5) (C := RX3) (T := TX3) (N := 10) hx hb hts hin hown hK hP q hq rfl 6 (by decide) hlink (fun _ h9 => h9) rfl hdg kk
theorem get_reserved_7 (hx : p.tables.exec = Jvm.exec) (hb : c.code = cc) (hts : ∀ w ∈ Ts, w.before args s = true) (hin : ∀ w ∈ u_ws RX3 TX3 10, w ∈ Ts) (hown : s.vm.findClass own = some m.cls) (hK : va_K D vwCl (gT tA) s) (hP : va_P D vwCl (va_pl L f) H) (hR : Rep tA S ad L f) (hi : V S 7 i) (hlink : (Cond.fieldLink own index (TX3 7).1 (TX3 7).2.1 (TX3 7).2.2.1).before args s = true) (hdg : decode cc pc = .ok (.getfield index, 3))
    (kk : W p l e R s m args below meth c H locs cells slots Q (F0 m (pc + 3) ls (.int (sI S 42 i) :: rest))) : W p l e R s m args below meth c H locs cells slots Q (F0 m pc ls (.ref (ad 7 i) :: rest)) := by
  obtain ⟨q, hq⟩ := cell_7 hR hi
  exact va_get (D := D) (ci := 5) (C := RX3) (T := TX3) (N := 10) hx hb hts hin hown hK hP q hq rfl 7 (by decide) hlink (fun _ h9 => h9) rfl hdg kk
theorem get_delivered_7 (hx : p.tables.exec = Jvm.exec) (hb : c.code = cc) (hts : ∀ w ∈ Ts, w.before args s = true) (hin : ∀ w ∈ u_ws RX3 TX3 10, w ∈ Ts) (hown : s.vm.findClass own = some m.cls) (hK : va_K D vwCl (gT tA) s) (hP : va_P D vwCl (va_pl L f) H) (hR : Rep tA S ad L f) (hi : V S 7 i) (hlink : (Cond.fieldLink own index (TX3 8).1 (TX3 8).2.1 (TX3 8).2.2.1).before args s = true) (hdg : decode cc pc = .ok (.getfield index, 3))
    (kk : W p l e R s m args below meth c H locs cells slots Q (F0 m (pc + 3) ls (.int (sI S 43 i) :: rest))) : W p l e R s m args below meth c H locs cells slots Q (F0 m pc ls (.ref (ad 7 i) :: rest)) := by
  obtain ⟨q, hq⟩ := cell_7 hR hi
  exact va_get (D := D) (ci := 5) (C := RX3) (T := TX3) (N := 10) hx hb hts hin hown hK hP q hq rfl 8 (by decide) hlink (fun _ h9 => h9) rfl hdg kk
theorem get_cost_7 (hx : p.tables.exec = Jvm.exec) (hb : c.code = cc) (hts : ∀ w ∈ Ts, w.before args s = true) (hin : ∀ w ∈ u_ws RX3 TX3 10, w ∈ Ts) (hown : s.vm.findClass own = some m.cls) (hK : va_K D vwCl (gT tA) s) (hP : va_P D vwCl (va_pl L f) H) (hR : Rep tA S ad L f) (hi : V S 7 i) (hlink : (Cond.fieldLink own index (TX3 9).1 (TX3 9).2.1 (TX3 9).2.2.1).before args s = true) (hdg : decode cc pc = .ok (.getfield index, 3))
    (kk : W p l e R s m args below meth c H locs cells slots Q (F0 m (pc + 3) ls (.long (sJ S 3 i) :: rest))) : W p l e R s m args below meth c H locs cells slots Q (F0 m pc ls (.ref (ad 7 i) :: rest)) := by
  obtain ⟨q, hq⟩ := cell_7 hR hi
  exact va_get (D := D) (ci := 5) (C := RX3) (T := TX3) (N := 10) hx hb hts hin hown hK hP q hq rfl 9 (by decide) hlink (fun _ h9 => h9) rfl hdg kk
theorem cell_8 (h : Rep tA S ad L f) (hi : V S 8 i) : ∃ q : Nat, (va_pl L f)[q]? = some (ad 8 i, .inr (7, [.long (sJ S 16 i), .long (sJ S 17 i)])) := h.get (k := 8) hi
theorem get_low_8 (hx : p.tables.exec = Jvm.exec) (hb : c.code = cc) (hts : ∀ w ∈ Ts, w.before args s = true) (hin : ∀ w ∈ u_ws RX5 TX5 2, w ∈ Ts) (hown : s.vm.findClass own = some m.cls) (hK : va_K D vwCl (gT tA) s) (hP : va_P D vwCl (va_pl L f) H) (hR : Rep tA S ad L f) (hi : V S 8 i) (hlink : (Cond.fieldLink own index (TX5 0).1 (TX5 0).2.1 (TX5 0).2.2.1).before args s = true) (hdg : decode cc pc = .ok (.getfield index, 3))
    (kk : W p l e R s m args below meth c H locs cells slots Q (F0 m (pc + 3) ls (.long (sJ S 16 i) :: rest))) : W p l e R s m args below meth c H locs cells slots Q (F0 m pc ls (.ref (ad 8 i) :: rest)) := by
  obtain ⟨q, hq⟩ := cell_8 hR hi
  exact va_get (D := D) (ci := 7) (C := RX5) (T := TX5) (N := 2) hx hb hts hin hown hK hP q hq rfl 0 (by decide) hlink (fun _ h9 => h9) rfl hdg kk
theorem get_high_8 (hx : p.tables.exec = Jvm.exec) (hb : c.code = cc) (hts : ∀ w ∈ Ts, w.before args s = true) (hin : ∀ w ∈ u_ws RX5 TX5 2, w ∈ Ts) (hown : s.vm.findClass own = some m.cls) (hK : va_K D vwCl (gT tA) s) (hP : va_P D vwCl (va_pl L f) H) (hR : Rep tA S ad L f) (hi : V S 8 i) (hlink : (Cond.fieldLink own index (TX5 1).1 (TX5 1).2.1 (TX5 1).2.2.1).before args s = true) (hdg : decode cc pc = .ok (.getfield index, 3))
    (kk : W p l e R s m args below meth c H locs cells slots Q (F0 m (pc + 3) ls (.long (sJ S 17 i) :: rest))) : W p l e R s m args below meth c H locs cells slots Q (F0 m pc ls (.ref (ad 8 i) :: rest)) := by
  obtain ⟨q, hq⟩ := cell_8 hR hi
  exact va_get (D := D) (ci := 7) (C := RX5) (T := TX5) (N := 2) hx hb hts hin hown hK hP q hq rfl 1 (by decide) hlink (fun _ h9 => h9) rfl hdg kk
theorem cell_9 (h : Rep tA S ad L f) (hi : V S 9 i) : ∃ q : Nat, (va_pl L f)[q]? = some (ad 9 i, .inr (7, [.long (sJ S 18 i), .long (sJ S 19 i)])) := h.get (k := 9) hi
theorem get_low_9 (hx : p.tables.exec = Jvm.exec) (hb : c.code = cc) (hts : ∀ w ∈ Ts, w.before args s = true) (hin : ∀ w ∈ u_ws RX5 TX5 2, w ∈ Ts) (hown : s.vm.findClass own = some m.cls) (hK : va_K D vwCl (gT tA) s) (hP : va_P D vwCl (va_pl L f) H) (hR : Rep tA S ad L f) (hi : V S 9 i) (hlink : (Cond.fieldLink own index (TX5 0).1 (TX5 0).2.1 (TX5 0).2.2.1).before args s = true) (hdg : decode cc pc = .ok (.getfield index, 3))
    (kk : W p l e R s m args below meth c H locs cells slots Q (F0 m (pc + 3) ls (.long (sJ S 18 i) :: rest))) : W p l e R s m args below meth c H locs cells slots Q (F0 m pc ls (.ref (ad 9 i) :: rest)) := by
  obtain ⟨q, hq⟩ := cell_9 hR hi
  exact va_get (D := D) (ci := 7) (C := RX5) (T := TX5) (N := 2) hx hb hts hin hown hK hP q hq rfl 0 (by decide) hlink (fun _ h9 => h9) rfl hdg kk
theorem get_high_9 (hx : p.tables.exec = Jvm.exec) (hb : c.code = cc) (hts : ∀ w ∈ Ts, w.before args s = true) (hin : ∀ w ∈ u_ws RX5 TX5 2, w ∈ Ts) (hown : s.vm.findClass own = some m.cls) (hK : va_K D vwCl (gT tA) s) (hP : va_P D vwCl (va_pl L f) H) (hR : Rep tA S ad L f) (hi : V S 9 i) (hlink : (Cond.fieldLink own index (TX5 1).1 (TX5 1).2.1 (TX5 1).2.2.1).before args s = true) (hdg : decode cc pc = .ok (.getfield index, 3))
    (kk : W p l e R s m args below meth c H locs cells slots Q (F0 m (pc + 3) ls (.long (sJ S 19 i) :: rest))) : W p l e R s m args below meth c H locs cells slots Q (F0 m pc ls (.ref (ad 9 i) :: rest)) := by
  obtain ⟨q, hq⟩ := cell_9 hR hi
  exact va_get (D := D) (ci := 7) (C := RX5) (T := TX5) (N := 2) hx hb hts hin hown hK hP q hq rfl 1 (by decide) hlink (fun _ h9 => h9) rfl hdg kk
theorem cell_10 (h : Rep tA S ad L f) (hi : V S 10 i) : ∃ q : Nat, (va_pl L f)[q]? = some (ad 10 i, .inr (7, [.long (sJ S 20 i), .long (sJ S 21 i)])) := h.get (k := 10) hi
theorem get_low_10 (hx : p.tables.exec = Jvm.exec) (hb : c.code = cc) (hts : ∀ w ∈ Ts, w.before args s = true) (hin : ∀ w ∈ u_ws RX5 TX5 2, w ∈ Ts) (hown : s.vm.findClass own = some m.cls) (hK : va_K D vwCl (gT tA) s) (hP : va_P D vwCl (va_pl L f) H) (hR : Rep tA S ad L f) (hi : V S 10 i) (hlink : (Cond.fieldLink own index (TX5 0).1 (TX5 0).2.1 (TX5 0).2.2.1).before args s = true) (hdg : decode cc pc = .ok (.getfield index, 3))
    (kk : W p l e R s m args below meth c H locs cells slots Q (F0 m (pc + 3) ls (.long (sJ S 20 i) :: rest))) : W p l e R s m args below meth c H locs cells slots Q (F0 m pc ls (.ref (ad 10 i) :: rest)) := by
  obtain ⟨q, hq⟩ := cell_10 hR hi
  exact va_get (D := D) (ci := 7) (C := RX5) (T := TX5) (N := 2) hx hb hts hin hown hK hP q hq rfl 0 (by decide) hlink (fun _ h9 => h9) rfl hdg kk
theorem get_high_10 (hx : p.tables.exec = Jvm.exec) (hb : c.code = cc) (hts : ∀ w ∈ Ts, w.before args s = true) (hin : ∀ w ∈ u_ws RX5 TX5 2, w ∈ Ts) (hown : s.vm.findClass own = some m.cls) (hK : va_K D vwCl (gT tA) s) (hP : va_P D vwCl (va_pl L f) H) (hR : Rep tA S ad L f) (hi : V S 10 i) (hlink : (Cond.fieldLink own index (TX5 1).1 (TX5 1).2.1 (TX5 1).2.2.1).before args s = true) (hdg : decode cc pc = .ok (.getfield index, 3))
    (kk : W p l e R s m args below meth c H locs cells slots Q (F0 m (pc + 3) ls (.long (sJ S 21 i) :: rest))) : W p l e R s m args below meth c H locs cells slots Q (F0 m pc ls (.ref (ad 10 i) :: rest)) := by
  obtain ⟨q, hq⟩ := cell_10 hR hi
  exact va_get (D := D) (ci := 7) (C := RX5) (T := TX5) (N := 2) hx hb hts hin hown hK hP q hq rfl 1 (by decide) hlink (fun _ h9 => h9) rfl hdg kk
theorem cell_11 (h : Rep tA S ad L f) (hi : V S 11 i) : ∃ q : Nat, (va_pl L f)[q]? = some (ad 11 i, .inr (9, [.int (nI i), .ref (ad 2 (sN S 7 i)), .int (sI S 50 i), .int (sI S 51 i), .int (sI S 52 i), .ref (ad 12 i), .ref (ad 13 i), .ref (ad 22 i), .int (sI S 53 i), .int (sI S 54 i), .int (sI S 55 i), .long (sJ S 4 i)])) := h.get (k := 11) hi
theorem get_number_11 (hx : p.tables.exec = Jvm.exec) (hb : c.code = cc) (hts : ∀ w ∈ Ts, w.before args s = true) (hin : ∀ w ∈ u_ws RX7 TX7 12, w ∈ Ts) (hown : s.vm.findClass own = some m.cls) (hK : va_K D vwCl (gT tA) s) (hP : va_P D vwCl (va_pl L f) H) (hR : Rep tA S ad L f) (hi : V S 11 i) (hlink : (Cond.fieldLink own index (TX7 0).1 (TX7 0).2.1 (TX7 0).2.2.1).before args s = true) (hdg : decode cc pc = .ok (.getfield index, 3))
    (kk : W p l e R s m args below meth c H locs cells slots Q (F0 m (pc + 3) ls (.int (nI i) :: rest))) : W p l e R s m args below meth c H locs cells slots Q (F0 m pc ls (.ref (ad 11 i) :: rest)) := by
  obtain ⟨q, hq⟩ := cell_11 hR hi
  exact va_get (D := D) (ci := 9) (C := RX7) (T := TX7) (N := 12) hx hb hts hin hown hK hP q hq rfl 0 (by decide) hlink (fun _ h9 => h9) rfl hdg kk
theorem get_part_11 (hx : p.tables.exec = Jvm.exec) (hb : c.code = cc) (hts : ∀ w ∈ Ts, w.before args s = true) (hin : ∀ w ∈ u_ws RX7 TX7 12, w ∈ Ts) (hown : s.vm.findClass own = some m.cls) (hK : va_K D vwCl (gT tA) s) (hP : va_P D vwCl (va_pl L f) H) (hR : Rep tA S ad L f) (hi : V S 11 i) (hlink : (Cond.fieldLink own index (TX7 1).1 (TX7 1).2.1 (TX7 1).2.2.1).before args s = true) (hdg : decode cc pc = .ok (.getfield index, 3))
    (kk : W p l e R s m args below meth c H locs cells slots Q (F0 m (pc + 3) ls (.ref (ad 2 (sN S 7 i)) :: rest))) : W p l e R s m args below meth c H locs cells slots Q (F0 m pc ls (.ref (ad 11 i) :: rest)) := by
  obtain ⟨q, hq⟩ := cell_11 hR hi
  exact va_get (D := D) (ci := 9) (C := RX7) (T := TX7) (N := 12) hx hb hts hin hown hK hP q hq rfl 1 (by decide) hlink (fun _ h9 => h9) rfl hdg kk
theorem get_quantity_11 (hx : p.tables.exec = Jvm.exec) (hb : c.code = cc) (hts : ∀ w ∈ Ts, w.before args s = true) (hin : ∀ w ∈ u_ws RX7 TX7 12, w ∈ Ts) (hown : s.vm.findClass own = some m.cls) (hK : va_K D vwCl (gT tA) s) (hP : va_P D vwCl (va_pl L f) H) (hR : Rep tA S ad L f) (hi : V S 11 i) (hlink : (Cond.fieldLink own index (TX7 2).1 (TX7 2).2.1 (TX7 2).2.2.1).before args s = true) (hdg : decode cc pc = .ok (.getfield index, 3))
    (kk : W p l e R s m args below meth c H locs cells slots Q (F0 m (pc + 3) ls (.int (sI S 50 i) :: rest))) : W p l e R s m args below meth c H locs cells slots Q (F0 m pc ls (.ref (ad 11 i) :: rest)) := by
  obtain ⟨q, hq⟩ := cell_11 hR hi
  exact va_get (D := D) (ci := 9) (C := RX7) (T := TX7) (N := 12) hx hb hts hin hown hK hP q hq rfl 2 (by decide) hlink (fun _ h9 => h9) rfl hdg kk
theorem get_option_11 (hx : p.tables.exec = Jvm.exec) (hb : c.code = cc) (hts : ∀ w ∈ Ts, w.before args s = true) (hin : ∀ w ∈ u_ws RX7 TX7 12, w ∈ Ts) (hown : s.vm.findClass own = some m.cls) (hK : va_K D vwCl (gT tA) s) (hP : va_P D vwCl (va_pl L f) H) (hR : Rep tA S ad L f) (hi : V S 11 i) (hlink : (Cond.fieldLink own index (TX7 3).1 (TX7 3).2.1 (TX7 3).2.2.1).before args s = true) (hdg : decode cc pc = .ok (.getfield index, 3))
    (kk : W p l e R s m args below meth c H locs cells slots Q (F0 m (pc + 3) ls (.int (sI S 51 i) :: rest))) : W p l e R s m args below meth c H locs cells slots Q (F0 m pc ls (.ref (ad 11 i) :: rest)) := by
  obtain ⟨q, hq⟩ := cell_11 hR hi
  exact va_get (D := D) (ci := 9) (C := RX7) (T := TX7) (N := 12) hx hb hts hin hown hK hP q hq rfl 3 (by decide) hlink (fun _ h9 => h9) rfl hdg kk
theorem get_due_11 (hx : p.tables.exec = Jvm.exec) (hb : c.code = cc) (hts : ∀ w ∈ Ts, w.before args s = true) (hin : ∀ w ∈ u_ws RX7 TX7 12, w ∈ Ts) (hown : s.vm.findClass own = some m.cls) (hK : va_K D vwCl (gT tA) s) (hP : va_P D vwCl (va_pl L f) H) (hR : Rep tA S ad L f) (hi : V S 11 i) (hlink : (Cond.fieldLink own index (TX7 4).1 (TX7 4).2.1 (TX7 4).2.2.1).before args s = true) (hdg : decode cc pc = .ok (.getfield index, 3))
    (kk : W p l e R s m args below meth c H locs cells slots Q (F0 m (pc + 3) ls (.int (sI S 52 i) :: rest))) : W p l e R s m args below meth c H locs cells slots Q (F0 m pc ls (.ref (ad 11 i) :: rest)) := by
  obtain ⟨q, hq⟩ := cell_11 hR hi
  exact va_get (D := D) (ci := 9) (C := RX7) (T := TX7) (N := 12) hx hb hts hin hown hK hP q hq rfl 4 (by decide) hlink (fun _ h9 => h9) rfl hdg kk
theorem get_job_11 (hx : p.tables.exec = Jvm.exec) (hb : c.code = cc) (hts : ∀ w ∈ Ts, w.before args s = true) (hin : ∀ w ∈ u_ws RX7 TX7 12, w ∈ Ts) (hown : s.vm.findClass own = some m.cls) (hK : va_K D vwCl (gT tA) s) (hP : va_P D vwCl (va_pl L f) H) (hR : Rep tA S ad L f) (hi : V S 11 i) (hlink : (Cond.fieldLink own index (TX7 5).1 (TX7 5).2.1 (TX7 5).2.2.1).before args s = true) (hdg : decode cc pc = .ok (.getfield index, 3))
    (kk : W p l e R s m args below meth c H locs cells slots Q (F0 m (pc + 3) ls (.ref (ad 12 i) :: rest))) : W p l e R s m args below meth c H locs cells slots Q (F0 m pc ls (.ref (ad 11 i) :: rest)) := by
  obtain ⟨q, hq⟩ := cell_11 hR hi
  exact va_get (D := D) (ci := 9) (C := RX7) (T := TX7) (N := 12) hx hb hts hin hown hK hP q hq rfl 5 (by decide) hlink (fun _ h9 => h9) rfl hdg kk
theorem get_inside_11 (hx : p.tables.exec = Jvm.exec) (hb : c.code = cc) (hts : ∀ w ∈ Ts, w.before args s = true) (hin : ∀ w ∈ u_ws RX7 TX7 12, w ∈ Ts) (hown : s.vm.findClass own = some m.cls) (hK : va_K D vwCl (gT tA) s) (hP : va_P D vwCl (va_pl L f) H) (hR : Rep tA S ad L f) (hi : V S 11 i) (hlink : (Cond.fieldLink own index (TX7 6).1 (TX7 6).2.1 (TX7 6).2.2.1).before args s = true) (hdg : decode cc pc = .ok (.getfield index, 3))
    (kk : W p l e R s m args below meth c H locs cells slots Q (F0 m (pc + 3) ls (.ref (ad 13 i) :: rest))) : W p l e R s m args below meth c H locs cells slots Q (F0 m pc ls (.ref (ad 11 i) :: rest)) := by
  obtain ⟨q, hq⟩ := cell_11 hR hi
  exact va_get (D := D) (ci := 9) (C := RX7) (T := TX7) (N := 12) hx hb hts hin hown hK hP q hq rfl 6 (by decide) hlink (fun _ h9 => h9) rfl hdg kk
theorem get_pieces_11 (hx : p.tables.exec = Jvm.exec) (hb : c.code = cc) (hts : ∀ w ∈ Ts, w.before args s = true) (hin : ∀ w ∈ u_ws RX7 TX7 12, w ∈ Ts) (hown : s.vm.findClass own = some m.cls) (hK : va_K D vwCl (gT tA) s) (hP : va_P D vwCl (va_pl L f) H) (hR : Rep tA S ad L f) (hi : V S 11 i) (hlink : (Cond.fieldLink own index (TX7 7).1 (TX7 7).2.1 (TX7 7).2.2.1).before args s = true) (hdg : decode cc pc = .ok (.getfield index, 3))
    (kk : W p l e R s m args below meth c H locs cells slots Q (F0 m (pc + 3) ls (.ref (ad 22 i) :: rest))) : W p l e R s m args below meth c H locs cells slots Q (F0 m pc ls (.ref (ad 11 i) :: rest)) := by
  obtain ⟨q, hq⟩ := cell_11 hR hi
  exact va_get (D := D) (ci := 9) (C := RX7) (T := TX7) (N := 12) hx hb hts hin hown hK hP q hq rfl 7 (by decide) hlink (fun _ h9 => h9) rfl hdg kk
theorem get_state_11 (hx : p.tables.exec = Jvm.exec) (hb : c.code = cc) (hts : ∀ w ∈ Ts, w.before args s = true) (hin : ∀ w ∈ u_ws RX7 TX7 12, w ∈ Ts) (hown : s.vm.findClass own = some m.cls) (hK : va_K D vwCl (gT tA) s) (hP : va_P D vwCl (va_pl L f) H) (hR : Rep tA S ad L f) (hi : V S 11 i) (hlink : (Cond.fieldLink own index (TX7 8).1 (TX7 8).2.1 (TX7 8).2.2.1).before args s = true) (hdg : decode cc pc = .ok (.getfield index, 3))
    (kk : W p l e R s m args below meth c H locs cells slots Q (F0 m (pc + 3) ls (.int (sI S 53 i) :: rest))) : W p l e R s m args below meth c H locs cells slots Q (F0 m pc ls (.ref (ad 11 i) :: rest)) := by
  obtain ⟨q, hq⟩ := cell_11 hR hi
  exact va_get (D := D) (ci := 9) (C := RX7) (T := TX7) (N := 12) hx hb hts hin hown hK hP q hq rfl 8 (by decide) hlink (fun _ h9 => h9) rfl hdg kk
theorem get_deliveredAt_11 (hx : p.tables.exec = Jvm.exec) (hb : c.code = cc) (hts : ∀ w ∈ Ts, w.before args s = true) (hin : ∀ w ∈ u_ws RX7 TX7 12, w ∈ Ts) (hown : s.vm.findClass own = some m.cls) (hK : va_K D vwCl (gT tA) s) (hP : va_P D vwCl (va_pl L f) H) (hR : Rep tA S ad L f) (hi : V S 11 i) (hlink : (Cond.fieldLink own index (TX7 9).1 (TX7 9).2.1 (TX7 9).2.2.1).before args s = true) (hdg : decode cc pc = .ok (.getfield index, 3))
    (kk : W p l e R s m args below meth c H locs cells slots Q (F0 m (pc + 3) ls (.int (sI S 54 i) :: rest))) : W p l e R s m args below meth c H locs cells slots Q (F0 m pc ls (.ref (ad 11 i) :: rest)) := by
  obtain ⟨q, hq⟩ := cell_11 hR hi
  exact va_get (D := D) (ci := 9) (C := RX7) (T := TX7) (N := 12) hx hb hts hin hown hK hP q hq rfl 9 (by decide) hlink (fun _ h9 => h9) rfl hdg kk
theorem get_delivered_11 (hx : p.tables.exec = Jvm.exec) (hb : c.code = cc) (hts : ∀ w ∈ Ts, w.before args s = true) (hin : ∀ w ∈ u_ws RX7 TX7 12, w ∈ Ts) (hown : s.vm.findClass own = some m.cls) (hK : va_K D vwCl (gT tA) s) (hP : va_P D vwCl (va_pl L f) H) (hR : Rep tA S ad L f) (hi : V S 11 i) (hlink : (Cond.fieldLink own index (TX7 10).1 (TX7 10).2.1 (TX7 10).2.2.1).before args s = true) (hdg : decode cc pc = .ok (.getfield index, 3))
    (kk : W p l e R s m args below meth c H locs cells slots Q (F0 m (pc + 3) ls (.int (sI S 55 i) :: rest))) : W p l e R s m args below meth c H locs cells slots Q (F0 m pc ls (.ref (ad 11 i) :: rest)) := by
  obtain ⟨q, hq⟩ := cell_11 hR hi
  exact va_get (D := D) (ci := 9) (C := RX7) (T := TX7) (N := 12) hx hb hts hin hown hK hP q hq rfl 10 (by decide) hlink (fun _ h9 => h9) rfl hdg kk
theorem get_deliveredCost_11 (hx : p.tables.exec = Jvm.exec) (hb : c.code = cc) (hts : ∀ w ∈ Ts, w.before args s = true) (hin : ∀ w ∈ u_ws RX7 TX7 12, w ∈ Ts) (hown : s.vm.findClass own = some m.cls) (hK : va_K D vwCl (gT tA) s) (hP : va_P D vwCl (va_pl L f) H) (hR : Rep tA S ad L f) (hi : V S 11 i) (hlink : (Cond.fieldLink own index (TX7 11).1 (TX7 11).2.1 (TX7 11).2.2.1).before args s = true) (hdg : decode cc pc = .ok (.getfield index, 3))
    (kk : W p l e R s m args below meth c H locs cells slots Q (F0 m (pc + 3) ls (.long (sJ S 4 i) :: rest))) : W p l e R s m args below meth c H locs cells slots Q (F0 m pc ls (.ref (ad 11 i) :: rest)) := by
  obtain ⟨q, hq⟩ := cell_11 hR hi
  exact va_get (D := D) (ci := 9) (C := RX7) (T := TX7) (N := 12) hx hb hts hin hown hK hP q hq rfl 11 (by decide) hlink (fun _ h9 => h9) rfl hdg kk
theorem cell_12 (h : Rep tA S ad L f) (hi : V S 12 i) : ∃ q : Nat, (va_pl L f)[q]? = some (ad 12 i, .inr (4, [.int (sI S 60 i), .int (sI S 61 i), .int (sI S 62 i), .int (sI S 63 i), .long (sJ S 5 i), rf ad 1 (sR S 3 i), rf ad 7 (sR S 4 i)])) := h.get (k := 12) hi
theorem get_pieces_12 (hx : p.tables.exec = Jvm.exec) (hb : c.code = cc) (hts : ∀ w ∈ Ts, w.before args s = true) (hin : ∀ w ∈ u_ws RX2 TX2 7, w ∈ Ts) (hown : s.vm.findClass own = some m.cls) (hK : va_K D vwCl (gT tA) s) (hP : va_P D vwCl (va_pl L f) H) (hR : Rep tA S ad L f) (hi : V S 12 i) (hlink : (Cond.fieldLink own index (TX2 0).1 (TX2 0).2.1 (TX2 0).2.2.1).before args s = true) (hdg : decode cc pc = .ok (.getfield index, 3))
    (kk : W p l e R s m args below meth c H locs cells slots Q (F0 m (pc + 3) ls (.int (sI S 60 i) :: rest))) : W p l e R s m args below meth c H locs cells slots Q (F0 m pc ls (.ref (ad 12 i) :: rest)) := by
  obtain ⟨q, hq⟩ := cell_12 hR hi
  exact va_get (D := D) (ci := 4) (C := RX2) (T := TX2) (N := 7) hx hb hts hin hown hK hP q hq rfl 0 (by decide) hlink (fun _ h9 => h9) rfl hdg kk
theorem get_scrapped_12 (hx : p.tables.exec = Jvm.exec) (hb : c.code = cc) (hts : ∀ w ∈ Ts, w.before args s = true) (hin : ∀ w ∈ u_ws RX2 TX2 7, w ∈ Ts) (hown : s.vm.findClass own = some m.cls) (hK : va_K D vwCl (gT tA) s) (hP : va_P D vwCl (va_pl L f) H) (hR : Rep tA S ad L f) (hi : V S 12 i) (hlink : (Cond.fieldLink own index (TX2 1).1 (TX2 1).2.1 (TX2 1).2.2.1).before args s = true) (hdg : decode cc pc = .ok (.getfield index, 3))
    (kk : W p l e R s m args below meth c H locs cells slots Q (F0 m (pc + 3) ls (.int (sI S 61 i) :: rest))) : W p l e R s m args below meth c H locs cells slots Q (F0 m pc ls (.ref (ad 12 i) :: rest)) := by
  obtain ⟨q, hq⟩ := cell_12 hR hi
  exact va_get (D := D) (ci := 4) (C := RX2) (T := TX2) (N := 7) hx hb hts hin hown hK hP q hq rfl 1 (by decide) hlink (fun _ h9 => h9) rfl hdg kk
theorem get_operation_12 (hx : p.tables.exec = Jvm.exec) (hb : c.code = cc) (hts : ∀ w ∈ Ts, w.before args s = true) (hin : ∀ w ∈ u_ws RX2 TX2 7, w ∈ Ts) (hown : s.vm.findClass own = some m.cls) (hK : va_K D vwCl (gT tA) s) (hP : va_P D vwCl (va_pl L f) H) (hR : Rep tA S ad L f) (hi : V S 12 i) (hlink : (Cond.fieldLink own index (TX2 2).1 (TX2 2).2.1 (TX2 2).2.2.1).before args s = true) (hdg : decode cc pc = .ok (.getfield index, 3))
    (kk : W p l e R s m args below meth c H locs cells slots Q (F0 m (pc + 3) ls (.int (sI S 62 i) :: rest))) : W p l e R s m args below meth c H locs cells slots Q (F0 m pc ls (.ref (ad 12 i) :: rest)) := by
  obtain ⟨q, hq⟩ := cell_12 hR hi
  exact va_get (D := D) (ci := 4) (C := RX2) (T := TX2) (N := 7) hx hb hts hin hown hK hP q hq rfl 2 (by decide) hlink (fun _ h9 => h9) rfl hdg kk
theorem get_finishedAt_12 (hx : p.tables.exec = Jvm.exec) (hb : c.code = cc) (hts : ∀ w ∈ Ts, w.before args s = true) (hin : ∀ w ∈ u_ws RX2 TX2 7, w ∈ Ts) (hown : s.vm.findClass own = some m.cls) (hK : va_K D vwCl (gT tA) s) (hP : va_P D vwCl (va_pl L f) H) (hR : Rep tA S ad L f) (hi : V S 12 i) (hlink : (Cond.fieldLink own index (TX2 3).1 (TX2 3).2.1 (TX2 3).2.2.1).before args s = true) (hdg : decode cc pc = .ok (.getfield index, 3))
    (kk : W p l e R s m args below meth c H locs cells slots Q (F0 m (pc + 3) ls (.int (sI S 63 i) :: rest))) : W p l e R s m args below meth c H locs cells slots Q (F0 m pc ls (.ref (ad 12 i) :: rest)) := by
  obtain ⟨q, hq⟩ := cell_12 hR hi
  exact va_get (D := D) (ci := 4) (C := RX2) (T := TX2) (N := 7) hx hb hts hin hown hK hP q hq rfl 3 (by decide) hlink (fun _ h9 => h9) rfl hdg kk
theorem get_cost_12 (hx : p.tables.exec = Jvm.exec) (hb : c.code = cc) (hts : ∀ w ∈ Ts, w.before args s = true) (hin : ∀ w ∈ u_ws RX2 TX2 7, w ∈ Ts) (hown : s.vm.findClass own = some m.cls) (hK : va_K D vwCl (gT tA) s) (hP : va_P D vwCl (va_pl L f) H) (hR : Rep tA S ad L f) (hi : V S 12 i) (hlink : (Cond.fieldLink own index (TX2 4).1 (TX2 4).2.1 (TX2 4).2.2.1).before args s = true) (hdg : decode cc pc = .ok (.getfield index, 3))
    (kk : W p l e R s m args below meth c H locs cells slots Q (F0 m (pc + 3) ls (.long (sJ S 5 i) :: rest))) : W p l e R s m args below meth c H locs cells slots Q (F0 m pc ls (.ref (ad 12 i) :: rest)) := by
  obtain ⟨q, hq⟩ := cell_12 hR hi
  exact va_get (D := D) (ci := 4) (C := RX2) (T := TX2) (N := 7) hx hb hts hin hown hK hP q hq rfl 4 (by decide) hlink (fun _ h9 => h9) rfl hdg kk
theorem get_waitsAt_12 (hx : p.tables.exec = Jvm.exec) (hb : c.code = cc) (hts : ∀ w ∈ Ts, w.before args s = true) (hin : ∀ w ∈ u_ws RX2 TX2 7, w ∈ Ts) (hown : s.vm.findClass own = some m.cls) (hK : va_K D vwCl (gT tA) s) (hP : va_P D vwCl (va_pl L f) H) (hR : Rep tA S ad L f) (hi : V S 12 i) (hlink : (Cond.fieldLink own index (TX2 5).1 (TX2 5).2.1 (TX2 5).2.2.1).before args s = true) (hdg : decode cc pc = .ok (.getfield index, 3))
    (kk : W p l e R s m args below meth c H locs cells slots Q (F0 m (pc + 3) ls (rf ad 1 (sR S 3 i) :: rest))) : W p l e R s m args below meth c H locs cells slots Q (F0 m pc ls (.ref (ad 12 i) :: rest)) := by
  obtain ⟨q, hq⟩ := cell_12 hR hi
  exact va_get (D := D) (ci := 4) (C := RX2) (T := TX2) (N := 7) hx hb hts hin hown hK hP q hq rfl 5 (by decide) hlink (fun _ h9 => h9) rfl hdg kk
theorem get_lot_12 (hx : p.tables.exec = Jvm.exec) (hb : c.code = cc) (hts : ∀ w ∈ Ts, w.before args s = true) (hin : ∀ w ∈ u_ws RX2 TX2 7, w ∈ Ts) (hown : s.vm.findClass own = some m.cls) (hK : va_K D vwCl (gT tA) s) (hP : va_P D vwCl (va_pl L f) H) (hR : Rep tA S ad L f) (hi : V S 12 i) (hlink : (Cond.fieldLink own index (TX2 6).1 (TX2 6).2.1 (TX2 6).2.2.1).before args s = true) (hdg : decode cc pc = .ok (.getfield index, 3))
    (kk : W p l e R s m args below meth c H locs cells slots Q (F0 m (pc + 3) ls (rf ad 7 (sR S 4 i) :: rest))) : W p l e R s m args below meth c H locs cells slots Q (F0 m pc ls (.ref (ad 12 i) :: rest)) := by
  obtain ⟨q, hq⟩ := cell_12 hR hi
  exact va_get (D := D) (ci := 4) (C := RX2) (T := TX2) (N := 7) hx hb hts hin hown hK hP q hq rfl 6 (by decide) hlink (fun _ h9 => h9) rfl hdg kk
theorem cell_13 (h : Rep tA S ad L f) (hi : V S 13 i) : ∃ q : Nat, (va_pl L f)[q]? = some (ad 13 i, .inr (7, [.long (sJ S 26 i), .long (sJ S 27 i)])) := h.get (k := 13) hi
theorem get_low_13 (hx : p.tables.exec = Jvm.exec) (hb : c.code = cc) (hts : ∀ w ∈ Ts, w.before args s = true) (hin : ∀ w ∈ u_ws RX5 TX5 2, w ∈ Ts) (hown : s.vm.findClass own = some m.cls) (hK : va_K D vwCl (gT tA) s) (hP : va_P D vwCl (va_pl L f) H) (hR : Rep tA S ad L f) (hi : V S 13 i) (hlink : (Cond.fieldLink own index (TX5 0).1 (TX5 0).2.1 (TX5 0).2.2.1).before args s = true) (hdg : decode cc pc = .ok (.getfield index, 3))
    (kk : W p l e R s m args below meth c H locs cells slots Q (F0 m (pc + 3) ls (.long (sJ S 26 i) :: rest))) : W p l e R s m args below meth c H locs cells slots Q (F0 m pc ls (.ref (ad 13 i) :: rest)) := by
  obtain ⟨q, hq⟩ := cell_13 hR hi
  exact va_get (D := D) (ci := 7) (C := RX5) (T := TX5) (N := 2) hx hb hts hin hown hK hP q hq rfl 0 (by decide) hlink (fun _ h9 => h9) rfl hdg kk
theorem get_high_13 (hx : p.tables.exec = Jvm.exec) (hb : c.code = cc) (hts : ∀ w ∈ Ts, w.before args s = true) (hin : ∀ w ∈ u_ws RX5 TX5 2, w ∈ Ts) (hown : s.vm.findClass own = some m.cls) (hK : va_K D vwCl (gT tA) s) (hP : va_P D vwCl (va_pl L f) H) (hR : Rep tA S ad L f) (hi : V S 13 i) (hlink : (Cond.fieldLink own index (TX5 1).1 (TX5 1).2.1 (TX5 1).2.2.1).before args s = true) (hdg : decode cc pc = .ok (.getfield index, 3))
    (kk : W p l e R s m args below meth c H locs cells slots Q (F0 m (pc + 3) ls (.long (sJ S 27 i) :: rest))) : W p l e R s m args below meth c H locs cells slots Q (F0 m pc ls (.ref (ad 13 i) :: rest)) := by
  obtain ⟨q, hq⟩ := cell_13 hR hi
  exact va_get (D := D) (ci := 7) (C := RX5) (T := TX5) (N := 2) hx hb hts hin hown hK hP q hq rfl 1 (by decide) hlink (fun _ h9 => h9) rfl hdg kk
theorem cell_14 (h : Rep tA S ad L f) (hi : V S 14 i) : ∃ q : Nat, (va_pl L f)[q]? = some (ad 14 i, .inr (7, [.long (sJ S 28 i), .long (sJ S 29 i)])) := h.get (k := 14) hi
theorem get_low_14 (hx : p.tables.exec = Jvm.exec) (hb : c.code = cc) (hts : ∀ w ∈ Ts, w.before args s = true) (hin : ∀ w ∈ u_ws RX5 TX5 2, w ∈ Ts) (hown : s.vm.findClass own = some m.cls) (hK : va_K D vwCl (gT tA) s) (hP : va_P D vwCl (va_pl L f) H) (hR : Rep tA S ad L f) (hi : V S 14 i) (hlink : (Cond.fieldLink own index (TX5 0).1 (TX5 0).2.1 (TX5 0).2.2.1).before args s = true) (hdg : decode cc pc = .ok (.getfield index, 3))
    (kk : W p l e R s m args below meth c H locs cells slots Q (F0 m (pc + 3) ls (.long (sJ S 28 i) :: rest))) : W p l e R s m args below meth c H locs cells slots Q (F0 m pc ls (.ref (ad 14 i) :: rest)) := by
  obtain ⟨q, hq⟩ := cell_14 hR hi
  exact va_get (D := D) (ci := 7) (C := RX5) (T := TX5) (N := 2) hx hb hts hin hown hK hP q hq rfl 0 (by decide) hlink (fun _ h9 => h9) rfl hdg kk
theorem get_high_14 (hx : p.tables.exec = Jvm.exec) (hb : c.code = cc) (hts : ∀ w ∈ Ts, w.before args s = true) (hin : ∀ w ∈ u_ws RX5 TX5 2, w ∈ Ts) (hown : s.vm.findClass own = some m.cls) (hK : va_K D vwCl (gT tA) s) (hP : va_P D vwCl (va_pl L f) H) (hR : Rep tA S ad L f) (hi : V S 14 i) (hlink : (Cond.fieldLink own index (TX5 1).1 (TX5 1).2.1 (TX5 1).2.2.1).before args s = true) (hdg : decode cc pc = .ok (.getfield index, 3))
    (kk : W p l e R s m args below meth c H locs cells slots Q (F0 m (pc + 3) ls (.long (sJ S 29 i) :: rest))) : W p l e R s m args below meth c H locs cells slots Q (F0 m pc ls (.ref (ad 14 i) :: rest)) := by
  obtain ⟨q, hq⟩ := cell_14 hR hi
  exact va_get (D := D) (ci := 7) (C := RX5) (T := TX5) (N := 2) hx hb hts hin hown hK hP q hq rfl 1 (by decide) hlink (fun _ h9 => h9) rfl hdg kk
theorem rep_boughtCount_0 (h : Rep tA S ad L f) (hD : va_D A (va_pl L f)) {q : Nat} (hi : V S 0 i) (hq : (va_pl L f)[q]? = some (ad 0 i, C tA S ad 0 i)) (v : Int32) : ∃ f2 : Nat → va_E, (va_pl L f).set q (ad 0 i, .inr (12, ([.ref (ad 15 0), .ref (ad 16 0), .ref (ad 17 0), .ref (ad 18 0), .ref (ad 19 0), .ref (ad 14 0), .int (nI (sN S 0 0)), .int (nI (sN S 1 0)), .int (nI (sN S 2 0)), .int (sI S 1 i), .int (nI (sN S 3 0)), .int (sI S 2 i), .long (sJ S 1 i), .long (sJ S 2 i)] : List Value).set 9 (.int v))) = va_pl L f2 ∧ Rep tA (uI S 1 i v) ad L f2 := by
  refine h.put hD (k := 0) hi hq (fun _ _ h => h) (fun k2 i2 hv hn => ?_) ?_
  · rcases Nat.lt_or_ge k2 23 with hk | hk
    · by_cases hk2 : k2 = 0
      · subst hk2
        have hi2 : i2 ≠ i := fun q => hn ⟨rfl, q⟩
        simp [C, sN, sI, sJ, sR, sP, uI, uJ, uR, up2, hi2]
      · have hc : ∀ n : Nat, n < 23 → n ≠ 0 → C tA (uI S 1 i v) ad n i2 = C tA S ad n i2 := by
          intro n hn1 hn2
          match n, hn1, hn2 with
          | 0, _, hn2 => exact absurd rfl hn2
          | 1, _, hn2 => first | rfl | simp [C, sN, sI, sJ, sR, sP, uI, uJ, uR, up2]
          | 2, _, hn2 => first | rfl | simp [C, sN, sI, sJ, sR, sP, uI, uJ, uR, up2]
          | 3, _, hn2 => first | rfl | simp [C, sN, sI, sJ, sR, sP, uI, uJ, uR, up2]
          | 4, _, hn2 => first | rfl | simp [C, sN, sI, sJ, sR, sP, uI, uJ, uR, up2]
          | 5, _, hn2 => first | rfl | simp [C, sN, sI, sJ, sR, sP, uI, uJ, uR, up2]
          | 6, _, hn2 => first | rfl | simp [C, sN, sI, sJ, sR, sP, uI, uJ, uR, up2]
          | 7, _, hn2 => first | rfl | simp [C, sN, sI, sJ, sR, sP, uI, uJ, uR, up2]
          | 8, _, hn2 => first | rfl | simp [C, sN, sI, sJ, sR, sP, uI, uJ, uR, up2]
          | 9, _, hn2 => first | rfl | simp [C, sN, sI, sJ, sR, sP, uI, uJ, uR, up2]
          | 10, _, hn2 => first | rfl | simp [C, sN, sI, sJ, sR, sP, uI, uJ, uR, up2]
          | 11, _, hn2 => first | rfl | simp [C, sN, sI, sJ, sR, sP, uI, uJ, uR, up2]
          | 12, _, hn2 => first | rfl | simp [C, sN, sI, sJ, sR, sP, uI, uJ, uR, up2]
          | 13, _, hn2 => first | rfl | simp [C, sN, sI, sJ, sR, sP, uI, uJ, uR, up2]
          | 14, _, hn2 => first | rfl | simp [C, sN, sI, sJ, sR, sP, uI, uJ, uR, up2]
          | 15, _, hn2 => first | rfl | simp [C, sN, sI, sJ, sR, sP, uI, uJ, uR, up2]
          | 16, _, hn2 => first | rfl | simp [C, sN, sI, sJ, sR, sP, uI, uJ, uR, up2]
          | 17, _, hn2 => first | rfl | simp [C, sN, sI, sJ, sR, sP, uI, uJ, uR, up2]
          | 18, _, hn2 => first | rfl | simp [C, sN, sI, sJ, sR, sP, uI, uJ, uR, up2]
          | 19, _, hn2 => first | rfl | simp [C, sN, sI, sJ, sR, sP, uI, uJ, uR, up2]
          | 20, _, hn2 => first | rfl | simp [C, sN, sI, sJ, sR, sP, uI, uJ, uR, up2]
          | 21, _, hn2 => first | rfl | simp [C, sN, sI, sJ, sR, sP, uI, uJ, uR, up2]
          | 22, _, hn2 => first | rfl | simp [C, sN, sI, sJ, sR, sP, uI, uJ, uR, up2]
          | n + 23, hn1, _ => exact absurd hn1 (by omega)
        exact hc k2 hk hk2
    · exact False.elim (by
        obtain ⟨n, rfl⟩ : ∃ n, k2 = n + 23 := ⟨k2 - 23, by omega⟩
        exact hv)
  · simp [C, sN, sI, sJ, sR, sP, uI, uJ, uR, up2]
theorem put_boughtCount_0 (hx : p.tables.exec = Jvm.exec) (hb : c.code = cc) (hts : ∀ w ∈ Ts, w.before args s = true) (hin : ∀ w ∈ u_ws RX10 TX10 14, w ∈ Ts) (hown : s.vm.findClass own = some m.cls) (hK : va_K D vwCl (gT tA) s) (hP : va_P D vwCl (va_pl L f) H) (hD : va_D A (va_pl L f)) (hS : va_S A H0 H locs) (hR : Rep tA S ad L f) (hi : V S 0 i) (hlink : (Cond.fieldLink own index (TX10 9).1 (TX10 9).2.1 (TX10 9).2.2.1).before args s = true) {v : Int32} (hdg : decode cc pc = .ok (.putfield index, 3))
    (kk : ∀ (H1 : Heap) (locs1 : List Loc) (f2 : Nat → va_E), va_P D vwCl (va_pl L f2) H1 → va_D A (va_pl L f2) → va_S A H0 H1 locs1 → Rep tA (uI S 1 i v) ad L f2 → W p l e R s m args below meth c H1 locs1 cells slots Q (F0 m (pc + 3) ls rest)) : W p l e R s m args below meth c H locs cells slots Q (F0 m pc ls (.int v :: .ref (ad 0 i) :: rest)) := by
  obtain ⟨q, hq⟩ := cell_0 hR hi
  obtain ⟨f2, h2, hR2⟩ := rep_boughtCount_0 hR hD hi hq v
  exact va_put (D := D) (ci := 12) (v := .int v) (ty := .int) (C := RX10) (T := TX10) (N := 14) hx hb hts hin tyX10 tyX10_ok nmX10 hown hK hP hD hS q hq rfl 9 (by decide) hlink (fun _ h9 => h9) rfl (by decide +kernel) rfl rfl (Nat.le_of_ble_eq_true rfl) hdg (fun H1 locs1 h3 h4 h5 => by
    rw [h2] at h3 h4
    exact kk H1 locs1 f2 h3 h4 h5 hR2)
theorem rep_now_0 (h : Rep tA S ad L f) (hD : va_D A (va_pl L f)) {q : Nat} (hi : V S 0 i) (hq : (va_pl L f)[q]? = some (ad 0 i, C tA S ad 0 i)) (v : Int32) : ∃ f2 : Nat → va_E, (va_pl L f).set q (ad 0 i, .inr (12, ([.ref (ad 15 0), .ref (ad 16 0), .ref (ad 17 0), .ref (ad 18 0), .ref (ad 19 0), .ref (ad 14 0), .int (nI (sN S 0 0)), .int (nI (sN S 1 0)), .int (nI (sN S 2 0)), .int (sI S 1 i), .int (nI (sN S 3 0)), .int (sI S 2 i), .long (sJ S 1 i), .long (sJ S 2 i)] : List Value).set 11 (.int v))) = va_pl L f2 ∧ Rep tA (uI S 2 i v) ad L f2 := by
  refine h.put hD (k := 0) hi hq (fun _ _ h => h) (fun k2 i2 hv hn => ?_) ?_
  · rcases Nat.lt_or_ge k2 23 with hk | hk
    · by_cases hk2 : k2 = 0
      · subst hk2
        have hi2 : i2 ≠ i := fun q => hn ⟨rfl, q⟩
        simp [C, sN, sI, sJ, sR, sP, uI, uJ, uR, up2, hi2]
      · have hc : ∀ n : Nat, n < 23 → n ≠ 0 → C tA (uI S 2 i v) ad n i2 = C tA S ad n i2 := by
          intro n hn1 hn2
          match n, hn1, hn2 with
          | 0, _, hn2 => exact absurd rfl hn2
          | 1, _, hn2 => first | rfl | simp [C, sN, sI, sJ, sR, sP, uI, uJ, uR, up2]
          | 2, _, hn2 => first | rfl | simp [C, sN, sI, sJ, sR, sP, uI, uJ, uR, up2]
          | 3, _, hn2 => first | rfl | simp [C, sN, sI, sJ, sR, sP, uI, uJ, uR, up2]
          | 4, _, hn2 => first | rfl | simp [C, sN, sI, sJ, sR, sP, uI, uJ, uR, up2]
          | 5, _, hn2 => first | rfl | simp [C, sN, sI, sJ, sR, sP, uI, uJ, uR, up2]
          | 6, _, hn2 => first | rfl | simp [C, sN, sI, sJ, sR, sP, uI, uJ, uR, up2]
          | 7, _, hn2 => first | rfl | simp [C, sN, sI, sJ, sR, sP, uI, uJ, uR, up2]
          | 8, _, hn2 => first | rfl | simp [C, sN, sI, sJ, sR, sP, uI, uJ, uR, up2]
          | 9, _, hn2 => first | rfl | simp [C, sN, sI, sJ, sR, sP, uI, uJ, uR, up2]
          | 10, _, hn2 => first | rfl | simp [C, sN, sI, sJ, sR, sP, uI, uJ, uR, up2]
          | 11, _, hn2 => first | rfl | simp [C, sN, sI, sJ, sR, sP, uI, uJ, uR, up2]
          | 12, _, hn2 => first | rfl | simp [C, sN, sI, sJ, sR, sP, uI, uJ, uR, up2]
          | 13, _, hn2 => first | rfl | simp [C, sN, sI, sJ, sR, sP, uI, uJ, uR, up2]
          | 14, _, hn2 => first | rfl | simp [C, sN, sI, sJ, sR, sP, uI, uJ, uR, up2]
          | 15, _, hn2 => first | rfl | simp [C, sN, sI, sJ, sR, sP, uI, uJ, uR, up2]
          | 16, _, hn2 => first | rfl | simp [C, sN, sI, sJ, sR, sP, uI, uJ, uR, up2]
          | 17, _, hn2 => first | rfl | simp [C, sN, sI, sJ, sR, sP, uI, uJ, uR, up2]
          | 18, _, hn2 => first | rfl | simp [C, sN, sI, sJ, sR, sP, uI, uJ, uR, up2]
          | 19, _, hn2 => first | rfl | simp [C, sN, sI, sJ, sR, sP, uI, uJ, uR, up2]
          | 20, _, hn2 => first | rfl | simp [C, sN, sI, sJ, sR, sP, uI, uJ, uR, up2]
          | 21, _, hn2 => first | rfl | simp [C, sN, sI, sJ, sR, sP, uI, uJ, uR, up2]
          | 22, _, hn2 => first | rfl | simp [C, sN, sI, sJ, sR, sP, uI, uJ, uR, up2]
          | n + 23, hn1, _ => exact absurd hn1 (by omega)
        exact hc k2 hk hk2
    · exact False.elim (by
        obtain ⟨n, rfl⟩ : ∃ n, k2 = n + 23 := ⟨k2 - 23, by omega⟩
        exact hv)
  · simp [C, sN, sI, sJ, sR, sP, uI, uJ, uR, up2]
theorem put_now_0 (hx : p.tables.exec = Jvm.exec) (hb : c.code = cc) (hts : ∀ w ∈ Ts, w.before args s = true) (hin : ∀ w ∈ u_ws RX10 TX10 14, w ∈ Ts) (hown : s.vm.findClass own = some m.cls) (hK : va_K D vwCl (gT tA) s) (hP : va_P D vwCl (va_pl L f) H) (hD : va_D A (va_pl L f)) (hS : va_S A H0 H locs) (hR : Rep tA S ad L f) (hi : V S 0 i) (hlink : (Cond.fieldLink own index (TX10 11).1 (TX10 11).2.1 (TX10 11).2.2.1).before args s = true) {v : Int32} (hdg : decode cc pc = .ok (.putfield index, 3))
    (kk : ∀ (H1 : Heap) (locs1 : List Loc) (f2 : Nat → va_E), va_P D vwCl (va_pl L f2) H1 → va_D A (va_pl L f2) → va_S A H0 H1 locs1 → Rep tA (uI S 2 i v) ad L f2 → W p l e R s m args below meth c H1 locs1 cells slots Q (F0 m (pc + 3) ls rest)) : W p l e R s m args below meth c H locs cells slots Q (F0 m pc ls (.int v :: .ref (ad 0 i) :: rest)) := by
  obtain ⟨q, hq⟩ := cell_0 hR hi
  obtain ⟨f2, h2, hR2⟩ := rep_now_0 hR hD hi hq v
  exact va_put (D := D) (ci := 12) (v := .int v) (ty := .int) (C := RX10) (T := TX10) (N := 14) hx hb hts hin tyX10 tyX10_ok nmX10 hown hK hP hD hS q hq rfl 11 (by decide) hlink (fun _ h9 => h9) rfl (by decide +kernel) rfl rfl (Nat.le_of_ble_eq_true rfl) hdg (fun H1 locs1 h3 h4 h5 => by
    rw [h2] at h3 h4
    exact kk H1 locs1 f2 h3 h4 h5 hR2)
theorem rep_costIn_0 (h : Rep tA S ad L f) (hD : va_D A (va_pl L f)) {q : Nat} (hi : V S 0 i) (hq : (va_pl L f)[q]? = some (ad 0 i, C tA S ad 0 i)) (v : Int64) : ∃ f2 : Nat → va_E, (va_pl L f).set q (ad 0 i, .inr (12, ([.ref (ad 15 0), .ref (ad 16 0), .ref (ad 17 0), .ref (ad 18 0), .ref (ad 19 0), .ref (ad 14 0), .int (nI (sN S 0 0)), .int (nI (sN S 1 0)), .int (nI (sN S 2 0)), .int (sI S 1 i), .int (nI (sN S 3 0)), .int (sI S 2 i), .long (sJ S 1 i), .long (sJ S 2 i)] : List Value).set 12 (.long v))) = va_pl L f2 ∧ Rep tA (uJ S 1 i v) ad L f2 := by
  refine h.put hD (k := 0) hi hq (fun _ _ h => h) (fun k2 i2 hv hn => ?_) ?_
  · rcases Nat.lt_or_ge k2 23 with hk | hk
    · by_cases hk2 : k2 = 0
      · subst hk2
        have hi2 : i2 ≠ i := fun q => hn ⟨rfl, q⟩
        simp [C, sN, sI, sJ, sR, sP, uI, uJ, uR, up2, hi2]
      · have hc : ∀ n : Nat, n < 23 → n ≠ 0 → C tA (uJ S 1 i v) ad n i2 = C tA S ad n i2 := by
          intro n hn1 hn2
          match n, hn1, hn2 with
          | 0, _, hn2 => exact absurd rfl hn2
          | 1, _, hn2 => first | rfl | simp [C, sN, sI, sJ, sR, sP, uI, uJ, uR, up2]
          | 2, _, hn2 => first | rfl | simp [C, sN, sI, sJ, sR, sP, uI, uJ, uR, up2]
          | 3, _, hn2 => first | rfl | simp [C, sN, sI, sJ, sR, sP, uI, uJ, uR, up2]
          | 4, _, hn2 => first | rfl | simp [C, sN, sI, sJ, sR, sP, uI, uJ, uR, up2]
          | 5, _, hn2 => first | rfl | simp [C, sN, sI, sJ, sR, sP, uI, uJ, uR, up2]
          | 6, _, hn2 => first | rfl | simp [C, sN, sI, sJ, sR, sP, uI, uJ, uR, up2]
          | 7, _, hn2 => first | rfl | simp [C, sN, sI, sJ, sR, sP, uI, uJ, uR, up2]
          | 8, _, hn2 => first | rfl | simp [C, sN, sI, sJ, sR, sP, uI, uJ, uR, up2]
          | 9, _, hn2 => first | rfl | simp [C, sN, sI, sJ, sR, sP, uI, uJ, uR, up2]
          | 10, _, hn2 => first | rfl | simp [C, sN, sI, sJ, sR, sP, uI, uJ, uR, up2]
          | 11, _, hn2 => first | rfl | simp [C, sN, sI, sJ, sR, sP, uI, uJ, uR, up2]
          | 12, _, hn2 => first | rfl | simp [C, sN, sI, sJ, sR, sP, uI, uJ, uR, up2]
          | 13, _, hn2 => first | rfl | simp [C, sN, sI, sJ, sR, sP, uI, uJ, uR, up2]
          | 14, _, hn2 => first | rfl | simp [C, sN, sI, sJ, sR, sP, uI, uJ, uR, up2]
          | 15, _, hn2 => first | rfl | simp [C, sN, sI, sJ, sR, sP, uI, uJ, uR, up2]
          | 16, _, hn2 => first | rfl | simp [C, sN, sI, sJ, sR, sP, uI, uJ, uR, up2]
          | 17, _, hn2 => first | rfl | simp [C, sN, sI, sJ, sR, sP, uI, uJ, uR, up2]
          | 18, _, hn2 => first | rfl | simp [C, sN, sI, sJ, sR, sP, uI, uJ, uR, up2]
          | 19, _, hn2 => first | rfl | simp [C, sN, sI, sJ, sR, sP, uI, uJ, uR, up2]
          | 20, _, hn2 => first | rfl | simp [C, sN, sI, sJ, sR, sP, uI, uJ, uR, up2]
          | 21, _, hn2 => first | rfl | simp [C, sN, sI, sJ, sR, sP, uI, uJ, uR, up2]
          | 22, _, hn2 => first | rfl | simp [C, sN, sI, sJ, sR, sP, uI, uJ, uR, up2]
          | n + 23, hn1, _ => exact absurd hn1 (by omega)
        exact hc k2 hk hk2
    · exact False.elim (by
        obtain ⟨n, rfl⟩ : ∃ n, k2 = n + 23 := ⟨k2 - 23, by omega⟩
        exact hv)
  · simp [C, sN, sI, sJ, sR, sP, uI, uJ, uR, up2]
theorem put_costIn_0 (hx : p.tables.exec = Jvm.exec) (hb : c.code = cc) (hts : ∀ w ∈ Ts, w.before args s = true) (hin : ∀ w ∈ u_ws RX10 TX10 14, w ∈ Ts) (hown : s.vm.findClass own = some m.cls) (hK : va_K D vwCl (gT tA) s) (hP : va_P D vwCl (va_pl L f) H) (hD : va_D A (va_pl L f)) (hS : va_S A H0 H locs) (hR : Rep tA S ad L f) (hi : V S 0 i) (hlink : (Cond.fieldLink own index (TX10 12).1 (TX10 12).2.1 (TX10 12).2.2.1).before args s = true) {v : Int64} (hdg : decode cc pc = .ok (.putfield index, 3))
    (kk : ∀ (H1 : Heap) (locs1 : List Loc) (f2 : Nat → va_E), va_P D vwCl (va_pl L f2) H1 → va_D A (va_pl L f2) → va_S A H0 H1 locs1 → Rep tA (uJ S 1 i v) ad L f2 → W p l e R s m args below meth c H1 locs1 cells slots Q (F0 m (pc + 3) ls rest)) : W p l e R s m args below meth c H locs cells slots Q (F0 m pc ls (.long v :: .ref (ad 0 i) :: rest)) := by
  obtain ⟨q, hq⟩ := cell_0 hR hi
  obtain ⟨f2, h2, hR2⟩ := rep_costIn_0 hR hD hi hq v
  exact va_put (D := D) (ci := 12) (v := .long v) (ty := .long) (C := RX10) (T := TX10) (N := 14) hx hb hts hin tyX10 tyX10_ok nmX10 hown hK hP hD hS q hq rfl 12 (by decide) hlink (fun _ h9 => h9) rfl (by decide +kernel) rfl rfl (Nat.le_of_ble_eq_true rfl) hdg (fun H1 locs1 h3 h4 h5 => by
    rw [h2] at h3 h4
    exact kk H1 locs1 f2 h3 h4 h5 hR2)
theorem rep_costLost_0 (h : Rep tA S ad L f) (hD : va_D A (va_pl L f)) {q : Nat} (hi : V S 0 i) (hq : (va_pl L f)[q]? = some (ad 0 i, C tA S ad 0 i)) (v : Int64) : ∃ f2 : Nat → va_E, (va_pl L f).set q (ad 0 i, .inr (12, ([.ref (ad 15 0), .ref (ad 16 0), .ref (ad 17 0), .ref (ad 18 0), .ref (ad 19 0), .ref (ad 14 0), .int (nI (sN S 0 0)), .int (nI (sN S 1 0)), .int (nI (sN S 2 0)), .int (sI S 1 i), .int (nI (sN S 3 0)), .int (sI S 2 i), .long (sJ S 1 i), .long (sJ S 2 i)] : List Value).set 13 (.long v))) = va_pl L f2 ∧ Rep tA (uJ S 2 i v) ad L f2 := by
  refine h.put hD (k := 0) hi hq (fun _ _ h => h) (fun k2 i2 hv hn => ?_) ?_
  · rcases Nat.lt_or_ge k2 23 with hk | hk
    · by_cases hk2 : k2 = 0
      · subst hk2
        have hi2 : i2 ≠ i := fun q => hn ⟨rfl, q⟩
        simp [C, sN, sI, sJ, sR, sP, uI, uJ, uR, up2, hi2]
      · have hc : ∀ n : Nat, n < 23 → n ≠ 0 → C tA (uJ S 2 i v) ad n i2 = C tA S ad n i2 := by
          intro n hn1 hn2
          match n, hn1, hn2 with
          | 0, _, hn2 => exact absurd rfl hn2
          | 1, _, hn2 => first | rfl | simp [C, sN, sI, sJ, sR, sP, uI, uJ, uR, up2]
          | 2, _, hn2 => first | rfl | simp [C, sN, sI, sJ, sR, sP, uI, uJ, uR, up2]
          | 3, _, hn2 => first | rfl | simp [C, sN, sI, sJ, sR, sP, uI, uJ, uR, up2]
          | 4, _, hn2 => first | rfl | simp [C, sN, sI, sJ, sR, sP, uI, uJ, uR, up2]
          | 5, _, hn2 => first | rfl | simp [C, sN, sI, sJ, sR, sP, uI, uJ, uR, up2]
          | 6, _, hn2 => first | rfl | simp [C, sN, sI, sJ, sR, sP, uI, uJ, uR, up2]
          | 7, _, hn2 => first | rfl | simp [C, sN, sI, sJ, sR, sP, uI, uJ, uR, up2]
          | 8, _, hn2 => first | rfl | simp [C, sN, sI, sJ, sR, sP, uI, uJ, uR, up2]
          | 9, _, hn2 => first | rfl | simp [C, sN, sI, sJ, sR, sP, uI, uJ, uR, up2]
          | 10, _, hn2 => first | rfl | simp [C, sN, sI, sJ, sR, sP, uI, uJ, uR, up2]
          | 11, _, hn2 => first | rfl | simp [C, sN, sI, sJ, sR, sP, uI, uJ, uR, up2]
          | 12, _, hn2 => first | rfl | simp [C, sN, sI, sJ, sR, sP, uI, uJ, uR, up2]
          | 13, _, hn2 => first | rfl | simp [C, sN, sI, sJ, sR, sP, uI, uJ, uR, up2]
          | 14, _, hn2 => first | rfl | simp [C, sN, sI, sJ, sR, sP, uI, uJ, uR, up2]
          | 15, _, hn2 => first | rfl | simp [C, sN, sI, sJ, sR, sP, uI, uJ, uR, up2]
          | 16, _, hn2 => first | rfl | simp [C, sN, sI, sJ, sR, sP, uI, uJ, uR, up2]
          | 17, _, hn2 => first | rfl | simp [C, sN, sI, sJ, sR, sP, uI, uJ, uR, up2]
          | 18, _, hn2 => first | rfl | simp [C, sN, sI, sJ, sR, sP, uI, uJ, uR, up2]
          | 19, _, hn2 => first | rfl | simp [C, sN, sI, sJ, sR, sP, uI, uJ, uR, up2]
          | 20, _, hn2 => first | rfl | simp [C, sN, sI, sJ, sR, sP, uI, uJ, uR, up2]
          | 21, _, hn2 => first | rfl | simp [C, sN, sI, sJ, sR, sP, uI, uJ, uR, up2]
          | 22, _, hn2 => first | rfl | simp [C, sN, sI, sJ, sR, sP, uI, uJ, uR, up2]
          | n + 23, hn1, _ => exact absurd hn1 (by omega)
        exact hc k2 hk hk2
    · exact False.elim (by
        obtain ⟨n, rfl⟩ : ∃ n, k2 = n + 23 := ⟨k2 - 23, by omega⟩
        exact hv)
  · simp [C, sN, sI, sJ, sR, sP, uI, uJ, uR, up2]
theorem put_costLost_0 (hx : p.tables.exec = Jvm.exec) (hb : c.code = cc) (hts : ∀ w ∈ Ts, w.before args s = true) (hin : ∀ w ∈ u_ws RX10 TX10 14, w ∈ Ts) (hown : s.vm.findClass own = some m.cls) (hK : va_K D vwCl (gT tA) s) (hP : va_P D vwCl (va_pl L f) H) (hD : va_D A (va_pl L f)) (hS : va_S A H0 H locs) (hR : Rep tA S ad L f) (hi : V S 0 i) (hlink : (Cond.fieldLink own index (TX10 13).1 (TX10 13).2.1 (TX10 13).2.2.1).before args s = true) {v : Int64} (hdg : decode cc pc = .ok (.putfield index, 3))
    (kk : ∀ (H1 : Heap) (locs1 : List Loc) (f2 : Nat → va_E), va_P D vwCl (va_pl L f2) H1 → va_D A (va_pl L f2) → va_S A H0 H1 locs1 → Rep tA (uJ S 2 i v) ad L f2 → W p l e R s m args below meth c H1 locs1 cells slots Q (F0 m (pc + 3) ls rest)) : W p l e R s m args below meth c H locs cells slots Q (F0 m pc ls (.long v :: .ref (ad 0 i) :: rest)) := by
  obtain ⟨q, hq⟩ := cell_0 hR hi
  obtain ⟨f2, h2, hR2⟩ := rep_costLost_0 hR hD hi hq v
  exact va_put (D := D) (ci := 12) (v := .long v) (ty := .long) (C := RX10) (T := TX10) (N := 14) hx hb hts hin tyX10 tyX10_ok nmX10 hown hK hP hD hS q hq rfl 13 (by decide) hlink (fun _ h9 => h9) rfl (by decide +kernel) rfl rfl (Nat.le_of_ble_eq_true rfl) hdg (fun H1 locs1 h3 h4 h5 => by
    rw [h2] at h3 h4
    exact kk H1 locs1 f2 h3 h4 h5 hR2)
theorem rep_state_1 (h : Rep tA S ad L f) (hD : va_D A (va_pl L f)) {q : Nat} (hi : V S 1 i) (hq : (va_pl L f)[q]? = some (ad 1 i, C tA S ad 1 i)) (v : Int32) : ∃ f2 : Nat → va_E, (va_pl L f).set q (ad 1 i, .inr (6, ([.int (sI S 10 i), .int (sI S 11 i), .int (sI S 12 i), .int (sI S 13 i), .int (sI S 14 i), .int (sI S 15 i), .int (sI S 16 i), .int (sI S 17 i), .int (sI S 18 i), .int (sI S 19 i), rf ad 11 (sR S 1 i)] : List Value).set 4 (.int v))) = va_pl L f2 ∧ Rep tA (uI S 14 i v) ad L f2 := by
  refine h.put hD (k := 1) hi hq (fun _ _ h => h) (fun k2 i2 hv hn => ?_) ?_
  · rcases Nat.lt_or_ge k2 23 with hk | hk
    · by_cases hk2 : k2 = 1
      · subst hk2
        have hi2 : i2 ≠ i := fun q => hn ⟨rfl, q⟩
        simp [C, sN, sI, sJ, sR, sP, uI, uJ, uR, up2, hi2]
      · have hc : ∀ n : Nat, n < 23 → n ≠ 1 → C tA (uI S 14 i v) ad n i2 = C tA S ad n i2 := by
          intro n hn1 hn2
          match n, hn1, hn2 with
          | 0, _, hn2 => first | rfl | simp [C, sN, sI, sJ, sR, sP, uI, uJ, uR, up2]
          | 1, _, hn2 => exact absurd rfl hn2
          | 2, _, hn2 => first | rfl | simp [C, sN, sI, sJ, sR, sP, uI, uJ, uR, up2]
          | 3, _, hn2 => first | rfl | simp [C, sN, sI, sJ, sR, sP, uI, uJ, uR, up2]
          | 4, _, hn2 => first | rfl | simp [C, sN, sI, sJ, sR, sP, uI, uJ, uR, up2]
          | 5, _, hn2 => first | rfl | simp [C, sN, sI, sJ, sR, sP, uI, uJ, uR, up2]
          | 6, _, hn2 => first | rfl | simp [C, sN, sI, sJ, sR, sP, uI, uJ, uR, up2]
          | 7, _, hn2 => first | rfl | simp [C, sN, sI, sJ, sR, sP, uI, uJ, uR, up2]
          | 8, _, hn2 => first | rfl | simp [C, sN, sI, sJ, sR, sP, uI, uJ, uR, up2]
          | 9, _, hn2 => first | rfl | simp [C, sN, sI, sJ, sR, sP, uI, uJ, uR, up2]
          | 10, _, hn2 => first | rfl | simp [C, sN, sI, sJ, sR, sP, uI, uJ, uR, up2]
          | 11, _, hn2 => first | rfl | simp [C, sN, sI, sJ, sR, sP, uI, uJ, uR, up2]
          | 12, _, hn2 => first | rfl | simp [C, sN, sI, sJ, sR, sP, uI, uJ, uR, up2]
          | 13, _, hn2 => first | rfl | simp [C, sN, sI, sJ, sR, sP, uI, uJ, uR, up2]
          | 14, _, hn2 => first | rfl | simp [C, sN, sI, sJ, sR, sP, uI, uJ, uR, up2]
          | 15, _, hn2 => first | rfl | simp [C, sN, sI, sJ, sR, sP, uI, uJ, uR, up2]
          | 16, _, hn2 => first | rfl | simp [C, sN, sI, sJ, sR, sP, uI, uJ, uR, up2]
          | 17, _, hn2 => first | rfl | simp [C, sN, sI, sJ, sR, sP, uI, uJ, uR, up2]
          | 18, _, hn2 => first | rfl | simp [C, sN, sI, sJ, sR, sP, uI, uJ, uR, up2]
          | 19, _, hn2 => first | rfl | simp [C, sN, sI, sJ, sR, sP, uI, uJ, uR, up2]
          | 20, _, hn2 => first | rfl | simp [C, sN, sI, sJ, sR, sP, uI, uJ, uR, up2]
          | 21, _, hn2 => first | rfl | simp [C, sN, sI, sJ, sR, sP, uI, uJ, uR, up2]
          | 22, _, hn2 => first | rfl | simp [C, sN, sI, sJ, sR, sP, uI, uJ, uR, up2]
          | n + 23, hn1, _ => exact absurd hn1 (by omega)
        exact hc k2 hk hk2
    · exact False.elim (by
        obtain ⟨n, rfl⟩ : ∃ n, k2 = n + 23 := ⟨k2 - 23, by omega⟩
        exact hv)
  · simp [C, sN, sI, sJ, sR, sP, uI, uJ, uR, up2]
theorem put_state_1 (hx : p.tables.exec = Jvm.exec) (hb : c.code = cc) (hts : ∀ w ∈ Ts, w.before args s = true) (hin : ∀ w ∈ u_ws RX4 TX4 11, w ∈ Ts) (hown : s.vm.findClass own = some m.cls) (hK : va_K D vwCl (gT tA) s) (hP : va_P D vwCl (va_pl L f) H) (hD : va_D A (va_pl L f)) (hS : va_S A H0 H locs) (hR : Rep tA S ad L f) (hi : V S 1 i) (hlink : (Cond.fieldLink own index (TX4 4).1 (TX4 4).2.1 (TX4 4).2.2.1).before args s = true) {v : Int32} (hnar : narrow .char (.int v) = .int v) (hfit : fits .char (.int v) = true) (hdg : decode cc pc = .ok (.putfield index, 3))
    (kk : ∀ (H1 : Heap) (locs1 : List Loc) (f2 : Nat → va_E), va_P D vwCl (va_pl L f2) H1 → va_D A (va_pl L f2) → va_S A H0 H1 locs1 → Rep tA (uI S 14 i v) ad L f2 → W p l e R s m args below meth c H1 locs1 cells slots Q (F0 m (pc + 3) ls rest)) : W p l e R s m args below meth c H locs cells slots Q (F0 m pc ls (.int v :: .ref (ad 1 i) :: rest)) := by
  obtain ⟨q, hq⟩ := cell_1 hR hi
  obtain ⟨f2, h2, hR2⟩ := rep_state_1 hR hD hi hq v
  exact va_put (D := D) (ci := 6) (v := .int v) (ty := .char) (C := RX4) (T := TX4) (N := 11) hx hb hts hin tyX4 tyX4_ok nmX4 hown hK hP hD hS q hq rfl 4 (by decide) hlink (fun _ h9 => h9) rfl (by decide +kernel) hnar hfit (Nat.le_of_ble_eq_true rfl) hdg (fun H1 locs1 h3 h4 h5 => by
    rw [h2] at h3 h4
    exact kk H1 locs1 f2 h3 h4 h5 hR2)
theorem rep_family_1 (h : Rep tA S ad L f) (hD : va_D A (va_pl L f)) {q : Nat} (hi : V S 1 i) (hq : (va_pl L f)[q]? = some (ad 1 i, C tA S ad 1 i)) (v : Int32) : ∃ f2 : Nat → va_E, (va_pl L f).set q (ad 1 i, .inr (6, ([.int (sI S 10 i), .int (sI S 11 i), .int (sI S 12 i), .int (sI S 13 i), .int (sI S 14 i), .int (sI S 15 i), .int (sI S 16 i), .int (sI S 17 i), .int (sI S 18 i), .int (sI S 19 i), rf ad 11 (sR S 1 i)] : List Value).set 5 (.int v))) = va_pl L f2 ∧ Rep tA (uI S 15 i v) ad L f2 := by
  refine h.put hD (k := 1) hi hq (fun _ _ h => h) (fun k2 i2 hv hn => ?_) ?_
  · rcases Nat.lt_or_ge k2 23 with hk | hk
    · by_cases hk2 : k2 = 1
      · subst hk2
        have hi2 : i2 ≠ i := fun q => hn ⟨rfl, q⟩
        simp [C, sN, sI, sJ, sR, sP, uI, uJ, uR, up2, hi2]
      · have hc : ∀ n : Nat, n < 23 → n ≠ 1 → C tA (uI S 15 i v) ad n i2 = C tA S ad n i2 := by
          intro n hn1 hn2
          match n, hn1, hn2 with
          | 0, _, hn2 => first | rfl | simp [C, sN, sI, sJ, sR, sP, uI, uJ, uR, up2]
          | 1, _, hn2 => exact absurd rfl hn2
          | 2, _, hn2 => first | rfl | simp [C, sN, sI, sJ, sR, sP, uI, uJ, uR, up2]
          | 3, _, hn2 => first | rfl | simp [C, sN, sI, sJ, sR, sP, uI, uJ, uR, up2]
          | 4, _, hn2 => first | rfl | simp [C, sN, sI, sJ, sR, sP, uI, uJ, uR, up2]
          | 5, _, hn2 => first | rfl | simp [C, sN, sI, sJ, sR, sP, uI, uJ, uR, up2]
          | 6, _, hn2 => first | rfl | simp [C, sN, sI, sJ, sR, sP, uI, uJ, uR, up2]
          | 7, _, hn2 => first | rfl | simp [C, sN, sI, sJ, sR, sP, uI, uJ, uR, up2]
          | 8, _, hn2 => first | rfl | simp [C, sN, sI, sJ, sR, sP, uI, uJ, uR, up2]
          | 9, _, hn2 => first | rfl | simp [C, sN, sI, sJ, sR, sP, uI, uJ, uR, up2]
          | 10, _, hn2 => first | rfl | simp [C, sN, sI, sJ, sR, sP, uI, uJ, uR, up2]
          | 11, _, hn2 => first | rfl | simp [C, sN, sI, sJ, sR, sP, uI, uJ, uR, up2]
          | 12, _, hn2 => first | rfl | simp [C, sN, sI, sJ, sR, sP, uI, uJ, uR, up2]
          | 13, _, hn2 => first | rfl | simp [C, sN, sI, sJ, sR, sP, uI, uJ, uR, up2]
          | 14, _, hn2 => first | rfl | simp [C, sN, sI, sJ, sR, sP, uI, uJ, uR, up2]
          | 15, _, hn2 => first | rfl | simp [C, sN, sI, sJ, sR, sP, uI, uJ, uR, up2]
          | 16, _, hn2 => first | rfl | simp [C, sN, sI, sJ, sR, sP, uI, uJ, uR, up2]
          | 17, _, hn2 => first | rfl | simp [C, sN, sI, sJ, sR, sP, uI, uJ, uR, up2]
          | 18, _, hn2 => first | rfl | simp [C, sN, sI, sJ, sR, sP, uI, uJ, uR, up2]
          | 19, _, hn2 => first | rfl | simp [C, sN, sI, sJ, sR, sP, uI, uJ, uR, up2]
          | 20, _, hn2 => first | rfl | simp [C, sN, sI, sJ, sR, sP, uI, uJ, uR, up2]
          | 21, _, hn2 => first | rfl | simp [C, sN, sI, sJ, sR, sP, uI, uJ, uR, up2]
          | 22, _, hn2 => first | rfl | simp [C, sN, sI, sJ, sR, sP, uI, uJ, uR, up2]
          | n + 23, hn1, _ => exact absurd hn1 (by omega)
        exact hc k2 hk hk2
    · exact False.elim (by
        obtain ⟨n, rfl⟩ : ∃ n, k2 = n + 23 := ⟨k2 - 23, by omega⟩
        exact hv)
  · simp [C, sN, sI, sJ, sR, sP, uI, uJ, uR, up2]
theorem put_family_1 (hx : p.tables.exec = Jvm.exec) (hb : c.code = cc) (hts : ∀ w ∈ Ts, w.before args s = true) (hin : ∀ w ∈ u_ws RX4 TX4 11, w ∈ Ts) (hown : s.vm.findClass own = some m.cls) (hK : va_K D vwCl (gT tA) s) (hP : va_P D vwCl (va_pl L f) H) (hD : va_D A (va_pl L f)) (hS : va_S A H0 H locs) (hR : Rep tA S ad L f) (hi : V S 1 i) (hlink : (Cond.fieldLink own index (TX4 5).1 (TX4 5).2.1 (TX4 5).2.2.1).before args s = true) {v : Int32} (hdg : decode cc pc = .ok (.putfield index, 3))
    (kk : ∀ (H1 : Heap) (locs1 : List Loc) (f2 : Nat → va_E), va_P D vwCl (va_pl L f2) H1 → va_D A (va_pl L f2) → va_S A H0 H1 locs1 → Rep tA (uI S 15 i v) ad L f2 → W p l e R s m args below meth c H1 locs1 cells slots Q (F0 m (pc + 3) ls rest)) : W p l e R s m args below meth c H locs cells slots Q (F0 m pc ls (.int v :: .ref (ad 1 i) :: rest)) := by
  obtain ⟨q, hq⟩ := cell_1 hR hi
  obtain ⟨f2, h2, hR2⟩ := rep_family_1 hR hD hi hq v
  exact va_put (D := D) (ci := 6) (v := .int v) (ty := .int) (C := RX4) (T := TX4) (N := 11) hx hb hts hin tyX4 tyX4_ok nmX4 hown hK hP hD hS q hq rfl 5 (by decide) hlink (fun _ h9 => h9) rfl (by decide +kernel) rfl rfl (Nat.le_of_ble_eq_true rfl) hdg (fun H1 locs1 h3 h4 h5 => by
    rw [h2] at h3 h4
    exact kk H1 locs1 f2 h3 h4 h5 hR2)
theorem rep_wear_1 (h : Rep tA S ad L f) (hD : va_D A (va_pl L f)) {q : Nat} (hi : V S 1 i) (hq : (va_pl L f)[q]? = some (ad 1 i, C tA S ad 1 i)) (v : Int32) : ∃ f2 : Nat → va_E, (va_pl L f).set q (ad 1 i, .inr (6, ([.int (sI S 10 i), .int (sI S 11 i), .int (sI S 12 i), .int (sI S 13 i), .int (sI S 14 i), .int (sI S 15 i), .int (sI S 16 i), .int (sI S 17 i), .int (sI S 18 i), .int (sI S 19 i), rf ad 11 (sR S 1 i)] : List Value).set 6 (.int v))) = va_pl L f2 ∧ Rep tA (uI S 16 i v) ad L f2 := by
  refine h.put hD (k := 1) hi hq (fun _ _ h => h) (fun k2 i2 hv hn => ?_) ?_
  · rcases Nat.lt_or_ge k2 23 with hk | hk
    · by_cases hk2 : k2 = 1
      · subst hk2
        have hi2 : i2 ≠ i := fun q => hn ⟨rfl, q⟩
        simp [C, sN, sI, sJ, sR, sP, uI, uJ, uR, up2, hi2]
      · have hc : ∀ n : Nat, n < 23 → n ≠ 1 → C tA (uI S 16 i v) ad n i2 = C tA S ad n i2 := by
          intro n hn1 hn2
          match n, hn1, hn2 with
          | 0, _, hn2 => first | rfl | simp [C, sN, sI, sJ, sR, sP, uI, uJ, uR, up2]
          | 1, _, hn2 => exact absurd rfl hn2
          | 2, _, hn2 => first | rfl | simp [C, sN, sI, sJ, sR, sP, uI, uJ, uR, up2]
          | 3, _, hn2 => first | rfl | simp [C, sN, sI, sJ, sR, sP, uI, uJ, uR, up2]
          | 4, _, hn2 => first | rfl | simp [C, sN, sI, sJ, sR, sP, uI, uJ, uR, up2]
          | 5, _, hn2 => first | rfl | simp [C, sN, sI, sJ, sR, sP, uI, uJ, uR, up2]
          | 6, _, hn2 => first | rfl | simp [C, sN, sI, sJ, sR, sP, uI, uJ, uR, up2]
          | 7, _, hn2 => first | rfl | simp [C, sN, sI, sJ, sR, sP, uI, uJ, uR, up2]
          | 8, _, hn2 => first | rfl | simp [C, sN, sI, sJ, sR, sP, uI, uJ, uR, up2]
          | 9, _, hn2 => first | rfl | simp [C, sN, sI, sJ, sR, sP, uI, uJ, uR, up2]
          | 10, _, hn2 => first | rfl | simp [C, sN, sI, sJ, sR, sP, uI, uJ, uR, up2]
          | 11, _, hn2 => first | rfl | simp [C, sN, sI, sJ, sR, sP, uI, uJ, uR, up2]
          | 12, _, hn2 => first | rfl | simp [C, sN, sI, sJ, sR, sP, uI, uJ, uR, up2]
          | 13, _, hn2 => first | rfl | simp [C, sN, sI, sJ, sR, sP, uI, uJ, uR, up2]
          | 14, _, hn2 => first | rfl | simp [C, sN, sI, sJ, sR, sP, uI, uJ, uR, up2]
          | 15, _, hn2 => first | rfl | simp [C, sN, sI, sJ, sR, sP, uI, uJ, uR, up2]
          | 16, _, hn2 => first | rfl | simp [C, sN, sI, sJ, sR, sP, uI, uJ, uR, up2]
          | 17, _, hn2 => first | rfl | simp [C, sN, sI, sJ, sR, sP, uI, uJ, uR, up2]
          | 18, _, hn2 => first | rfl | simp [C, sN, sI, sJ, sR, sP, uI, uJ, uR, up2]
          | 19, _, hn2 => first | rfl | simp [C, sN, sI, sJ, sR, sP, uI, uJ, uR, up2]
          | 20, _, hn2 => first | rfl | simp [C, sN, sI, sJ, sR, sP, uI, uJ, uR, up2]
          | 21, _, hn2 => first | rfl | simp [C, sN, sI, sJ, sR, sP, uI, uJ, uR, up2]
          | 22, _, hn2 => first | rfl | simp [C, sN, sI, sJ, sR, sP, uI, uJ, uR, up2]
          | n + 23, hn1, _ => exact absurd hn1 (by omega)
        exact hc k2 hk hk2
    · exact False.elim (by
        obtain ⟨n, rfl⟩ : ∃ n, k2 = n + 23 := ⟨k2 - 23, by omega⟩
        exact hv)
  · simp [C, sN, sI, sJ, sR, sP, uI, uJ, uR, up2]
theorem put_wear_1 (hx : p.tables.exec = Jvm.exec) (hb : c.code = cc) (hts : ∀ w ∈ Ts, w.before args s = true) (hin : ∀ w ∈ u_ws RX4 TX4 11, w ∈ Ts) (hown : s.vm.findClass own = some m.cls) (hK : va_K D vwCl (gT tA) s) (hP : va_P D vwCl (va_pl L f) H) (hD : va_D A (va_pl L f)) (hS : va_S A H0 H locs) (hR : Rep tA S ad L f) (hi : V S 1 i) (hlink : (Cond.fieldLink own index (TX4 6).1 (TX4 6).2.1 (TX4 6).2.2.1).before args s = true) {v : Int32} (hdg : decode cc pc = .ok (.putfield index, 3))
    (kk : ∀ (H1 : Heap) (locs1 : List Loc) (f2 : Nat → va_E), va_P D vwCl (va_pl L f2) H1 → va_D A (va_pl L f2) → va_S A H0 H1 locs1 → Rep tA (uI S 16 i v) ad L f2 → W p l e R s m args below meth c H1 locs1 cells slots Q (F0 m (pc + 3) ls rest)) : W p l e R s m args below meth c H locs cells slots Q (F0 m pc ls (.int v :: .ref (ad 1 i) :: rest)) := by
  obtain ⟨q, hq⟩ := cell_1 hR hi
  obtain ⟨f2, h2, hR2⟩ := rep_wear_1 hR hD hi hq v
  exact va_put (D := D) (ci := 6) (v := .int v) (ty := .int) (C := RX4) (T := TX4) (N := 11) hx hb hts hin tyX4 tyX4_ok nmX4 hown hK hP hD hS q hq rfl 6 (by decide) hlink (fun _ h9 => h9) rfl (by decide +kernel) rfl rfl (Nat.le_of_ble_eq_true rfl) hdg (fun H1 locs1 h3 h4 h5 => by
    rw [h2] at h3 h4
    exact kk H1 locs1 f2 h3 h4 h5 hR2)
theorem rep_begunAt_1 (h : Rep tA S ad L f) (hD : va_D A (va_pl L f)) {q : Nat} (hi : V S 1 i) (hq : (va_pl L f)[q]? = some (ad 1 i, C tA S ad 1 i)) (v : Int32) : ∃ f2 : Nat → va_E, (va_pl L f).set q (ad 1 i, .inr (6, ([.int (sI S 10 i), .int (sI S 11 i), .int (sI S 12 i), .int (sI S 13 i), .int (sI S 14 i), .int (sI S 15 i), .int (sI S 16 i), .int (sI S 17 i), .int (sI S 18 i), .int (sI S 19 i), rf ad 11 (sR S 1 i)] : List Value).set 7 (.int v))) = va_pl L f2 ∧ Rep tA (uI S 17 i v) ad L f2 := by
  refine h.put hD (k := 1) hi hq (fun _ _ h => h) (fun k2 i2 hv hn => ?_) ?_
  · rcases Nat.lt_or_ge k2 23 with hk | hk
    · by_cases hk2 : k2 = 1
      · subst hk2
        have hi2 : i2 ≠ i := fun q => hn ⟨rfl, q⟩
        simp [C, sN, sI, sJ, sR, sP, uI, uJ, uR, up2, hi2]
      · have hc : ∀ n : Nat, n < 23 → n ≠ 1 → C tA (uI S 17 i v) ad n i2 = C tA S ad n i2 := by
          intro n hn1 hn2
          match n, hn1, hn2 with
          | 0, _, hn2 => first | rfl | simp [C, sN, sI, sJ, sR, sP, uI, uJ, uR, up2]
          | 1, _, hn2 => exact absurd rfl hn2
          | 2, _, hn2 => first | rfl | simp [C, sN, sI, sJ, sR, sP, uI, uJ, uR, up2]
          | 3, _, hn2 => first | rfl | simp [C, sN, sI, sJ, sR, sP, uI, uJ, uR, up2]
          | 4, _, hn2 => first | rfl | simp [C, sN, sI, sJ, sR, sP, uI, uJ, uR, up2]
          | 5, _, hn2 => first | rfl | simp [C, sN, sI, sJ, sR, sP, uI, uJ, uR, up2]
          | 6, _, hn2 => first | rfl | simp [C, sN, sI, sJ, sR, sP, uI, uJ, uR, up2]
          | 7, _, hn2 => first | rfl | simp [C, sN, sI, sJ, sR, sP, uI, uJ, uR, up2]
          | 8, _, hn2 => first | rfl | simp [C, sN, sI, sJ, sR, sP, uI, uJ, uR, up2]
          | 9, _, hn2 => first | rfl | simp [C, sN, sI, sJ, sR, sP, uI, uJ, uR, up2]
          | 10, _, hn2 => first | rfl | simp [C, sN, sI, sJ, sR, sP, uI, uJ, uR, up2]
          | 11, _, hn2 => first | rfl | simp [C, sN, sI, sJ, sR, sP, uI, uJ, uR, up2]
          | 12, _, hn2 => first | rfl | simp [C, sN, sI, sJ, sR, sP, uI, uJ, uR, up2]
          | 13, _, hn2 => first | rfl | simp [C, sN, sI, sJ, sR, sP, uI, uJ, uR, up2]
          | 14, _, hn2 => first | rfl | simp [C, sN, sI, sJ, sR, sP, uI, uJ, uR, up2]
          | 15, _, hn2 => first | rfl | simp [C, sN, sI, sJ, sR, sP, uI, uJ, uR, up2]
          | 16, _, hn2 => first | rfl | simp [C, sN, sI, sJ, sR, sP, uI, uJ, uR, up2]
          | 17, _, hn2 => first | rfl | simp [C, sN, sI, sJ, sR, sP, uI, uJ, uR, up2]
          | 18, _, hn2 => first | rfl | simp [C, sN, sI, sJ, sR, sP, uI, uJ, uR, up2]
          | 19, _, hn2 => first | rfl | simp [C, sN, sI, sJ, sR, sP, uI, uJ, uR, up2]
          | 20, _, hn2 => first | rfl | simp [C, sN, sI, sJ, sR, sP, uI, uJ, uR, up2]
          | 21, _, hn2 => first | rfl | simp [C, sN, sI, sJ, sR, sP, uI, uJ, uR, up2]
          | 22, _, hn2 => first | rfl | simp [C, sN, sI, sJ, sR, sP, uI, uJ, uR, up2]
          | n + 23, hn1, _ => exact absurd hn1 (by omega)
        exact hc k2 hk hk2
    · exact False.elim (by
        obtain ⟨n, rfl⟩ : ∃ n, k2 = n + 23 := ⟨k2 - 23, by omega⟩
        exact hv)
  · simp [C, sN, sI, sJ, sR, sP, uI, uJ, uR, up2]
theorem put_begunAt_1 (hx : p.tables.exec = Jvm.exec) (hb : c.code = cc) (hts : ∀ w ∈ Ts, w.before args s = true) (hin : ∀ w ∈ u_ws RX4 TX4 11, w ∈ Ts) (hown : s.vm.findClass own = some m.cls) (hK : va_K D vwCl (gT tA) s) (hP : va_P D vwCl (va_pl L f) H) (hD : va_D A (va_pl L f)) (hS : va_S A H0 H locs) (hR : Rep tA S ad L f) (hi : V S 1 i) (hlink : (Cond.fieldLink own index (TX4 7).1 (TX4 7).2.1 (TX4 7).2.2.1).before args s = true) {v : Int32} (hdg : decode cc pc = .ok (.putfield index, 3))
    (kk : ∀ (H1 : Heap) (locs1 : List Loc) (f2 : Nat → va_E), va_P D vwCl (va_pl L f2) H1 → va_D A (va_pl L f2) → va_S A H0 H1 locs1 → Rep tA (uI S 17 i v) ad L f2 → W p l e R s m args below meth c H1 locs1 cells slots Q (F0 m (pc + 3) ls rest)) : W p l e R s m args below meth c H locs cells slots Q (F0 m pc ls (.int v :: .ref (ad 1 i) :: rest)) := by
  obtain ⟨q, hq⟩ := cell_1 hR hi
  obtain ⟨f2, h2, hR2⟩ := rep_begunAt_1 hR hD hi hq v
  exact va_put (D := D) (ci := 6) (v := .int v) (ty := .int) (C := RX4) (T := TX4) (N := 11) hx hb hts hin tyX4 tyX4_ok nmX4 hown hK hP hD hS q hq rfl 7 (by decide) hlink (fun _ h9 => h9) rfl (by decide +kernel) rfl rfl (Nat.le_of_ble_eq_true rfl) hdg (fun H1 locs1 h3 h4 h5 => by
    rw [h2] at h3 h4
    exact kk H1 locs1 f2 h3 h4 h5 hR2)
theorem rep_endsAt_1 (h : Rep tA S ad L f) (hD : va_D A (va_pl L f)) {q : Nat} (hi : V S 1 i) (hq : (va_pl L f)[q]? = some (ad 1 i, C tA S ad 1 i)) (v : Int32) : ∃ f2 : Nat → va_E, (va_pl L f).set q (ad 1 i, .inr (6, ([.int (sI S 10 i), .int (sI S 11 i), .int (sI S 12 i), .int (sI S 13 i), .int (sI S 14 i), .int (sI S 15 i), .int (sI S 16 i), .int (sI S 17 i), .int (sI S 18 i), .int (sI S 19 i), rf ad 11 (sR S 1 i)] : List Value).set 8 (.int v))) = va_pl L f2 ∧ Rep tA (uI S 18 i v) ad L f2 := by
  refine h.put hD (k := 1) hi hq (fun _ _ h => h) (fun k2 i2 hv hn => ?_) ?_
  · rcases Nat.lt_or_ge k2 23 with hk | hk
    · by_cases hk2 : k2 = 1
      · subst hk2
        have hi2 : i2 ≠ i := fun q => hn ⟨rfl, q⟩
        simp [C, sN, sI, sJ, sR, sP, uI, uJ, uR, up2, hi2]
      · have hc : ∀ n : Nat, n < 23 → n ≠ 1 → C tA (uI S 18 i v) ad n i2 = C tA S ad n i2 := by
          intro n hn1 hn2
          match n, hn1, hn2 with
          | 0, _, hn2 => first | rfl | simp [C, sN, sI, sJ, sR, sP, uI, uJ, uR, up2]
          | 1, _, hn2 => exact absurd rfl hn2
          | 2, _, hn2 => first | rfl | simp [C, sN, sI, sJ, sR, sP, uI, uJ, uR, up2]
          | 3, _, hn2 => first | rfl | simp [C, sN, sI, sJ, sR, sP, uI, uJ, uR, up2]
          | 4, _, hn2 => first | rfl | simp [C, sN, sI, sJ, sR, sP, uI, uJ, uR, up2]
          | 5, _, hn2 => first | rfl | simp [C, sN, sI, sJ, sR, sP, uI, uJ, uR, up2]
          | 6, _, hn2 => first | rfl | simp [C, sN, sI, sJ, sR, sP, uI, uJ, uR, up2]
          | 7, _, hn2 => first | rfl | simp [C, sN, sI, sJ, sR, sP, uI, uJ, uR, up2]
          | 8, _, hn2 => first | rfl | simp [C, sN, sI, sJ, sR, sP, uI, uJ, uR, up2]
          | 9, _, hn2 => first | rfl | simp [C, sN, sI, sJ, sR, sP, uI, uJ, uR, up2]
          | 10, _, hn2 => first | rfl | simp [C, sN, sI, sJ, sR, sP, uI, uJ, uR, up2]
          | 11, _, hn2 => first | rfl | simp [C, sN, sI, sJ, sR, sP, uI, uJ, uR, up2]
          | 12, _, hn2 => first | rfl | simp [C, sN, sI, sJ, sR, sP, uI, uJ, uR, up2]
          | 13, _, hn2 => first | rfl | simp [C, sN, sI, sJ, sR, sP, uI, uJ, uR, up2]
          | 14, _, hn2 => first | rfl | simp [C, sN, sI, sJ, sR, sP, uI, uJ, uR, up2]
          | 15, _, hn2 => first | rfl | simp [C, sN, sI, sJ, sR, sP, uI, uJ, uR, up2]
          | 16, _, hn2 => first | rfl | simp [C, sN, sI, sJ, sR, sP, uI, uJ, uR, up2]
          | 17, _, hn2 => first | rfl | simp [C, sN, sI, sJ, sR, sP, uI, uJ, uR, up2]
          | 18, _, hn2 => first | rfl | simp [C, sN, sI, sJ, sR, sP, uI, uJ, uR, up2]
          | 19, _, hn2 => first | rfl | simp [C, sN, sI, sJ, sR, sP, uI, uJ, uR, up2]
          | 20, _, hn2 => first | rfl | simp [C, sN, sI, sJ, sR, sP, uI, uJ, uR, up2]
          | 21, _, hn2 => first | rfl | simp [C, sN, sI, sJ, sR, sP, uI, uJ, uR, up2]
          | 22, _, hn2 => first | rfl | simp [C, sN, sI, sJ, sR, sP, uI, uJ, uR, up2]
          | n + 23, hn1, _ => exact absurd hn1 (by omega)
        exact hc k2 hk hk2
    · exact False.elim (by
        obtain ⟨n, rfl⟩ : ∃ n, k2 = n + 23 := ⟨k2 - 23, by omega⟩
        exact hv)
  · simp [C, sN, sI, sJ, sR, sP, uI, uJ, uR, up2]
theorem put_endsAt_1 (hx : p.tables.exec = Jvm.exec) (hb : c.code = cc) (hts : ∀ w ∈ Ts, w.before args s = true) (hin : ∀ w ∈ u_ws RX4 TX4 11, w ∈ Ts) (hown : s.vm.findClass own = some m.cls) (hK : va_K D vwCl (gT tA) s) (hP : va_P D vwCl (va_pl L f) H) (hD : va_D A (va_pl L f)) (hS : va_S A H0 H locs) (hR : Rep tA S ad L f) (hi : V S 1 i) (hlink : (Cond.fieldLink own index (TX4 8).1 (TX4 8).2.1 (TX4 8).2.2.1).before args s = true) {v : Int32} (hdg : decode cc pc = .ok (.putfield index, 3))
    (kk : ∀ (H1 : Heap) (locs1 : List Loc) (f2 : Nat → va_E), va_P D vwCl (va_pl L f2) H1 → va_D A (va_pl L f2) → va_S A H0 H1 locs1 → Rep tA (uI S 18 i v) ad L f2 → W p l e R s m args below meth c H1 locs1 cells slots Q (F0 m (pc + 3) ls rest)) : W p l e R s m args below meth c H locs cells slots Q (F0 m pc ls (.int v :: .ref (ad 1 i) :: rest)) := by
  obtain ⟨q, hq⟩ := cell_1 hR hi
  obtain ⟨f2, h2, hR2⟩ := rep_endsAt_1 hR hD hi hq v
  exact va_put (D := D) (ci := 6) (v := .int v) (ty := .int) (C := RX4) (T := TX4) (N := 11) hx hb hts hin tyX4 tyX4_ok nmX4 hown hK hP hD hS q hq rfl 8 (by decide) hlink (fun _ h9 => h9) rfl (by decide +kernel) rfl rfl (Nat.le_of_ble_eq_true rfl) hdg (fun H1 locs1 h3 h4 h5 => by
    rw [h2] at h3 h4
    exact kk H1 locs1 f2 h3 h4 h5 hR2)
theorem rep_busy_1 (h : Rep tA S ad L f) (hD : va_D A (va_pl L f)) {q : Nat} (hi : V S 1 i) (hq : (va_pl L f)[q]? = some (ad 1 i, C tA S ad 1 i)) (v : Int32) : ∃ f2 : Nat → va_E, (va_pl L f).set q (ad 1 i, .inr (6, ([.int (sI S 10 i), .int (sI S 11 i), .int (sI S 12 i), .int (sI S 13 i), .int (sI S 14 i), .int (sI S 15 i), .int (sI S 16 i), .int (sI S 17 i), .int (sI S 18 i), .int (sI S 19 i), rf ad 11 (sR S 1 i)] : List Value).set 9 (.int v))) = va_pl L f2 ∧ Rep tA (uI S 19 i v) ad L f2 := by
  refine h.put hD (k := 1) hi hq (fun _ _ h => h) (fun k2 i2 hv hn => ?_) ?_
  · rcases Nat.lt_or_ge k2 23 with hk | hk
    · by_cases hk2 : k2 = 1
      · subst hk2
        have hi2 : i2 ≠ i := fun q => hn ⟨rfl, q⟩
        simp [C, sN, sI, sJ, sR, sP, uI, uJ, uR, up2, hi2]
      · have hc : ∀ n : Nat, n < 23 → n ≠ 1 → C tA (uI S 19 i v) ad n i2 = C tA S ad n i2 := by
          intro n hn1 hn2
          match n, hn1, hn2 with
          | 0, _, hn2 => first | rfl | simp [C, sN, sI, sJ, sR, sP, uI, uJ, uR, up2]
          | 1, _, hn2 => exact absurd rfl hn2
          | 2, _, hn2 => first | rfl | simp [C, sN, sI, sJ, sR, sP, uI, uJ, uR, up2]
          | 3, _, hn2 => first | rfl | simp [C, sN, sI, sJ, sR, sP, uI, uJ, uR, up2]
          | 4, _, hn2 => first | rfl | simp [C, sN, sI, sJ, sR, sP, uI, uJ, uR, up2]
          | 5, _, hn2 => first | rfl | simp [C, sN, sI, sJ, sR, sP, uI, uJ, uR, up2]
          | 6, _, hn2 => first | rfl | simp [C, sN, sI, sJ, sR, sP, uI, uJ, uR, up2]
          | 7, _, hn2 => first | rfl | simp [C, sN, sI, sJ, sR, sP, uI, uJ, uR, up2]
          | 8, _, hn2 => first | rfl | simp [C, sN, sI, sJ, sR, sP, uI, uJ, uR, up2]
          | 9, _, hn2 => first | rfl | simp [C, sN, sI, sJ, sR, sP, uI, uJ, uR, up2]
          | 10, _, hn2 => first | rfl | simp [C, sN, sI, sJ, sR, sP, uI, uJ, uR, up2]
          | 11, _, hn2 => first | rfl | simp [C, sN, sI, sJ, sR, sP, uI, uJ, uR, up2]
          | 12, _, hn2 => first | rfl | simp [C, sN, sI, sJ, sR, sP, uI, uJ, uR, up2]
          | 13, _, hn2 => first | rfl | simp [C, sN, sI, sJ, sR, sP, uI, uJ, uR, up2]
          | 14, _, hn2 => first | rfl | simp [C, sN, sI, sJ, sR, sP, uI, uJ, uR, up2]
          | 15, _, hn2 => first | rfl | simp [C, sN, sI, sJ, sR, sP, uI, uJ, uR, up2]
          | 16, _, hn2 => first | rfl | simp [C, sN, sI, sJ, sR, sP, uI, uJ, uR, up2]
          | 17, _, hn2 => first | rfl | simp [C, sN, sI, sJ, sR, sP, uI, uJ, uR, up2]
          | 18, _, hn2 => first | rfl | simp [C, sN, sI, sJ, sR, sP, uI, uJ, uR, up2]
          | 19, _, hn2 => first | rfl | simp [C, sN, sI, sJ, sR, sP, uI, uJ, uR, up2]
          | 20, _, hn2 => first | rfl | simp [C, sN, sI, sJ, sR, sP, uI, uJ, uR, up2]
          | 21, _, hn2 => first | rfl | simp [C, sN, sI, sJ, sR, sP, uI, uJ, uR, up2]
          | 22, _, hn2 => first | rfl | simp [C, sN, sI, sJ, sR, sP, uI, uJ, uR, up2]
          | n + 23, hn1, _ => exact absurd hn1 (by omega)
        exact hc k2 hk hk2
    · exact False.elim (by
        obtain ⟨n, rfl⟩ : ∃ n, k2 = n + 23 := ⟨k2 - 23, by omega⟩
        exact hv)
  · simp [C, sN, sI, sJ, sR, sP, uI, uJ, uR, up2]
theorem put_busy_1 (hx : p.tables.exec = Jvm.exec) (hb : c.code = cc) (hts : ∀ w ∈ Ts, w.before args s = true) (hin : ∀ w ∈ u_ws RX4 TX4 11, w ∈ Ts) (hown : s.vm.findClass own = some m.cls) (hK : va_K D vwCl (gT tA) s) (hP : va_P D vwCl (va_pl L f) H) (hD : va_D A (va_pl L f)) (hS : va_S A H0 H locs) (hR : Rep tA S ad L f) (hi : V S 1 i) (hlink : (Cond.fieldLink own index (TX4 9).1 (TX4 9).2.1 (TX4 9).2.2.1).before args s = true) {v : Int32} (hdg : decode cc pc = .ok (.putfield index, 3))
    (kk : ∀ (H1 : Heap) (locs1 : List Loc) (f2 : Nat → va_E), va_P D vwCl (va_pl L f2) H1 → va_D A (va_pl L f2) → va_S A H0 H1 locs1 → Rep tA (uI S 19 i v) ad L f2 → W p l e R s m args below meth c H1 locs1 cells slots Q (F0 m (pc + 3) ls rest)) : W p l e R s m args below meth c H locs cells slots Q (F0 m pc ls (.int v :: .ref (ad 1 i) :: rest)) := by
  obtain ⟨q, hq⟩ := cell_1 hR hi
  obtain ⟨f2, h2, hR2⟩ := rep_busy_1 hR hD hi hq v
  exact va_put (D := D) (ci := 6) (v := .int v) (ty := .int) (C := RX4) (T := TX4) (N := 11) hx hb hts hin tyX4 tyX4_ok nmX4 hown hK hP hD hS q hq rfl 9 (by decide) hlink (fun _ h9 => h9) rfl (by decide +kernel) rfl rfl (Nat.le_of_ble_eq_true rfl) hdg (fun H1 locs1 h3 h4 h5 => by
    rw [h2] at h3 h4
    exact kk H1 locs1 f2 h3 h4 h5 hR2)
theorem rep_doing_1 (h : Rep tA S ad L f) (hD : va_D A (va_pl L f)) {q : Nat} (hi : V S 1 i) (hq : (va_pl L f)[q]? = some (ad 1 i, C tA S ad 1 i)) (v : Option Nat) : ∃ f2 : Nat → va_E, (va_pl L f).set q (ad 1 i, .inr (6, ([.int (sI S 10 i), .int (sI S 11 i), .int (sI S 12 i), .int (sI S 13 i), .int (sI S 14 i), .int (sI S 15 i), .int (sI S 16 i), .int (sI S 17 i), .int (sI S 18 i), .int (sI S 19 i), rf ad 11 (sR S 1 i)] : List Value).set 10 (rf ad 11 v))) = va_pl L f2 ∧ Rep tA (uR S 1 i v) ad L f2 := by
  refine h.put hD (k := 1) hi hq (fun _ _ h => h) (fun k2 i2 hv hn => ?_) ?_
  · rcases Nat.lt_or_ge k2 23 with hk | hk
    · by_cases hk2 : k2 = 1
      · subst hk2
        have hi2 : i2 ≠ i := fun q => hn ⟨rfl, q⟩
        simp [C, sN, sI, sJ, sR, sP, uI, uJ, uR, up2, hi2]
      · have hc : ∀ n : Nat, n < 23 → n ≠ 1 → C tA (uR S 1 i v) ad n i2 = C tA S ad n i2 := by
          intro n hn1 hn2
          match n, hn1, hn2 with
          | 0, _, hn2 => first | rfl | simp [C, sN, sI, sJ, sR, sP, uI, uJ, uR, up2]
          | 1, _, hn2 => exact absurd rfl hn2
          | 2, _, hn2 => first | rfl | simp [C, sN, sI, sJ, sR, sP, uI, uJ, uR, up2]
          | 3, _, hn2 => first | rfl | simp [C, sN, sI, sJ, sR, sP, uI, uJ, uR, up2]
          | 4, _, hn2 => first | rfl | simp [C, sN, sI, sJ, sR, sP, uI, uJ, uR, up2]
          | 5, _, hn2 => first | rfl | simp [C, sN, sI, sJ, sR, sP, uI, uJ, uR, up2]
          | 6, _, hn2 => first | rfl | simp [C, sN, sI, sJ, sR, sP, uI, uJ, uR, up2]
          | 7, _, hn2 => first | rfl | simp [C, sN, sI, sJ, sR, sP, uI, uJ, uR, up2]
          | 8, _, hn2 => first | rfl | simp [C, sN, sI, sJ, sR, sP, uI, uJ, uR, up2]
          | 9, _, hn2 => first | rfl | simp [C, sN, sI, sJ, sR, sP, uI, uJ, uR, up2]
          | 10, _, hn2 => first | rfl | simp [C, sN, sI, sJ, sR, sP, uI, uJ, uR, up2]
          | 11, _, hn2 => first | rfl | simp [C, sN, sI, sJ, sR, sP, uI, uJ, uR, up2]
          | 12, _, hn2 => first | rfl | simp [C, sN, sI, sJ, sR, sP, uI, uJ, uR, up2]
          | 13, _, hn2 => first | rfl | simp [C, sN, sI, sJ, sR, sP, uI, uJ, uR, up2]
          | 14, _, hn2 => first | rfl | simp [C, sN, sI, sJ, sR, sP, uI, uJ, uR, up2]
          | 15, _, hn2 => first | rfl | simp [C, sN, sI, sJ, sR, sP, uI, uJ, uR, up2]
          | 16, _, hn2 => first | rfl | simp [C, sN, sI, sJ, sR, sP, uI, uJ, uR, up2]
          | 17, _, hn2 => first | rfl | simp [C, sN, sI, sJ, sR, sP, uI, uJ, uR, up2]
          | 18, _, hn2 => first | rfl | simp [C, sN, sI, sJ, sR, sP, uI, uJ, uR, up2]
          | 19, _, hn2 => first | rfl | simp [C, sN, sI, sJ, sR, sP, uI, uJ, uR, up2]
          | 20, _, hn2 => first | rfl | simp [C, sN, sI, sJ, sR, sP, uI, uJ, uR, up2]
          | 21, _, hn2 => first | rfl | simp [C, sN, sI, sJ, sR, sP, uI, uJ, uR, up2]
          | 22, _, hn2 => first | rfl | simp [C, sN, sI, sJ, sR, sP, uI, uJ, uR, up2]
          | n + 23, hn1, _ => exact absurd hn1 (by omega)
        exact hc k2 hk hk2
    · exact False.elim (by
        obtain ⟨n, rfl⟩ : ∃ n, k2 = n + 23 := ⟨k2 - 23, by omega⟩
        exact hv)
  · simp [C, sN, sI, sJ, sR, sP, uI, uJ, uR, up2]
theorem put_doing_1 (hx : p.tables.exec = Jvm.exec) (hb : c.code = cc) (hts : ∀ w ∈ Ts, w.before args s = true) (hin : ∀ w ∈ u_ws RX4 TX4 11, w ∈ Ts) (hown : s.vm.findClass own = some m.cls) (hK : va_K D vwCl (gT tA) s) (hP : va_P D vwCl (va_pl L f) H) (hD : va_D A (va_pl L f)) (hS : va_S A H0 H locs) (hR : Rep tA S ad L f) (hi : V S 1 i) (hlink : (Cond.fieldLink own index (TX4 10).1 (TX4 10).2.1 (TX4 10).2.2.1).before args s = true) {v : Option Nat} (hdg : decode cc pc = .ok (.putfield index, 3))
    (kk : ∀ (H1 : Heap) (locs1 : List Loc) (f2 : Nat → va_E), va_P D vwCl (va_pl L f2) H1 → va_D A (va_pl L f2) → va_S A H0 H1 locs1 → Rep tA (uR S 1 i v) ad L f2 → W p l e R s m args below meth c H1 locs1 cells slots Q (F0 m (pc + 3) ls rest)) : W p l e R s m args below meth c H locs cells slots Q (F0 m pc ls (rf ad 11 v :: .ref (ad 1 i) :: rest)) := by
  obtain ⟨q, hq⟩ := cell_1 hR hi
  obtain ⟨f2, h2, hR2⟩ := rep_doing_1 hR hD hi hq v
  exact va_put (D := D) (ci := 6) (v := rf ad 11 v) (ty := .object RX7) (C := RX4) (T := TX4) (N := 11) hx hb hts hin tyX4 tyX4_ok nmX4 hown hK hP hD hS q hq rfl 10 (by decide) hlink (fun _ h9 => h9) rfl (by decide +kernel) (by cases v <;> rfl) (by cases v <;> rfl) (Nat.le_of_ble_eq_true rfl) hdg (fun H1 locs1 h3 h4 h5 => by
    rw [h2] at h3 h4
    exact kk H1 locs1 f2 h3 h4 h5 hR2)
theorem rep_centre_3 (h : Rep tA S ad L f) (hD : va_D A (va_pl L f)) {q : Nat} (hi : V S 3 i) (hq : (va_pl L f)[q]? = some (ad 3 i, C tA S ad 3 i)) (v : Int32) : ∃ f2 : Nat → va_E, (va_pl L f).set q (ad 3 i, .inr (2, ([.int (sI S 22 i), .int (sI S 23 i), .int (sI S 24 i), .int (sI S 25 i), .int (sI S 26 i)] : List Value).set 0 (.int v))) = va_pl L f2 ∧ Rep tA (uI S 22 i v) ad L f2 := by
  refine h.put hD (k := 3) hi hq (fun _ _ h => h) (fun k2 i2 hv hn => ?_) ?_
  · rcases Nat.lt_or_ge k2 23 with hk | hk
    · by_cases hk2 : k2 = 3
      · subst hk2
        have hi2 : i2 ≠ i := fun q => hn ⟨rfl, q⟩
        simp [C, sN, sI, sJ, sR, sP, uI, uJ, uR, up2, hi2]
      · have hc : ∀ n : Nat, n < 23 → n ≠ 3 → C tA (uI S 22 i v) ad n i2 = C tA S ad n i2 := by
          intro n hn1 hn2
          match n, hn1, hn2 with
          | 0, _, hn2 => first | rfl | simp [C, sN, sI, sJ, sR, sP, uI, uJ, uR, up2]
          | 1, _, hn2 => first | rfl | simp [C, sN, sI, sJ, sR, sP, uI, uJ, uR, up2]
          | 2, _, hn2 => first | rfl | simp [C, sN, sI, sJ, sR, sP, uI, uJ, uR, up2]
          | 3, _, hn2 => exact absurd rfl hn2
          | 4, _, hn2 => first | rfl | simp [C, sN, sI, sJ, sR, sP, uI, uJ, uR, up2]
          | 5, _, hn2 => first | rfl | simp [C, sN, sI, sJ, sR, sP, uI, uJ, uR, up2]
          | 6, _, hn2 => first | rfl | simp [C, sN, sI, sJ, sR, sP, uI, uJ, uR, up2]
          | 7, _, hn2 => first | rfl | simp [C, sN, sI, sJ, sR, sP, uI, uJ, uR, up2]
          | 8, _, hn2 => first | rfl | simp [C, sN, sI, sJ, sR, sP, uI, uJ, uR, up2]
          | 9, _, hn2 => first | rfl | simp [C, sN, sI, sJ, sR, sP, uI, uJ, uR, up2]
          | 10, _, hn2 => first | rfl | simp [C, sN, sI, sJ, sR, sP, uI, uJ, uR, up2]
          | 11, _, hn2 => first | rfl | simp [C, sN, sI, sJ, sR, sP, uI, uJ, uR, up2]
          | 12, _, hn2 => first | rfl | simp [C, sN, sI, sJ, sR, sP, uI, uJ, uR, up2]
          | 13, _, hn2 => first | rfl | simp [C, sN, sI, sJ, sR, sP, uI, uJ, uR, up2]
          | 14, _, hn2 => first | rfl | simp [C, sN, sI, sJ, sR, sP, uI, uJ, uR, up2]
          | 15, _, hn2 => first | rfl | simp [C, sN, sI, sJ, sR, sP, uI, uJ, uR, up2]
          | 16, _, hn2 => first | rfl | simp [C, sN, sI, sJ, sR, sP, uI, uJ, uR, up2]
          | 17, _, hn2 => first | rfl | simp [C, sN, sI, sJ, sR, sP, uI, uJ, uR, up2]
          | 18, _, hn2 => first | rfl | simp [C, sN, sI, sJ, sR, sP, uI, uJ, uR, up2]
          | 19, _, hn2 => first | rfl | simp [C, sN, sI, sJ, sR, sP, uI, uJ, uR, up2]
          | 20, _, hn2 => first | rfl | simp [C, sN, sI, sJ, sR, sP, uI, uJ, uR, up2]
          | 21, _, hn2 => first | rfl | simp [C, sN, sI, sJ, sR, sP, uI, uJ, uR, up2]
          | 22, _, hn2 => first | rfl | simp [C, sN, sI, sJ, sR, sP, uI, uJ, uR, up2]
          | n + 23, hn1, _ => exact absurd hn1 (by omega)
        exact hc k2 hk hk2
    · exact False.elim (by
        obtain ⟨n, rfl⟩ : ∃ n, k2 = n + 23 := ⟨k2 - 23, by omega⟩
        exact hv)
  · simp [C, sN, sI, sJ, sR, sP, uI, uJ, uR, up2]
theorem put_centre_3 (hx : p.tables.exec = Jvm.exec) (hb : c.code = cc) (hts : ∀ w ∈ Ts, w.before args s = true) (hin : ∀ w ∈ u_ws RX0 TX0 5, w ∈ Ts) (hown : s.vm.findClass own = some m.cls) (hK : va_K D vwCl (gT tA) s) (hP : va_P D vwCl (va_pl L f) H) (hD : va_D A (va_pl L f)) (hS : va_S A H0 H locs) (hR : Rep tA S ad L f) (hi : V S 3 i) (hlink : (Cond.fieldLink own index (TX0 0).1 (TX0 0).2.1 (TX0 0).2.2.1).before args s = true) {v : Int32} (hdg : decode cc pc = .ok (.putfield index, 3))
    (kk : ∀ (H1 : Heap) (locs1 : List Loc) (f2 : Nat → va_E), va_P D vwCl (va_pl L f2) H1 → va_D A (va_pl L f2) → va_S A H0 H1 locs1 → Rep tA (uI S 22 i v) ad L f2 → W p l e R s m args below meth c H1 locs1 cells slots Q (F0 m (pc + 3) ls rest)) : W p l e R s m args below meth c H locs cells slots Q (F0 m pc ls (.int v :: .ref (ad 3 i) :: rest)) := by
  obtain ⟨q, hq⟩ := cell_3 hR hi
  obtain ⟨f2, h2, hR2⟩ := rep_centre_3 hR hD hi hq v
  exact va_put (D := D) (ci := 2) (v := .int v) (ty := .int) (C := RX0) (T := TX0) (N := 5) hx hb hts hin tyX0 tyX0_ok nmX0 hown hK hP hD hS q hq rfl 0 (by decide) hlink (fun _ h9 => h9) rfl (by decide +kernel) rfl rfl (Nat.le_of_ble_eq_true rfl) hdg (fun H1 locs1 h3 h4 h5 => by
    rw [h2] at h3 h4
    exact kk H1 locs1 f2 h3 h4 h5 hR2)
theorem rep_width_3 (h : Rep tA S ad L f) (hD : va_D A (va_pl L f)) {q : Nat} (hi : V S 3 i) (hq : (va_pl L f)[q]? = some (ad 3 i, C tA S ad 3 i)) (v : Int32) : ∃ f2 : Nat → va_E, (va_pl L f).set q (ad 3 i, .inr (2, ([.int (sI S 22 i), .int (sI S 23 i), .int (sI S 24 i), .int (sI S 25 i), .int (sI S 26 i)] : List Value).set 1 (.int v))) = va_pl L f2 ∧ Rep tA (uI S 23 i v) ad L f2 := by
  refine h.put hD (k := 3) hi hq (fun _ _ h => h) (fun k2 i2 hv hn => ?_) ?_
  · rcases Nat.lt_or_ge k2 23 with hk | hk
    · by_cases hk2 : k2 = 3
      · subst hk2
        have hi2 : i2 ≠ i := fun q => hn ⟨rfl, q⟩
        simp [C, sN, sI, sJ, sR, sP, uI, uJ, uR, up2, hi2]
      · have hc : ∀ n : Nat, n < 23 → n ≠ 3 → C tA (uI S 23 i v) ad n i2 = C tA S ad n i2 := by
          intro n hn1 hn2
          match n, hn1, hn2 with
          | 0, _, hn2 => first | rfl | simp [C, sN, sI, sJ, sR, sP, uI, uJ, uR, up2]
          | 1, _, hn2 => first | rfl | simp [C, sN, sI, sJ, sR, sP, uI, uJ, uR, up2]
          | 2, _, hn2 => first | rfl | simp [C, sN, sI, sJ, sR, sP, uI, uJ, uR, up2]
          | 3, _, hn2 => exact absurd rfl hn2
          | 4, _, hn2 => first | rfl | simp [C, sN, sI, sJ, sR, sP, uI, uJ, uR, up2]
          | 5, _, hn2 => first | rfl | simp [C, sN, sI, sJ, sR, sP, uI, uJ, uR, up2]
          | 6, _, hn2 => first | rfl | simp [C, sN, sI, sJ, sR, sP, uI, uJ, uR, up2]
          | 7, _, hn2 => first | rfl | simp [C, sN, sI, sJ, sR, sP, uI, uJ, uR, up2]
          | 8, _, hn2 => first | rfl | simp [C, sN, sI, sJ, sR, sP, uI, uJ, uR, up2]
          | 9, _, hn2 => first | rfl | simp [C, sN, sI, sJ, sR, sP, uI, uJ, uR, up2]
          | 10, _, hn2 => first | rfl | simp [C, sN, sI, sJ, sR, sP, uI, uJ, uR, up2]
          | 11, _, hn2 => first | rfl | simp [C, sN, sI, sJ, sR, sP, uI, uJ, uR, up2]
          | 12, _, hn2 => first | rfl | simp [C, sN, sI, sJ, sR, sP, uI, uJ, uR, up2]
          | 13, _, hn2 => first | rfl | simp [C, sN, sI, sJ, sR, sP, uI, uJ, uR, up2]
          | 14, _, hn2 => first | rfl | simp [C, sN, sI, sJ, sR, sP, uI, uJ, uR, up2]
          | 15, _, hn2 => first | rfl | simp [C, sN, sI, sJ, sR, sP, uI, uJ, uR, up2]
          | 16, _, hn2 => first | rfl | simp [C, sN, sI, sJ, sR, sP, uI, uJ, uR, up2]
          | 17, _, hn2 => first | rfl | simp [C, sN, sI, sJ, sR, sP, uI, uJ, uR, up2]
          | 18, _, hn2 => first | rfl | simp [C, sN, sI, sJ, sR, sP, uI, uJ, uR, up2]
          | 19, _, hn2 => first | rfl | simp [C, sN, sI, sJ, sR, sP, uI, uJ, uR, up2]
          | 20, _, hn2 => first | rfl | simp [C, sN, sI, sJ, sR, sP, uI, uJ, uR, up2]
          | 21, _, hn2 => first | rfl | simp [C, sN, sI, sJ, sR, sP, uI, uJ, uR, up2]
          | 22, _, hn2 => first | rfl | simp [C, sN, sI, sJ, sR, sP, uI, uJ, uR, up2]
          | n + 23, hn1, _ => exact absurd hn1 (by omega)
        exact hc k2 hk hk2
    · exact False.elim (by
        obtain ⟨n, rfl⟩ : ∃ n, k2 = n + 23 := ⟨k2 - 23, by omega⟩
        exact hv)
  · simp [C, sN, sI, sJ, sR, sP, uI, uJ, uR, up2]
theorem put_width_3 (hx : p.tables.exec = Jvm.exec) (hb : c.code = cc) (hts : ∀ w ∈ Ts, w.before args s = true) (hin : ∀ w ∈ u_ws RX0 TX0 5, w ∈ Ts) (hown : s.vm.findClass own = some m.cls) (hK : va_K D vwCl (gT tA) s) (hP : va_P D vwCl (va_pl L f) H) (hD : va_D A (va_pl L f)) (hS : va_S A H0 H locs) (hR : Rep tA S ad L f) (hi : V S 3 i) (hlink : (Cond.fieldLink own index (TX0 1).1 (TX0 1).2.1 (TX0 1).2.2.1).before args s = true) {v : Int32} (hdg : decode cc pc = .ok (.putfield index, 3))
    (kk : ∀ (H1 : Heap) (locs1 : List Loc) (f2 : Nat → va_E), va_P D vwCl (va_pl L f2) H1 → va_D A (va_pl L f2) → va_S A H0 H1 locs1 → Rep tA (uI S 23 i v) ad L f2 → W p l e R s m args below meth c H1 locs1 cells slots Q (F0 m (pc + 3) ls rest)) : W p l e R s m args below meth c H locs cells slots Q (F0 m pc ls (.int v :: .ref (ad 3 i) :: rest)) := by
  obtain ⟨q, hq⟩ := cell_3 hR hi
  obtain ⟨f2, h2, hR2⟩ := rep_width_3 hR hD hi hq v
  exact va_put (D := D) (ci := 2) (v := .int v) (ty := .int) (C := RX0) (T := TX0) (N := 5) hx hb hts hin tyX0 tyX0_ok nmX0 hown hK hP hD hS q hq rfl 1 (by decide) hlink (fun _ h9 => h9) rfl (by decide +kernel) rfl rfl (Nat.le_of_ble_eq_true rfl) hdg (fun H1 locs1 h3 h4 h5 => by
    rw [h2] at h3 h4
    exact kk H1 locs1 f2 h3 h4 h5 hR2)
theorem rep_side_3 (h : Rep tA S ad L f) (hD : va_D A (va_pl L f)) {q : Nat} (hi : V S 3 i) (hq : (va_pl L f)[q]? = some (ad 3 i, C tA S ad 3 i)) (v : Int32) : ∃ f2 : Nat → va_E, (va_pl L f).set q (ad 3 i, .inr (2, ([.int (sI S 22 i), .int (sI S 23 i), .int (sI S 24 i), .int (sI S 25 i), .int (sI S 26 i)] : List Value).set 2 (.int v))) = va_pl L f2 ∧ Rep tA (uI S 24 i v) ad L f2 := by
  refine h.put hD (k := 3) hi hq (fun _ _ h => h) (fun k2 i2 hv hn => ?_) ?_
  · rcases Nat.lt_or_ge k2 23 with hk | hk
    · by_cases hk2 : k2 = 3
      · subst hk2
        have hi2 : i2 ≠ i := fun q => hn ⟨rfl, q⟩
        simp [C, sN, sI, sJ, sR, sP, uI, uJ, uR, up2, hi2]
      · have hc : ∀ n : Nat, n < 23 → n ≠ 3 → C tA (uI S 24 i v) ad n i2 = C tA S ad n i2 := by
          intro n hn1 hn2
          match n, hn1, hn2 with
          | 0, _, hn2 => first | rfl | simp [C, sN, sI, sJ, sR, sP, uI, uJ, uR, up2]
          | 1, _, hn2 => first | rfl | simp [C, sN, sI, sJ, sR, sP, uI, uJ, uR, up2]
          | 2, _, hn2 => first | rfl | simp [C, sN, sI, sJ, sR, sP, uI, uJ, uR, up2]
          | 3, _, hn2 => exact absurd rfl hn2
          | 4, _, hn2 => first | rfl | simp [C, sN, sI, sJ, sR, sP, uI, uJ, uR, up2]
          | 5, _, hn2 => first | rfl | simp [C, sN, sI, sJ, sR, sP, uI, uJ, uR, up2]
          | 6, _, hn2 => first | rfl | simp [C, sN, sI, sJ, sR, sP, uI, uJ, uR, up2]
          | 7, _, hn2 => first | rfl | simp [C, sN, sI, sJ, sR, sP, uI, uJ, uR, up2]
          | 8, _, hn2 => first | rfl | simp [C, sN, sI, sJ, sR, sP, uI, uJ, uR, up2]
          | 9, _, hn2 => first | rfl | simp [C, sN, sI, sJ, sR, sP, uI, uJ, uR, up2]
          | 10, _, hn2 => first | rfl | simp [C, sN, sI, sJ, sR, sP, uI, uJ, uR, up2]
          | 11, _, hn2 => first | rfl | simp [C, sN, sI, sJ, sR, sP, uI, uJ, uR, up2]
          | 12, _, hn2 => first | rfl | simp [C, sN, sI, sJ, sR, sP, uI, uJ, uR, up2]
          | 13, _, hn2 => first | rfl | simp [C, sN, sI, sJ, sR, sP, uI, uJ, uR, up2]
          | 14, _, hn2 => first | rfl | simp [C, sN, sI, sJ, sR, sP, uI, uJ, uR, up2]
          | 15, _, hn2 => first | rfl | simp [C, sN, sI, sJ, sR, sP, uI, uJ, uR, up2]
          | 16, _, hn2 => first | rfl | simp [C, sN, sI, sJ, sR, sP, uI, uJ, uR, up2]
          | 17, _, hn2 => first | rfl | simp [C, sN, sI, sJ, sR, sP, uI, uJ, uR, up2]
          | 18, _, hn2 => first | rfl | simp [C, sN, sI, sJ, sR, sP, uI, uJ, uR, up2]
          | 19, _, hn2 => first | rfl | simp [C, sN, sI, sJ, sR, sP, uI, uJ, uR, up2]
          | 20, _, hn2 => first | rfl | simp [C, sN, sI, sJ, sR, sP, uI, uJ, uR, up2]
          | 21, _, hn2 => first | rfl | simp [C, sN, sI, sJ, sR, sP, uI, uJ, uR, up2]
          | 22, _, hn2 => first | rfl | simp [C, sN, sI, sJ, sR, sP, uI, uJ, uR, up2]
          | n + 23, hn1, _ => exact absurd hn1 (by omega)
        exact hc k2 hk hk2
    · exact False.elim (by
        obtain ⟨n, rfl⟩ : ∃ n, k2 = n + 23 := ⟨k2 - 23, by omega⟩
        exact hv)
  · simp [C, sN, sI, sJ, sR, sP, uI, uJ, uR, up2]
theorem put_side_3 (hx : p.tables.exec = Jvm.exec) (hb : c.code = cc) (hts : ∀ w ∈ Ts, w.before args s = true) (hin : ∀ w ∈ u_ws RX0 TX0 5, w ∈ Ts) (hown : s.vm.findClass own = some m.cls) (hK : va_K D vwCl (gT tA) s) (hP : va_P D vwCl (va_pl L f) H) (hD : va_D A (va_pl L f)) (hS : va_S A H0 H locs) (hR : Rep tA S ad L f) (hi : V S 3 i) (hlink : (Cond.fieldLink own index (TX0 2).1 (TX0 2).2.1 (TX0 2).2.2.1).before args s = true) {v : Int32} (hdg : decode cc pc = .ok (.putfield index, 3))
    (kk : ∀ (H1 : Heap) (locs1 : List Loc) (f2 : Nat → va_E), va_P D vwCl (va_pl L f2) H1 → va_D A (va_pl L f2) → va_S A H0 H1 locs1 → Rep tA (uI S 24 i v) ad L f2 → W p l e R s m args below meth c H1 locs1 cells slots Q (F0 m (pc + 3) ls rest)) : W p l e R s m args below meth c H locs cells slots Q (F0 m pc ls (.int v :: .ref (ad 3 i) :: rest)) := by
  obtain ⟨q, hq⟩ := cell_3 hR hi
  obtain ⟨f2, h2, hR2⟩ := rep_side_3 hR hD hi hq v
  exact va_put (D := D) (ci := 2) (v := .int v) (ty := .int) (C := RX0) (T := TX0) (N := 5) hx hb hts hin tyX0 tyX0_ok nmX0 hown hK hP hD hS q hq rfl 2 (by decide) hlink (fun _ h9 => h9) rfl (by decide +kernel) rfl rfl (Nat.le_of_ble_eq_true rfl) hdg (fun H1 locs1 h3 h4 h5 => by
    rw [h2] at h3 h4
    exact kk H1 locs1 f2 h3 h4 h5 hR2)
theorem rep_row_3 (h : Rep tA S ad L f) (hD : va_D A (va_pl L f)) {q : Nat} (hi : V S 3 i) (hq : (va_pl L f)[q]? = some (ad 3 i, C tA S ad 3 i)) (v : Int32) : ∃ f2 : Nat → va_E, (va_pl L f).set q (ad 3 i, .inr (2, ([.int (sI S 22 i), .int (sI S 23 i), .int (sI S 24 i), .int (sI S 25 i), .int (sI S 26 i)] : List Value).set 3 (.int v))) = va_pl L f2 ∧ Rep tA (uI S 25 i v) ad L f2 := by
  refine h.put hD (k := 3) hi hq (fun _ _ h => h) (fun k2 i2 hv hn => ?_) ?_
  · rcases Nat.lt_or_ge k2 23 with hk | hk
    · by_cases hk2 : k2 = 3
      · subst hk2
        have hi2 : i2 ≠ i := fun q => hn ⟨rfl, q⟩
        simp [C, sN, sI, sJ, sR, sP, uI, uJ, uR, up2, hi2]
      · have hc : ∀ n : Nat, n < 23 → n ≠ 3 → C tA (uI S 25 i v) ad n i2 = C tA S ad n i2 := by
          intro n hn1 hn2
          match n, hn1, hn2 with
          | 0, _, hn2 => first | rfl | simp [C, sN, sI, sJ, sR, sP, uI, uJ, uR, up2]
          | 1, _, hn2 => first | rfl | simp [C, sN, sI, sJ, sR, sP, uI, uJ, uR, up2]
          | 2, _, hn2 => first | rfl | simp [C, sN, sI, sJ, sR, sP, uI, uJ, uR, up2]
          | 3, _, hn2 => exact absurd rfl hn2
          | 4, _, hn2 => first | rfl | simp [C, sN, sI, sJ, sR, sP, uI, uJ, uR, up2]
          | 5, _, hn2 => first | rfl | simp [C, sN, sI, sJ, sR, sP, uI, uJ, uR, up2]
          | 6, _, hn2 => first | rfl | simp [C, sN, sI, sJ, sR, sP, uI, uJ, uR, up2]
          | 7, _, hn2 => first | rfl | simp [C, sN, sI, sJ, sR, sP, uI, uJ, uR, up2]
          | 8, _, hn2 => first | rfl | simp [C, sN, sI, sJ, sR, sP, uI, uJ, uR, up2]
          | 9, _, hn2 => first | rfl | simp [C, sN, sI, sJ, sR, sP, uI, uJ, uR, up2]
          | 10, _, hn2 => first | rfl | simp [C, sN, sI, sJ, sR, sP, uI, uJ, uR, up2]
          | 11, _, hn2 => first | rfl | simp [C, sN, sI, sJ, sR, sP, uI, uJ, uR, up2]
          | 12, _, hn2 => first | rfl | simp [C, sN, sI, sJ, sR, sP, uI, uJ, uR, up2]
          | 13, _, hn2 => first | rfl | simp [C, sN, sI, sJ, sR, sP, uI, uJ, uR, up2]
          | 14, _, hn2 => first | rfl | simp [C, sN, sI, sJ, sR, sP, uI, uJ, uR, up2]
          | 15, _, hn2 => first | rfl | simp [C, sN, sI, sJ, sR, sP, uI, uJ, uR, up2]
          | 16, _, hn2 => first | rfl | simp [C, sN, sI, sJ, sR, sP, uI, uJ, uR, up2]
          | 17, _, hn2 => first | rfl | simp [C, sN, sI, sJ, sR, sP, uI, uJ, uR, up2]
          | 18, _, hn2 => first | rfl | simp [C, sN, sI, sJ, sR, sP, uI, uJ, uR, up2]
          | 19, _, hn2 => first | rfl | simp [C, sN, sI, sJ, sR, sP, uI, uJ, uR, up2]
          | 20, _, hn2 => first | rfl | simp [C, sN, sI, sJ, sR, sP, uI, uJ, uR, up2]
          | 21, _, hn2 => first | rfl | simp [C, sN, sI, sJ, sR, sP, uI, uJ, uR, up2]
          | 22, _, hn2 => first | rfl | simp [C, sN, sI, sJ, sR, sP, uI, uJ, uR, up2]
          | n + 23, hn1, _ => exact absurd hn1 (by omega)
        exact hc k2 hk hk2
    · exact False.elim (by
        obtain ⟨n, rfl⟩ : ∃ n, k2 = n + 23 := ⟨k2 - 23, by omega⟩
        exact hv)
  · simp [C, sN, sI, sJ, sR, sP, uI, uJ, uR, up2]
theorem put_row_3 (hx : p.tables.exec = Jvm.exec) (hb : c.code = cc) (hts : ∀ w ∈ Ts, w.before args s = true) (hin : ∀ w ∈ u_ws RX0 TX0 5, w ∈ Ts) (hown : s.vm.findClass own = some m.cls) (hK : va_K D vwCl (gT tA) s) (hP : va_P D vwCl (va_pl L f) H) (hD : va_D A (va_pl L f)) (hS : va_S A H0 H locs) (hR : Rep tA S ad L f) (hi : V S 3 i) (hlink : (Cond.fieldLink own index (TX0 3).1 (TX0 3).2.1 (TX0 3).2.2.1).before args s = true) {v : Int32} (hdg : decode cc pc = .ok (.putfield index, 3))
    (kk : ∀ (H1 : Heap) (locs1 : List Loc) (f2 : Nat → va_E), va_P D vwCl (va_pl L f2) H1 → va_D A (va_pl L f2) → va_S A H0 H1 locs1 → Rep tA (uI S 25 i v) ad L f2 → W p l e R s m args below meth c H1 locs1 cells slots Q (F0 m (pc + 3) ls rest)) : W p l e R s m args below meth c H locs cells slots Q (F0 m pc ls (.int v :: .ref (ad 3 i) :: rest)) := by
  obtain ⟨q, hq⟩ := cell_3 hR hi
  obtain ⟨f2, h2, hR2⟩ := rep_row_3 hR hD hi hq v
  exact va_put (D := D) (ci := 2) (v := .int v) (ty := .int) (C := RX0) (T := TX0) (N := 5) hx hb hts hin tyX0 tyX0_ok nmX0 hown hK hP hD hS q hq rfl 3 (by decide) hlink (fun _ h9 => h9) rfl (by decide +kernel) rfl rfl (Nat.le_of_ble_eq_true rfl) hdg (fun H1 locs1 h3 h4 h5 => by
    rw [h2] at h3 h4
    exact kk H1 locs1 f2 h3 h4 h5 hR2)
theorem rep_measured_3 (h : Rep tA S ad L f) (hD : va_D A (va_pl L f)) {q : Nat} (hi : V S 3 i) (hq : (va_pl L f)[q]? = some (ad 3 i, C tA S ad 3 i)) (v : Int32) : ∃ f2 : Nat → va_E, (va_pl L f).set q (ad 3 i, .inr (2, ([.int (sI S 22 i), .int (sI S 23 i), .int (sI S 24 i), .int (sI S 25 i), .int (sI S 26 i)] : List Value).set 4 (.int v))) = va_pl L f2 ∧ Rep tA (uI S 26 i v) ad L f2 := by
  refine h.put hD (k := 3) hi hq (fun _ _ h => h) (fun k2 i2 hv hn => ?_) ?_
  · rcases Nat.lt_or_ge k2 23 with hk | hk
    · by_cases hk2 : k2 = 3
      · subst hk2
        have hi2 : i2 ≠ i := fun q => hn ⟨rfl, q⟩
        simp [C, sN, sI, sJ, sR, sP, uI, uJ, uR, up2, hi2]
      · have hc : ∀ n : Nat, n < 23 → n ≠ 3 → C tA (uI S 26 i v) ad n i2 = C tA S ad n i2 := by
          intro n hn1 hn2
          match n, hn1, hn2 with
          | 0, _, hn2 => first | rfl | simp [C, sN, sI, sJ, sR, sP, uI, uJ, uR, up2]
          | 1, _, hn2 => first | rfl | simp [C, sN, sI, sJ, sR, sP, uI, uJ, uR, up2]
          | 2, _, hn2 => first | rfl | simp [C, sN, sI, sJ, sR, sP, uI, uJ, uR, up2]
          | 3, _, hn2 => exact absurd rfl hn2
          | 4, _, hn2 => first | rfl | simp [C, sN, sI, sJ, sR, sP, uI, uJ, uR, up2]
          | 5, _, hn2 => first | rfl | simp [C, sN, sI, sJ, sR, sP, uI, uJ, uR, up2]
          | 6, _, hn2 => first | rfl | simp [C, sN, sI, sJ, sR, sP, uI, uJ, uR, up2]
          | 7, _, hn2 => first | rfl | simp [C, sN, sI, sJ, sR, sP, uI, uJ, uR, up2]
          | 8, _, hn2 => first | rfl | simp [C, sN, sI, sJ, sR, sP, uI, uJ, uR, up2]
          | 9, _, hn2 => first | rfl | simp [C, sN, sI, sJ, sR, sP, uI, uJ, uR, up2]
          | 10, _, hn2 => first | rfl | simp [C, sN, sI, sJ, sR, sP, uI, uJ, uR, up2]
          | 11, _, hn2 => first | rfl | simp [C, sN, sI, sJ, sR, sP, uI, uJ, uR, up2]
          | 12, _, hn2 => first | rfl | simp [C, sN, sI, sJ, sR, sP, uI, uJ, uR, up2]
          | 13, _, hn2 => first | rfl | simp [C, sN, sI, sJ, sR, sP, uI, uJ, uR, up2]
          | 14, _, hn2 => first | rfl | simp [C, sN, sI, sJ, sR, sP, uI, uJ, uR, up2]
          | 15, _, hn2 => first | rfl | simp [C, sN, sI, sJ, sR, sP, uI, uJ, uR, up2]
          | 16, _, hn2 => first | rfl | simp [C, sN, sI, sJ, sR, sP, uI, uJ, uR, up2]
          | 17, _, hn2 => first | rfl | simp [C, sN, sI, sJ, sR, sP, uI, uJ, uR, up2]
          | 18, _, hn2 => first | rfl | simp [C, sN, sI, sJ, sR, sP, uI, uJ, uR, up2]
          | 19, _, hn2 => first | rfl | simp [C, sN, sI, sJ, sR, sP, uI, uJ, uR, up2]
          | 20, _, hn2 => first | rfl | simp [C, sN, sI, sJ, sR, sP, uI, uJ, uR, up2]
          | 21, _, hn2 => first | rfl | simp [C, sN, sI, sJ, sR, sP, uI, uJ, uR, up2]
          | 22, _, hn2 => first | rfl | simp [C, sN, sI, sJ, sR, sP, uI, uJ, uR, up2]
          | n + 23, hn1, _ => exact absurd hn1 (by omega)
        exact hc k2 hk hk2
    · exact False.elim (by
        obtain ⟨n, rfl⟩ : ∃ n, k2 = n + 23 := ⟨k2 - 23, by omega⟩
        exact hv)
  · simp [C, sN, sI, sJ, sR, sP, uI, uJ, uR, up2]
theorem put_measured_3 (hx : p.tables.exec = Jvm.exec) (hb : c.code = cc) (hts : ∀ w ∈ Ts, w.before args s = true) (hin : ∀ w ∈ u_ws RX0 TX0 5, w ∈ Ts) (hown : s.vm.findClass own = some m.cls) (hK : va_K D vwCl (gT tA) s) (hP : va_P D vwCl (va_pl L f) H) (hD : va_D A (va_pl L f)) (hS : va_S A H0 H locs) (hR : Rep tA S ad L f) (hi : V S 3 i) (hlink : (Cond.fieldLink own index (TX0 4).1 (TX0 4).2.1 (TX0 4).2.2.1).before args s = true) {v : Int32} (hdg : decode cc pc = .ok (.putfield index, 3))
    (kk : ∀ (H1 : Heap) (locs1 : List Loc) (f2 : Nat → va_E), va_P D vwCl (va_pl L f2) H1 → va_D A (va_pl L f2) → va_S A H0 H1 locs1 → Rep tA (uI S 26 i v) ad L f2 → W p l e R s m args below meth c H1 locs1 cells slots Q (F0 m (pc + 3) ls rest)) : W p l e R s m args below meth c H locs cells slots Q (F0 m pc ls (.int v :: .ref (ad 3 i) :: rest)) := by
  obtain ⟨q, hq⟩ := cell_3 hR hi
  obtain ⟨f2, h2, hR2⟩ := rep_measured_3 hR hD hi hq v
  exact va_put (D := D) (ci := 2) (v := .int v) (ty := .int) (C := RX0) (T := TX0) (N := 5) hx hb hts hin tyX0 tyX0_ok nmX0 hown hK hP hD hS q hq rfl 4 (by decide) hlink (fun _ h9 => h9) rfl (by decide +kernel) rfl rfl (Nat.le_of_ble_eq_true rfl) hdg (fun H1 locs1 h3 h4 h5 => by
    rw [h2] at h3 h4
    exact kk H1 locs1 f2 h3 h4 h5 hR2)
theorem rep_rule_6 (h : Rep tA S ad L f) (hD : va_D A (va_pl L f)) {q : Nat} (hi : V S 6 i) (hq : (va_pl L f)[q]? = some (ad 6 i, C tA S ad 6 i)) (v : Int32) : ∃ f2 : Nat → va_E, (va_pl L f).set q (ad 6 i, .inr (11, ([.int (sI S 33 i), .int (sI S 34 i), .int (sI S 35 i)] : List Value).set 0 (.int v))) = va_pl L f2 ∧ Rep tA (uI S 33 i v) ad L f2 := by
  refine h.put hD (k := 6) hi hq (fun _ _ h => h) (fun k2 i2 hv hn => ?_) ?_
  · rcases Nat.lt_or_ge k2 23 with hk | hk
    · by_cases hk2 : k2 = 6
      · subst hk2
        have hi2 : i2 ≠ i := fun q => hn ⟨rfl, q⟩
        simp [C, sN, sI, sJ, sR, sP, uI, uJ, uR, up2, hi2]
      · have hc : ∀ n : Nat, n < 23 → n ≠ 6 → C tA (uI S 33 i v) ad n i2 = C tA S ad n i2 := by
          intro n hn1 hn2
          match n, hn1, hn2 with
          | 0, _, hn2 => first | rfl | simp [C, sN, sI, sJ, sR, sP, uI, uJ, uR, up2]
          | 1, _, hn2 => first | rfl | simp [C, sN, sI, sJ, sR, sP, uI, uJ, uR, up2]
          | 2, _, hn2 => first | rfl | simp [C, sN, sI, sJ, sR, sP, uI, uJ, uR, up2]
          | 3, _, hn2 => first | rfl | simp [C, sN, sI, sJ, sR, sP, uI, uJ, uR, up2]
          | 4, _, hn2 => first | rfl | simp [C, sN, sI, sJ, sR, sP, uI, uJ, uR, up2]
          | 5, _, hn2 => first | rfl | simp [C, sN, sI, sJ, sR, sP, uI, uJ, uR, up2]
          | 6, _, hn2 => exact absurd rfl hn2
          | 7, _, hn2 => first | rfl | simp [C, sN, sI, sJ, sR, sP, uI, uJ, uR, up2]
          | 8, _, hn2 => first | rfl | simp [C, sN, sI, sJ, sR, sP, uI, uJ, uR, up2]
          | 9, _, hn2 => first | rfl | simp [C, sN, sI, sJ, sR, sP, uI, uJ, uR, up2]
          | 10, _, hn2 => first | rfl | simp [C, sN, sI, sJ, sR, sP, uI, uJ, uR, up2]
          | 11, _, hn2 => first | rfl | simp [C, sN, sI, sJ, sR, sP, uI, uJ, uR, up2]
          | 12, _, hn2 => first | rfl | simp [C, sN, sI, sJ, sR, sP, uI, uJ, uR, up2]
          | 13, _, hn2 => first | rfl | simp [C, sN, sI, sJ, sR, sP, uI, uJ, uR, up2]
          | 14, _, hn2 => first | rfl | simp [C, sN, sI, sJ, sR, sP, uI, uJ, uR, up2]
          | 15, _, hn2 => first | rfl | simp [C, sN, sI, sJ, sR, sP, uI, uJ, uR, up2]
          | 16, _, hn2 => first | rfl | simp [C, sN, sI, sJ, sR, sP, uI, uJ, uR, up2]
          | 17, _, hn2 => first | rfl | simp [C, sN, sI, sJ, sR, sP, uI, uJ, uR, up2]
          | 18, _, hn2 => first | rfl | simp [C, sN, sI, sJ, sR, sP, uI, uJ, uR, up2]
          | 19, _, hn2 => first | rfl | simp [C, sN, sI, sJ, sR, sP, uI, uJ, uR, up2]
          | 20, _, hn2 => first | rfl | simp [C, sN, sI, sJ, sR, sP, uI, uJ, uR, up2]
          | 21, _, hn2 => first | rfl | simp [C, sN, sI, sJ, sR, sP, uI, uJ, uR, up2]
          | 22, _, hn2 => first | rfl | simp [C, sN, sI, sJ, sR, sP, uI, uJ, uR, up2]
          | n + 23, hn1, _ => exact absurd hn1 (by omega)
        exact hc k2 hk hk2
    · exact False.elim (by
        obtain ⟨n, rfl⟩ : ∃ n, k2 = n + 23 := ⟨k2 - 23, by omega⟩
        exact hv)
  · simp [C, sN, sI, sJ, sR, sP, uI, uJ, uR, up2]
theorem put_rule_6 (hx : p.tables.exec = Jvm.exec) (hb : c.code = cc) (hts : ∀ w ∈ Ts, w.before args s = true) (hin : ∀ w ∈ u_ws RX9 TX9 3, w ∈ Ts) (hown : s.vm.findClass own = some m.cls) (hK : va_K D vwCl (gT tA) s) (hP : va_P D vwCl (va_pl L f) H) (hD : va_D A (va_pl L f)) (hS : va_S A H0 H locs) (hR : Rep tA S ad L f) (hi : V S 6 i) (hlink : (Cond.fieldLink own index (TX9 0).1 (TX9 0).2.1 (TX9 0).2.2.1).before args s = true) {v : Int32} (hnar : narrow .char (.int v) = .int v) (hfit : fits .char (.int v) = true) (hdg : decode cc pc = .ok (.putfield index, 3))
    (kk : ∀ (H1 : Heap) (locs1 : List Loc) (f2 : Nat → va_E), va_P D vwCl (va_pl L f2) H1 → va_D A (va_pl L f2) → va_S A H0 H1 locs1 → Rep tA (uI S 33 i v) ad L f2 → W p l e R s m args below meth c H1 locs1 cells slots Q (F0 m (pc + 3) ls rest)) : W p l e R s m args below meth c H locs cells slots Q (F0 m pc ls (.int v :: .ref (ad 6 i) :: rest)) := by
  obtain ⟨q, hq⟩ := cell_6 hR hi
  obtain ⟨f2, h2, hR2⟩ := rep_rule_6 hR hD hi hq v
  exact va_put (D := D) (ci := 11) (v := .int v) (ty := .char) (C := RX9) (T := TX9) (N := 3) hx hb hts hin tyX9 tyX9_ok nmX9 hown hK hP hD hS q hq rfl 0 (by decide) hlink (fun _ h9 => h9) rfl (by decide +kernel) hnar hfit (Nat.le_of_ble_eq_true rfl) hdg (fun H1 locs1 h3 h4 h5 => by
    rw [h2] at h3 h4
    exact kk H1 locs1 f2 h3 h4 h5 hR2)
theorem rep_refusals_6 (h : Rep tA S ad L f) (hD : va_D A (va_pl L f)) {q : Nat} (hi : V S 6 i) (hq : (va_pl L f)[q]? = some (ad 6 i, C tA S ad 6 i)) (v : Int32) : ∃ f2 : Nat → va_E, (va_pl L f).set q (ad 6 i, .inr (11, ([.int (sI S 33 i), .int (sI S 34 i), .int (sI S 35 i)] : List Value).set 1 (.int v))) = va_pl L f2 ∧ Rep tA (uI S 34 i v) ad L f2 := by
  refine h.put hD (k := 6) hi hq (fun _ _ h => h) (fun k2 i2 hv hn => ?_) ?_
  · rcases Nat.lt_or_ge k2 23 with hk | hk
    · by_cases hk2 : k2 = 6
      · subst hk2
        have hi2 : i2 ≠ i := fun q => hn ⟨rfl, q⟩
        simp [C, sN, sI, sJ, sR, sP, uI, uJ, uR, up2, hi2]
      · have hc : ∀ n : Nat, n < 23 → n ≠ 6 → C tA (uI S 34 i v) ad n i2 = C tA S ad n i2 := by
          intro n hn1 hn2
          match n, hn1, hn2 with
          | 0, _, hn2 => first | rfl | simp [C, sN, sI, sJ, sR, sP, uI, uJ, uR, up2]
          | 1, _, hn2 => first | rfl | simp [C, sN, sI, sJ, sR, sP, uI, uJ, uR, up2]
          | 2, _, hn2 => first | rfl | simp [C, sN, sI, sJ, sR, sP, uI, uJ, uR, up2]
          | 3, _, hn2 => first | rfl | simp [C, sN, sI, sJ, sR, sP, uI, uJ, uR, up2]
          | 4, _, hn2 => first | rfl | simp [C, sN, sI, sJ, sR, sP, uI, uJ, uR, up2]
          | 5, _, hn2 => first | rfl | simp [C, sN, sI, sJ, sR, sP, uI, uJ, uR, up2]
          | 6, _, hn2 => exact absurd rfl hn2
          | 7, _, hn2 => first | rfl | simp [C, sN, sI, sJ, sR, sP, uI, uJ, uR, up2]
          | 8, _, hn2 => first | rfl | simp [C, sN, sI, sJ, sR, sP, uI, uJ, uR, up2]
          | 9, _, hn2 => first | rfl | simp [C, sN, sI, sJ, sR, sP, uI, uJ, uR, up2]
          | 10, _, hn2 => first | rfl | simp [C, sN, sI, sJ, sR, sP, uI, uJ, uR, up2]
          | 11, _, hn2 => first | rfl | simp [C, sN, sI, sJ, sR, sP, uI, uJ, uR, up2]
          | 12, _, hn2 => first | rfl | simp [C, sN, sI, sJ, sR, sP, uI, uJ, uR, up2]
          | 13, _, hn2 => first | rfl | simp [C, sN, sI, sJ, sR, sP, uI, uJ, uR, up2]
          | 14, _, hn2 => first | rfl | simp [C, sN, sI, sJ, sR, sP, uI, uJ, uR, up2]
          | 15, _, hn2 => first | rfl | simp [C, sN, sI, sJ, sR, sP, uI, uJ, uR, up2]
          | 16, _, hn2 => first | rfl | simp [C, sN, sI, sJ, sR, sP, uI, uJ, uR, up2]
          | 17, _, hn2 => first | rfl | simp [C, sN, sI, sJ, sR, sP, uI, uJ, uR, up2]
          | 18, _, hn2 => first | rfl | simp [C, sN, sI, sJ, sR, sP, uI, uJ, uR, up2]
          | 19, _, hn2 => first | rfl | simp [C, sN, sI, sJ, sR, sP, uI, uJ, uR, up2]
          | 20, _, hn2 => first | rfl | simp [C, sN, sI, sJ, sR, sP, uI, uJ, uR, up2]
          | 21, _, hn2 => first | rfl | simp [C, sN, sI, sJ, sR, sP, uI, uJ, uR, up2]
          | 22, _, hn2 => first | rfl | simp [C, sN, sI, sJ, sR, sP, uI, uJ, uR, up2]
          | n + 23, hn1, _ => exact absurd hn1 (by omega)
        exact hc k2 hk hk2
    · exact False.elim (by
        obtain ⟨n, rfl⟩ : ∃ n, k2 = n + 23 := ⟨k2 - 23, by omega⟩
        exact hv)
  · simp [C, sN, sI, sJ, sR, sP, uI, uJ, uR, up2]
theorem put_refusals_6 (hx : p.tables.exec = Jvm.exec) (hb : c.code = cc) (hts : ∀ w ∈ Ts, w.before args s = true) (hin : ∀ w ∈ u_ws RX9 TX9 3, w ∈ Ts) (hown : s.vm.findClass own = some m.cls) (hK : va_K D vwCl (gT tA) s) (hP : va_P D vwCl (va_pl L f) H) (hD : va_D A (va_pl L f)) (hS : va_S A H0 H locs) (hR : Rep tA S ad L f) (hi : V S 6 i) (hlink : (Cond.fieldLink own index (TX9 1).1 (TX9 1).2.1 (TX9 1).2.2.1).before args s = true) {v : Int32} (hdg : decode cc pc = .ok (.putfield index, 3))
    (kk : ∀ (H1 : Heap) (locs1 : List Loc) (f2 : Nat → va_E), va_P D vwCl (va_pl L f2) H1 → va_D A (va_pl L f2) → va_S A H0 H1 locs1 → Rep tA (uI S 34 i v) ad L f2 → W p l e R s m args below meth c H1 locs1 cells slots Q (F0 m (pc + 3) ls rest)) : W p l e R s m args below meth c H locs cells slots Q (F0 m pc ls (.int v :: .ref (ad 6 i) :: rest)) := by
  obtain ⟨q, hq⟩ := cell_6 hR hi
  obtain ⟨f2, h2, hR2⟩ := rep_refusals_6 hR hD hi hq v
  exact va_put (D := D) (ci := 11) (v := .int v) (ty := .int) (C := RX9) (T := TX9) (N := 3) hx hb hts hin tyX9 tyX9_ok nmX9 hown hK hP hD hS q hq rfl 1 (by decide) hlink (fun _ h9 => h9) rfl (by decide +kernel) rfl rfl (Nat.le_of_ble_eq_true rfl) hdg (fun H1 locs1 h3 h4 h5 => by
    rw [h2] at h3 h4
    exact kk H1 locs1 f2 h3 h4 h5 hR2)
theorem rep_seen_6 (h : Rep tA S ad L f) (hD : va_D A (va_pl L f)) {q : Nat} (hi : V S 6 i) (hq : (va_pl L f)[q]? = some (ad 6 i, C tA S ad 6 i)) (v : Int32) : ∃ f2 : Nat → va_E, (va_pl L f).set q (ad 6 i, .inr (11, ([.int (sI S 33 i), .int (sI S 34 i), .int (sI S 35 i)] : List Value).set 2 (.int v))) = va_pl L f2 ∧ Rep tA (uI S 35 i v) ad L f2 := by
  refine h.put hD (k := 6) hi hq (fun _ _ h => h) (fun k2 i2 hv hn => ?_) ?_
  · rcases Nat.lt_or_ge k2 23 with hk | hk
    · by_cases hk2 : k2 = 6
      · subst hk2
        have hi2 : i2 ≠ i := fun q => hn ⟨rfl, q⟩
        simp [C, sN, sI, sJ, sR, sP, uI, uJ, uR, up2, hi2]
      · have hc : ∀ n : Nat, n < 23 → n ≠ 6 → C tA (uI S 35 i v) ad n i2 = C tA S ad n i2 := by
          intro n hn1 hn2
          match n, hn1, hn2 with
          | 0, _, hn2 => first | rfl | simp [C, sN, sI, sJ, sR, sP, uI, uJ, uR, up2]
          | 1, _, hn2 => first | rfl | simp [C, sN, sI, sJ, sR, sP, uI, uJ, uR, up2]
          | 2, _, hn2 => first | rfl | simp [C, sN, sI, sJ, sR, sP, uI, uJ, uR, up2]
          | 3, _, hn2 => first | rfl | simp [C, sN, sI, sJ, sR, sP, uI, uJ, uR, up2]
          | 4, _, hn2 => first | rfl | simp [C, sN, sI, sJ, sR, sP, uI, uJ, uR, up2]
          | 5, _, hn2 => first | rfl | simp [C, sN, sI, sJ, sR, sP, uI, uJ, uR, up2]
          | 6, _, hn2 => exact absurd rfl hn2
          | 7, _, hn2 => first | rfl | simp [C, sN, sI, sJ, sR, sP, uI, uJ, uR, up2]
          | 8, _, hn2 => first | rfl | simp [C, sN, sI, sJ, sR, sP, uI, uJ, uR, up2]
          | 9, _, hn2 => first | rfl | simp [C, sN, sI, sJ, sR, sP, uI, uJ, uR, up2]
          | 10, _, hn2 => first | rfl | simp [C, sN, sI, sJ, sR, sP, uI, uJ, uR, up2]
          | 11, _, hn2 => first | rfl | simp [C, sN, sI, sJ, sR, sP, uI, uJ, uR, up2]
          | 12, _, hn2 => first | rfl | simp [C, sN, sI, sJ, sR, sP, uI, uJ, uR, up2]
          | 13, _, hn2 => first | rfl | simp [C, sN, sI, sJ, sR, sP, uI, uJ, uR, up2]
          | 14, _, hn2 => first | rfl | simp [C, sN, sI, sJ, sR, sP, uI, uJ, uR, up2]
          | 15, _, hn2 => first | rfl | simp [C, sN, sI, sJ, sR, sP, uI, uJ, uR, up2]
          | 16, _, hn2 => first | rfl | simp [C, sN, sI, sJ, sR, sP, uI, uJ, uR, up2]
          | 17, _, hn2 => first | rfl | simp [C, sN, sI, sJ, sR, sP, uI, uJ, uR, up2]
          | 18, _, hn2 => first | rfl | simp [C, sN, sI, sJ, sR, sP, uI, uJ, uR, up2]
          | 19, _, hn2 => first | rfl | simp [C, sN, sI, sJ, sR, sP, uI, uJ, uR, up2]
          | 20, _, hn2 => first | rfl | simp [C, sN, sI, sJ, sR, sP, uI, uJ, uR, up2]
          | 21, _, hn2 => first | rfl | simp [C, sN, sI, sJ, sR, sP, uI, uJ, uR, up2]
          | 22, _, hn2 => first | rfl | simp [C, sN, sI, sJ, sR, sP, uI, uJ, uR, up2]
          | n + 23, hn1, _ => exact absurd hn1 (by omega)
        exact hc k2 hk hk2
    · exact False.elim (by
        obtain ⟨n, rfl⟩ : ∃ n, k2 = n + 23 := ⟨k2 - 23, by omega⟩
        exact hv)
  · simp [C, sN, sI, sJ, sR, sP, uI, uJ, uR, up2]
theorem put_seen_6 (hx : p.tables.exec = Jvm.exec) (hb : c.code = cc) (hts : ∀ w ∈ Ts, w.before args s = true) (hin : ∀ w ∈ u_ws RX9 TX9 3, w ∈ Ts) (hown : s.vm.findClass own = some m.cls) (hK : va_K D vwCl (gT tA) s) (hP : va_P D vwCl (va_pl L f) H) (hD : va_D A (va_pl L f)) (hS : va_S A H0 H locs) (hR : Rep tA S ad L f) (hi : V S 6 i) (hlink : (Cond.fieldLink own index (TX9 2).1 (TX9 2).2.1 (TX9 2).2.2.1).before args s = true) {v : Int32} (hdg : decode cc pc = .ok (.putfield index, 3))
    (kk : ∀ (H1 : Heap) (locs1 : List Loc) (f2 : Nat → va_E), va_P D vwCl (va_pl L f2) H1 → va_D A (va_pl L f2) → va_S A H0 H1 locs1 → Rep tA (uI S 35 i v) ad L f2 → W p l e R s m args below meth c H1 locs1 cells slots Q (F0 m (pc + 3) ls rest)) : W p l e R s m args below meth c H locs cells slots Q (F0 m pc ls (.int v :: .ref (ad 6 i) :: rest)) := by
  obtain ⟨q, hq⟩ := cell_6 hR hi
  obtain ⟨f2, h2, hR2⟩ := rep_seen_6 hR hD hi hq v
  exact va_put (D := D) (ci := 11) (v := .int v) (ty := .int) (C := RX9) (T := TX9) (N := 3) hx hb hts hin tyX9 tyX9_ok nmX9 hown hK hP hD hS q hq rfl 2 (by decide) hlink (fun _ h9 => h9) rfl (by decide +kernel) rfl rfl (Nat.le_of_ble_eq_true rfl) hdg (fun H1 locs1 h3 h4 h5 => by
    rw [h2] at h3 h4
    exact kk H1 locs1 f2 h3 h4 h5 hR2)
theorem rep_rest_7 (h : Rep tA S ad L f) (hD : va_D A (va_pl L f)) {q : Nat} (hi : V S 7 i) (hq : (va_pl L f)[q]? = some (ad 7 i, C tA S ad 7 i)) (v : Int32) : ∃ f2 : Nat → va_E, (va_pl L f).set q (ad 7 i, .inr (5, ([.int (nI i), .ref (ad 2 (sN S 6 i)), .int (sI S 40 i), .ref (ad 8 i), .ref (ad 9 i), .ref (ad 10 i), .int (sI S 41 i), .int (sI S 42 i), .int (sI S 43 i), .long (sJ S 3 i)] : List Value).set 6 (.int v))) = va_pl L f2 ∧ Rep tA (uI S 41 i v) ad L f2 := by
  refine h.put hD (k := 7) hi hq (fun _ _ h => h) (fun k2 i2 hv hn => ?_) ?_
  · rcases Nat.lt_or_ge k2 23 with hk | hk
    · by_cases hk2 : k2 = 7
      · subst hk2
        have hi2 : i2 ≠ i := fun q => hn ⟨rfl, q⟩
        simp [C, sN, sI, sJ, sR, sP, uI, uJ, uR, up2, hi2]
      · have hc : ∀ n : Nat, n < 23 → n ≠ 7 → C tA (uI S 41 i v) ad n i2 = C tA S ad n i2 := by
          intro n hn1 hn2
          match n, hn1, hn2 with
          | 0, _, hn2 => first | rfl | simp [C, sN, sI, sJ, sR, sP, uI, uJ, uR, up2]
          | 1, _, hn2 => first | rfl | simp [C, sN, sI, sJ, sR, sP, uI, uJ, uR, up2]
          | 2, _, hn2 => first | rfl | simp [C, sN, sI, sJ, sR, sP, uI, uJ, uR, up2]
          | 3, _, hn2 => first | rfl | simp [C, sN, sI, sJ, sR, sP, uI, uJ, uR, up2]
          | 4, _, hn2 => first | rfl | simp [C, sN, sI, sJ, sR, sP, uI, uJ, uR, up2]
          | 5, _, hn2 => first | rfl | simp [C, sN, sI, sJ, sR, sP, uI, uJ, uR, up2]
          | 6, _, hn2 => first | rfl | simp [C, sN, sI, sJ, sR, sP, uI, uJ, uR, up2]
          | 7, _, hn2 => exact absurd rfl hn2
          | 8, _, hn2 => first | rfl | simp [C, sN, sI, sJ, sR, sP, uI, uJ, uR, up2]
          | 9, _, hn2 => first | rfl | simp [C, sN, sI, sJ, sR, sP, uI, uJ, uR, up2]
          | 10, _, hn2 => first | rfl | simp [C, sN, sI, sJ, sR, sP, uI, uJ, uR, up2]
          | 11, _, hn2 => first | rfl | simp [C, sN, sI, sJ, sR, sP, uI, uJ, uR, up2]
          | 12, _, hn2 => first | rfl | simp [C, sN, sI, sJ, sR, sP, uI, uJ, uR, up2]
          | 13, _, hn2 => first | rfl | simp [C, sN, sI, sJ, sR, sP, uI, uJ, uR, up2]
          | 14, _, hn2 => first | rfl | simp [C, sN, sI, sJ, sR, sP, uI, uJ, uR, up2]
          | 15, _, hn2 => first | rfl | simp [C, sN, sI, sJ, sR, sP, uI, uJ, uR, up2]
          | 16, _, hn2 => first | rfl | simp [C, sN, sI, sJ, sR, sP, uI, uJ, uR, up2]
          | 17, _, hn2 => first | rfl | simp [C, sN, sI, sJ, sR, sP, uI, uJ, uR, up2]
          | 18, _, hn2 => first | rfl | simp [C, sN, sI, sJ, sR, sP, uI, uJ, uR, up2]
          | 19, _, hn2 => first | rfl | simp [C, sN, sI, sJ, sR, sP, uI, uJ, uR, up2]
          | 20, _, hn2 => first | rfl | simp [C, sN, sI, sJ, sR, sP, uI, uJ, uR, up2]
          | 21, _, hn2 => first | rfl | simp [C, sN, sI, sJ, sR, sP, uI, uJ, uR, up2]
          | 22, _, hn2 => first | rfl | simp [C, sN, sI, sJ, sR, sP, uI, uJ, uR, up2]
          | n + 23, hn1, _ => exact absurd hn1 (by omega)
        exact hc k2 hk hk2
    · exact False.elim (by
        obtain ⟨n, rfl⟩ : ∃ n, k2 = n + 23 := ⟨k2 - 23, by omega⟩
        exact hv)
  · simp [C, sN, sI, sJ, sR, sP, uI, uJ, uR, up2]
theorem put_rest_7 (hx : p.tables.exec = Jvm.exec) (hb : c.code = cc) (hts : ∀ w ∈ Ts, w.before args s = true) (hin : ∀ w ∈ u_ws RX3 TX3 10, w ∈ Ts) (hown : s.vm.findClass own = some m.cls) (hK : va_K D vwCl (gT tA) s) (hP : va_P D vwCl (va_pl L f) H) (hD : va_D A (va_pl L f)) (hS : va_S A H0 H locs) (hR : Rep tA S ad L f) (hi : V S 7 i) (hlink : (Cond.fieldLink own index (TX3 6).1 (TX3 6).2.1 (TX3 6).2.2.1).before args s = true) {v : Int32} (hdg : decode cc pc = .ok (.putfield index, 3))
    (kk : ∀ (H1 : Heap) (locs1 : List Loc) (f2 : Nat → va_E), va_P D vwCl (va_pl L f2) H1 → va_D A (va_pl L f2) → va_S A H0 H1 locs1 → Rep tA (uI S 41 i v) ad L f2 → W p l e R s m args below meth c H1 locs1 cells slots Q (F0 m (pc + 3) ls rest)) : W p l e R s m args below meth c H locs cells slots Q (F0 m pc ls (.int v :: .ref (ad 7 i) :: rest)) := by
  obtain ⟨q, hq⟩ := cell_7 hR hi
  obtain ⟨f2, h2, hR2⟩ := rep_rest_7 hR hD hi hq v
  exact va_put (D := D) (ci := 5) (v := .int v) (ty := .int) (C := RX3) (T := TX3) (N := 10) hx hb hts hin tyX3 tyX3_ok nmX3 hown hK hP hD hS q hq rfl 6 (by decide) hlink (fun _ h9 => h9) rfl (by decide +kernel) rfl rfl (Nat.le_of_ble_eq_true rfl) hdg (fun H1 locs1 h3 h4 h5 => by
    rw [h2] at h3 h4
    exact kk H1 locs1 f2 h3 h4 h5 hR2)
theorem rep_reserved_7 (h : Rep tA S ad L f) (hD : va_D A (va_pl L f)) {q : Nat} (hi : V S 7 i) (hq : (va_pl L f)[q]? = some (ad 7 i, C tA S ad 7 i)) (v : Int32) : ∃ f2 : Nat → va_E, (va_pl L f).set q (ad 7 i, .inr (5, ([.int (nI i), .ref (ad 2 (sN S 6 i)), .int (sI S 40 i), .ref (ad 8 i), .ref (ad 9 i), .ref (ad 10 i), .int (sI S 41 i), .int (sI S 42 i), .int (sI S 43 i), .long (sJ S 3 i)] : List Value).set 7 (.int v))) = va_pl L f2 ∧ Rep tA (uI S 42 i v) ad L f2 := by
  refine h.put hD (k := 7) hi hq (fun _ _ h => h) (fun k2 i2 hv hn => ?_) ?_
  · rcases Nat.lt_or_ge k2 23 with hk | hk
    · by_cases hk2 : k2 = 7
      · subst hk2
        have hi2 : i2 ≠ i := fun q => hn ⟨rfl, q⟩
        simp [C, sN, sI, sJ, sR, sP, uI, uJ, uR, up2, hi2]
      · have hc : ∀ n : Nat, n < 23 → n ≠ 7 → C tA (uI S 42 i v) ad n i2 = C tA S ad n i2 := by
          intro n hn1 hn2
          match n, hn1, hn2 with
          | 0, _, hn2 => first | rfl | simp [C, sN, sI, sJ, sR, sP, uI, uJ, uR, up2]
          | 1, _, hn2 => first | rfl | simp [C, sN, sI, sJ, sR, sP, uI, uJ, uR, up2]
          | 2, _, hn2 => first | rfl | simp [C, sN, sI, sJ, sR, sP, uI, uJ, uR, up2]
          | 3, _, hn2 => first | rfl | simp [C, sN, sI, sJ, sR, sP, uI, uJ, uR, up2]
          | 4, _, hn2 => first | rfl | simp [C, sN, sI, sJ, sR, sP, uI, uJ, uR, up2]
          | 5, _, hn2 => first | rfl | simp [C, sN, sI, sJ, sR, sP, uI, uJ, uR, up2]
          | 6, _, hn2 => first | rfl | simp [C, sN, sI, sJ, sR, sP, uI, uJ, uR, up2]
          | 7, _, hn2 => exact absurd rfl hn2
          | 8, _, hn2 => first | rfl | simp [C, sN, sI, sJ, sR, sP, uI, uJ, uR, up2]
          | 9, _, hn2 => first | rfl | simp [C, sN, sI, sJ, sR, sP, uI, uJ, uR, up2]
          | 10, _, hn2 => first | rfl | simp [C, sN, sI, sJ, sR, sP, uI, uJ, uR, up2]
          | 11, _, hn2 => first | rfl | simp [C, sN, sI, sJ, sR, sP, uI, uJ, uR, up2]
          | 12, _, hn2 => first | rfl | simp [C, sN, sI, sJ, sR, sP, uI, uJ, uR, up2]
          | 13, _, hn2 => first | rfl | simp [C, sN, sI, sJ, sR, sP, uI, uJ, uR, up2]
          | 14, _, hn2 => first | rfl | simp [C, sN, sI, sJ, sR, sP, uI, uJ, uR, up2]
          | 15, _, hn2 => first | rfl | simp [C, sN, sI, sJ, sR, sP, uI, uJ, uR, up2]
          | 16, _, hn2 => first | rfl | simp [C, sN, sI, sJ, sR, sP, uI, uJ, uR, up2]
          | 17, _, hn2 => first | rfl | simp [C, sN, sI, sJ, sR, sP, uI, uJ, uR, up2]
          | 18, _, hn2 => first | rfl | simp [C, sN, sI, sJ, sR, sP, uI, uJ, uR, up2]
          | 19, _, hn2 => first | rfl | simp [C, sN, sI, sJ, sR, sP, uI, uJ, uR, up2]
          | 20, _, hn2 => first | rfl | simp [C, sN, sI, sJ, sR, sP, uI, uJ, uR, up2]
          | 21, _, hn2 => first | rfl | simp [C, sN, sI, sJ, sR, sP, uI, uJ, uR, up2]
          | 22, _, hn2 => first | rfl | simp [C, sN, sI, sJ, sR, sP, uI, uJ, uR, up2]
          | n + 23, hn1, _ => exact absurd hn1 (by omega)
        exact hc k2 hk hk2
    · exact False.elim (by
        obtain ⟨n, rfl⟩ : ∃ n, k2 = n + 23 := ⟨k2 - 23, by omega⟩
        exact hv)
  · simp [C, sN, sI, sJ, sR, sP, uI, uJ, uR, up2]
theorem put_reserved_7 (hx : p.tables.exec = Jvm.exec) (hb : c.code = cc) (hts : ∀ w ∈ Ts, w.before args s = true) (hin : ∀ w ∈ u_ws RX3 TX3 10, w ∈ Ts) (hown : s.vm.findClass own = some m.cls) (hK : va_K D vwCl (gT tA) s) (hP : va_P D vwCl (va_pl L f) H) (hD : va_D A (va_pl L f)) (hS : va_S A H0 H locs) (hR : Rep tA S ad L f) (hi : V S 7 i) (hlink : (Cond.fieldLink own index (TX3 7).1 (TX3 7).2.1 (TX3 7).2.2.1).before args s = true) {v : Int32} (hdg : decode cc pc = .ok (.putfield index, 3))
    (kk : ∀ (H1 : Heap) (locs1 : List Loc) (f2 : Nat → va_E), va_P D vwCl (va_pl L f2) H1 → va_D A (va_pl L f2) → va_S A H0 H1 locs1 → Rep tA (uI S 42 i v) ad L f2 → W p l e R s m args below meth c H1 locs1 cells slots Q (F0 m (pc + 3) ls rest)) : W p l e R s m args below meth c H locs cells slots Q (F0 m pc ls (.int v :: .ref (ad 7 i) :: rest)) := by
  obtain ⟨q, hq⟩ := cell_7 hR hi
  obtain ⟨f2, h2, hR2⟩ := rep_reserved_7 hR hD hi hq v
  exact va_put (D := D) (ci := 5) (v := .int v) (ty := .int) (C := RX3) (T := TX3) (N := 10) hx hb hts hin tyX3 tyX3_ok nmX3 hown hK hP hD hS q hq rfl 7 (by decide) hlink (fun _ h9 => h9) rfl (by decide +kernel) rfl rfl (Nat.le_of_ble_eq_true rfl) hdg (fun H1 locs1 h3 h4 h5 => by
    rw [h2] at h3 h4
    exact kk H1 locs1 f2 h3 h4 h5 hR2)
theorem rep_delivered_7 (h : Rep tA S ad L f) (hD : va_D A (va_pl L f)) {q : Nat} (hi : V S 7 i) (hq : (va_pl L f)[q]? = some (ad 7 i, C tA S ad 7 i)) (v : Int32) : ∃ f2 : Nat → va_E, (va_pl L f).set q (ad 7 i, .inr (5, ([.int (nI i), .ref (ad 2 (sN S 6 i)), .int (sI S 40 i), .ref (ad 8 i), .ref (ad 9 i), .ref (ad 10 i), .int (sI S 41 i), .int (sI S 42 i), .int (sI S 43 i), .long (sJ S 3 i)] : List Value).set 8 (.int v))) = va_pl L f2 ∧ Rep tA (uI S 43 i v) ad L f2 := by
  refine h.put hD (k := 7) hi hq (fun _ _ h => h) (fun k2 i2 hv hn => ?_) ?_
  · rcases Nat.lt_or_ge k2 23 with hk | hk
    · by_cases hk2 : k2 = 7
      · subst hk2
        have hi2 : i2 ≠ i := fun q => hn ⟨rfl, q⟩
        simp [C, sN, sI, sJ, sR, sP, uI, uJ, uR, up2, hi2]
      · have hc : ∀ n : Nat, n < 23 → n ≠ 7 → C tA (uI S 43 i v) ad n i2 = C tA S ad n i2 := by
          intro n hn1 hn2
          match n, hn1, hn2 with
          | 0, _, hn2 => first | rfl | simp [C, sN, sI, sJ, sR, sP, uI, uJ, uR, up2]
          | 1, _, hn2 => first | rfl | simp [C, sN, sI, sJ, sR, sP, uI, uJ, uR, up2]
          | 2, _, hn2 => first | rfl | simp [C, sN, sI, sJ, sR, sP, uI, uJ, uR, up2]
          | 3, _, hn2 => first | rfl | simp [C, sN, sI, sJ, sR, sP, uI, uJ, uR, up2]
          | 4, _, hn2 => first | rfl | simp [C, sN, sI, sJ, sR, sP, uI, uJ, uR, up2]
          | 5, _, hn2 => first | rfl | simp [C, sN, sI, sJ, sR, sP, uI, uJ, uR, up2]
          | 6, _, hn2 => first | rfl | simp [C, sN, sI, sJ, sR, sP, uI, uJ, uR, up2]
          | 7, _, hn2 => exact absurd rfl hn2
          | 8, _, hn2 => first | rfl | simp [C, sN, sI, sJ, sR, sP, uI, uJ, uR, up2]
          | 9, _, hn2 => first | rfl | simp [C, sN, sI, sJ, sR, sP, uI, uJ, uR, up2]
          | 10, _, hn2 => first | rfl | simp [C, sN, sI, sJ, sR, sP, uI, uJ, uR, up2]
          | 11, _, hn2 => first | rfl | simp [C, sN, sI, sJ, sR, sP, uI, uJ, uR, up2]
          | 12, _, hn2 => first | rfl | simp [C, sN, sI, sJ, sR, sP, uI, uJ, uR, up2]
          | 13, _, hn2 => first | rfl | simp [C, sN, sI, sJ, sR, sP, uI, uJ, uR, up2]
          | 14, _, hn2 => first | rfl | simp [C, sN, sI, sJ, sR, sP, uI, uJ, uR, up2]
          | 15, _, hn2 => first | rfl | simp [C, sN, sI, sJ, sR, sP, uI, uJ, uR, up2]
          | 16, _, hn2 => first | rfl | simp [C, sN, sI, sJ, sR, sP, uI, uJ, uR, up2]
          | 17, _, hn2 => first | rfl | simp [C, sN, sI, sJ, sR, sP, uI, uJ, uR, up2]
          | 18, _, hn2 => first | rfl | simp [C, sN, sI, sJ, sR, sP, uI, uJ, uR, up2]
          | 19, _, hn2 => first | rfl | simp [C, sN, sI, sJ, sR, sP, uI, uJ, uR, up2]
          | 20, _, hn2 => first | rfl | simp [C, sN, sI, sJ, sR, sP, uI, uJ, uR, up2]
          | 21, _, hn2 => first | rfl | simp [C, sN, sI, sJ, sR, sP, uI, uJ, uR, up2]
          | 22, _, hn2 => first | rfl | simp [C, sN, sI, sJ, sR, sP, uI, uJ, uR, up2]
          | n + 23, hn1, _ => exact absurd hn1 (by omega)
        exact hc k2 hk hk2
    · exact False.elim (by
        obtain ⟨n, rfl⟩ : ∃ n, k2 = n + 23 := ⟨k2 - 23, by omega⟩
        exact hv)
  · simp [C, sN, sI, sJ, sR, sP, uI, uJ, uR, up2]
theorem put_delivered_7 (hx : p.tables.exec = Jvm.exec) (hb : c.code = cc) (hts : ∀ w ∈ Ts, w.before args s = true) (hin : ∀ w ∈ u_ws RX3 TX3 10, w ∈ Ts) (hown : s.vm.findClass own = some m.cls) (hK : va_K D vwCl (gT tA) s) (hP : va_P D vwCl (va_pl L f) H) (hD : va_D A (va_pl L f)) (hS : va_S A H0 H locs) (hR : Rep tA S ad L f) (hi : V S 7 i) (hlink : (Cond.fieldLink own index (TX3 8).1 (TX3 8).2.1 (TX3 8).2.2.1).before args s = true) {v : Int32} (hdg : decode cc pc = .ok (.putfield index, 3))
    (kk : ∀ (H1 : Heap) (locs1 : List Loc) (f2 : Nat → va_E), va_P D vwCl (va_pl L f2) H1 → va_D A (va_pl L f2) → va_S A H0 H1 locs1 → Rep tA (uI S 43 i v) ad L f2 → W p l e R s m args below meth c H1 locs1 cells slots Q (F0 m (pc + 3) ls rest)) : W p l e R s m args below meth c H locs cells slots Q (F0 m pc ls (.int v :: .ref (ad 7 i) :: rest)) := by
  obtain ⟨q, hq⟩ := cell_7 hR hi
  obtain ⟨f2, h2, hR2⟩ := rep_delivered_7 hR hD hi hq v
  exact va_put (D := D) (ci := 5) (v := .int v) (ty := .int) (C := RX3) (T := TX3) (N := 10) hx hb hts hin tyX3 tyX3_ok nmX3 hown hK hP hD hS q hq rfl 8 (by decide) hlink (fun _ h9 => h9) rfl (by decide +kernel) rfl rfl (Nat.le_of_ble_eq_true rfl) hdg (fun H1 locs1 h3 h4 h5 => by
    rw [h2] at h3 h4
    exact kk H1 locs1 f2 h3 h4 h5 hR2)
theorem rep_cost_7 (h : Rep tA S ad L f) (hD : va_D A (va_pl L f)) {q : Nat} (hi : V S 7 i) (hq : (va_pl L f)[q]? = some (ad 7 i, C tA S ad 7 i)) (v : Int64) : ∃ f2 : Nat → va_E, (va_pl L f).set q (ad 7 i, .inr (5, ([.int (nI i), .ref (ad 2 (sN S 6 i)), .int (sI S 40 i), .ref (ad 8 i), .ref (ad 9 i), .ref (ad 10 i), .int (sI S 41 i), .int (sI S 42 i), .int (sI S 43 i), .long (sJ S 3 i)] : List Value).set 9 (.long v))) = va_pl L f2 ∧ Rep tA (uJ S 3 i v) ad L f2 := by
  refine h.put hD (k := 7) hi hq (fun _ _ h => h) (fun k2 i2 hv hn => ?_) ?_
  · rcases Nat.lt_or_ge k2 23 with hk | hk
    · by_cases hk2 : k2 = 7
      · subst hk2
        have hi2 : i2 ≠ i := fun q => hn ⟨rfl, q⟩
        simp [C, sN, sI, sJ, sR, sP, uI, uJ, uR, up2, hi2]
      · have hc : ∀ n : Nat, n < 23 → n ≠ 7 → C tA (uJ S 3 i v) ad n i2 = C tA S ad n i2 := by
          intro n hn1 hn2
          match n, hn1, hn2 with
          | 0, _, hn2 => first | rfl | simp [C, sN, sI, sJ, sR, sP, uI, uJ, uR, up2]
          | 1, _, hn2 => first | rfl | simp [C, sN, sI, sJ, sR, sP, uI, uJ, uR, up2]
          | 2, _, hn2 => first | rfl | simp [C, sN, sI, sJ, sR, sP, uI, uJ, uR, up2]
          | 3, _, hn2 => first | rfl | simp [C, sN, sI, sJ, sR, sP, uI, uJ, uR, up2]
          | 4, _, hn2 => first | rfl | simp [C, sN, sI, sJ, sR, sP, uI, uJ, uR, up2]
          | 5, _, hn2 => first | rfl | simp [C, sN, sI, sJ, sR, sP, uI, uJ, uR, up2]
          | 6, _, hn2 => first | rfl | simp [C, sN, sI, sJ, sR, sP, uI, uJ, uR, up2]
          | 7, _, hn2 => exact absurd rfl hn2
          | 8, _, hn2 => first | rfl | simp [C, sN, sI, sJ, sR, sP, uI, uJ, uR, up2]
          | 9, _, hn2 => first | rfl | simp [C, sN, sI, sJ, sR, sP, uI, uJ, uR, up2]
          | 10, _, hn2 => first | rfl | simp [C, sN, sI, sJ, sR, sP, uI, uJ, uR, up2]
          | 11, _, hn2 => first | rfl | simp [C, sN, sI, sJ, sR, sP, uI, uJ, uR, up2]
          | 12, _, hn2 => first | rfl | simp [C, sN, sI, sJ, sR, sP, uI, uJ, uR, up2]
          | 13, _, hn2 => first | rfl | simp [C, sN, sI, sJ, sR, sP, uI, uJ, uR, up2]
          | 14, _, hn2 => first | rfl | simp [C, sN, sI, sJ, sR, sP, uI, uJ, uR, up2]
          | 15, _, hn2 => first | rfl | simp [C, sN, sI, sJ, sR, sP, uI, uJ, uR, up2]
          | 16, _, hn2 => first | rfl | simp [C, sN, sI, sJ, sR, sP, uI, uJ, uR, up2]
          | 17, _, hn2 => first | rfl | simp [C, sN, sI, sJ, sR, sP, uI, uJ, uR, up2]
          | 18, _, hn2 => first | rfl | simp [C, sN, sI, sJ, sR, sP, uI, uJ, uR, up2]
          | 19, _, hn2 => first | rfl | simp [C, sN, sI, sJ, sR, sP, uI, uJ, uR, up2]
          | 20, _, hn2 => first | rfl | simp [C, sN, sI, sJ, sR, sP, uI, uJ, uR, up2]
          | 21, _, hn2 => first | rfl | simp [C, sN, sI, sJ, sR, sP, uI, uJ, uR, up2]
          | 22, _, hn2 => first | rfl | simp [C, sN, sI, sJ, sR, sP, uI, uJ, uR, up2]
          | n + 23, hn1, _ => exact absurd hn1 (by omega)
        exact hc k2 hk hk2
    · exact False.elim (by
        obtain ⟨n, rfl⟩ : ∃ n, k2 = n + 23 := ⟨k2 - 23, by omega⟩
        exact hv)
  · simp [C, sN, sI, sJ, sR, sP, uI, uJ, uR, up2]
theorem put_cost_7 (hx : p.tables.exec = Jvm.exec) (hb : c.code = cc) (hts : ∀ w ∈ Ts, w.before args s = true) (hin : ∀ w ∈ u_ws RX3 TX3 10, w ∈ Ts) (hown : s.vm.findClass own = some m.cls) (hK : va_K D vwCl (gT tA) s) (hP : va_P D vwCl (va_pl L f) H) (hD : va_D A (va_pl L f)) (hS : va_S A H0 H locs) (hR : Rep tA S ad L f) (hi : V S 7 i) (hlink : (Cond.fieldLink own index (TX3 9).1 (TX3 9).2.1 (TX3 9).2.2.1).before args s = true) {v : Int64} (hdg : decode cc pc = .ok (.putfield index, 3))
    (kk : ∀ (H1 : Heap) (locs1 : List Loc) (f2 : Nat → va_E), va_P D vwCl (va_pl L f2) H1 → va_D A (va_pl L f2) → va_S A H0 H1 locs1 → Rep tA (uJ S 3 i v) ad L f2 → W p l e R s m args below meth c H1 locs1 cells slots Q (F0 m (pc + 3) ls rest)) : W p l e R s m args below meth c H locs cells slots Q (F0 m pc ls (.long v :: .ref (ad 7 i) :: rest)) := by
  obtain ⟨q, hq⟩ := cell_7 hR hi
  obtain ⟨f2, h2, hR2⟩ := rep_cost_7 hR hD hi hq v
  exact va_put (D := D) (ci := 5) (v := .long v) (ty := .long) (C := RX3) (T := TX3) (N := 10) hx hb hts hin tyX3 tyX3_ok nmX3 hown hK hP hD hS q hq rfl 9 (by decide) hlink (fun _ h9 => h9) rfl (by decide +kernel) rfl rfl (Nat.le_of_ble_eq_true rfl) hdg (fun H1 locs1 h3 h4 h5 => by
    rw [h2] at h3 h4
    exact kk H1 locs1 f2 h3 h4 h5 hR2)
theorem rep_low_8 (h : Rep tA S ad L f) (hD : va_D A (va_pl L f)) {q : Nat} (hi : V S 8 i) (hq : (va_pl L f)[q]? = some (ad 8 i, C tA S ad 8 i)) (v : Int64) : ∃ f2 : Nat → va_E, (va_pl L f).set q (ad 8 i, .inr (7, ([.long (sJ S 16 i), .long (sJ S 17 i)] : List Value).set 0 (.long v))) = va_pl L f2 ∧ Rep tA (uJ S 16 i v) ad L f2 := by
  refine h.put hD (k := 8) hi hq (fun _ _ h => h) (fun k2 i2 hv hn => ?_) ?_
  · rcases Nat.lt_or_ge k2 23 with hk | hk
    · by_cases hk2 : k2 = 8
      · subst hk2
        have hi2 : i2 ≠ i := fun q => hn ⟨rfl, q⟩
        simp [C, sN, sI, sJ, sR, sP, uI, uJ, uR, up2, hi2]
      · have hc : ∀ n : Nat, n < 23 → n ≠ 8 → C tA (uJ S 16 i v) ad n i2 = C tA S ad n i2 := by
          intro n hn1 hn2
          match n, hn1, hn2 with
          | 0, _, hn2 => first | rfl | simp [C, sN, sI, sJ, sR, sP, uI, uJ, uR, up2]
          | 1, _, hn2 => first | rfl | simp [C, sN, sI, sJ, sR, sP, uI, uJ, uR, up2]
          | 2, _, hn2 => first | rfl | simp [C, sN, sI, sJ, sR, sP, uI, uJ, uR, up2]
          | 3, _, hn2 => first | rfl | simp [C, sN, sI, sJ, sR, sP, uI, uJ, uR, up2]
          | 4, _, hn2 => first | rfl | simp [C, sN, sI, sJ, sR, sP, uI, uJ, uR, up2]
          | 5, _, hn2 => first | rfl | simp [C, sN, sI, sJ, sR, sP, uI, uJ, uR, up2]
          | 6, _, hn2 => first | rfl | simp [C, sN, sI, sJ, sR, sP, uI, uJ, uR, up2]
          | 7, _, hn2 => first | rfl | simp [C, sN, sI, sJ, sR, sP, uI, uJ, uR, up2]
          | 8, _, hn2 => exact absurd rfl hn2
          | 9, _, hn2 => first | rfl | simp [C, sN, sI, sJ, sR, sP, uI, uJ, uR, up2]
          | 10, _, hn2 => first | rfl | simp [C, sN, sI, sJ, sR, sP, uI, uJ, uR, up2]
          | 11, _, hn2 => first | rfl | simp [C, sN, sI, sJ, sR, sP, uI, uJ, uR, up2]
          | 12, _, hn2 => first | rfl | simp [C, sN, sI, sJ, sR, sP, uI, uJ, uR, up2]
          | 13, _, hn2 => first | rfl | simp [C, sN, sI, sJ, sR, sP, uI, uJ, uR, up2]
          | 14, _, hn2 => first | rfl | simp [C, sN, sI, sJ, sR, sP, uI, uJ, uR, up2]
          | 15, _, hn2 => first | rfl | simp [C, sN, sI, sJ, sR, sP, uI, uJ, uR, up2]
          | 16, _, hn2 => first | rfl | simp [C, sN, sI, sJ, sR, sP, uI, uJ, uR, up2]
          | 17, _, hn2 => first | rfl | simp [C, sN, sI, sJ, sR, sP, uI, uJ, uR, up2]
          | 18, _, hn2 => first | rfl | simp [C, sN, sI, sJ, sR, sP, uI, uJ, uR, up2]
          | 19, _, hn2 => first | rfl | simp [C, sN, sI, sJ, sR, sP, uI, uJ, uR, up2]
          | 20, _, hn2 => first | rfl | simp [C, sN, sI, sJ, sR, sP, uI, uJ, uR, up2]
          | 21, _, hn2 => first | rfl | simp [C, sN, sI, sJ, sR, sP, uI, uJ, uR, up2]
          | 22, _, hn2 => first | rfl | simp [C, sN, sI, sJ, sR, sP, uI, uJ, uR, up2]
          | n + 23, hn1, _ => exact absurd hn1 (by omega)
        exact hc k2 hk hk2
    · exact False.elim (by
        obtain ⟨n, rfl⟩ : ∃ n, k2 = n + 23 := ⟨k2 - 23, by omega⟩
        exact hv)
  · simp [C, sN, sI, sJ, sR, sP, uI, uJ, uR, up2]
theorem put_low_8 (hx : p.tables.exec = Jvm.exec) (hb : c.code = cc) (hts : ∀ w ∈ Ts, w.before args s = true) (hin : ∀ w ∈ u_ws RX5 TX5 2, w ∈ Ts) (hown : s.vm.findClass own = some m.cls) (hK : va_K D vwCl (gT tA) s) (hP : va_P D vwCl (va_pl L f) H) (hD : va_D A (va_pl L f)) (hS : va_S A H0 H locs) (hR : Rep tA S ad L f) (hi : V S 8 i) (hlink : (Cond.fieldLink own index (TX5 0).1 (TX5 0).2.1 (TX5 0).2.2.1).before args s = true) {v : Int64} (hdg : decode cc pc = .ok (.putfield index, 3))
    (kk : ∀ (H1 : Heap) (locs1 : List Loc) (f2 : Nat → va_E), va_P D vwCl (va_pl L f2) H1 → va_D A (va_pl L f2) → va_S A H0 H1 locs1 → Rep tA (uJ S 16 i v) ad L f2 → W p l e R s m args below meth c H1 locs1 cells slots Q (F0 m (pc + 3) ls rest)) : W p l e R s m args below meth c H locs cells slots Q (F0 m pc ls (.long v :: .ref (ad 8 i) :: rest)) := by
  obtain ⟨q, hq⟩ := cell_8 hR hi
  obtain ⟨f2, h2, hR2⟩ := rep_low_8 hR hD hi hq v
  exact va_put (D := D) (ci := 7) (v := .long v) (ty := .long) (C := RX5) (T := TX5) (N := 2) hx hb hts hin tyX5 tyX5_ok nmX5 hown hK hP hD hS q hq rfl 0 (by decide) hlink (fun _ h9 => h9) rfl (by decide +kernel) rfl rfl (Nat.le_of_ble_eq_true rfl) hdg (fun H1 locs1 h3 h4 h5 => by
    rw [h2] at h3 h4
    exact kk H1 locs1 f2 h3 h4 h5 hR2)
theorem rep_high_8 (h : Rep tA S ad L f) (hD : va_D A (va_pl L f)) {q : Nat} (hi : V S 8 i) (hq : (va_pl L f)[q]? = some (ad 8 i, C tA S ad 8 i)) (v : Int64) : ∃ f2 : Nat → va_E, (va_pl L f).set q (ad 8 i, .inr (7, ([.long (sJ S 16 i), .long (sJ S 17 i)] : List Value).set 1 (.long v))) = va_pl L f2 ∧ Rep tA (uJ S 17 i v) ad L f2 := by
  refine h.put hD (k := 8) hi hq (fun _ _ h => h) (fun k2 i2 hv hn => ?_) ?_
  · rcases Nat.lt_or_ge k2 23 with hk | hk
    · by_cases hk2 : k2 = 8
      · subst hk2
        have hi2 : i2 ≠ i := fun q => hn ⟨rfl, q⟩
        simp [C, sN, sI, sJ, sR, sP, uI, uJ, uR, up2, hi2]
      · have hc : ∀ n : Nat, n < 23 → n ≠ 8 → C tA (uJ S 17 i v) ad n i2 = C tA S ad n i2 := by
          intro n hn1 hn2
          match n, hn1, hn2 with
          | 0, _, hn2 => first | rfl | simp [C, sN, sI, sJ, sR, sP, uI, uJ, uR, up2]
          | 1, _, hn2 => first | rfl | simp [C, sN, sI, sJ, sR, sP, uI, uJ, uR, up2]
          | 2, _, hn2 => first | rfl | simp [C, sN, sI, sJ, sR, sP, uI, uJ, uR, up2]
          | 3, _, hn2 => first | rfl | simp [C, sN, sI, sJ, sR, sP, uI, uJ, uR, up2]
          | 4, _, hn2 => first | rfl | simp [C, sN, sI, sJ, sR, sP, uI, uJ, uR, up2]
          | 5, _, hn2 => first | rfl | simp [C, sN, sI, sJ, sR, sP, uI, uJ, uR, up2]
          | 6, _, hn2 => first | rfl | simp [C, sN, sI, sJ, sR, sP, uI, uJ, uR, up2]
          | 7, _, hn2 => first | rfl | simp [C, sN, sI, sJ, sR, sP, uI, uJ, uR, up2]
          | 8, _, hn2 => exact absurd rfl hn2
          | 9, _, hn2 => first | rfl | simp [C, sN, sI, sJ, sR, sP, uI, uJ, uR, up2]
          | 10, _, hn2 => first | rfl | simp [C, sN, sI, sJ, sR, sP, uI, uJ, uR, up2]
          | 11, _, hn2 => first | rfl | simp [C, sN, sI, sJ, sR, sP, uI, uJ, uR, up2]
          | 12, _, hn2 => first | rfl | simp [C, sN, sI, sJ, sR, sP, uI, uJ, uR, up2]
          | 13, _, hn2 => first | rfl | simp [C, sN, sI, sJ, sR, sP, uI, uJ, uR, up2]
          | 14, _, hn2 => first | rfl | simp [C, sN, sI, sJ, sR, sP, uI, uJ, uR, up2]
          | 15, _, hn2 => first | rfl | simp [C, sN, sI, sJ, sR, sP, uI, uJ, uR, up2]
          | 16, _, hn2 => first | rfl | simp [C, sN, sI, sJ, sR, sP, uI, uJ, uR, up2]
          | 17, _, hn2 => first | rfl | simp [C, sN, sI, sJ, sR, sP, uI, uJ, uR, up2]
          | 18, _, hn2 => first | rfl | simp [C, sN, sI, sJ, sR, sP, uI, uJ, uR, up2]
          | 19, _, hn2 => first | rfl | simp [C, sN, sI, sJ, sR, sP, uI, uJ, uR, up2]
          | 20, _, hn2 => first | rfl | simp [C, sN, sI, sJ, sR, sP, uI, uJ, uR, up2]
          | 21, _, hn2 => first | rfl | simp [C, sN, sI, sJ, sR, sP, uI, uJ, uR, up2]
          | 22, _, hn2 => first | rfl | simp [C, sN, sI, sJ, sR, sP, uI, uJ, uR, up2]
          | n + 23, hn1, _ => exact absurd hn1 (by omega)
        exact hc k2 hk hk2
    · exact False.elim (by
        obtain ⟨n, rfl⟩ : ∃ n, k2 = n + 23 := ⟨k2 - 23, by omega⟩
        exact hv)
  · simp [C, sN, sI, sJ, sR, sP, uI, uJ, uR, up2]
theorem put_high_8 (hx : p.tables.exec = Jvm.exec) (hb : c.code = cc) (hts : ∀ w ∈ Ts, w.before args s = true) (hin : ∀ w ∈ u_ws RX5 TX5 2, w ∈ Ts) (hown : s.vm.findClass own = some m.cls) (hK : va_K D vwCl (gT tA) s) (hP : va_P D vwCl (va_pl L f) H) (hD : va_D A (va_pl L f)) (hS : va_S A H0 H locs) (hR : Rep tA S ad L f) (hi : V S 8 i) (hlink : (Cond.fieldLink own index (TX5 1).1 (TX5 1).2.1 (TX5 1).2.2.1).before args s = true) {v : Int64} (hdg : decode cc pc = .ok (.putfield index, 3))
    (kk : ∀ (H1 : Heap) (locs1 : List Loc) (f2 : Nat → va_E), va_P D vwCl (va_pl L f2) H1 → va_D A (va_pl L f2) → va_S A H0 H1 locs1 → Rep tA (uJ S 17 i v) ad L f2 → W p l e R s m args below meth c H1 locs1 cells slots Q (F0 m (pc + 3) ls rest)) : W p l e R s m args below meth c H locs cells slots Q (F0 m pc ls (.long v :: .ref (ad 8 i) :: rest)) := by
  obtain ⟨q, hq⟩ := cell_8 hR hi
  obtain ⟨f2, h2, hR2⟩ := rep_high_8 hR hD hi hq v
  exact va_put (D := D) (ci := 7) (v := .long v) (ty := .long) (C := RX5) (T := TX5) (N := 2) hx hb hts hin tyX5 tyX5_ok nmX5 hown hK hP hD hS q hq rfl 1 (by decide) hlink (fun _ h9 => h9) rfl (by decide +kernel) rfl rfl (Nat.le_of_ble_eq_true rfl) hdg (fun H1 locs1 h3 h4 h5 => by
    rw [h2] at h3 h4
    exact kk H1 locs1 f2 h3 h4 h5 hR2)
theorem rep_low_9 (h : Rep tA S ad L f) (hD : va_D A (va_pl L f)) {q : Nat} (hi : V S 9 i) (hq : (va_pl L f)[q]? = some (ad 9 i, C tA S ad 9 i)) (v : Int64) : ∃ f2 : Nat → va_E, (va_pl L f).set q (ad 9 i, .inr (7, ([.long (sJ S 18 i), .long (sJ S 19 i)] : List Value).set 0 (.long v))) = va_pl L f2 ∧ Rep tA (uJ S 18 i v) ad L f2 := by
  refine h.put hD (k := 9) hi hq (fun _ _ h => h) (fun k2 i2 hv hn => ?_) ?_
  · rcases Nat.lt_or_ge k2 23 with hk | hk
    · by_cases hk2 : k2 = 9
      · subst hk2
        have hi2 : i2 ≠ i := fun q => hn ⟨rfl, q⟩
        simp [C, sN, sI, sJ, sR, sP, uI, uJ, uR, up2, hi2]
      · have hc : ∀ n : Nat, n < 23 → n ≠ 9 → C tA (uJ S 18 i v) ad n i2 = C tA S ad n i2 := by
          intro n hn1 hn2
          match n, hn1, hn2 with
          | 0, _, hn2 => first | rfl | simp [C, sN, sI, sJ, sR, sP, uI, uJ, uR, up2]
          | 1, _, hn2 => first | rfl | simp [C, sN, sI, sJ, sR, sP, uI, uJ, uR, up2]
          | 2, _, hn2 => first | rfl | simp [C, sN, sI, sJ, sR, sP, uI, uJ, uR, up2]
          | 3, _, hn2 => first | rfl | simp [C, sN, sI, sJ, sR, sP, uI, uJ, uR, up2]
          | 4, _, hn2 => first | rfl | simp [C, sN, sI, sJ, sR, sP, uI, uJ, uR, up2]
          | 5, _, hn2 => first | rfl | simp [C, sN, sI, sJ, sR, sP, uI, uJ, uR, up2]
          | 6, _, hn2 => first | rfl | simp [C, sN, sI, sJ, sR, sP, uI, uJ, uR, up2]
          | 7, _, hn2 => first | rfl | simp [C, sN, sI, sJ, sR, sP, uI, uJ, uR, up2]
          | 8, _, hn2 => first | rfl | simp [C, sN, sI, sJ, sR, sP, uI, uJ, uR, up2]
          | 9, _, hn2 => exact absurd rfl hn2
          | 10, _, hn2 => first | rfl | simp [C, sN, sI, sJ, sR, sP, uI, uJ, uR, up2]
          | 11, _, hn2 => first | rfl | simp [C, sN, sI, sJ, sR, sP, uI, uJ, uR, up2]
          | 12, _, hn2 => first | rfl | simp [C, sN, sI, sJ, sR, sP, uI, uJ, uR, up2]
          | 13, _, hn2 => first | rfl | simp [C, sN, sI, sJ, sR, sP, uI, uJ, uR, up2]
          | 14, _, hn2 => first | rfl | simp [C, sN, sI, sJ, sR, sP, uI, uJ, uR, up2]
          | 15, _, hn2 => first | rfl | simp [C, sN, sI, sJ, sR, sP, uI, uJ, uR, up2]
          | 16, _, hn2 => first | rfl | simp [C, sN, sI, sJ, sR, sP, uI, uJ, uR, up2]
          | 17, _, hn2 => first | rfl | simp [C, sN, sI, sJ, sR, sP, uI, uJ, uR, up2]
          | 18, _, hn2 => first | rfl | simp [C, sN, sI, sJ, sR, sP, uI, uJ, uR, up2]
          | 19, _, hn2 => first | rfl | simp [C, sN, sI, sJ, sR, sP, uI, uJ, uR, up2]
          | 20, _, hn2 => first | rfl | simp [C, sN, sI, sJ, sR, sP, uI, uJ, uR, up2]
          | 21, _, hn2 => first | rfl | simp [C, sN, sI, sJ, sR, sP, uI, uJ, uR, up2]
          | 22, _, hn2 => first | rfl | simp [C, sN, sI, sJ, sR, sP, uI, uJ, uR, up2]
          | n + 23, hn1, _ => exact absurd hn1 (by omega)
        exact hc k2 hk hk2
    · exact False.elim (by
        obtain ⟨n, rfl⟩ : ∃ n, k2 = n + 23 := ⟨k2 - 23, by omega⟩
        exact hv)
  · simp [C, sN, sI, sJ, sR, sP, uI, uJ, uR, up2]
theorem put_low_9 (hx : p.tables.exec = Jvm.exec) (hb : c.code = cc) (hts : ∀ w ∈ Ts, w.before args s = true) (hin : ∀ w ∈ u_ws RX5 TX5 2, w ∈ Ts) (hown : s.vm.findClass own = some m.cls) (hK : va_K D vwCl (gT tA) s) (hP : va_P D vwCl (va_pl L f) H) (hD : va_D A (va_pl L f)) (hS : va_S A H0 H locs) (hR : Rep tA S ad L f) (hi : V S 9 i) (hlink : (Cond.fieldLink own index (TX5 0).1 (TX5 0).2.1 (TX5 0).2.2.1).before args s = true) {v : Int64} (hdg : decode cc pc = .ok (.putfield index, 3))
    (kk : ∀ (H1 : Heap) (locs1 : List Loc) (f2 : Nat → va_E), va_P D vwCl (va_pl L f2) H1 → va_D A (va_pl L f2) → va_S A H0 H1 locs1 → Rep tA (uJ S 18 i v) ad L f2 → W p l e R s m args below meth c H1 locs1 cells slots Q (F0 m (pc + 3) ls rest)) : W p l e R s m args below meth c H locs cells slots Q (F0 m pc ls (.long v :: .ref (ad 9 i) :: rest)) := by
  obtain ⟨q, hq⟩ := cell_9 hR hi
  obtain ⟨f2, h2, hR2⟩ := rep_low_9 hR hD hi hq v
  exact va_put (D := D) (ci := 7) (v := .long v) (ty := .long) (C := RX5) (T := TX5) (N := 2) hx hb hts hin tyX5 tyX5_ok nmX5 hown hK hP hD hS q hq rfl 0 (by decide) hlink (fun _ h9 => h9) rfl (by decide +kernel) rfl rfl (Nat.le_of_ble_eq_true rfl) hdg (fun H1 locs1 h3 h4 h5 => by
    rw [h2] at h3 h4
    exact kk H1 locs1 f2 h3 h4 h5 hR2)
theorem rep_high_9 (h : Rep tA S ad L f) (hD : va_D A (va_pl L f)) {q : Nat} (hi : V S 9 i) (hq : (va_pl L f)[q]? = some (ad 9 i, C tA S ad 9 i)) (v : Int64) : ∃ f2 : Nat → va_E, (va_pl L f).set q (ad 9 i, .inr (7, ([.long (sJ S 18 i), .long (sJ S 19 i)] : List Value).set 1 (.long v))) = va_pl L f2 ∧ Rep tA (uJ S 19 i v) ad L f2 := by
  refine h.put hD (k := 9) hi hq (fun _ _ h => h) (fun k2 i2 hv hn => ?_) ?_
  · rcases Nat.lt_or_ge k2 23 with hk | hk
    · by_cases hk2 : k2 = 9
      · subst hk2
        have hi2 : i2 ≠ i := fun q => hn ⟨rfl, q⟩
        simp [C, sN, sI, sJ, sR, sP, uI, uJ, uR, up2, hi2]
      · have hc : ∀ n : Nat, n < 23 → n ≠ 9 → C tA (uJ S 19 i v) ad n i2 = C tA S ad n i2 := by
          intro n hn1 hn2
          match n, hn1, hn2 with
          | 0, _, hn2 => first | rfl | simp [C, sN, sI, sJ, sR, sP, uI, uJ, uR, up2]
          | 1, _, hn2 => first | rfl | simp [C, sN, sI, sJ, sR, sP, uI, uJ, uR, up2]
          | 2, _, hn2 => first | rfl | simp [C, sN, sI, sJ, sR, sP, uI, uJ, uR, up2]
          | 3, _, hn2 => first | rfl | simp [C, sN, sI, sJ, sR, sP, uI, uJ, uR, up2]
          | 4, _, hn2 => first | rfl | simp [C, sN, sI, sJ, sR, sP, uI, uJ, uR, up2]
          | 5, _, hn2 => first | rfl | simp [C, sN, sI, sJ, sR, sP, uI, uJ, uR, up2]
          | 6, _, hn2 => first | rfl | simp [C, sN, sI, sJ, sR, sP, uI, uJ, uR, up2]
          | 7, _, hn2 => first | rfl | simp [C, sN, sI, sJ, sR, sP, uI, uJ, uR, up2]
          | 8, _, hn2 => first | rfl | simp [C, sN, sI, sJ, sR, sP, uI, uJ, uR, up2]
          | 9, _, hn2 => exact absurd rfl hn2
          | 10, _, hn2 => first | rfl | simp [C, sN, sI, sJ, sR, sP, uI, uJ, uR, up2]
          | 11, _, hn2 => first | rfl | simp [C, sN, sI, sJ, sR, sP, uI, uJ, uR, up2]
          | 12, _, hn2 => first | rfl | simp [C, sN, sI, sJ, sR, sP, uI, uJ, uR, up2]
          | 13, _, hn2 => first | rfl | simp [C, sN, sI, sJ, sR, sP, uI, uJ, uR, up2]
          | 14, _, hn2 => first | rfl | simp [C, sN, sI, sJ, sR, sP, uI, uJ, uR, up2]
          | 15, _, hn2 => first | rfl | simp [C, sN, sI, sJ, sR, sP, uI, uJ, uR, up2]
          | 16, _, hn2 => first | rfl | simp [C, sN, sI, sJ, sR, sP, uI, uJ, uR, up2]
          | 17, _, hn2 => first | rfl | simp [C, sN, sI, sJ, sR, sP, uI, uJ, uR, up2]
          | 18, _, hn2 => first | rfl | simp [C, sN, sI, sJ, sR, sP, uI, uJ, uR, up2]
          | 19, _, hn2 => first | rfl | simp [C, sN, sI, sJ, sR, sP, uI, uJ, uR, up2]
          | 20, _, hn2 => first | rfl | simp [C, sN, sI, sJ, sR, sP, uI, uJ, uR, up2]
          | 21, _, hn2 => first | rfl | simp [C, sN, sI, sJ, sR, sP, uI, uJ, uR, up2]
          | 22, _, hn2 => first | rfl | simp [C, sN, sI, sJ, sR, sP, uI, uJ, uR, up2]
          | n + 23, hn1, _ => exact absurd hn1 (by omega)
        exact hc k2 hk hk2
    · exact False.elim (by
        obtain ⟨n, rfl⟩ : ∃ n, k2 = n + 23 := ⟨k2 - 23, by omega⟩
        exact hv)
  · simp [C, sN, sI, sJ, sR, sP, uI, uJ, uR, up2]
theorem put_high_9 (hx : p.tables.exec = Jvm.exec) (hb : c.code = cc) (hts : ∀ w ∈ Ts, w.before args s = true) (hin : ∀ w ∈ u_ws RX5 TX5 2, w ∈ Ts) (hown : s.vm.findClass own = some m.cls) (hK : va_K D vwCl (gT tA) s) (hP : va_P D vwCl (va_pl L f) H) (hD : va_D A (va_pl L f)) (hS : va_S A H0 H locs) (hR : Rep tA S ad L f) (hi : V S 9 i) (hlink : (Cond.fieldLink own index (TX5 1).1 (TX5 1).2.1 (TX5 1).2.2.1).before args s = true) {v : Int64} (hdg : decode cc pc = .ok (.putfield index, 3))
    (kk : ∀ (H1 : Heap) (locs1 : List Loc) (f2 : Nat → va_E), va_P D vwCl (va_pl L f2) H1 → va_D A (va_pl L f2) → va_S A H0 H1 locs1 → Rep tA (uJ S 19 i v) ad L f2 → W p l e R s m args below meth c H1 locs1 cells slots Q (F0 m (pc + 3) ls rest)) : W p l e R s m args below meth c H locs cells slots Q (F0 m pc ls (.long v :: .ref (ad 9 i) :: rest)) := by
  obtain ⟨q, hq⟩ := cell_9 hR hi
  obtain ⟨f2, h2, hR2⟩ := rep_high_9 hR hD hi hq v
  exact va_put (D := D) (ci := 7) (v := .long v) (ty := .long) (C := RX5) (T := TX5) (N := 2) hx hb hts hin tyX5 tyX5_ok nmX5 hown hK hP hD hS q hq rfl 1 (by decide) hlink (fun _ h9 => h9) rfl (by decide +kernel) rfl rfl (Nat.le_of_ble_eq_true rfl) hdg (fun H1 locs1 h3 h4 h5 => by
    rw [h2] at h3 h4
    exact kk H1 locs1 f2 h3 h4 h5 hR2)
theorem rep_low_10 (h : Rep tA S ad L f) (hD : va_D A (va_pl L f)) {q : Nat} (hi : V S 10 i) (hq : (va_pl L f)[q]? = some (ad 10 i, C tA S ad 10 i)) (v : Int64) : ∃ f2 : Nat → va_E, (va_pl L f).set q (ad 10 i, .inr (7, ([.long (sJ S 20 i), .long (sJ S 21 i)] : List Value).set 0 (.long v))) = va_pl L f2 ∧ Rep tA (uJ S 20 i v) ad L f2 := by
  refine h.put hD (k := 10) hi hq (fun _ _ h => h) (fun k2 i2 hv hn => ?_) ?_
  · rcases Nat.lt_or_ge k2 23 with hk | hk
    · by_cases hk2 : k2 = 10
      · subst hk2
        have hi2 : i2 ≠ i := fun q => hn ⟨rfl, q⟩
        simp [C, sN, sI, sJ, sR, sP, uI, uJ, uR, up2, hi2]
      · have hc : ∀ n : Nat, n < 23 → n ≠ 10 → C tA (uJ S 20 i v) ad n i2 = C tA S ad n i2 := by
          intro n hn1 hn2
          match n, hn1, hn2 with
          | 0, _, hn2 => first | rfl | simp [C, sN, sI, sJ, sR, sP, uI, uJ, uR, up2]
          | 1, _, hn2 => first | rfl | simp [C, sN, sI, sJ, sR, sP, uI, uJ, uR, up2]
          | 2, _, hn2 => first | rfl | simp [C, sN, sI, sJ, sR, sP, uI, uJ, uR, up2]
          | 3, _, hn2 => first | rfl | simp [C, sN, sI, sJ, sR, sP, uI, uJ, uR, up2]
          | 4, _, hn2 => first | rfl | simp [C, sN, sI, sJ, sR, sP, uI, uJ, uR, up2]
          | 5, _, hn2 => first | rfl | simp [C, sN, sI, sJ, sR, sP, uI, uJ, uR, up2]
          | 6, _, hn2 => first | rfl | simp [C, sN, sI, sJ, sR, sP, uI, uJ, uR, up2]
          | 7, _, hn2 => first | rfl | simp [C, sN, sI, sJ, sR, sP, uI, uJ, uR, up2]
          | 8, _, hn2 => first | rfl | simp [C, sN, sI, sJ, sR, sP, uI, uJ, uR, up2]
          | 9, _, hn2 => first | rfl | simp [C, sN, sI, sJ, sR, sP, uI, uJ, uR, up2]
          | 10, _, hn2 => exact absurd rfl hn2
          | 11, _, hn2 => first | rfl | simp [C, sN, sI, sJ, sR, sP, uI, uJ, uR, up2]
          | 12, _, hn2 => first | rfl | simp [C, sN, sI, sJ, sR, sP, uI, uJ, uR, up2]
          | 13, _, hn2 => first | rfl | simp [C, sN, sI, sJ, sR, sP, uI, uJ, uR, up2]
          | 14, _, hn2 => first | rfl | simp [C, sN, sI, sJ, sR, sP, uI, uJ, uR, up2]
          | 15, _, hn2 => first | rfl | simp [C, sN, sI, sJ, sR, sP, uI, uJ, uR, up2]
          | 16, _, hn2 => first | rfl | simp [C, sN, sI, sJ, sR, sP, uI, uJ, uR, up2]
          | 17, _, hn2 => first | rfl | simp [C, sN, sI, sJ, sR, sP, uI, uJ, uR, up2]
          | 18, _, hn2 => first | rfl | simp [C, sN, sI, sJ, sR, sP, uI, uJ, uR, up2]
          | 19, _, hn2 => first | rfl | simp [C, sN, sI, sJ, sR, sP, uI, uJ, uR, up2]
          | 20, _, hn2 => first | rfl | simp [C, sN, sI, sJ, sR, sP, uI, uJ, uR, up2]
          | 21, _, hn2 => first | rfl | simp [C, sN, sI, sJ, sR, sP, uI, uJ, uR, up2]
          | 22, _, hn2 => first | rfl | simp [C, sN, sI, sJ, sR, sP, uI, uJ, uR, up2]
          | n + 23, hn1, _ => exact absurd hn1 (by omega)
        exact hc k2 hk hk2
    · exact False.elim (by
        obtain ⟨n, rfl⟩ : ∃ n, k2 = n + 23 := ⟨k2 - 23, by omega⟩
        exact hv)
  · simp [C, sN, sI, sJ, sR, sP, uI, uJ, uR, up2]
theorem put_low_10 (hx : p.tables.exec = Jvm.exec) (hb : c.code = cc) (hts : ∀ w ∈ Ts, w.before args s = true) (hin : ∀ w ∈ u_ws RX5 TX5 2, w ∈ Ts) (hown : s.vm.findClass own = some m.cls) (hK : va_K D vwCl (gT tA) s) (hP : va_P D vwCl (va_pl L f) H) (hD : va_D A (va_pl L f)) (hS : va_S A H0 H locs) (hR : Rep tA S ad L f) (hi : V S 10 i) (hlink : (Cond.fieldLink own index (TX5 0).1 (TX5 0).2.1 (TX5 0).2.2.1).before args s = true) {v : Int64} (hdg : decode cc pc = .ok (.putfield index, 3))
    (kk : ∀ (H1 : Heap) (locs1 : List Loc) (f2 : Nat → va_E), va_P D vwCl (va_pl L f2) H1 → va_D A (va_pl L f2) → va_S A H0 H1 locs1 → Rep tA (uJ S 20 i v) ad L f2 → W p l e R s m args below meth c H1 locs1 cells slots Q (F0 m (pc + 3) ls rest)) : W p l e R s m args below meth c H locs cells slots Q (F0 m pc ls (.long v :: .ref (ad 10 i) :: rest)) := by
  obtain ⟨q, hq⟩ := cell_10 hR hi
  obtain ⟨f2, h2, hR2⟩ := rep_low_10 hR hD hi hq v
  exact va_put (D := D) (ci := 7) (v := .long v) (ty := .long) (C := RX5) (T := TX5) (N := 2) hx hb hts hin tyX5 tyX5_ok nmX5 hown hK hP hD hS q hq rfl 0 (by decide) hlink (fun _ h9 => h9) rfl (by decide +kernel) rfl rfl (Nat.le_of_ble_eq_true rfl) hdg (fun H1 locs1 h3 h4 h5 => by
    rw [h2] at h3 h4
    exact kk H1 locs1 f2 h3 h4 h5 hR2)
theorem rep_high_10 (h : Rep tA S ad L f) (hD : va_D A (va_pl L f)) {q : Nat} (hi : V S 10 i) (hq : (va_pl L f)[q]? = some (ad 10 i, C tA S ad 10 i)) (v : Int64) : ∃ f2 : Nat → va_E, (va_pl L f).set q (ad 10 i, .inr (7, ([.long (sJ S 20 i), .long (sJ S 21 i)] : List Value).set 1 (.long v))) = va_pl L f2 ∧ Rep tA (uJ S 21 i v) ad L f2 := by
  refine h.put hD (k := 10) hi hq (fun _ _ h => h) (fun k2 i2 hv hn => ?_) ?_
  · rcases Nat.lt_or_ge k2 23 with hk | hk
    · by_cases hk2 : k2 = 10
      · subst hk2
        have hi2 : i2 ≠ i := fun q => hn ⟨rfl, q⟩
        simp [C, sN, sI, sJ, sR, sP, uI, uJ, uR, up2, hi2]
      · have hc : ∀ n : Nat, n < 23 → n ≠ 10 → C tA (uJ S 21 i v) ad n i2 = C tA S ad n i2 := by
          intro n hn1 hn2
          match n, hn1, hn2 with
          | 0, _, hn2 => first | rfl | simp [C, sN, sI, sJ, sR, sP, uI, uJ, uR, up2]
          | 1, _, hn2 => first | rfl | simp [C, sN, sI, sJ, sR, sP, uI, uJ, uR, up2]
          | 2, _, hn2 => first | rfl | simp [C, sN, sI, sJ, sR, sP, uI, uJ, uR, up2]
          | 3, _, hn2 => first | rfl | simp [C, sN, sI, sJ, sR, sP, uI, uJ, uR, up2]
          | 4, _, hn2 => first | rfl | simp [C, sN, sI, sJ, sR, sP, uI, uJ, uR, up2]
          | 5, _, hn2 => first | rfl | simp [C, sN, sI, sJ, sR, sP, uI, uJ, uR, up2]
          | 6, _, hn2 => first | rfl | simp [C, sN, sI, sJ, sR, sP, uI, uJ, uR, up2]
          | 7, _, hn2 => first | rfl | simp [C, sN, sI, sJ, sR, sP, uI, uJ, uR, up2]
          | 8, _, hn2 => first | rfl | simp [C, sN, sI, sJ, sR, sP, uI, uJ, uR, up2]
          | 9, _, hn2 => first | rfl | simp [C, sN, sI, sJ, sR, sP, uI, uJ, uR, up2]
          | 10, _, hn2 => exact absurd rfl hn2
          | 11, _, hn2 => first | rfl | simp [C, sN, sI, sJ, sR, sP, uI, uJ, uR, up2]
          | 12, _, hn2 => first | rfl | simp [C, sN, sI, sJ, sR, sP, uI, uJ, uR, up2]
          | 13, _, hn2 => first | rfl | simp [C, sN, sI, sJ, sR, sP, uI, uJ, uR, up2]
          | 14, _, hn2 => first | rfl | simp [C, sN, sI, sJ, sR, sP, uI, uJ, uR, up2]
          | 15, _, hn2 => first | rfl | simp [C, sN, sI, sJ, sR, sP, uI, uJ, uR, up2]
          | 16, _, hn2 => first | rfl | simp [C, sN, sI, sJ, sR, sP, uI, uJ, uR, up2]
          | 17, _, hn2 => first | rfl | simp [C, sN, sI, sJ, sR, sP, uI, uJ, uR, up2]
          | 18, _, hn2 => first | rfl | simp [C, sN, sI, sJ, sR, sP, uI, uJ, uR, up2]
          | 19, _, hn2 => first | rfl | simp [C, sN, sI, sJ, sR, sP, uI, uJ, uR, up2]
          | 20, _, hn2 => first | rfl | simp [C, sN, sI, sJ, sR, sP, uI, uJ, uR, up2]
          | 21, _, hn2 => first | rfl | simp [C, sN, sI, sJ, sR, sP, uI, uJ, uR, up2]
          | 22, _, hn2 => first | rfl | simp [C, sN, sI, sJ, sR, sP, uI, uJ, uR, up2]
          | n + 23, hn1, _ => exact absurd hn1 (by omega)
        exact hc k2 hk hk2
    · exact False.elim (by
        obtain ⟨n, rfl⟩ : ∃ n, k2 = n + 23 := ⟨k2 - 23, by omega⟩
        exact hv)
  · simp [C, sN, sI, sJ, sR, sP, uI, uJ, uR, up2]
theorem put_high_10 (hx : p.tables.exec = Jvm.exec) (hb : c.code = cc) (hts : ∀ w ∈ Ts, w.before args s = true) (hin : ∀ w ∈ u_ws RX5 TX5 2, w ∈ Ts) (hown : s.vm.findClass own = some m.cls) (hK : va_K D vwCl (gT tA) s) (hP : va_P D vwCl (va_pl L f) H) (hD : va_D A (va_pl L f)) (hS : va_S A H0 H locs) (hR : Rep tA S ad L f) (hi : V S 10 i) (hlink : (Cond.fieldLink own index (TX5 1).1 (TX5 1).2.1 (TX5 1).2.2.1).before args s = true) {v : Int64} (hdg : decode cc pc = .ok (.putfield index, 3))
    (kk : ∀ (H1 : Heap) (locs1 : List Loc) (f2 : Nat → va_E), va_P D vwCl (va_pl L f2) H1 → va_D A (va_pl L f2) → va_S A H0 H1 locs1 → Rep tA (uJ S 21 i v) ad L f2 → W p l e R s m args below meth c H1 locs1 cells slots Q (F0 m (pc + 3) ls rest)) : W p l e R s m args below meth c H locs cells slots Q (F0 m pc ls (.long v :: .ref (ad 10 i) :: rest)) := by
  obtain ⟨q, hq⟩ := cell_10 hR hi
  obtain ⟨f2, h2, hR2⟩ := rep_high_10 hR hD hi hq v
  exact va_put (D := D) (ci := 7) (v := .long v) (ty := .long) (C := RX5) (T := TX5) (N := 2) hx hb hts hin tyX5 tyX5_ok nmX5 hown hK hP hD hS q hq rfl 1 (by decide) hlink (fun _ h9 => h9) rfl (by decide +kernel) rfl rfl (Nat.le_of_ble_eq_true rfl) hdg (fun H1 locs1 h3 h4 h5 => by
    rw [h2] at h3 h4
    exact kk H1 locs1 f2 h3 h4 h5 hR2)
theorem rep_state_11 (h : Rep tA S ad L f) (hD : va_D A (va_pl L f)) {q : Nat} (hi : V S 11 i) (hq : (va_pl L f)[q]? = some (ad 11 i, C tA S ad 11 i)) (v : Int32) : ∃ f2 : Nat → va_E, (va_pl L f).set q (ad 11 i, .inr (9, ([.int (nI i), .ref (ad 2 (sN S 7 i)), .int (sI S 50 i), .int (sI S 51 i), .int (sI S 52 i), .ref (ad 12 i), .ref (ad 13 i), .ref (ad 22 i), .int (sI S 53 i), .int (sI S 54 i), .int (sI S 55 i), .long (sJ S 4 i)] : List Value).set 8 (.int v))) = va_pl L f2 ∧ Rep tA (uI S 53 i v) ad L f2 := by
  refine h.put hD (k := 11) hi hq (fun _ _ h => h) (fun k2 i2 hv hn => ?_) ?_
  · rcases Nat.lt_or_ge k2 23 with hk | hk
    · by_cases hk2 : k2 = 11
      · subst hk2
        have hi2 : i2 ≠ i := fun q => hn ⟨rfl, q⟩
        simp [C, sN, sI, sJ, sR, sP, uI, uJ, uR, up2, hi2]
      · have hc : ∀ n : Nat, n < 23 → n ≠ 11 → C tA (uI S 53 i v) ad n i2 = C tA S ad n i2 := by
          intro n hn1 hn2
          match n, hn1, hn2 with
          | 0, _, hn2 => first | rfl | simp [C, sN, sI, sJ, sR, sP, uI, uJ, uR, up2]
          | 1, _, hn2 => first | rfl | simp [C, sN, sI, sJ, sR, sP, uI, uJ, uR, up2]
          | 2, _, hn2 => first | rfl | simp [C, sN, sI, sJ, sR, sP, uI, uJ, uR, up2]
          | 3, _, hn2 => first | rfl | simp [C, sN, sI, sJ, sR, sP, uI, uJ, uR, up2]
          | 4, _, hn2 => first | rfl | simp [C, sN, sI, sJ, sR, sP, uI, uJ, uR, up2]
          | 5, _, hn2 => first | rfl | simp [C, sN, sI, sJ, sR, sP, uI, uJ, uR, up2]
          | 6, _, hn2 => first | rfl | simp [C, sN, sI, sJ, sR, sP, uI, uJ, uR, up2]
          | 7, _, hn2 => first | rfl | simp [C, sN, sI, sJ, sR, sP, uI, uJ, uR, up2]
          | 8, _, hn2 => first | rfl | simp [C, sN, sI, sJ, sR, sP, uI, uJ, uR, up2]
          | 9, _, hn2 => first | rfl | simp [C, sN, sI, sJ, sR, sP, uI, uJ, uR, up2]
          | 10, _, hn2 => first | rfl | simp [C, sN, sI, sJ, sR, sP, uI, uJ, uR, up2]
          | 11, _, hn2 => exact absurd rfl hn2
          | 12, _, hn2 => first | rfl | simp [C, sN, sI, sJ, sR, sP, uI, uJ, uR, up2]
          | 13, _, hn2 => first | rfl | simp [C, sN, sI, sJ, sR, sP, uI, uJ, uR, up2]
          | 14, _, hn2 => first | rfl | simp [C, sN, sI, sJ, sR, sP, uI, uJ, uR, up2]
          | 15, _, hn2 => first | rfl | simp [C, sN, sI, sJ, sR, sP, uI, uJ, uR, up2]
          | 16, _, hn2 => first | rfl | simp [C, sN, sI, sJ, sR, sP, uI, uJ, uR, up2]
          | 17, _, hn2 => first | rfl | simp [C, sN, sI, sJ, sR, sP, uI, uJ, uR, up2]
          | 18, _, hn2 => first | rfl | simp [C, sN, sI, sJ, sR, sP, uI, uJ, uR, up2]
          | 19, _, hn2 => first | rfl | simp [C, sN, sI, sJ, sR, sP, uI, uJ, uR, up2]
          | 20, _, hn2 => first | rfl | simp [C, sN, sI, sJ, sR, sP, uI, uJ, uR, up2]
          | 21, _, hn2 => first | rfl | simp [C, sN, sI, sJ, sR, sP, uI, uJ, uR, up2]
          | 22, _, hn2 => first | rfl | simp [C, sN, sI, sJ, sR, sP, uI, uJ, uR, up2]
          | n + 23, hn1, _ => exact absurd hn1 (by omega)
        exact hc k2 hk hk2
    · exact False.elim (by
        obtain ⟨n, rfl⟩ : ∃ n, k2 = n + 23 := ⟨k2 - 23, by omega⟩
        exact hv)
  · simp [C, sN, sI, sJ, sR, sP, uI, uJ, uR, up2]
theorem put_state_11 (hx : p.tables.exec = Jvm.exec) (hb : c.code = cc) (hts : ∀ w ∈ Ts, w.before args s = true) (hin : ∀ w ∈ u_ws RX7 TX7 12, w ∈ Ts) (hown : s.vm.findClass own = some m.cls) (hK : va_K D vwCl (gT tA) s) (hP : va_P D vwCl (va_pl L f) H) (hD : va_D A (va_pl L f)) (hS : va_S A H0 H locs) (hR : Rep tA S ad L f) (hi : V S 11 i) (hlink : (Cond.fieldLink own index (TX7 8).1 (TX7 8).2.1 (TX7 8).2.2.1).before args s = true) {v : Int32} (hnar : narrow .char (.int v) = .int v) (hfit : fits .char (.int v) = true) (hdg : decode cc pc = .ok (.putfield index, 3))
    (kk : ∀ (H1 : Heap) (locs1 : List Loc) (f2 : Nat → va_E), va_P D vwCl (va_pl L f2) H1 → va_D A (va_pl L f2) → va_S A H0 H1 locs1 → Rep tA (uI S 53 i v) ad L f2 → W p l e R s m args below meth c H1 locs1 cells slots Q (F0 m (pc + 3) ls rest)) : W p l e R s m args below meth c H locs cells slots Q (F0 m pc ls (.int v :: .ref (ad 11 i) :: rest)) := by
  obtain ⟨q, hq⟩ := cell_11 hR hi
  obtain ⟨f2, h2, hR2⟩ := rep_state_11 hR hD hi hq v
  exact va_put (D := D) (ci := 9) (v := .int v) (ty := .char) (C := RX7) (T := TX7) (N := 12) hx hb hts hin tyX7 tyX7_ok nmX7 hown hK hP hD hS q hq rfl 8 (by decide) hlink (fun _ h9 => h9) rfl (by decide +kernel) hnar hfit (Nat.le_of_ble_eq_true rfl) hdg (fun H1 locs1 h3 h4 h5 => by
    rw [h2] at h3 h4
    exact kk H1 locs1 f2 h3 h4 h5 hR2)
theorem rep_deliveredAt_11 (h : Rep tA S ad L f) (hD : va_D A (va_pl L f)) {q : Nat} (hi : V S 11 i) (hq : (va_pl L f)[q]? = some (ad 11 i, C tA S ad 11 i)) (v : Int32) : ∃ f2 : Nat → va_E, (va_pl L f).set q (ad 11 i, .inr (9, ([.int (nI i), .ref (ad 2 (sN S 7 i)), .int (sI S 50 i), .int (sI S 51 i), .int (sI S 52 i), .ref (ad 12 i), .ref (ad 13 i), .ref (ad 22 i), .int (sI S 53 i), .int (sI S 54 i), .int (sI S 55 i), .long (sJ S 4 i)] : List Value).set 9 (.int v))) = va_pl L f2 ∧ Rep tA (uI S 54 i v) ad L f2 := by
  refine h.put hD (k := 11) hi hq (fun _ _ h => h) (fun k2 i2 hv hn => ?_) ?_
  · rcases Nat.lt_or_ge k2 23 with hk | hk
    · by_cases hk2 : k2 = 11
      · subst hk2
        have hi2 : i2 ≠ i := fun q => hn ⟨rfl, q⟩
        simp [C, sN, sI, sJ, sR, sP, uI, uJ, uR, up2, hi2]
      · have hc : ∀ n : Nat, n < 23 → n ≠ 11 → C tA (uI S 54 i v) ad n i2 = C tA S ad n i2 := by
          intro n hn1 hn2
          match n, hn1, hn2 with
          | 0, _, hn2 => first | rfl | simp [C, sN, sI, sJ, sR, sP, uI, uJ, uR, up2]
          | 1, _, hn2 => first | rfl | simp [C, sN, sI, sJ, sR, sP, uI, uJ, uR, up2]
          | 2, _, hn2 => first | rfl | simp [C, sN, sI, sJ, sR, sP, uI, uJ, uR, up2]
          | 3, _, hn2 => first | rfl | simp [C, sN, sI, sJ, sR, sP, uI, uJ, uR, up2]
          | 4, _, hn2 => first | rfl | simp [C, sN, sI, sJ, sR, sP, uI, uJ, uR, up2]
          | 5, _, hn2 => first | rfl | simp [C, sN, sI, sJ, sR, sP, uI, uJ, uR, up2]
          | 6, _, hn2 => first | rfl | simp [C, sN, sI, sJ, sR, sP, uI, uJ, uR, up2]
          | 7, _, hn2 => first | rfl | simp [C, sN, sI, sJ, sR, sP, uI, uJ, uR, up2]
          | 8, _, hn2 => first | rfl | simp [C, sN, sI, sJ, sR, sP, uI, uJ, uR, up2]
          | 9, _, hn2 => first | rfl | simp [C, sN, sI, sJ, sR, sP, uI, uJ, uR, up2]
          | 10, _, hn2 => first | rfl | simp [C, sN, sI, sJ, sR, sP, uI, uJ, uR, up2]
          | 11, _, hn2 => exact absurd rfl hn2
          | 12, _, hn2 => first | rfl | simp [C, sN, sI, sJ, sR, sP, uI, uJ, uR, up2]
          | 13, _, hn2 => first | rfl | simp [C, sN, sI, sJ, sR, sP, uI, uJ, uR, up2]
          | 14, _, hn2 => first | rfl | simp [C, sN, sI, sJ, sR, sP, uI, uJ, uR, up2]
          | 15, _, hn2 => first | rfl | simp [C, sN, sI, sJ, sR, sP, uI, uJ, uR, up2]
          | 16, _, hn2 => first | rfl | simp [C, sN, sI, sJ, sR, sP, uI, uJ, uR, up2]
          | 17, _, hn2 => first | rfl | simp [C, sN, sI, sJ, sR, sP, uI, uJ, uR, up2]
          | 18, _, hn2 => first | rfl | simp [C, sN, sI, sJ, sR, sP, uI, uJ, uR, up2]
          | 19, _, hn2 => first | rfl | simp [C, sN, sI, sJ, sR, sP, uI, uJ, uR, up2]
          | 20, _, hn2 => first | rfl | simp [C, sN, sI, sJ, sR, sP, uI, uJ, uR, up2]
          | 21, _, hn2 => first | rfl | simp [C, sN, sI, sJ, sR, sP, uI, uJ, uR, up2]
          | 22, _, hn2 => first | rfl | simp [C, sN, sI, sJ, sR, sP, uI, uJ, uR, up2]
          | n + 23, hn1, _ => exact absurd hn1 (by omega)
        exact hc k2 hk hk2
    · exact False.elim (by
        obtain ⟨n, rfl⟩ : ∃ n, k2 = n + 23 := ⟨k2 - 23, by omega⟩
        exact hv)
  · simp [C, sN, sI, sJ, sR, sP, uI, uJ, uR, up2]
theorem put_deliveredAt_11 (hx : p.tables.exec = Jvm.exec) (hb : c.code = cc) (hts : ∀ w ∈ Ts, w.before args s = true) (hin : ∀ w ∈ u_ws RX7 TX7 12, w ∈ Ts) (hown : s.vm.findClass own = some m.cls) (hK : va_K D vwCl (gT tA) s) (hP : va_P D vwCl (va_pl L f) H) (hD : va_D A (va_pl L f)) (hS : va_S A H0 H locs) (hR : Rep tA S ad L f) (hi : V S 11 i) (hlink : (Cond.fieldLink own index (TX7 9).1 (TX7 9).2.1 (TX7 9).2.2.1).before args s = true) {v : Int32} (hdg : decode cc pc = .ok (.putfield index, 3))
    (kk : ∀ (H1 : Heap) (locs1 : List Loc) (f2 : Nat → va_E), va_P D vwCl (va_pl L f2) H1 → va_D A (va_pl L f2) → va_S A H0 H1 locs1 → Rep tA (uI S 54 i v) ad L f2 → W p l e R s m args below meth c H1 locs1 cells slots Q (F0 m (pc + 3) ls rest)) : W p l e R s m args below meth c H locs cells slots Q (F0 m pc ls (.int v :: .ref (ad 11 i) :: rest)) := by
  obtain ⟨q, hq⟩ := cell_11 hR hi
  obtain ⟨f2, h2, hR2⟩ := rep_deliveredAt_11 hR hD hi hq v
  exact va_put (D := D) (ci := 9) (v := .int v) (ty := .int) (C := RX7) (T := TX7) (N := 12) hx hb hts hin tyX7 tyX7_ok nmX7 hown hK hP hD hS q hq rfl 9 (by decide) hlink (fun _ h9 => h9) rfl (by decide +kernel) rfl rfl (Nat.le_of_ble_eq_true rfl) hdg (fun H1 locs1 h3 h4 h5 => by
    rw [h2] at h3 h4
    exact kk H1 locs1 f2 h3 h4 h5 hR2)
theorem rep_delivered_11 (h : Rep tA S ad L f) (hD : va_D A (va_pl L f)) {q : Nat} (hi : V S 11 i) (hq : (va_pl L f)[q]? = some (ad 11 i, C tA S ad 11 i)) (v : Int32) : ∃ f2 : Nat → va_E, (va_pl L f).set q (ad 11 i, .inr (9, ([.int (nI i), .ref (ad 2 (sN S 7 i)), .int (sI S 50 i), .int (sI S 51 i), .int (sI S 52 i), .ref (ad 12 i), .ref (ad 13 i), .ref (ad 22 i), .int (sI S 53 i), .int (sI S 54 i), .int (sI S 55 i), .long (sJ S 4 i)] : List Value).set 10 (.int v))) = va_pl L f2 ∧ Rep tA (uI S 55 i v) ad L f2 := by
  refine h.put hD (k := 11) hi hq (fun _ _ h => h) (fun k2 i2 hv hn => ?_) ?_
  · rcases Nat.lt_or_ge k2 23 with hk | hk
    · by_cases hk2 : k2 = 11
      · subst hk2
        have hi2 : i2 ≠ i := fun q => hn ⟨rfl, q⟩
        simp [C, sN, sI, sJ, sR, sP, uI, uJ, uR, up2, hi2]
      · have hc : ∀ n : Nat, n < 23 → n ≠ 11 → C tA (uI S 55 i v) ad n i2 = C tA S ad n i2 := by
          intro n hn1 hn2
          match n, hn1, hn2 with
          | 0, _, hn2 => first | rfl | simp [C, sN, sI, sJ, sR, sP, uI, uJ, uR, up2]
          | 1, _, hn2 => first | rfl | simp [C, sN, sI, sJ, sR, sP, uI, uJ, uR, up2]
          | 2, _, hn2 => first | rfl | simp [C, sN, sI, sJ, sR, sP, uI, uJ, uR, up2]
          | 3, _, hn2 => first | rfl | simp [C, sN, sI, sJ, sR, sP, uI, uJ, uR, up2]
          | 4, _, hn2 => first | rfl | simp [C, sN, sI, sJ, sR, sP, uI, uJ, uR, up2]
          | 5, _, hn2 => first | rfl | simp [C, sN, sI, sJ, sR, sP, uI, uJ, uR, up2]
          | 6, _, hn2 => first | rfl | simp [C, sN, sI, sJ, sR, sP, uI, uJ, uR, up2]
          | 7, _, hn2 => first | rfl | simp [C, sN, sI, sJ, sR, sP, uI, uJ, uR, up2]
          | 8, _, hn2 => first | rfl | simp [C, sN, sI, sJ, sR, sP, uI, uJ, uR, up2]
          | 9, _, hn2 => first | rfl | simp [C, sN, sI, sJ, sR, sP, uI, uJ, uR, up2]
          | 10, _, hn2 => first | rfl | simp [C, sN, sI, sJ, sR, sP, uI, uJ, uR, up2]
          | 11, _, hn2 => exact absurd rfl hn2
          | 12, _, hn2 => first | rfl | simp [C, sN, sI, sJ, sR, sP, uI, uJ, uR, up2]
          | 13, _, hn2 => first | rfl | simp [C, sN, sI, sJ, sR, sP, uI, uJ, uR, up2]
          | 14, _, hn2 => first | rfl | simp [C, sN, sI, sJ, sR, sP, uI, uJ, uR, up2]
          | 15, _, hn2 => first | rfl | simp [C, sN, sI, sJ, sR, sP, uI, uJ, uR, up2]
          | 16, _, hn2 => first | rfl | simp [C, sN, sI, sJ, sR, sP, uI, uJ, uR, up2]
          | 17, _, hn2 => first | rfl | simp [C, sN, sI, sJ, sR, sP, uI, uJ, uR, up2]
          | 18, _, hn2 => first | rfl | simp [C, sN, sI, sJ, sR, sP, uI, uJ, uR, up2]
          | 19, _, hn2 => first | rfl | simp [C, sN, sI, sJ, sR, sP, uI, uJ, uR, up2]
          | 20, _, hn2 => first | rfl | simp [C, sN, sI, sJ, sR, sP, uI, uJ, uR, up2]
          | 21, _, hn2 => first | rfl | simp [C, sN, sI, sJ, sR, sP, uI, uJ, uR, up2]
          | 22, _, hn2 => first | rfl | simp [C, sN, sI, sJ, sR, sP, uI, uJ, uR, up2]
          | n + 23, hn1, _ => exact absurd hn1 (by omega)
        exact hc k2 hk hk2
    · exact False.elim (by
        obtain ⟨n, rfl⟩ : ∃ n, k2 = n + 23 := ⟨k2 - 23, by omega⟩
        exact hv)
  · simp [C, sN, sI, sJ, sR, sP, uI, uJ, uR, up2]
theorem put_delivered_11 (hx : p.tables.exec = Jvm.exec) (hb : c.code = cc) (hts : ∀ w ∈ Ts, w.before args s = true) (hin : ∀ w ∈ u_ws RX7 TX7 12, w ∈ Ts) (hown : s.vm.findClass own = some m.cls) (hK : va_K D vwCl (gT tA) s) (hP : va_P D vwCl (va_pl L f) H) (hD : va_D A (va_pl L f)) (hS : va_S A H0 H locs) (hR : Rep tA S ad L f) (hi : V S 11 i) (hlink : (Cond.fieldLink own index (TX7 10).1 (TX7 10).2.1 (TX7 10).2.2.1).before args s = true) {v : Int32} (hdg : decode cc pc = .ok (.putfield index, 3))
    (kk : ∀ (H1 : Heap) (locs1 : List Loc) (f2 : Nat → va_E), va_P D vwCl (va_pl L f2) H1 → va_D A (va_pl L f2) → va_S A H0 H1 locs1 → Rep tA (uI S 55 i v) ad L f2 → W p l e R s m args below meth c H1 locs1 cells slots Q (F0 m (pc + 3) ls rest)) : W p l e R s m args below meth c H locs cells slots Q (F0 m pc ls (.int v :: .ref (ad 11 i) :: rest)) := by
  obtain ⟨q, hq⟩ := cell_11 hR hi
  obtain ⟨f2, h2, hR2⟩ := rep_delivered_11 hR hD hi hq v
  exact va_put (D := D) (ci := 9) (v := .int v) (ty := .int) (C := RX7) (T := TX7) (N := 12) hx hb hts hin tyX7 tyX7_ok nmX7 hown hK hP hD hS q hq rfl 10 (by decide) hlink (fun _ h9 => h9) rfl (by decide +kernel) rfl rfl (Nat.le_of_ble_eq_true rfl) hdg (fun H1 locs1 h3 h4 h5 => by
    rw [h2] at h3 h4
    exact kk H1 locs1 f2 h3 h4 h5 hR2)
theorem rep_deliveredCost_11 (h : Rep tA S ad L f) (hD : va_D A (va_pl L f)) {q : Nat} (hi : V S 11 i) (hq : (va_pl L f)[q]? = some (ad 11 i, C tA S ad 11 i)) (v : Int64) : ∃ f2 : Nat → va_E, (va_pl L f).set q (ad 11 i, .inr (9, ([.int (nI i), .ref (ad 2 (sN S 7 i)), .int (sI S 50 i), .int (sI S 51 i), .int (sI S 52 i), .ref (ad 12 i), .ref (ad 13 i), .ref (ad 22 i), .int (sI S 53 i), .int (sI S 54 i), .int (sI S 55 i), .long (sJ S 4 i)] : List Value).set 11 (.long v))) = va_pl L f2 ∧ Rep tA (uJ S 4 i v) ad L f2 := by
  refine h.put hD (k := 11) hi hq (fun _ _ h => h) (fun k2 i2 hv hn => ?_) ?_
  · rcases Nat.lt_or_ge k2 23 with hk | hk
    · by_cases hk2 : k2 = 11
      · subst hk2
        have hi2 : i2 ≠ i := fun q => hn ⟨rfl, q⟩
        simp [C, sN, sI, sJ, sR, sP, uI, uJ, uR, up2, hi2]
      · have hc : ∀ n : Nat, n < 23 → n ≠ 11 → C tA (uJ S 4 i v) ad n i2 = C tA S ad n i2 := by
          intro n hn1 hn2
          match n, hn1, hn2 with
          | 0, _, hn2 => first | rfl | simp [C, sN, sI, sJ, sR, sP, uI, uJ, uR, up2]
          | 1, _, hn2 => first | rfl | simp [C, sN, sI, sJ, sR, sP, uI, uJ, uR, up2]
          | 2, _, hn2 => first | rfl | simp [C, sN, sI, sJ, sR, sP, uI, uJ, uR, up2]
          | 3, _, hn2 => first | rfl | simp [C, sN, sI, sJ, sR, sP, uI, uJ, uR, up2]
          | 4, _, hn2 => first | rfl | simp [C, sN, sI, sJ, sR, sP, uI, uJ, uR, up2]
          | 5, _, hn2 => first | rfl | simp [C, sN, sI, sJ, sR, sP, uI, uJ, uR, up2]
          | 6, _, hn2 => first | rfl | simp [C, sN, sI, sJ, sR, sP, uI, uJ, uR, up2]
          | 7, _, hn2 => first | rfl | simp [C, sN, sI, sJ, sR, sP, uI, uJ, uR, up2]
          | 8, _, hn2 => first | rfl | simp [C, sN, sI, sJ, sR, sP, uI, uJ, uR, up2]
          | 9, _, hn2 => first | rfl | simp [C, sN, sI, sJ, sR, sP, uI, uJ, uR, up2]
          | 10, _, hn2 => first | rfl | simp [C, sN, sI, sJ, sR, sP, uI, uJ, uR, up2]
          | 11, _, hn2 => exact absurd rfl hn2
          | 12, _, hn2 => first | rfl | simp [C, sN, sI, sJ, sR, sP, uI, uJ, uR, up2]
          | 13, _, hn2 => first | rfl | simp [C, sN, sI, sJ, sR, sP, uI, uJ, uR, up2]
          | 14, _, hn2 => first | rfl | simp [C, sN, sI, sJ, sR, sP, uI, uJ, uR, up2]
          | 15, _, hn2 => first | rfl | simp [C, sN, sI, sJ, sR, sP, uI, uJ, uR, up2]
          | 16, _, hn2 => first | rfl | simp [C, sN, sI, sJ, sR, sP, uI, uJ, uR, up2]
          | 17, _, hn2 => first | rfl | simp [C, sN, sI, sJ, sR, sP, uI, uJ, uR, up2]
          | 18, _, hn2 => first | rfl | simp [C, sN, sI, sJ, sR, sP, uI, uJ, uR, up2]
          | 19, _, hn2 => first | rfl | simp [C, sN, sI, sJ, sR, sP, uI, uJ, uR, up2]
          | 20, _, hn2 => first | rfl | simp [C, sN, sI, sJ, sR, sP, uI, uJ, uR, up2]
          | 21, _, hn2 => first | rfl | simp [C, sN, sI, sJ, sR, sP, uI, uJ, uR, up2]
          | 22, _, hn2 => first | rfl | simp [C, sN, sI, sJ, sR, sP, uI, uJ, uR, up2]
          | n + 23, hn1, _ => exact absurd hn1 (by omega)
        exact hc k2 hk hk2
    · exact False.elim (by
        obtain ⟨n, rfl⟩ : ∃ n, k2 = n + 23 := ⟨k2 - 23, by omega⟩
        exact hv)
  · simp [C, sN, sI, sJ, sR, sP, uI, uJ, uR, up2]
theorem put_deliveredCost_11 (hx : p.tables.exec = Jvm.exec) (hb : c.code = cc) (hts : ∀ w ∈ Ts, w.before args s = true) (hin : ∀ w ∈ u_ws RX7 TX7 12, w ∈ Ts) (hown : s.vm.findClass own = some m.cls) (hK : va_K D vwCl (gT tA) s) (hP : va_P D vwCl (va_pl L f) H) (hD : va_D A (va_pl L f)) (hS : va_S A H0 H locs) (hR : Rep tA S ad L f) (hi : V S 11 i) (hlink : (Cond.fieldLink own index (TX7 11).1 (TX7 11).2.1 (TX7 11).2.2.1).before args s = true) {v : Int64} (hdg : decode cc pc = .ok (.putfield index, 3))
    (kk : ∀ (H1 : Heap) (locs1 : List Loc) (f2 : Nat → va_E), va_P D vwCl (va_pl L f2) H1 → va_D A (va_pl L f2) → va_S A H0 H1 locs1 → Rep tA (uJ S 4 i v) ad L f2 → W p l e R s m args below meth c H1 locs1 cells slots Q (F0 m (pc + 3) ls rest)) : W p l e R s m args below meth c H locs cells slots Q (F0 m pc ls (.long v :: .ref (ad 11 i) :: rest)) := by
  obtain ⟨q, hq⟩ := cell_11 hR hi
  obtain ⟨f2, h2, hR2⟩ := rep_deliveredCost_11 hR hD hi hq v
  exact va_put (D := D) (ci := 9) (v := .long v) (ty := .long) (C := RX7) (T := TX7) (N := 12) hx hb hts hin tyX7 tyX7_ok nmX7 hown hK hP hD hS q hq rfl 11 (by decide) hlink (fun _ h9 => h9) rfl (by decide +kernel) rfl rfl (Nat.le_of_ble_eq_true rfl) hdg (fun H1 locs1 h3 h4 h5 => by
    rw [h2] at h3 h4
    exact kk H1 locs1 f2 h3 h4 h5 hR2)
theorem rep_pieces_12 (h : Rep tA S ad L f) (hD : va_D A (va_pl L f)) {q : Nat} (hi : V S 12 i) (hq : (va_pl L f)[q]? = some (ad 12 i, C tA S ad 12 i)) (v : Int32) : ∃ f2 : Nat → va_E, (va_pl L f).set q (ad 12 i, .inr (4, ([.int (sI S 60 i), .int (sI S 61 i), .int (sI S 62 i), .int (sI S 63 i), .long (sJ S 5 i), rf ad 1 (sR S 3 i), rf ad 7 (sR S 4 i)] : List Value).set 0 (.int v))) = va_pl L f2 ∧ Rep tA (uI S 60 i v) ad L f2 := by
  refine h.put hD (k := 12) hi hq (fun _ _ h => h) (fun k2 i2 hv hn => ?_) ?_
  · rcases Nat.lt_or_ge k2 23 with hk | hk
    · by_cases hk2 : k2 = 12
      · subst hk2
        have hi2 : i2 ≠ i := fun q => hn ⟨rfl, q⟩
        simp [C, sN, sI, sJ, sR, sP, uI, uJ, uR, up2, hi2]
      · have hc : ∀ n : Nat, n < 23 → n ≠ 12 → C tA (uI S 60 i v) ad n i2 = C tA S ad n i2 := by
          intro n hn1 hn2
          match n, hn1, hn2 with
          | 0, _, hn2 => first | rfl | simp [C, sN, sI, sJ, sR, sP, uI, uJ, uR, up2]
          | 1, _, hn2 => first | rfl | simp [C, sN, sI, sJ, sR, sP, uI, uJ, uR, up2]
          | 2, _, hn2 => first | rfl | simp [C, sN, sI, sJ, sR, sP, uI, uJ, uR, up2]
          | 3, _, hn2 => first | rfl | simp [C, sN, sI, sJ, sR, sP, uI, uJ, uR, up2]
          | 4, _, hn2 => first | rfl | simp [C, sN, sI, sJ, sR, sP, uI, uJ, uR, up2]
          | 5, _, hn2 => first | rfl | simp [C, sN, sI, sJ, sR, sP, uI, uJ, uR, up2]
          | 6, _, hn2 => first | rfl | simp [C, sN, sI, sJ, sR, sP, uI, uJ, uR, up2]
          | 7, _, hn2 => first | rfl | simp [C, sN, sI, sJ, sR, sP, uI, uJ, uR, up2]
          | 8, _, hn2 => first | rfl | simp [C, sN, sI, sJ, sR, sP, uI, uJ, uR, up2]
          | 9, _, hn2 => first | rfl | simp [C, sN, sI, sJ, sR, sP, uI, uJ, uR, up2]
          | 10, _, hn2 => first | rfl | simp [C, sN, sI, sJ, sR, sP, uI, uJ, uR, up2]
          | 11, _, hn2 => first | rfl | simp [C, sN, sI, sJ, sR, sP, uI, uJ, uR, up2]
          | 12, _, hn2 => exact absurd rfl hn2
          | 13, _, hn2 => first | rfl | simp [C, sN, sI, sJ, sR, sP, uI, uJ, uR, up2]
          | 14, _, hn2 => first | rfl | simp [C, sN, sI, sJ, sR, sP, uI, uJ, uR, up2]
          | 15, _, hn2 => first | rfl | simp [C, sN, sI, sJ, sR, sP, uI, uJ, uR, up2]
          | 16, _, hn2 => first | rfl | simp [C, sN, sI, sJ, sR, sP, uI, uJ, uR, up2]
          | 17, _, hn2 => first | rfl | simp [C, sN, sI, sJ, sR, sP, uI, uJ, uR, up2]
          | 18, _, hn2 => first | rfl | simp [C, sN, sI, sJ, sR, sP, uI, uJ, uR, up2]
          | 19, _, hn2 => first | rfl | simp [C, sN, sI, sJ, sR, sP, uI, uJ, uR, up2]
          | 20, _, hn2 => first | rfl | simp [C, sN, sI, sJ, sR, sP, uI, uJ, uR, up2]
          | 21, _, hn2 => first | rfl | simp [C, sN, sI, sJ, sR, sP, uI, uJ, uR, up2]
          | 22, _, hn2 => first | rfl | simp [C, sN, sI, sJ, sR, sP, uI, uJ, uR, up2]
          | n + 23, hn1, _ => exact absurd hn1 (by omega)
        exact hc k2 hk hk2
    · exact False.elim (by
        obtain ⟨n, rfl⟩ : ∃ n, k2 = n + 23 := ⟨k2 - 23, by omega⟩
        exact hv)
  · simp [C, sN, sI, sJ, sR, sP, uI, uJ, uR, up2]
theorem put_pieces_12 (hx : p.tables.exec = Jvm.exec) (hb : c.code = cc) (hts : ∀ w ∈ Ts, w.before args s = true) (hin : ∀ w ∈ u_ws RX2 TX2 7, w ∈ Ts) (hown : s.vm.findClass own = some m.cls) (hK : va_K D vwCl (gT tA) s) (hP : va_P D vwCl (va_pl L f) H) (hD : va_D A (va_pl L f)) (hS : va_S A H0 H locs) (hR : Rep tA S ad L f) (hi : V S 12 i) (hlink : (Cond.fieldLink own index (TX2 0).1 (TX2 0).2.1 (TX2 0).2.2.1).before args s = true) {v : Int32} (hdg : decode cc pc = .ok (.putfield index, 3))
    (kk : ∀ (H1 : Heap) (locs1 : List Loc) (f2 : Nat → va_E), va_P D vwCl (va_pl L f2) H1 → va_D A (va_pl L f2) → va_S A H0 H1 locs1 → Rep tA (uI S 60 i v) ad L f2 → W p l e R s m args below meth c H1 locs1 cells slots Q (F0 m (pc + 3) ls rest)) : W p l e R s m args below meth c H locs cells slots Q (F0 m pc ls (.int v :: .ref (ad 12 i) :: rest)) := by
  obtain ⟨q, hq⟩ := cell_12 hR hi
  obtain ⟨f2, h2, hR2⟩ := rep_pieces_12 hR hD hi hq v
  exact va_put (D := D) (ci := 4) (v := .int v) (ty := .int) (C := RX2) (T := TX2) (N := 7) hx hb hts hin tyX2 tyX2_ok nmX2 hown hK hP hD hS q hq rfl 0 (by decide) hlink (fun _ h9 => h9) rfl (by decide +kernel) rfl rfl (Nat.le_of_ble_eq_true rfl) hdg (fun H1 locs1 h3 h4 h5 => by
    rw [h2] at h3 h4
    exact kk H1 locs1 f2 h3 h4 h5 hR2)
theorem rep_scrapped_12 (h : Rep tA S ad L f) (hD : va_D A (va_pl L f)) {q : Nat} (hi : V S 12 i) (hq : (va_pl L f)[q]? = some (ad 12 i, C tA S ad 12 i)) (v : Int32) : ∃ f2 : Nat → va_E, (va_pl L f).set q (ad 12 i, .inr (4, ([.int (sI S 60 i), .int (sI S 61 i), .int (sI S 62 i), .int (sI S 63 i), .long (sJ S 5 i), rf ad 1 (sR S 3 i), rf ad 7 (sR S 4 i)] : List Value).set 1 (.int v))) = va_pl L f2 ∧ Rep tA (uI S 61 i v) ad L f2 := by
  refine h.put hD (k := 12) hi hq (fun _ _ h => h) (fun k2 i2 hv hn => ?_) ?_
  · rcases Nat.lt_or_ge k2 23 with hk | hk
    · by_cases hk2 : k2 = 12
      · subst hk2
        have hi2 : i2 ≠ i := fun q => hn ⟨rfl, q⟩
        simp [C, sN, sI, sJ, sR, sP, uI, uJ, uR, up2, hi2]
      · have hc : ∀ n : Nat, n < 23 → n ≠ 12 → C tA (uI S 61 i v) ad n i2 = C tA S ad n i2 := by
          intro n hn1 hn2
          match n, hn1, hn2 with
          | 0, _, hn2 => first | rfl | simp [C, sN, sI, sJ, sR, sP, uI, uJ, uR, up2]
          | 1, _, hn2 => first | rfl | simp [C, sN, sI, sJ, sR, sP, uI, uJ, uR, up2]
          | 2, _, hn2 => first | rfl | simp [C, sN, sI, sJ, sR, sP, uI, uJ, uR, up2]
          | 3, _, hn2 => first | rfl | simp [C, sN, sI, sJ, sR, sP, uI, uJ, uR, up2]
          | 4, _, hn2 => first | rfl | simp [C, sN, sI, sJ, sR, sP, uI, uJ, uR, up2]
          | 5, _, hn2 => first | rfl | simp [C, sN, sI, sJ, sR, sP, uI, uJ, uR, up2]
          | 6, _, hn2 => first | rfl | simp [C, sN, sI, sJ, sR, sP, uI, uJ, uR, up2]
          | 7, _, hn2 => first | rfl | simp [C, sN, sI, sJ, sR, sP, uI, uJ, uR, up2]
          | 8, _, hn2 => first | rfl | simp [C, sN, sI, sJ, sR, sP, uI, uJ, uR, up2]
          | 9, _, hn2 => first | rfl | simp [C, sN, sI, sJ, sR, sP, uI, uJ, uR, up2]
          | 10, _, hn2 => first | rfl | simp [C, sN, sI, sJ, sR, sP, uI, uJ, uR, up2]
          | 11, _, hn2 => first | rfl | simp [C, sN, sI, sJ, sR, sP, uI, uJ, uR, up2]
          | 12, _, hn2 => exact absurd rfl hn2
          | 13, _, hn2 => first | rfl | simp [C, sN, sI, sJ, sR, sP, uI, uJ, uR, up2]
          | 14, _, hn2 => first | rfl | simp [C, sN, sI, sJ, sR, sP, uI, uJ, uR, up2]
          | 15, _, hn2 => first | rfl | simp [C, sN, sI, sJ, sR, sP, uI, uJ, uR, up2]
          | 16, _, hn2 => first | rfl | simp [C, sN, sI, sJ, sR, sP, uI, uJ, uR, up2]
          | 17, _, hn2 => first | rfl | simp [C, sN, sI, sJ, sR, sP, uI, uJ, uR, up2]
          | 18, _, hn2 => first | rfl | simp [C, sN, sI, sJ, sR, sP, uI, uJ, uR, up2]
          | 19, _, hn2 => first | rfl | simp [C, sN, sI, sJ, sR, sP, uI, uJ, uR, up2]
          | 20, _, hn2 => first | rfl | simp [C, sN, sI, sJ, sR, sP, uI, uJ, uR, up2]
          | 21, _, hn2 => first | rfl | simp [C, sN, sI, sJ, sR, sP, uI, uJ, uR, up2]
          | 22, _, hn2 => first | rfl | simp [C, sN, sI, sJ, sR, sP, uI, uJ, uR, up2]
          | n + 23, hn1, _ => exact absurd hn1 (by omega)
        exact hc k2 hk hk2
    · exact False.elim (by
        obtain ⟨n, rfl⟩ : ∃ n, k2 = n + 23 := ⟨k2 - 23, by omega⟩
        exact hv)
  · simp [C, sN, sI, sJ, sR, sP, uI, uJ, uR, up2]
theorem put_scrapped_12 (hx : p.tables.exec = Jvm.exec) (hb : c.code = cc) (hts : ∀ w ∈ Ts, w.before args s = true) (hin : ∀ w ∈ u_ws RX2 TX2 7, w ∈ Ts) (hown : s.vm.findClass own = some m.cls) (hK : va_K D vwCl (gT tA) s) (hP : va_P D vwCl (va_pl L f) H) (hD : va_D A (va_pl L f)) (hS : va_S A H0 H locs) (hR : Rep tA S ad L f) (hi : V S 12 i) (hlink : (Cond.fieldLink own index (TX2 1).1 (TX2 1).2.1 (TX2 1).2.2.1).before args s = true) {v : Int32} (hdg : decode cc pc = .ok (.putfield index, 3))
    (kk : ∀ (H1 : Heap) (locs1 : List Loc) (f2 : Nat → va_E), va_P D vwCl (va_pl L f2) H1 → va_D A (va_pl L f2) → va_S A H0 H1 locs1 → Rep tA (uI S 61 i v) ad L f2 → W p l e R s m args below meth c H1 locs1 cells slots Q (F0 m (pc + 3) ls rest)) : W p l e R s m args below meth c H locs cells slots Q (F0 m pc ls (.int v :: .ref (ad 12 i) :: rest)) := by
  obtain ⟨q, hq⟩ := cell_12 hR hi
  obtain ⟨f2, h2, hR2⟩ := rep_scrapped_12 hR hD hi hq v
  exact va_put (D := D) (ci := 4) (v := .int v) (ty := .int) (C := RX2) (T := TX2) (N := 7) hx hb hts hin tyX2 tyX2_ok nmX2 hown hK hP hD hS q hq rfl 1 (by decide) hlink (fun _ h9 => h9) rfl (by decide +kernel) rfl rfl (Nat.le_of_ble_eq_true rfl) hdg (fun H1 locs1 h3 h4 h5 => by
    rw [h2] at h3 h4
    exact kk H1 locs1 f2 h3 h4 h5 hR2)
theorem rep_operation_12 (h : Rep tA S ad L f) (hD : va_D A (va_pl L f)) {q : Nat} (hi : V S 12 i) (hq : (va_pl L f)[q]? = some (ad 12 i, C tA S ad 12 i)) (v : Int32) : ∃ f2 : Nat → va_E, (va_pl L f).set q (ad 12 i, .inr (4, ([.int (sI S 60 i), .int (sI S 61 i), .int (sI S 62 i), .int (sI S 63 i), .long (sJ S 5 i), rf ad 1 (sR S 3 i), rf ad 7 (sR S 4 i)] : List Value).set 2 (.int v))) = va_pl L f2 ∧ Rep tA (uI S 62 i v) ad L f2 := by
  refine h.put hD (k := 12) hi hq (fun _ _ h => h) (fun k2 i2 hv hn => ?_) ?_
  · rcases Nat.lt_or_ge k2 23 with hk | hk
    · by_cases hk2 : k2 = 12
      · subst hk2
        have hi2 : i2 ≠ i := fun q => hn ⟨rfl, q⟩
        simp [C, sN, sI, sJ, sR, sP, uI, uJ, uR, up2, hi2]
      · have hc : ∀ n : Nat, n < 23 → n ≠ 12 → C tA (uI S 62 i v) ad n i2 = C tA S ad n i2 := by
          intro n hn1 hn2
          match n, hn1, hn2 with
          | 0, _, hn2 => first | rfl | simp [C, sN, sI, sJ, sR, sP, uI, uJ, uR, up2]
          | 1, _, hn2 => first | rfl | simp [C, sN, sI, sJ, sR, sP, uI, uJ, uR, up2]
          | 2, _, hn2 => first | rfl | simp [C, sN, sI, sJ, sR, sP, uI, uJ, uR, up2]
          | 3, _, hn2 => first | rfl | simp [C, sN, sI, sJ, sR, sP, uI, uJ, uR, up2]
          | 4, _, hn2 => first | rfl | simp [C, sN, sI, sJ, sR, sP, uI, uJ, uR, up2]
          | 5, _, hn2 => first | rfl | simp [C, sN, sI, sJ, sR, sP, uI, uJ, uR, up2]
          | 6, _, hn2 => first | rfl | simp [C, sN, sI, sJ, sR, sP, uI, uJ, uR, up2]
          | 7, _, hn2 => first | rfl | simp [C, sN, sI, sJ, sR, sP, uI, uJ, uR, up2]
          | 8, _, hn2 => first | rfl | simp [C, sN, sI, sJ, sR, sP, uI, uJ, uR, up2]
          | 9, _, hn2 => first | rfl | simp [C, sN, sI, sJ, sR, sP, uI, uJ, uR, up2]
          | 10, _, hn2 => first | rfl | simp [C, sN, sI, sJ, sR, sP, uI, uJ, uR, up2]
          | 11, _, hn2 => first | rfl | simp [C, sN, sI, sJ, sR, sP, uI, uJ, uR, up2]
          | 12, _, hn2 => exact absurd rfl hn2
          | 13, _, hn2 => first | rfl | simp [C, sN, sI, sJ, sR, sP, uI, uJ, uR, up2]
          | 14, _, hn2 => first | rfl | simp [C, sN, sI, sJ, sR, sP, uI, uJ, uR, up2]
          | 15, _, hn2 => first | rfl | simp [C, sN, sI, sJ, sR, sP, uI, uJ, uR, up2]
          | 16, _, hn2 => first | rfl | simp [C, sN, sI, sJ, sR, sP, uI, uJ, uR, up2]
          | 17, _, hn2 => first | rfl | simp [C, sN, sI, sJ, sR, sP, uI, uJ, uR, up2]
          | 18, _, hn2 => first | rfl | simp [C, sN, sI, sJ, sR, sP, uI, uJ, uR, up2]
          | 19, _, hn2 => first | rfl | simp [C, sN, sI, sJ, sR, sP, uI, uJ, uR, up2]
          | 20, _, hn2 => first | rfl | simp [C, sN, sI, sJ, sR, sP, uI, uJ, uR, up2]
          | 21, _, hn2 => first | rfl | simp [C, sN, sI, sJ, sR, sP, uI, uJ, uR, up2]
          | 22, _, hn2 => first | rfl | simp [C, sN, sI, sJ, sR, sP, uI, uJ, uR, up2]
          | n + 23, hn1, _ => exact absurd hn1 (by omega)
        exact hc k2 hk hk2
    · exact False.elim (by
        obtain ⟨n, rfl⟩ : ∃ n, k2 = n + 23 := ⟨k2 - 23, by omega⟩
        exact hv)
  · simp [C, sN, sI, sJ, sR, sP, uI, uJ, uR, up2]
theorem put_operation_12 (hx : p.tables.exec = Jvm.exec) (hb : c.code = cc) (hts : ∀ w ∈ Ts, w.before args s = true) (hin : ∀ w ∈ u_ws RX2 TX2 7, w ∈ Ts) (hown : s.vm.findClass own = some m.cls) (hK : va_K D vwCl (gT tA) s) (hP : va_P D vwCl (va_pl L f) H) (hD : va_D A (va_pl L f)) (hS : va_S A H0 H locs) (hR : Rep tA S ad L f) (hi : V S 12 i) (hlink : (Cond.fieldLink own index (TX2 2).1 (TX2 2).2.1 (TX2 2).2.2.1).before args s = true) {v : Int32} (hdg : decode cc pc = .ok (.putfield index, 3))
    (kk : ∀ (H1 : Heap) (locs1 : List Loc) (f2 : Nat → va_E), va_P D vwCl (va_pl L f2) H1 → va_D A (va_pl L f2) → va_S A H0 H1 locs1 → Rep tA (uI S 62 i v) ad L f2 → W p l e R s m args below meth c H1 locs1 cells slots Q (F0 m (pc + 3) ls rest)) : W p l e R s m args below meth c H locs cells slots Q (F0 m pc ls (.int v :: .ref (ad 12 i) :: rest)) := by
  obtain ⟨q, hq⟩ := cell_12 hR hi
  obtain ⟨f2, h2, hR2⟩ := rep_operation_12 hR hD hi hq v
  exact va_put (D := D) (ci := 4) (v := .int v) (ty := .int) (C := RX2) (T := TX2) (N := 7) hx hb hts hin tyX2 tyX2_ok nmX2 hown hK hP hD hS q hq rfl 2 (by decide) hlink (fun _ h9 => h9) rfl (by decide +kernel) rfl rfl (Nat.le_of_ble_eq_true rfl) hdg (fun H1 locs1 h3 h4 h5 => by
    rw [h2] at h3 h4
    exact kk H1 locs1 f2 h3 h4 h5 hR2)
theorem rep_finishedAt_12 (h : Rep tA S ad L f) (hD : va_D A (va_pl L f)) {q : Nat} (hi : V S 12 i) (hq : (va_pl L f)[q]? = some (ad 12 i, C tA S ad 12 i)) (v : Int32) : ∃ f2 : Nat → va_E, (va_pl L f).set q (ad 12 i, .inr (4, ([.int (sI S 60 i), .int (sI S 61 i), .int (sI S 62 i), .int (sI S 63 i), .long (sJ S 5 i), rf ad 1 (sR S 3 i), rf ad 7 (sR S 4 i)] : List Value).set 3 (.int v))) = va_pl L f2 ∧ Rep tA (uI S 63 i v) ad L f2 := by
  refine h.put hD (k := 12) hi hq (fun _ _ h => h) (fun k2 i2 hv hn => ?_) ?_
  · rcases Nat.lt_or_ge k2 23 with hk | hk
    · by_cases hk2 : k2 = 12
      · subst hk2
        have hi2 : i2 ≠ i := fun q => hn ⟨rfl, q⟩
        simp [C, sN, sI, sJ, sR, sP, uI, uJ, uR, up2, hi2]
      · have hc : ∀ n : Nat, n < 23 → n ≠ 12 → C tA (uI S 63 i v) ad n i2 = C tA S ad n i2 := by
          intro n hn1 hn2
          match n, hn1, hn2 with
          | 0, _, hn2 => first | rfl | simp [C, sN, sI, sJ, sR, sP, uI, uJ, uR, up2]
          | 1, _, hn2 => first | rfl | simp [C, sN, sI, sJ, sR, sP, uI, uJ, uR, up2]
          | 2, _, hn2 => first | rfl | simp [C, sN, sI, sJ, sR, sP, uI, uJ, uR, up2]
          | 3, _, hn2 => first | rfl | simp [C, sN, sI, sJ, sR, sP, uI, uJ, uR, up2]
          | 4, _, hn2 => first | rfl | simp [C, sN, sI, sJ, sR, sP, uI, uJ, uR, up2]
          | 5, _, hn2 => first | rfl | simp [C, sN, sI, sJ, sR, sP, uI, uJ, uR, up2]
          | 6, _, hn2 => first | rfl | simp [C, sN, sI, sJ, sR, sP, uI, uJ, uR, up2]
          | 7, _, hn2 => first | rfl | simp [C, sN, sI, sJ, sR, sP, uI, uJ, uR, up2]
          | 8, _, hn2 => first | rfl | simp [C, sN, sI, sJ, sR, sP, uI, uJ, uR, up2]
          | 9, _, hn2 => first | rfl | simp [C, sN, sI, sJ, sR, sP, uI, uJ, uR, up2]
          | 10, _, hn2 => first | rfl | simp [C, sN, sI, sJ, sR, sP, uI, uJ, uR, up2]
          | 11, _, hn2 => first | rfl | simp [C, sN, sI, sJ, sR, sP, uI, uJ, uR, up2]
          | 12, _, hn2 => exact absurd rfl hn2
          | 13, _, hn2 => first | rfl | simp [C, sN, sI, sJ, sR, sP, uI, uJ, uR, up2]
          | 14, _, hn2 => first | rfl | simp [C, sN, sI, sJ, sR, sP, uI, uJ, uR, up2]
          | 15, _, hn2 => first | rfl | simp [C, sN, sI, sJ, sR, sP, uI, uJ, uR, up2]
          | 16, _, hn2 => first | rfl | simp [C, sN, sI, sJ, sR, sP, uI, uJ, uR, up2]
          | 17, _, hn2 => first | rfl | simp [C, sN, sI, sJ, sR, sP, uI, uJ, uR, up2]
          | 18, _, hn2 => first | rfl | simp [C, sN, sI, sJ, sR, sP, uI, uJ, uR, up2]
          | 19, _, hn2 => first | rfl | simp [C, sN, sI, sJ, sR, sP, uI, uJ, uR, up2]
          | 20, _, hn2 => first | rfl | simp [C, sN, sI, sJ, sR, sP, uI, uJ, uR, up2]
          | 21, _, hn2 => first | rfl | simp [C, sN, sI, sJ, sR, sP, uI, uJ, uR, up2]
          | 22, _, hn2 => first | rfl | simp [C, sN, sI, sJ, sR, sP, uI, uJ, uR, up2]
          | n + 23, hn1, _ => exact absurd hn1 (by omega)
        exact hc k2 hk hk2
    · exact False.elim (by
        obtain ⟨n, rfl⟩ : ∃ n, k2 = n + 23 := ⟨k2 - 23, by omega⟩
        exact hv)
  · simp [C, sN, sI, sJ, sR, sP, uI, uJ, uR, up2]
theorem put_finishedAt_12 (hx : p.tables.exec = Jvm.exec) (hb : c.code = cc) (hts : ∀ w ∈ Ts, w.before args s = true) (hin : ∀ w ∈ u_ws RX2 TX2 7, w ∈ Ts) (hown : s.vm.findClass own = some m.cls) (hK : va_K D vwCl (gT tA) s) (hP : va_P D vwCl (va_pl L f) H) (hD : va_D A (va_pl L f)) (hS : va_S A H0 H locs) (hR : Rep tA S ad L f) (hi : V S 12 i) (hlink : (Cond.fieldLink own index (TX2 3).1 (TX2 3).2.1 (TX2 3).2.2.1).before args s = true) {v : Int32} (hdg : decode cc pc = .ok (.putfield index, 3))
    (kk : ∀ (H1 : Heap) (locs1 : List Loc) (f2 : Nat → va_E), va_P D vwCl (va_pl L f2) H1 → va_D A (va_pl L f2) → va_S A H0 H1 locs1 → Rep tA (uI S 63 i v) ad L f2 → W p l e R s m args below meth c H1 locs1 cells slots Q (F0 m (pc + 3) ls rest)) : W p l e R s m args below meth c H locs cells slots Q (F0 m pc ls (.int v :: .ref (ad 12 i) :: rest)) := by
  obtain ⟨q, hq⟩ := cell_12 hR hi
  obtain ⟨f2, h2, hR2⟩ := rep_finishedAt_12 hR hD hi hq v
  exact va_put (D := D) (ci := 4) (v := .int v) (ty := .int) (C := RX2) (T := TX2) (N := 7) hx hb hts hin tyX2 tyX2_ok nmX2 hown hK hP hD hS q hq rfl 3 (by decide) hlink (fun _ h9 => h9) rfl (by decide +kernel) rfl rfl (Nat.le_of_ble_eq_true rfl) hdg (fun H1 locs1 h3 h4 h5 => by
    rw [h2] at h3 h4
    exact kk H1 locs1 f2 h3 h4 h5 hR2)
theorem rep_cost_12 (h : Rep tA S ad L f) (hD : va_D A (va_pl L f)) {q : Nat} (hi : V S 12 i) (hq : (va_pl L f)[q]? = some (ad 12 i, C tA S ad 12 i)) (v : Int64) : ∃ f2 : Nat → va_E, (va_pl L f).set q (ad 12 i, .inr (4, ([.int (sI S 60 i), .int (sI S 61 i), .int (sI S 62 i), .int (sI S 63 i), .long (sJ S 5 i), rf ad 1 (sR S 3 i), rf ad 7 (sR S 4 i)] : List Value).set 4 (.long v))) = va_pl L f2 ∧ Rep tA (uJ S 5 i v) ad L f2 := by
  refine h.put hD (k := 12) hi hq (fun _ _ h => h) (fun k2 i2 hv hn => ?_) ?_
  · rcases Nat.lt_or_ge k2 23 with hk | hk
    · by_cases hk2 : k2 = 12
      · subst hk2
        have hi2 : i2 ≠ i := fun q => hn ⟨rfl, q⟩
        simp [C, sN, sI, sJ, sR, sP, uI, uJ, uR, up2, hi2]
      · have hc : ∀ n : Nat, n < 23 → n ≠ 12 → C tA (uJ S 5 i v) ad n i2 = C tA S ad n i2 := by
          intro n hn1 hn2
          match n, hn1, hn2 with
          | 0, _, hn2 => first | rfl | simp [C, sN, sI, sJ, sR, sP, uI, uJ, uR, up2]
          | 1, _, hn2 => first | rfl | simp [C, sN, sI, sJ, sR, sP, uI, uJ, uR, up2]
          | 2, _, hn2 => first | rfl | simp [C, sN, sI, sJ, sR, sP, uI, uJ, uR, up2]
          | 3, _, hn2 => first | rfl | simp [C, sN, sI, sJ, sR, sP, uI, uJ, uR, up2]
          | 4, _, hn2 => first | rfl | simp [C, sN, sI, sJ, sR, sP, uI, uJ, uR, up2]
          | 5, _, hn2 => first | rfl | simp [C, sN, sI, sJ, sR, sP, uI, uJ, uR, up2]
          | 6, _, hn2 => first | rfl | simp [C, sN, sI, sJ, sR, sP, uI, uJ, uR, up2]
          | 7, _, hn2 => first | rfl | simp [C, sN, sI, sJ, sR, sP, uI, uJ, uR, up2]
          | 8, _, hn2 => first | rfl | simp [C, sN, sI, sJ, sR, sP, uI, uJ, uR, up2]
          | 9, _, hn2 => first | rfl | simp [C, sN, sI, sJ, sR, sP, uI, uJ, uR, up2]
          | 10, _, hn2 => first | rfl | simp [C, sN, sI, sJ, sR, sP, uI, uJ, uR, up2]
          | 11, _, hn2 => first | rfl | simp [C, sN, sI, sJ, sR, sP, uI, uJ, uR, up2]
          | 12, _, hn2 => exact absurd rfl hn2
          | 13, _, hn2 => first | rfl | simp [C, sN, sI, sJ, sR, sP, uI, uJ, uR, up2]
          | 14, _, hn2 => first | rfl | simp [C, sN, sI, sJ, sR, sP, uI, uJ, uR, up2]
          | 15, _, hn2 => first | rfl | simp [C, sN, sI, sJ, sR, sP, uI, uJ, uR, up2]
          | 16, _, hn2 => first | rfl | simp [C, sN, sI, sJ, sR, sP, uI, uJ, uR, up2]
          | 17, _, hn2 => first | rfl | simp [C, sN, sI, sJ, sR, sP, uI, uJ, uR, up2]
          | 18, _, hn2 => first | rfl | simp [C, sN, sI, sJ, sR, sP, uI, uJ, uR, up2]
          | 19, _, hn2 => first | rfl | simp [C, sN, sI, sJ, sR, sP, uI, uJ, uR, up2]
          | 20, _, hn2 => first | rfl | simp [C, sN, sI, sJ, sR, sP, uI, uJ, uR, up2]
          | 21, _, hn2 => first | rfl | simp [C, sN, sI, sJ, sR, sP, uI, uJ, uR, up2]
          | 22, _, hn2 => first | rfl | simp [C, sN, sI, sJ, sR, sP, uI, uJ, uR, up2]
          | n + 23, hn1, _ => exact absurd hn1 (by omega)
        exact hc k2 hk hk2
    · exact False.elim (by
        obtain ⟨n, rfl⟩ : ∃ n, k2 = n + 23 := ⟨k2 - 23, by omega⟩
        exact hv)
  · simp [C, sN, sI, sJ, sR, sP, uI, uJ, uR, up2]
theorem put_cost_12 (hx : p.tables.exec = Jvm.exec) (hb : c.code = cc) (hts : ∀ w ∈ Ts, w.before args s = true) (hin : ∀ w ∈ u_ws RX2 TX2 7, w ∈ Ts) (hown : s.vm.findClass own = some m.cls) (hK : va_K D vwCl (gT tA) s) (hP : va_P D vwCl (va_pl L f) H) (hD : va_D A (va_pl L f)) (hS : va_S A H0 H locs) (hR : Rep tA S ad L f) (hi : V S 12 i) (hlink : (Cond.fieldLink own index (TX2 4).1 (TX2 4).2.1 (TX2 4).2.2.1).before args s = true) {v : Int64} (hdg : decode cc pc = .ok (.putfield index, 3))
    (kk : ∀ (H1 : Heap) (locs1 : List Loc) (f2 : Nat → va_E), va_P D vwCl (va_pl L f2) H1 → va_D A (va_pl L f2) → va_S A H0 H1 locs1 → Rep tA (uJ S 5 i v) ad L f2 → W p l e R s m args below meth c H1 locs1 cells slots Q (F0 m (pc + 3) ls rest)) : W p l e R s m args below meth c H locs cells slots Q (F0 m pc ls (.long v :: .ref (ad 12 i) :: rest)) := by
  obtain ⟨q, hq⟩ := cell_12 hR hi
  obtain ⟨f2, h2, hR2⟩ := rep_cost_12 hR hD hi hq v
  exact va_put (D := D) (ci := 4) (v := .long v) (ty := .long) (C := RX2) (T := TX2) (N := 7) hx hb hts hin tyX2 tyX2_ok nmX2 hown hK hP hD hS q hq rfl 4 (by decide) hlink (fun _ h9 => h9) rfl (by decide +kernel) rfl rfl (Nat.le_of_ble_eq_true rfl) hdg (fun H1 locs1 h3 h4 h5 => by
    rw [h2] at h3 h4
    exact kk H1 locs1 f2 h3 h4 h5 hR2)
theorem rep_waitsAt_12 (h : Rep tA S ad L f) (hD : va_D A (va_pl L f)) {q : Nat} (hi : V S 12 i) (hq : (va_pl L f)[q]? = some (ad 12 i, C tA S ad 12 i)) (v : Option Nat) : ∃ f2 : Nat → va_E, (va_pl L f).set q (ad 12 i, .inr (4, ([.int (sI S 60 i), .int (sI S 61 i), .int (sI S 62 i), .int (sI S 63 i), .long (sJ S 5 i), rf ad 1 (sR S 3 i), rf ad 7 (sR S 4 i)] : List Value).set 5 (rf ad 1 v))) = va_pl L f2 ∧ Rep tA (uR S 3 i v) ad L f2 := by
  refine h.put hD (k := 12) hi hq (fun _ _ h => h) (fun k2 i2 hv hn => ?_) ?_
  · rcases Nat.lt_or_ge k2 23 with hk | hk
    · by_cases hk2 : k2 = 12
      · subst hk2
        have hi2 : i2 ≠ i := fun q => hn ⟨rfl, q⟩
        simp [C, sN, sI, sJ, sR, sP, uI, uJ, uR, up2, hi2]
      · have hc : ∀ n : Nat, n < 23 → n ≠ 12 → C tA (uR S 3 i v) ad n i2 = C tA S ad n i2 := by
          intro n hn1 hn2
          match n, hn1, hn2 with
          | 0, _, hn2 => first | rfl | simp [C, sN, sI, sJ, sR, sP, uI, uJ, uR, up2]
          | 1, _, hn2 => first | rfl | simp [C, sN, sI, sJ, sR, sP, uI, uJ, uR, up2]
          | 2, _, hn2 => first | rfl | simp [C, sN, sI, sJ, sR, sP, uI, uJ, uR, up2]
          | 3, _, hn2 => first | rfl | simp [C, sN, sI, sJ, sR, sP, uI, uJ, uR, up2]
          | 4, _, hn2 => first | rfl | simp [C, sN, sI, sJ, sR, sP, uI, uJ, uR, up2]
          | 5, _, hn2 => first | rfl | simp [C, sN, sI, sJ, sR, sP, uI, uJ, uR, up2]
          | 6, _, hn2 => first | rfl | simp [C, sN, sI, sJ, sR, sP, uI, uJ, uR, up2]
          | 7, _, hn2 => first | rfl | simp [C, sN, sI, sJ, sR, sP, uI, uJ, uR, up2]
          | 8, _, hn2 => first | rfl | simp [C, sN, sI, sJ, sR, sP, uI, uJ, uR, up2]
          | 9, _, hn2 => first | rfl | simp [C, sN, sI, sJ, sR, sP, uI, uJ, uR, up2]
          | 10, _, hn2 => first | rfl | simp [C, sN, sI, sJ, sR, sP, uI, uJ, uR, up2]
          | 11, _, hn2 => first | rfl | simp [C, sN, sI, sJ, sR, sP, uI, uJ, uR, up2]
          | 12, _, hn2 => exact absurd rfl hn2
          | 13, _, hn2 => first | rfl | simp [C, sN, sI, sJ, sR, sP, uI, uJ, uR, up2]
          | 14, _, hn2 => first | rfl | simp [C, sN, sI, sJ, sR, sP, uI, uJ, uR, up2]
          | 15, _, hn2 => first | rfl | simp [C, sN, sI, sJ, sR, sP, uI, uJ, uR, up2]
          | 16, _, hn2 => first | rfl | simp [C, sN, sI, sJ, sR, sP, uI, uJ, uR, up2]
          | 17, _, hn2 => first | rfl | simp [C, sN, sI, sJ, sR, sP, uI, uJ, uR, up2]
          | 18, _, hn2 => first | rfl | simp [C, sN, sI, sJ, sR, sP, uI, uJ, uR, up2]
          | 19, _, hn2 => first | rfl | simp [C, sN, sI, sJ, sR, sP, uI, uJ, uR, up2]
          | 20, _, hn2 => first | rfl | simp [C, sN, sI, sJ, sR, sP, uI, uJ, uR, up2]
          | 21, _, hn2 => first | rfl | simp [C, sN, sI, sJ, sR, sP, uI, uJ, uR, up2]
          | 22, _, hn2 => first | rfl | simp [C, sN, sI, sJ, sR, sP, uI, uJ, uR, up2]
          | n + 23, hn1, _ => exact absurd hn1 (by omega)
        exact hc k2 hk hk2
    · exact False.elim (by
        obtain ⟨n, rfl⟩ : ∃ n, k2 = n + 23 := ⟨k2 - 23, by omega⟩
        exact hv)
  · simp [C, sN, sI, sJ, sR, sP, uI, uJ, uR, up2]
theorem put_waitsAt_12 (hx : p.tables.exec = Jvm.exec) (hb : c.code = cc) (hts : ∀ w ∈ Ts, w.before args s = true) (hin : ∀ w ∈ u_ws RX2 TX2 7, w ∈ Ts) (hown : s.vm.findClass own = some m.cls) (hK : va_K D vwCl (gT tA) s) (hP : va_P D vwCl (va_pl L f) H) (hD : va_D A (va_pl L f)) (hS : va_S A H0 H locs) (hR : Rep tA S ad L f) (hi : V S 12 i) (hlink : (Cond.fieldLink own index (TX2 5).1 (TX2 5).2.1 (TX2 5).2.2.1).before args s = true) {v : Option Nat} (hdg : decode cc pc = .ok (.putfield index, 3))
    (kk : ∀ (H1 : Heap) (locs1 : List Loc) (f2 : Nat → va_E), va_P D vwCl (va_pl L f2) H1 → va_D A (va_pl L f2) → va_S A H0 H1 locs1 → Rep tA (uR S 3 i v) ad L f2 → W p l e R s m args below meth c H1 locs1 cells slots Q (F0 m (pc + 3) ls rest)) : W p l e R s m args below meth c H locs cells slots Q (F0 m pc ls (rf ad 1 v :: .ref (ad 12 i) :: rest)) := by
  obtain ⟨q, hq⟩ := cell_12 hR hi
  obtain ⟨f2, h2, hR2⟩ := rep_waitsAt_12 hR hD hi hq v
  exact va_put (D := D) (ci := 4) (v := rf ad 1 v) (ty := .object RX4) (C := RX2) (T := TX2) (N := 7) hx hb hts hin tyX2 tyX2_ok nmX2 hown hK hP hD hS q hq rfl 5 (by decide) hlink (fun _ h9 => h9) rfl (by decide +kernel) (by cases v <;> rfl) (by cases v <;> rfl) (Nat.le_of_ble_eq_true rfl) hdg (fun H1 locs1 h3 h4 h5 => by
    rw [h2] at h3 h4
    exact kk H1 locs1 f2 h3 h4 h5 hR2)
theorem rep_lot_12 (h : Rep tA S ad L f) (hD : va_D A (va_pl L f)) {q : Nat} (hi : V S 12 i) (hq : (va_pl L f)[q]? = some (ad 12 i, C tA S ad 12 i)) (v : Option Nat) : ∃ f2 : Nat → va_E, (va_pl L f).set q (ad 12 i, .inr (4, ([.int (sI S 60 i), .int (sI S 61 i), .int (sI S 62 i), .int (sI S 63 i), .long (sJ S 5 i), rf ad 1 (sR S 3 i), rf ad 7 (sR S 4 i)] : List Value).set 6 (rf ad 7 v))) = va_pl L f2 ∧ Rep tA (uR S 4 i v) ad L f2 := by
  refine h.put hD (k := 12) hi hq (fun _ _ h => h) (fun k2 i2 hv hn => ?_) ?_
  · rcases Nat.lt_or_ge k2 23 with hk | hk
    · by_cases hk2 : k2 = 12
      · subst hk2
        have hi2 : i2 ≠ i := fun q => hn ⟨rfl, q⟩
        simp [C, sN, sI, sJ, sR, sP, uI, uJ, uR, up2, hi2]
      · have hc : ∀ n : Nat, n < 23 → n ≠ 12 → C tA (uR S 4 i v) ad n i2 = C tA S ad n i2 := by
          intro n hn1 hn2
          match n, hn1, hn2 with
          | 0, _, hn2 => first | rfl | simp [C, sN, sI, sJ, sR, sP, uI, uJ, uR, up2]
          | 1, _, hn2 => first | rfl | simp [C, sN, sI, sJ, sR, sP, uI, uJ, uR, up2]
          | 2, _, hn2 => first | rfl | simp [C, sN, sI, sJ, sR, sP, uI, uJ, uR, up2]
          | 3, _, hn2 => first | rfl | simp [C, sN, sI, sJ, sR, sP, uI, uJ, uR, up2]
          | 4, _, hn2 => first | rfl | simp [C, sN, sI, sJ, sR, sP, uI, uJ, uR, up2]
          | 5, _, hn2 => first | rfl | simp [C, sN, sI, sJ, sR, sP, uI, uJ, uR, up2]
          | 6, _, hn2 => first | rfl | simp [C, sN, sI, sJ, sR, sP, uI, uJ, uR, up2]
          | 7, _, hn2 => first | rfl | simp [C, sN, sI, sJ, sR, sP, uI, uJ, uR, up2]
          | 8, _, hn2 => first | rfl | simp [C, sN, sI, sJ, sR, sP, uI, uJ, uR, up2]
          | 9, _, hn2 => first | rfl | simp [C, sN, sI, sJ, sR, sP, uI, uJ, uR, up2]
          | 10, _, hn2 => first | rfl | simp [C, sN, sI, sJ, sR, sP, uI, uJ, uR, up2]
          | 11, _, hn2 => first | rfl | simp [C, sN, sI, sJ, sR, sP, uI, uJ, uR, up2]
          | 12, _, hn2 => exact absurd rfl hn2
          | 13, _, hn2 => first | rfl | simp [C, sN, sI, sJ, sR, sP, uI, uJ, uR, up2]
          | 14, _, hn2 => first | rfl | simp [C, sN, sI, sJ, sR, sP, uI, uJ, uR, up2]
          | 15, _, hn2 => first | rfl | simp [C, sN, sI, sJ, sR, sP, uI, uJ, uR, up2]
          | 16, _, hn2 => first | rfl | simp [C, sN, sI, sJ, sR, sP, uI, uJ, uR, up2]
          | 17, _, hn2 => first | rfl | simp [C, sN, sI, sJ, sR, sP, uI, uJ, uR, up2]
          | 18, _, hn2 => first | rfl | simp [C, sN, sI, sJ, sR, sP, uI, uJ, uR, up2]
          | 19, _, hn2 => first | rfl | simp [C, sN, sI, sJ, sR, sP, uI, uJ, uR, up2]
          | 20, _, hn2 => first | rfl | simp [C, sN, sI, sJ, sR, sP, uI, uJ, uR, up2]
          | 21, _, hn2 => first | rfl | simp [C, sN, sI, sJ, sR, sP, uI, uJ, uR, up2]
          | 22, _, hn2 => first | rfl | simp [C, sN, sI, sJ, sR, sP, uI, uJ, uR, up2]
          | n + 23, hn1, _ => exact absurd hn1 (by omega)
        exact hc k2 hk hk2
    · exact False.elim (by
        obtain ⟨n, rfl⟩ : ∃ n, k2 = n + 23 := ⟨k2 - 23, by omega⟩
        exact hv)
  · simp [C, sN, sI, sJ, sR, sP, uI, uJ, uR, up2]
theorem put_lot_12 (hx : p.tables.exec = Jvm.exec) (hb : c.code = cc) (hts : ∀ w ∈ Ts, w.before args s = true) (hin : ∀ w ∈ u_ws RX2 TX2 7, w ∈ Ts) (hown : s.vm.findClass own = some m.cls) (hK : va_K D vwCl (gT tA) s) (hP : va_P D vwCl (va_pl L f) H) (hD : va_D A (va_pl L f)) (hS : va_S A H0 H locs) (hR : Rep tA S ad L f) (hi : V S 12 i) (hlink : (Cond.fieldLink own index (TX2 6).1 (TX2 6).2.1 (TX2 6).2.2.1).before args s = true) {v : Option Nat} (hdg : decode cc pc = .ok (.putfield index, 3))
    (kk : ∀ (H1 : Heap) (locs1 : List Loc) (f2 : Nat → va_E), va_P D vwCl (va_pl L f2) H1 → va_D A (va_pl L f2) → va_S A H0 H1 locs1 → Rep tA (uR S 4 i v) ad L f2 → W p l e R s m args below meth c H1 locs1 cells slots Q (F0 m (pc + 3) ls rest)) : W p l e R s m args below meth c H locs cells slots Q (F0 m pc ls (rf ad 7 v :: .ref (ad 12 i) :: rest)) := by
  obtain ⟨q, hq⟩ := cell_12 hR hi
  obtain ⟨f2, h2, hR2⟩ := rep_lot_12 hR hD hi hq v
  exact va_put (D := D) (ci := 4) (v := rf ad 7 v) (ty := .object RX3) (C := RX2) (T := TX2) (N := 7) hx hb hts hin tyX2 tyX2_ok nmX2 hown hK hP hD hS q hq rfl 6 (by decide) hlink (fun _ h9 => h9) rfl (by decide +kernel) (by cases v <;> rfl) (by cases v <;> rfl) (Nat.le_of_ble_eq_true rfl) hdg (fun H1 locs1 h3 h4 h5 => by
    rw [h2] at h3 h4
    exact kk H1 locs1 f2 h3 h4 h5 hR2)
theorem rep_low_13 (h : Rep tA S ad L f) (hD : va_D A (va_pl L f)) {q : Nat} (hi : V S 13 i) (hq : (va_pl L f)[q]? = some (ad 13 i, C tA S ad 13 i)) (v : Int64) : ∃ f2 : Nat → va_E, (va_pl L f).set q (ad 13 i, .inr (7, ([.long (sJ S 26 i), .long (sJ S 27 i)] : List Value).set 0 (.long v))) = va_pl L f2 ∧ Rep tA (uJ S 26 i v) ad L f2 := by
  refine h.put hD (k := 13) hi hq (fun _ _ h => h) (fun k2 i2 hv hn => ?_) ?_
  · rcases Nat.lt_or_ge k2 23 with hk | hk
    · by_cases hk2 : k2 = 13
      · subst hk2
        have hi2 : i2 ≠ i := fun q => hn ⟨rfl, q⟩
        simp [C, sN, sI, sJ, sR, sP, uI, uJ, uR, up2, hi2]
      · have hc : ∀ n : Nat, n < 23 → n ≠ 13 → C tA (uJ S 26 i v) ad n i2 = C tA S ad n i2 := by
          intro n hn1 hn2
          match n, hn1, hn2 with
          | 0, _, hn2 => first | rfl | simp [C, sN, sI, sJ, sR, sP, uI, uJ, uR, up2]
          | 1, _, hn2 => first | rfl | simp [C, sN, sI, sJ, sR, sP, uI, uJ, uR, up2]
          | 2, _, hn2 => first | rfl | simp [C, sN, sI, sJ, sR, sP, uI, uJ, uR, up2]
          | 3, _, hn2 => first | rfl | simp [C, sN, sI, sJ, sR, sP, uI, uJ, uR, up2]
          | 4, _, hn2 => first | rfl | simp [C, sN, sI, sJ, sR, sP, uI, uJ, uR, up2]
          | 5, _, hn2 => first | rfl | simp [C, sN, sI, sJ, sR, sP, uI, uJ, uR, up2]
          | 6, _, hn2 => first | rfl | simp [C, sN, sI, sJ, sR, sP, uI, uJ, uR, up2]
          | 7, _, hn2 => first | rfl | simp [C, sN, sI, sJ, sR, sP, uI, uJ, uR, up2]
          | 8, _, hn2 => first | rfl | simp [C, sN, sI, sJ, sR, sP, uI, uJ, uR, up2]
          | 9, _, hn2 => first | rfl | simp [C, sN, sI, sJ, sR, sP, uI, uJ, uR, up2]
          | 10, _, hn2 => first | rfl | simp [C, sN, sI, sJ, sR, sP, uI, uJ, uR, up2]
          | 11, _, hn2 => first | rfl | simp [C, sN, sI, sJ, sR, sP, uI, uJ, uR, up2]
          | 12, _, hn2 => first | rfl | simp [C, sN, sI, sJ, sR, sP, uI, uJ, uR, up2]
          | 13, _, hn2 => exact absurd rfl hn2
          | 14, _, hn2 => first | rfl | simp [C, sN, sI, sJ, sR, sP, uI, uJ, uR, up2]
          | 15, _, hn2 => first | rfl | simp [C, sN, sI, sJ, sR, sP, uI, uJ, uR, up2]
          | 16, _, hn2 => first | rfl | simp [C, sN, sI, sJ, sR, sP, uI, uJ, uR, up2]
          | 17, _, hn2 => first | rfl | simp [C, sN, sI, sJ, sR, sP, uI, uJ, uR, up2]
          | 18, _, hn2 => first | rfl | simp [C, sN, sI, sJ, sR, sP, uI, uJ, uR, up2]
          | 19, _, hn2 => first | rfl | simp [C, sN, sI, sJ, sR, sP, uI, uJ, uR, up2]
          | 20, _, hn2 => first | rfl | simp [C, sN, sI, sJ, sR, sP, uI, uJ, uR, up2]
          | 21, _, hn2 => first | rfl | simp [C, sN, sI, sJ, sR, sP, uI, uJ, uR, up2]
          | 22, _, hn2 => first | rfl | simp [C, sN, sI, sJ, sR, sP, uI, uJ, uR, up2]
          | n + 23, hn1, _ => exact absurd hn1 (by omega)
        exact hc k2 hk hk2
    · exact False.elim (by
        obtain ⟨n, rfl⟩ : ∃ n, k2 = n + 23 := ⟨k2 - 23, by omega⟩
        exact hv)
  · simp [C, sN, sI, sJ, sR, sP, uI, uJ, uR, up2]
theorem put_low_13 (hx : p.tables.exec = Jvm.exec) (hb : c.code = cc) (hts : ∀ w ∈ Ts, w.before args s = true) (hin : ∀ w ∈ u_ws RX5 TX5 2, w ∈ Ts) (hown : s.vm.findClass own = some m.cls) (hK : va_K D vwCl (gT tA) s) (hP : va_P D vwCl (va_pl L f) H) (hD : va_D A (va_pl L f)) (hS : va_S A H0 H locs) (hR : Rep tA S ad L f) (hi : V S 13 i) (hlink : (Cond.fieldLink own index (TX5 0).1 (TX5 0).2.1 (TX5 0).2.2.1).before args s = true) {v : Int64} (hdg : decode cc pc = .ok (.putfield index, 3))
    (kk : ∀ (H1 : Heap) (locs1 : List Loc) (f2 : Nat → va_E), va_P D vwCl (va_pl L f2) H1 → va_D A (va_pl L f2) → va_S A H0 H1 locs1 → Rep tA (uJ S 26 i v) ad L f2 → W p l e R s m args below meth c H1 locs1 cells slots Q (F0 m (pc + 3) ls rest)) : W p l e R s m args below meth c H locs cells slots Q (F0 m pc ls (.long v :: .ref (ad 13 i) :: rest)) := by
  obtain ⟨q, hq⟩ := cell_13 hR hi
  obtain ⟨f2, h2, hR2⟩ := rep_low_13 hR hD hi hq v
  exact va_put (D := D) (ci := 7) (v := .long v) (ty := .long) (C := RX5) (T := TX5) (N := 2) hx hb hts hin tyX5 tyX5_ok nmX5 hown hK hP hD hS q hq rfl 0 (by decide) hlink (fun _ h9 => h9) rfl (by decide +kernel) rfl rfl (Nat.le_of_ble_eq_true rfl) hdg (fun H1 locs1 h3 h4 h5 => by
    rw [h2] at h3 h4
    exact kk H1 locs1 f2 h3 h4 h5 hR2)
theorem rep_high_13 (h : Rep tA S ad L f) (hD : va_D A (va_pl L f)) {q : Nat} (hi : V S 13 i) (hq : (va_pl L f)[q]? = some (ad 13 i, C tA S ad 13 i)) (v : Int64) : ∃ f2 : Nat → va_E, (va_pl L f).set q (ad 13 i, .inr (7, ([.long (sJ S 26 i), .long (sJ S 27 i)] : List Value).set 1 (.long v))) = va_pl L f2 ∧ Rep tA (uJ S 27 i v) ad L f2 := by
  refine h.put hD (k := 13) hi hq (fun _ _ h => h) (fun k2 i2 hv hn => ?_) ?_
  · rcases Nat.lt_or_ge k2 23 with hk | hk
    · by_cases hk2 : k2 = 13
      · subst hk2
        have hi2 : i2 ≠ i := fun q => hn ⟨rfl, q⟩
        simp [C, sN, sI, sJ, sR, sP, uI, uJ, uR, up2, hi2]
      · have hc : ∀ n : Nat, n < 23 → n ≠ 13 → C tA (uJ S 27 i v) ad n i2 = C tA S ad n i2 := by
          intro n hn1 hn2
          match n, hn1, hn2 with
          | 0, _, hn2 => first | rfl | simp [C, sN, sI, sJ, sR, sP, uI, uJ, uR, up2]
          | 1, _, hn2 => first | rfl | simp [C, sN, sI, sJ, sR, sP, uI, uJ, uR, up2]
          | 2, _, hn2 => first | rfl | simp [C, sN, sI, sJ, sR, sP, uI, uJ, uR, up2]
          | 3, _, hn2 => first | rfl | simp [C, sN, sI, sJ, sR, sP, uI, uJ, uR, up2]
          | 4, _, hn2 => first | rfl | simp [C, sN, sI, sJ, sR, sP, uI, uJ, uR, up2]
          | 5, _, hn2 => first | rfl | simp [C, sN, sI, sJ, sR, sP, uI, uJ, uR, up2]
          | 6, _, hn2 => first | rfl | simp [C, sN, sI, sJ, sR, sP, uI, uJ, uR, up2]
          | 7, _, hn2 => first | rfl | simp [C, sN, sI, sJ, sR, sP, uI, uJ, uR, up2]
          | 8, _, hn2 => first | rfl | simp [C, sN, sI, sJ, sR, sP, uI, uJ, uR, up2]
          | 9, _, hn2 => first | rfl | simp [C, sN, sI, sJ, sR, sP, uI, uJ, uR, up2]
          | 10, _, hn2 => first | rfl | simp [C, sN, sI, sJ, sR, sP, uI, uJ, uR, up2]
          | 11, _, hn2 => first | rfl | simp [C, sN, sI, sJ, sR, sP, uI, uJ, uR, up2]
          | 12, _, hn2 => first | rfl | simp [C, sN, sI, sJ, sR, sP, uI, uJ, uR, up2]
          | 13, _, hn2 => exact absurd rfl hn2
          | 14, _, hn2 => first | rfl | simp [C, sN, sI, sJ, sR, sP, uI, uJ, uR, up2]
          | 15, _, hn2 => first | rfl | simp [C, sN, sI, sJ, sR, sP, uI, uJ, uR, up2]
          | 16, _, hn2 => first | rfl | simp [C, sN, sI, sJ, sR, sP, uI, uJ, uR, up2]
          | 17, _, hn2 => first | rfl | simp [C, sN, sI, sJ, sR, sP, uI, uJ, uR, up2]
          | 18, _, hn2 => first | rfl | simp [C, sN, sI, sJ, sR, sP, uI, uJ, uR, up2]
          | 19, _, hn2 => first | rfl | simp [C, sN, sI, sJ, sR, sP, uI, uJ, uR, up2]
          | 20, _, hn2 => first | rfl | simp [C, sN, sI, sJ, sR, sP, uI, uJ, uR, up2]
          | 21, _, hn2 => first | rfl | simp [C, sN, sI, sJ, sR, sP, uI, uJ, uR, up2]
          | 22, _, hn2 => first | rfl | simp [C, sN, sI, sJ, sR, sP, uI, uJ, uR, up2]
          | n + 23, hn1, _ => exact absurd hn1 (by omega)
        exact hc k2 hk hk2
    · exact False.elim (by
        obtain ⟨n, rfl⟩ : ∃ n, k2 = n + 23 := ⟨k2 - 23, by omega⟩
        exact hv)
  · simp [C, sN, sI, sJ, sR, sP, uI, uJ, uR, up2]
theorem put_high_13 (hx : p.tables.exec = Jvm.exec) (hb : c.code = cc) (hts : ∀ w ∈ Ts, w.before args s = true) (hin : ∀ w ∈ u_ws RX5 TX5 2, w ∈ Ts) (hown : s.vm.findClass own = some m.cls) (hK : va_K D vwCl (gT tA) s) (hP : va_P D vwCl (va_pl L f) H) (hD : va_D A (va_pl L f)) (hS : va_S A H0 H locs) (hR : Rep tA S ad L f) (hi : V S 13 i) (hlink : (Cond.fieldLink own index (TX5 1).1 (TX5 1).2.1 (TX5 1).2.2.1).before args s = true) {v : Int64} (hdg : decode cc pc = .ok (.putfield index, 3))
    (kk : ∀ (H1 : Heap) (locs1 : List Loc) (f2 : Nat → va_E), va_P D vwCl (va_pl L f2) H1 → va_D A (va_pl L f2) → va_S A H0 H1 locs1 → Rep tA (uJ S 27 i v) ad L f2 → W p l e R s m args below meth c H1 locs1 cells slots Q (F0 m (pc + 3) ls rest)) : W p l e R s m args below meth c H locs cells slots Q (F0 m pc ls (.long v :: .ref (ad 13 i) :: rest)) := by
  obtain ⟨q, hq⟩ := cell_13 hR hi
  obtain ⟨f2, h2, hR2⟩ := rep_high_13 hR hD hi hq v
  exact va_put (D := D) (ci := 7) (v := .long v) (ty := .long) (C := RX5) (T := TX5) (N := 2) hx hb hts hin tyX5 tyX5_ok nmX5 hown hK hP hD hS q hq rfl 1 (by decide) hlink (fun _ h9 => h9) rfl (by decide +kernel) rfl rfl (Nat.le_of_ble_eq_true rfl) hdg (fun H1 locs1 h3 h4 h5 => by
    rw [h2] at h3 h4
    exact kk H1 locs1 f2 h3 h4 h5 hR2)
theorem rep_low_14 (h : Rep tA S ad L f) (hD : va_D A (va_pl L f)) {q : Nat} (hi : V S 14 i) (hq : (va_pl L f)[q]? = some (ad 14 i, C tA S ad 14 i)) (v : Int64) : ∃ f2 : Nat → va_E, (va_pl L f).set q (ad 14 i, .inr (7, ([.long (sJ S 28 i), .long (sJ S 29 i)] : List Value).set 0 (.long v))) = va_pl L f2 ∧ Rep tA (uJ S 28 i v) ad L f2 := by
  refine h.put hD (k := 14) hi hq (fun _ _ h => h) (fun k2 i2 hv hn => ?_) ?_
  · rcases Nat.lt_or_ge k2 23 with hk | hk
    · by_cases hk2 : k2 = 14
      · subst hk2
        have hi2 : i2 ≠ i := fun q => hn ⟨rfl, q⟩
        simp [C, sN, sI, sJ, sR, sP, uI, uJ, uR, up2, hi2]
      · have hc : ∀ n : Nat, n < 23 → n ≠ 14 → C tA (uJ S 28 i v) ad n i2 = C tA S ad n i2 := by
          intro n hn1 hn2
          match n, hn1, hn2 with
          | 0, _, hn2 => first | rfl | simp [C, sN, sI, sJ, sR, sP, uI, uJ, uR, up2]
          | 1, _, hn2 => first | rfl | simp [C, sN, sI, sJ, sR, sP, uI, uJ, uR, up2]
          | 2, _, hn2 => first | rfl | simp [C, sN, sI, sJ, sR, sP, uI, uJ, uR, up2]
          | 3, _, hn2 => first | rfl | simp [C, sN, sI, sJ, sR, sP, uI, uJ, uR, up2]
          | 4, _, hn2 => first | rfl | simp [C, sN, sI, sJ, sR, sP, uI, uJ, uR, up2]
          | 5, _, hn2 => first | rfl | simp [C, sN, sI, sJ, sR, sP, uI, uJ, uR, up2]
          | 6, _, hn2 => first | rfl | simp [C, sN, sI, sJ, sR, sP, uI, uJ, uR, up2]
          | 7, _, hn2 => first | rfl | simp [C, sN, sI, sJ, sR, sP, uI, uJ, uR, up2]
          | 8, _, hn2 => first | rfl | simp [C, sN, sI, sJ, sR, sP, uI, uJ, uR, up2]
          | 9, _, hn2 => first | rfl | simp [C, sN, sI, sJ, sR, sP, uI, uJ, uR, up2]
          | 10, _, hn2 => first | rfl | simp [C, sN, sI, sJ, sR, sP, uI, uJ, uR, up2]
          | 11, _, hn2 => first | rfl | simp [C, sN, sI, sJ, sR, sP, uI, uJ, uR, up2]
          | 12, _, hn2 => first | rfl | simp [C, sN, sI, sJ, sR, sP, uI, uJ, uR, up2]
          | 13, _, hn2 => first | rfl | simp [C, sN, sI, sJ, sR, sP, uI, uJ, uR, up2]
          | 14, _, hn2 => exact absurd rfl hn2
          | 15, _, hn2 => first | rfl | simp [C, sN, sI, sJ, sR, sP, uI, uJ, uR, up2]
          | 16, _, hn2 => first | rfl | simp [C, sN, sI, sJ, sR, sP, uI, uJ, uR, up2]
          | 17, _, hn2 => first | rfl | simp [C, sN, sI, sJ, sR, sP, uI, uJ, uR, up2]
          | 18, _, hn2 => first | rfl | simp [C, sN, sI, sJ, sR, sP, uI, uJ, uR, up2]
          | 19, _, hn2 => first | rfl | simp [C, sN, sI, sJ, sR, sP, uI, uJ, uR, up2]
          | 20, _, hn2 => first | rfl | simp [C, sN, sI, sJ, sR, sP, uI, uJ, uR, up2]
          | 21, _, hn2 => first | rfl | simp [C, sN, sI, sJ, sR, sP, uI, uJ, uR, up2]
          | 22, _, hn2 => first | rfl | simp [C, sN, sI, sJ, sR, sP, uI, uJ, uR, up2]
          | n + 23, hn1, _ => exact absurd hn1 (by omega)
        exact hc k2 hk hk2
    · exact False.elim (by
        obtain ⟨n, rfl⟩ : ∃ n, k2 = n + 23 := ⟨k2 - 23, by omega⟩
        exact hv)
  · simp [C, sN, sI, sJ, sR, sP, uI, uJ, uR, up2]
theorem put_low_14 (hx : p.tables.exec = Jvm.exec) (hb : c.code = cc) (hts : ∀ w ∈ Ts, w.before args s = true) (hin : ∀ w ∈ u_ws RX5 TX5 2, w ∈ Ts) (hown : s.vm.findClass own = some m.cls) (hK : va_K D vwCl (gT tA) s) (hP : va_P D vwCl (va_pl L f) H) (hD : va_D A (va_pl L f)) (hS : va_S A H0 H locs) (hR : Rep tA S ad L f) (hi : V S 14 i) (hlink : (Cond.fieldLink own index (TX5 0).1 (TX5 0).2.1 (TX5 0).2.2.1).before args s = true) {v : Int64} (hdg : decode cc pc = .ok (.putfield index, 3))
    (kk : ∀ (H1 : Heap) (locs1 : List Loc) (f2 : Nat → va_E), va_P D vwCl (va_pl L f2) H1 → va_D A (va_pl L f2) → va_S A H0 H1 locs1 → Rep tA (uJ S 28 i v) ad L f2 → W p l e R s m args below meth c H1 locs1 cells slots Q (F0 m (pc + 3) ls rest)) : W p l e R s m args below meth c H locs cells slots Q (F0 m pc ls (.long v :: .ref (ad 14 i) :: rest)) := by
  obtain ⟨q, hq⟩ := cell_14 hR hi
  obtain ⟨f2, h2, hR2⟩ := rep_low_14 hR hD hi hq v
  exact va_put (D := D) (ci := 7) (v := .long v) (ty := .long) (C := RX5) (T := TX5) (N := 2) hx hb hts hin tyX5 tyX5_ok nmX5 hown hK hP hD hS q hq rfl 0 (by decide) hlink (fun _ h9 => h9) rfl (by decide +kernel) rfl rfl (Nat.le_of_ble_eq_true rfl) hdg (fun H1 locs1 h3 h4 h5 => by
    rw [h2] at h3 h4
    exact kk H1 locs1 f2 h3 h4 h5 hR2)
theorem rep_high_14 (h : Rep tA S ad L f) (hD : va_D A (va_pl L f)) {q : Nat} (hi : V S 14 i) (hq : (va_pl L f)[q]? = some (ad 14 i, C tA S ad 14 i)) (v : Int64) : ∃ f2 : Nat → va_E, (va_pl L f).set q (ad 14 i, .inr (7, ([.long (sJ S 28 i), .long (sJ S 29 i)] : List Value).set 1 (.long v))) = va_pl L f2 ∧ Rep tA (uJ S 29 i v) ad L f2 := by
  refine h.put hD (k := 14) hi hq (fun _ _ h => h) (fun k2 i2 hv hn => ?_) ?_
  · rcases Nat.lt_or_ge k2 23 with hk | hk
    · by_cases hk2 : k2 = 14
      · subst hk2
        have hi2 : i2 ≠ i := fun q => hn ⟨rfl, q⟩
        simp [C, sN, sI, sJ, sR, sP, uI, uJ, uR, up2, hi2]
      · have hc : ∀ n : Nat, n < 23 → n ≠ 14 → C tA (uJ S 29 i v) ad n i2 = C tA S ad n i2 := by
          intro n hn1 hn2
          match n, hn1, hn2 with
          | 0, _, hn2 => first | rfl | simp [C, sN, sI, sJ, sR, sP, uI, uJ, uR, up2]
          | 1, _, hn2 => first | rfl | simp [C, sN, sI, sJ, sR, sP, uI, uJ, uR, up2]
          | 2, _, hn2 => first | rfl | simp [C, sN, sI, sJ, sR, sP, uI, uJ, uR, up2]
          | 3, _, hn2 => first | rfl | simp [C, sN, sI, sJ, sR, sP, uI, uJ, uR, up2]
          | 4, _, hn2 => first | rfl | simp [C, sN, sI, sJ, sR, sP, uI, uJ, uR, up2]
          | 5, _, hn2 => first | rfl | simp [C, sN, sI, sJ, sR, sP, uI, uJ, uR, up2]
          | 6, _, hn2 => first | rfl | simp [C, sN, sI, sJ, sR, sP, uI, uJ, uR, up2]
          | 7, _, hn2 => first | rfl | simp [C, sN, sI, sJ, sR, sP, uI, uJ, uR, up2]
          | 8, _, hn2 => first | rfl | simp [C, sN, sI, sJ, sR, sP, uI, uJ, uR, up2]
          | 9, _, hn2 => first | rfl | simp [C, sN, sI, sJ, sR, sP, uI, uJ, uR, up2]
          | 10, _, hn2 => first | rfl | simp [C, sN, sI, sJ, sR, sP, uI, uJ, uR, up2]
          | 11, _, hn2 => first | rfl | simp [C, sN, sI, sJ, sR, sP, uI, uJ, uR, up2]
          | 12, _, hn2 => first | rfl | simp [C, sN, sI, sJ, sR, sP, uI, uJ, uR, up2]
          | 13, _, hn2 => first | rfl | simp [C, sN, sI, sJ, sR, sP, uI, uJ, uR, up2]
          | 14, _, hn2 => exact absurd rfl hn2
          | 15, _, hn2 => first | rfl | simp [C, sN, sI, sJ, sR, sP, uI, uJ, uR, up2]
          | 16, _, hn2 => first | rfl | simp [C, sN, sI, sJ, sR, sP, uI, uJ, uR, up2]
          | 17, _, hn2 => first | rfl | simp [C, sN, sI, sJ, sR, sP, uI, uJ, uR, up2]
          | 18, _, hn2 => first | rfl | simp [C, sN, sI, sJ, sR, sP, uI, uJ, uR, up2]
          | 19, _, hn2 => first | rfl | simp [C, sN, sI, sJ, sR, sP, uI, uJ, uR, up2]
          | 20, _, hn2 => first | rfl | simp [C, sN, sI, sJ, sR, sP, uI, uJ, uR, up2]
          | 21, _, hn2 => first | rfl | simp [C, sN, sI, sJ, sR, sP, uI, uJ, uR, up2]
          | 22, _, hn2 => first | rfl | simp [C, sN, sI, sJ, sR, sP, uI, uJ, uR, up2]
          | n + 23, hn1, _ => exact absurd hn1 (by omega)
        exact hc k2 hk hk2
    · exact False.elim (by
        obtain ⟨n, rfl⟩ : ∃ n, k2 = n + 23 := ⟨k2 - 23, by omega⟩
        exact hv)
  · simp [C, sN, sI, sJ, sR, sP, uI, uJ, uR, up2]
theorem put_high_14 (hx : p.tables.exec = Jvm.exec) (hb : c.code = cc) (hts : ∀ w ∈ Ts, w.before args s = true) (hin : ∀ w ∈ u_ws RX5 TX5 2, w ∈ Ts) (hown : s.vm.findClass own = some m.cls) (hK : va_K D vwCl (gT tA) s) (hP : va_P D vwCl (va_pl L f) H) (hD : va_D A (va_pl L f)) (hS : va_S A H0 H locs) (hR : Rep tA S ad L f) (hi : V S 14 i) (hlink : (Cond.fieldLink own index (TX5 1).1 (TX5 1).2.1 (TX5 1).2.2.1).before args s = true) {v : Int64} (hdg : decode cc pc = .ok (.putfield index, 3))
    (kk : ∀ (H1 : Heap) (locs1 : List Loc) (f2 : Nat → va_E), va_P D vwCl (va_pl L f2) H1 → va_D A (va_pl L f2) → va_S A H0 H1 locs1 → Rep tA (uJ S 29 i v) ad L f2 → W p l e R s m args below meth c H1 locs1 cells slots Q (F0 m (pc + 3) ls rest)) : W p l e R s m args below meth c H locs cells slots Q (F0 m pc ls (.long v :: .ref (ad 14 i) :: rest)) := by
  obtain ⟨q, hq⟩ := cell_14 hR hi
  obtain ⟨f2, h2, hR2⟩ := rep_high_14 hR hD hi hq v
  exact va_put (D := D) (ci := 7) (v := .long v) (ty := .long) (C := RX5) (T := TX5) (N := 2) hx hb hts hin tyX5 tyX5_ok nmX5 hown hK hP hD hS q hq rfl 1 (by decide) hlink (fun _ h9 => h9) rfl (by decide +kernel) rfl rfl (Nat.le_of_ble_eq_true rfl) hdg (fun H1 locs1 h3 h4 h5 => by
    rw [h2] at h3 h4
    exact kk H1 locs1 f2 h3 h4 h5 hR2)
theorem cell_15 (h : Rep tA S ad L f) (hi : V S 15 i) : ∃ q : Nat, (va_pl L f)[q]? = some (ad 15 i, .inl (tA 1, 5, .inr (.inr (.inr (.inr (fun j => if j < sN S 0 0 then some (ad 1 j) else none)))))) := h.get (k := 15) hi
theorem len_machines (hx : p.tables.exec = Jvm.exec) (hb : c.code = cc) (hK : va_K D vwCl (gT tA) s) (hP : va_P D vwCl (va_pl L f) H) (hR : Rep tA S ad L f) (hi : V S 15 i) (hdg : decode cc pc = .ok (.arraylength, 1))
    (kk : W p l e R s m args below meth c H locs cells slots Q (F0 m (pc + 1) ls (.int 5 :: rest))) : W p l e R s m args below meth c H locs cells slots Q (F0 m pc ls (.ref (ad 15 i) :: rest)) := by
  obtain ⟨q, hq⟩ := cell_15 hR hi
  exact va_alen hx hb hK hP q 1 hq rfl rfl hdg kk
theorem ld_machines (hx : p.tables.exec = Jvm.exec) (hb : c.code = cc) (hK : va_K D vwCl (gT tA) s) (hP : va_P D vwCl (va_pl L f) H) (hR : Rep tA S ad L f) (hi : V S 15 i) {j : Int32} (hj : vp_in j 5) (hdg : decode cc pc = .ok (.aaload, 1))
    (kk : W p l e R s m args below meth c H locs cells slots Q (F0 m (pc + 1) ls (rf ad 1 (if j.toNatClampNeg < sN S 0 0 then some j.toNatClampNeg else none) :: rest))) : W p l e R s m args below meth c H locs cells slots Q (F0 m pc ls (.int j :: .ref (ad 15 i) :: rest)) := by
  obtain ⟨q, hq⟩ := cell_15 hR hi
  refine va_aldq hx hb hK hP q 1 hq rfl hj hdg ?_
  have he : rf ad 1 (if j.toNatClampNeg < sN S 0 0 then some j.toNatClampNeg else none) = va_rf ((fun j => if j < sN S 0 0 then some (ad 1 j) else none) j.toNatClampNeg) := by
    show va_rf _ = va_rf _
    congr 1
    show Option.map _ _ = ite _ _ _
    split <;> rfl
  rw [← he]
  exact kk
theorem cell_16 (h : Rep tA S ad L f) (hi : V S 16 i) : ∃ q : Nat, (va_pl L f)[q]? = some (ad 16 i, .inl (tA 2, 12, .inr (.inr (.inr (.inr (fun j => if j < sN S 1 0 then some (ad 2 j) else none)))))) := h.get (k := 16) hi
theorem len_parts (hx : p.tables.exec = Jvm.exec) (hb : c.code = cc) (hK : va_K D vwCl (gT tA) s) (hP : va_P D vwCl (va_pl L f) H) (hR : Rep tA S ad L f) (hi : V S 16 i) (hdg : decode cc pc = .ok (.arraylength, 1))
    (kk : W p l e R s m args below meth c H locs cells slots Q (F0 m (pc + 1) ls (.int 12 :: rest))) : W p l e R s m args below meth c H locs cells slots Q (F0 m pc ls (.ref (ad 16 i) :: rest)) := by
  obtain ⟨q, hq⟩ := cell_16 hR hi
  exact va_alen hx hb hK hP q 2 hq rfl rfl hdg kk
theorem ld_parts (hx : p.tables.exec = Jvm.exec) (hb : c.code = cc) (hK : va_K D vwCl (gT tA) s) (hP : va_P D vwCl (va_pl L f) H) (hR : Rep tA S ad L f) (hi : V S 16 i) {j : Int32} (hj : vp_in j 12) (hdg : decode cc pc = .ok (.aaload, 1))
    (kk : W p l e R s m args below meth c H locs cells slots Q (F0 m (pc + 1) ls (rf ad 2 (if j.toNatClampNeg < sN S 1 0 then some j.toNatClampNeg else none) :: rest))) : W p l e R s m args below meth c H locs cells slots Q (F0 m pc ls (.int j :: .ref (ad 16 i) :: rest)) := by
  obtain ⟨q, hq⟩ := cell_16 hR hi
  refine va_aldq hx hb hK hP q 2 hq rfl hj hdg ?_
  have he : rf ad 2 (if j.toNatClampNeg < sN S 1 0 then some j.toNatClampNeg else none) = va_rf ((fun j => if j < sN S 1 0 then some (ad 2 j) else none) j.toNatClampNeg) := by
    show va_rf _ = va_rf _
    congr 1
    show Option.map _ _ = ite _ _ _
    split <;> rfl
  rw [← he]
  exact kk
theorem cell_17 (h : Rep tA S ad L f) (hi : V S 17 i) : ∃ q : Nat, (va_pl L f)[q]? = some (ad 17 i, .inl (tA 3, 4, .inr (.inr (.inr (.inr (fun j => if j < 4 then some (ad 6 j) else none)))))) := h.get (k := 17) hi
theorem len_suppliers (hx : p.tables.exec = Jvm.exec) (hb : c.code = cc) (hK : va_K D vwCl (gT tA) s) (hP : va_P D vwCl (va_pl L f) H) (hR : Rep tA S ad L f) (hi : V S 17 i) (hdg : decode cc pc = .ok (.arraylength, 1))
    (kk : W p l e R s m args below meth c H locs cells slots Q (F0 m (pc + 1) ls (.int 4 :: rest))) : W p l e R s m args below meth c H locs cells slots Q (F0 m pc ls (.ref (ad 17 i) :: rest)) := by
  obtain ⟨q, hq⟩ := cell_17 hR hi
  exact va_alen hx hb hK hP q 3 hq rfl rfl hdg kk
theorem ld_suppliers (hx : p.tables.exec = Jvm.exec) (hb : c.code = cc) (hK : va_K D vwCl (gT tA) s) (hP : va_P D vwCl (va_pl L f) H) (hR : Rep tA S ad L f) (hi : V S 17 i) {j : Int32} (hj : vp_in j 4) (hdg : decode cc pc = .ok (.aaload, 1))
    (kk : W p l e R s m args below meth c H locs cells slots Q (F0 m (pc + 1) ls (rf ad 6 (if j.toNatClampNeg < 4 then some j.toNatClampNeg else none) :: rest))) : W p l e R s m args below meth c H locs cells slots Q (F0 m pc ls (.int j :: .ref (ad 17 i) :: rest)) := by
  obtain ⟨q, hq⟩ := cell_17 hR hi
  refine va_aldq hx hb hK hP q 3 hq rfl hj hdg ?_
  have he : rf ad 6 (if j.toNatClampNeg < 4 then some j.toNatClampNeg else none) = va_rf ((fun j => if j < 4 then some (ad 6 j) else none) j.toNatClampNeg) := by
    show va_rf _ = va_rf _
    congr 1
    show Option.map _ _ = ite _ _ _
    split <;> rfl
  rw [← he]
  exact kk
theorem cell_18 (h : Rep tA S ad L f) (hi : V S 18 i) : ∃ q : Nat, (va_pl L f)[q]? = some (ad 18 i, .inl (tA 4, 90, .inr (.inr (.inr (.inr (fun j => if j < sN S 2 0 then some (ad 7 j) else none)))))) := h.get (k := 18) hi
theorem len_lots (hx : p.tables.exec = Jvm.exec) (hb : c.code = cc) (hK : va_K D vwCl (gT tA) s) (hP : va_P D vwCl (va_pl L f) H) (hR : Rep tA S ad L f) (hi : V S 18 i) (hdg : decode cc pc = .ok (.arraylength, 1))
    (kk : W p l e R s m args below meth c H locs cells slots Q (F0 m (pc + 1) ls (.int 90 :: rest))) : W p l e R s m args below meth c H locs cells slots Q (F0 m pc ls (.ref (ad 18 i) :: rest)) := by
  obtain ⟨q, hq⟩ := cell_18 hR hi
  exact va_alen hx hb hK hP q 4 hq rfl rfl hdg kk
theorem ld_lots (hx : p.tables.exec = Jvm.exec) (hb : c.code = cc) (hK : va_K D vwCl (gT tA) s) (hP : va_P D vwCl (va_pl L f) H) (hR : Rep tA S ad L f) (hi : V S 18 i) {j : Int32} (hj : vp_in j 90) (hdg : decode cc pc = .ok (.aaload, 1))
    (kk : W p l e R s m args below meth c H locs cells slots Q (F0 m (pc + 1) ls (rf ad 7 (if j.toNatClampNeg < sN S 2 0 then some j.toNatClampNeg else none) :: rest))) : W p l e R s m args below meth c H locs cells slots Q (F0 m pc ls (.int j :: .ref (ad 18 i) :: rest)) := by
  obtain ⟨q, hq⟩ := cell_18 hR hi
  refine va_aldq hx hb hK hP q 4 hq rfl hj hdg ?_
  have he : rf ad 7 (if j.toNatClampNeg < sN S 2 0 then some j.toNatClampNeg else none) = va_rf ((fun j => if j < sN S 2 0 then some (ad 7 j) else none) j.toNatClampNeg) := by
    show va_rf _ = va_rf _
    congr 1
    show Option.map _ _ = ite _ _ _
    split <;> rfl
  rw [← he]
  exact kk
theorem cell_19 (h : Rep tA S ad L f) (hi : V S 19 i) : ∃ q : Nat, (va_pl L f)[q]? = some (ad 19 i, .inl (tA 5, 30, .inr (.inr (.inr (.inr (fun j => if j < sN S 3 0 then some (ad 11 j) else none)))))) := h.get (k := 19) hi
theorem len_orders (hx : p.tables.exec = Jvm.exec) (hb : c.code = cc) (hK : va_K D vwCl (gT tA) s) (hP : va_P D vwCl (va_pl L f) H) (hR : Rep tA S ad L f) (hi : V S 19 i) (hdg : decode cc pc = .ok (.arraylength, 1))
    (kk : W p l e R s m args below meth c H locs cells slots Q (F0 m (pc + 1) ls (.int 30 :: rest))) : W p l e R s m args below meth c H locs cells slots Q (F0 m pc ls (.ref (ad 19 i) :: rest)) := by
  obtain ⟨q, hq⟩ := cell_19 hR hi
  exact va_alen hx hb hK hP q 5 hq rfl rfl hdg kk
theorem ld_orders (hx : p.tables.exec = Jvm.exec) (hb : c.code = cc) (hK : va_K D vwCl (gT tA) s) (hP : va_P D vwCl (va_pl L f) H) (hR : Rep tA S ad L f) (hi : V S 19 i) {j : Int32} (hj : vp_in j 30) (hdg : decode cc pc = .ok (.aaload, 1))
    (kk : W p l e R s m args below meth c H locs cells slots Q (F0 m (pc + 1) ls (rf ad 11 (if j.toNatClampNeg < sN S 3 0 then some j.toNatClampNeg else none) :: rest))) : W p l e R s m args below meth c H locs cells slots Q (F0 m pc ls (.int j :: .ref (ad 19 i) :: rest)) := by
  obtain ⟨q, hq⟩ := cell_19 hR hi
  refine va_aldq hx hb hK hP q 5 hq rfl hj hdg ?_
  have he : rf ad 11 (if j.toNatClampNeg < sN S 3 0 then some j.toNatClampNeg else none) = va_rf ((fun j => if j < sN S 3 0 then some (ad 11 j) else none) j.toNatClampNeg) := by
    show va_rf _ = va_rf _
    congr 1
    show Option.map _ _ = ite _ _ _
    split <;> rfl
  rw [← he]
  exact kk
theorem cell_20 (h : Rep tA S ad L f) (hi : V S 20 i) : ∃ q : Nat, (va_pl L f)[q]? = some (ad 20 i, .inl (tA 6, 4, .inr (.inr (.inr (.inr (fun j => if j < sN S 4 i then some (ad 4 (4 * i + j)) else none)))))) := h.get (k := 20) hi
theorem len_components (hx : p.tables.exec = Jvm.exec) (hb : c.code = cc) (hK : va_K D vwCl (gT tA) s) (hP : va_P D vwCl (va_pl L f) H) (hR : Rep tA S ad L f) (hi : V S 20 i) (hdg : decode cc pc = .ok (.arraylength, 1))
    (kk : W p l e R s m args below meth c H locs cells slots Q (F0 m (pc + 1) ls (.int 4 :: rest))) : W p l e R s m args below meth c H locs cells slots Q (F0 m pc ls (.ref (ad 20 i) :: rest)) := by
  obtain ⟨q, hq⟩ := cell_20 hR hi
  exact va_alen hx hb hK hP q 6 hq rfl rfl hdg kk
theorem ld_components (hx : p.tables.exec = Jvm.exec) (hb : c.code = cc) (hK : va_K D vwCl (gT tA) s) (hP : va_P D vwCl (va_pl L f) H) (hR : Rep tA S ad L f) (hi : V S 20 i) {j : Int32} (hj : vp_in j 4) (hdg : decode cc pc = .ok (.aaload, 1))
    (kk : W p l e R s m args below meth c H locs cells slots Q (F0 m (pc + 1) ls (rf ad 4 (if j.toNatClampNeg < sN S 4 i then some (4 * i + j.toNatClampNeg) else none) :: rest))) : W p l e R s m args below meth c H locs cells slots Q (F0 m pc ls (.int j :: .ref (ad 20 i) :: rest)) := by
  obtain ⟨q, hq⟩ := cell_20 hR hi
  refine va_aldq hx hb hK hP q 6 hq rfl hj hdg ?_
  have he : rf ad 4 (if j.toNatClampNeg < sN S 4 i then some (4 * i + j.toNatClampNeg) else none) = va_rf ((fun j => if j < sN S 4 i then some (ad 4 (4 * i + j)) else none) j.toNatClampNeg) := by
    show va_rf _ = va_rf _
    congr 1
    show Option.map _ _ = ite _ _ _
    split <;> rfl
  rw [← he]
  exact kk
theorem cell_21 (h : Rep tA S ad L f) (hi : V S 21 i) : ∃ q : Nat, (va_pl L f)[q]? = some (ad 21 i, .inl (tA 7, 3, .inr (.inr (.inr (.inr (fun j => if j < sN S 5 i then some (ad 5 (4 * i + j)) else none)))))) := h.get (k := 21) hi
theorem len_operations (hx : p.tables.exec = Jvm.exec) (hb : c.code = cc) (hK : va_K D vwCl (gT tA) s) (hP : va_P D vwCl (va_pl L f) H) (hR : Rep tA S ad L f) (hi : V S 21 i) (hdg : decode cc pc = .ok (.arraylength, 1))
    (kk : W p l e R s m args below meth c H locs cells slots Q (F0 m (pc + 1) ls (.int 3 :: rest))) : W p l e R s m args below meth c H locs cells slots Q (F0 m pc ls (.ref (ad 21 i) :: rest)) := by
  obtain ⟨q, hq⟩ := cell_21 hR hi
  exact va_alen hx hb hK hP q 7 hq rfl rfl hdg kk
theorem ld_operations (hx : p.tables.exec = Jvm.exec) (hb : c.code = cc) (hK : va_K D vwCl (gT tA) s) (hP : va_P D vwCl (va_pl L f) H) (hR : Rep tA S ad L f) (hi : V S 21 i) {j : Int32} (hj : vp_in j 3) (hdg : decode cc pc = .ok (.aaload, 1))
    (kk : W p l e R s m args below meth c H locs cells slots Q (F0 m (pc + 1) ls (rf ad 5 (if j.toNatClampNeg < sN S 5 i then some (4 * i + j.toNatClampNeg) else none) :: rest))) : W p l e R s m args below meth c H locs cells slots Q (F0 m pc ls (.int j :: .ref (ad 21 i) :: rest)) := by
  obtain ⟨q, hq⟩ := cell_21 hR hi
  refine va_aldq hx hb hK hP q 7 hq rfl hj hdg ?_
  have he : rf ad 5 (if j.toNatClampNeg < sN S 5 i then some (4 * i + j.toNatClampNeg) else none) = va_rf ((fun j => if j < sN S 5 i then some (ad 5 (4 * i + j)) else none) j.toNatClampNeg) := by
    show va_rf _ = va_rf _
    congr 1
    show Option.map _ _ = ite _ _ _
    split <;> rfl
  rw [← he]
  exact kk
theorem cell_22 (h : Rep tA S ad L f) (hi : V S 22 i) : ∃ q : Nat, (va_pl L f)[q]? = some (ad 22 i, .inl (tA 0, 90, .inl (fun j => sP S i j))) := h.get (k := 22) hi
theorem len_pieces (hx : p.tables.exec = Jvm.exec) (hb : c.code = cc) (hK : va_K D vwCl (gT tA) s) (hP : va_P D vwCl (va_pl L f) H) (hR : Rep tA S ad L f) (hi : V S 22 i) (hdg : decode cc pc = .ok (.arraylength, 1))
    (kk : W p l e R s m args below meth c H locs cells slots Q (F0 m (pc + 1) ls (.int 90 :: rest))) : W p l e R s m args below meth c H locs cells slots Q (F0 m pc ls (.ref (ad 22 i) :: rest)) := by
  obtain ⟨q, hq⟩ := cell_22 hR hi
  exact va_alen hx hb hK hP q 0 hq rfl rfl hdg kk
theorem ldn_machines (hx : p.tables.exec = Jvm.exec) (hb : c.code = cc) (hK : va_K D vwCl (gT tA) s) (hP : va_P D vwCl (va_pl L f) H) (hR : Rep tA S ad L f) (hi : V S 15 i) {j : Nat} (hj : j < 5) (hdg : decode cc pc = .ok (.aaload, 1))
    (k1 : j < sN S 0 0 → W p l e R s m args below meth c H locs cells slots Q (F0 m (pc + 1) ls (.ref (ad 1 j) :: rest))) (k2 : ¬ j < sN S 0 0 → W p l e R s m args below meth c H locs cells slots Q (F0 m (pc + 1) ls (.null :: rest))) : W p l e R s m args below meth c H locs cells slots Q (F0 m pc ls (.int (nI j) :: .ref (ad 15 i) :: rest)) := by
  refine ld_machines hx hb hK hP hR hi (nI_in hj (by decide)) hdg ?_
  rw [nI_clamp (by omega)]
  by_cases h : j < sN S 0 0
  · rw [if_pos h, rf_some]; exact k1 h
  · rw [if_neg h, rf_none]; exact k2 h
theorem ldn_parts (hx : p.tables.exec = Jvm.exec) (hb : c.code = cc) (hK : va_K D vwCl (gT tA) s) (hP : va_P D vwCl (va_pl L f) H) (hR : Rep tA S ad L f) (hi : V S 16 i) {j : Nat} (hj : j < 12) (hdg : decode cc pc = .ok (.aaload, 1))
    (k1 : j < sN S 1 0 → W p l e R s m args below meth c H locs cells slots Q (F0 m (pc + 1) ls (.ref (ad 2 j) :: rest))) (k2 : ¬ j < sN S 1 0 → W p l e R s m args below meth c H locs cells slots Q (F0 m (pc + 1) ls (.null :: rest))) : W p l e R s m args below meth c H locs cells slots Q (F0 m pc ls (.int (nI j) :: .ref (ad 16 i) :: rest)) := by
  refine ld_parts hx hb hK hP hR hi (nI_in hj (by decide)) hdg ?_
  rw [nI_clamp (by omega)]
  by_cases h : j < sN S 1 0
  · rw [if_pos h, rf_some]; exact k1 h
  · rw [if_neg h, rf_none]; exact k2 h
theorem ldn_suppliers (hx : p.tables.exec = Jvm.exec) (hb : c.code = cc) (hK : va_K D vwCl (gT tA) s) (hP : va_P D vwCl (va_pl L f) H) (hR : Rep tA S ad L f) (hi : V S 17 i) {j : Nat} (hj : j < 4) (hdg : decode cc pc = .ok (.aaload, 1))
    (k1 : j < 4 → W p l e R s m args below meth c H locs cells slots Q (F0 m (pc + 1) ls (.ref (ad 6 j) :: rest))) (k2 : ¬ j < 4 → W p l e R s m args below meth c H locs cells slots Q (F0 m (pc + 1) ls (.null :: rest))) : W p l e R s m args below meth c H locs cells slots Q (F0 m pc ls (.int (nI j) :: .ref (ad 17 i) :: rest)) := by
  refine ld_suppliers hx hb hK hP hR hi (nI_in hj (by decide)) hdg ?_
  rw [nI_clamp (by omega)]
  by_cases h : j < 4
  · rw [if_pos h, rf_some]; exact k1 h
  · rw [if_neg h, rf_none]; exact k2 h
theorem ldn_lots (hx : p.tables.exec = Jvm.exec) (hb : c.code = cc) (hK : va_K D vwCl (gT tA) s) (hP : va_P D vwCl (va_pl L f) H) (hR : Rep tA S ad L f) (hi : V S 18 i) {j : Nat} (hj : j < 90) (hdg : decode cc pc = .ok (.aaload, 1))
    (k1 : j < sN S 2 0 → W p l e R s m args below meth c H locs cells slots Q (F0 m (pc + 1) ls (.ref (ad 7 j) :: rest))) (k2 : ¬ j < sN S 2 0 → W p l e R s m args below meth c H locs cells slots Q (F0 m (pc + 1) ls (.null :: rest))) : W p l e R s m args below meth c H locs cells slots Q (F0 m pc ls (.int (nI j) :: .ref (ad 18 i) :: rest)) := by
  refine ld_lots hx hb hK hP hR hi (nI_in hj (by decide)) hdg ?_
  rw [nI_clamp (by omega)]
  by_cases h : j < sN S 2 0
  · rw [if_pos h, rf_some]; exact k1 h
  · rw [if_neg h, rf_none]; exact k2 h
theorem ldn_orders (hx : p.tables.exec = Jvm.exec) (hb : c.code = cc) (hK : va_K D vwCl (gT tA) s) (hP : va_P D vwCl (va_pl L f) H) (hR : Rep tA S ad L f) (hi : V S 19 i) {j : Nat} (hj : j < 30) (hdg : decode cc pc = .ok (.aaload, 1))
    (k1 : j < sN S 3 0 → W p l e R s m args below meth c H locs cells slots Q (F0 m (pc + 1) ls (.ref (ad 11 j) :: rest))) (k2 : ¬ j < sN S 3 0 → W p l e R s m args below meth c H locs cells slots Q (F0 m (pc + 1) ls (.null :: rest))) : W p l e R s m args below meth c H locs cells slots Q (F0 m pc ls (.int (nI j) :: .ref (ad 19 i) :: rest)) := by
  refine ld_orders hx hb hK hP hR hi (nI_in hj (by decide)) hdg ?_
  rw [nI_clamp (by omega)]
  by_cases h : j < sN S 3 0
  · rw [if_pos h, rf_some]; exact k1 h
  · rw [if_neg h, rf_none]; exact k2 h
theorem ldn_components (hx : p.tables.exec = Jvm.exec) (hb : c.code = cc) (hK : va_K D vwCl (gT tA) s) (hP : va_P D vwCl (va_pl L f) H) (hR : Rep tA S ad L f) (hi : V S 20 i) {j : Nat} (hj : j < 4) (hdg : decode cc pc = .ok (.aaload, 1))
    (k1 : j < sN S 4 i → W p l e R s m args below meth c H locs cells slots Q (F0 m (pc + 1) ls (.ref (ad 4 (4 * i + j)) :: rest))) (k2 : ¬ j < sN S 4 i → W p l e R s m args below meth c H locs cells slots Q (F0 m (pc + 1) ls (.null :: rest))) : W p l e R s m args below meth c H locs cells slots Q (F0 m pc ls (.int (nI j) :: .ref (ad 20 i) :: rest)) := by
  refine ld_components hx hb hK hP hR hi (nI_in hj (by decide)) hdg ?_
  rw [nI_clamp (by omega)]
  by_cases h : j < sN S 4 i
  · rw [if_pos h, rf_some]; exact k1 h
  · rw [if_neg h, rf_none]; exact k2 h
theorem ldn_operations (hx : p.tables.exec = Jvm.exec) (hb : c.code = cc) (hK : va_K D vwCl (gT tA) s) (hP : va_P D vwCl (va_pl L f) H) (hR : Rep tA S ad L f) (hi : V S 21 i) {j : Nat} (hj : j < 3) (hdg : decode cc pc = .ok (.aaload, 1))
    (k1 : j < sN S 5 i → W p l e R s m args below meth c H locs cells slots Q (F0 m (pc + 1) ls (.ref (ad 5 (4 * i + j)) :: rest))) (k2 : ¬ j < sN S 5 i → W p l e R s m args below meth c H locs cells slots Q (F0 m (pc + 1) ls (.null :: rest))) : W p l e R s m args below meth c H locs cells slots Q (F0 m pc ls (.int (nI j) :: .ref (ad 21 i) :: rest)) := by
  refine ld_operations hx hb hK hP hR hi (nI_in hj (by decide)) hdg ?_
  rw [nI_clamp (by omega)]
  by_cases h : j < sN S 5 i
  · rw [if_pos h, rf_some]; exact k1 h
  · rw [if_neg h, rf_none]; exact k2 h
theorem ld_pieces (hx : p.tables.exec = Jvm.exec) (hb : c.code = cc) (hK : va_K D vwCl (gT tA) s) (hP : va_P D vwCl (va_pl L f) H) (hR : Rep tA S ad L f) (hi : V S 22 i) {j : Nat} (hj : j < 90) (hdg : decode cc pc = .ok (.iaload, 1))
    (kk : W p l e R s m args below meth c H locs cells slots Q (F0 m (pc + 1) ls (.int (sP S i j) :: rest))) : W p l e R s m args below meth c H locs cells slots Q (F0 m pc ls (.int (nI j) :: .ref (ad 22 i) :: rest)) := by
  obtain ⟨q, hq⟩ := cell_22 hR hi
  refine va_iald hx hb hK hP q 0 hq rfl (nI_in hj (by decide)) hdg ?_
  rw [nI_clamp (by omega)]
  exact kk
theorem rep_pieces (h : Rep tA S ad L f) (hD : va_D A (va_pl L f)) {q : Nat} (hi : V S 22 i) (hq : (va_pl L f)[q]? = some (ad 22 i, C tA S ad 22 i)) (j : Nat) (v : Int32) : ∃ f2 : Nat → va_E, (va_pl L f).set q (ad 22 i, .inl (tA 0, 90, .inl (upd (fun j => sP S i j) j v))) = va_pl L f2 ∧ Rep tA (uP S i j v) ad L f2 := by
  refine h.put hD (k := 22) hi hq (fun _ _ h => h) (fun k2 i2 hv hn => ?_) ?_
  · rcases Nat.lt_or_ge k2 23 with hk | hk
    · by_cases hk2 : k2 = 22
      · subst hk2
        have hi2 : i2 ≠ i := fun q => hn ⟨rfl, q⟩
        simp [C, sP, uP, up2, hi2]
      · have hc : ∀ n : Nat, n < 23 → n ≠ 22 → C tA (uP S i j v) ad n i2 = C tA S ad n i2 := by
          intro n hn1 hn2
          match n, hn1, hn2 with
          | 0, _, hn2 => rfl
          | 1, _, hn2 => rfl
          | 2, _, hn2 => rfl
          | 3, _, hn2 => rfl
          | 4, _, hn2 => rfl
          | 5, _, hn2 => rfl
          | 6, _, hn2 => rfl
          | 7, _, hn2 => rfl
          | 8, _, hn2 => rfl
          | 9, _, hn2 => rfl
          | 10, _, hn2 => rfl
          | 11, _, hn2 => rfl
          | 12, _, hn2 => rfl
          | 13, _, hn2 => rfl
          | 14, _, hn2 => rfl
          | 15, _, hn2 => rfl
          | 16, _, hn2 => rfl
          | 17, _, hn2 => rfl
          | 18, _, hn2 => rfl
          | 19, _, hn2 => rfl
          | 20, _, hn2 => rfl
          | 21, _, hn2 => rfl
          | 22, _, hn2 => exact absurd rfl hn2
          | n + 23, hn1, _ => exact absurd hn1 (by omega)
        exact hc k2 hk hk2
    · exact False.elim (by
        obtain ⟨n, rfl⟩ : ∃ n, k2 = n + 23 := ⟨k2 - 23, by omega⟩
        exact hv)
  · show (Sum.inl _ : va_E) = Sum.inl _
    congr 4
    funext q
    simp [sP, uP, up2, upd]
theorem st_pieces (hx : p.tables.exec = Jvm.exec) (hb : c.code = cc) (hK : va_K D vwCl (gT tA) s) (hP : va_P D vwCl (va_pl L f) H) (hD : va_D A (va_pl L f)) (hS : va_S A H0 H locs) (hR : Rep tA S ad L f) (hi : V S 22 i) {j : Nat} {v : Int32} (hj : j < 90) (hdg : decode cc pc = .ok (.iastore, 1))
    (kk : ∀ (H1 : Heap) (locs1 : List Loc) (f2 : Nat → va_E), va_P D vwCl (va_pl L f2) H1 → va_D A (va_pl L f2) → va_S A H0 H1 locs1 → Rep tA (uP S i j v) ad L f2 → W p l e R s m args below meth c H1 locs1 cells slots Q (F0 m (pc + 1) ls rest)) : W p l e R s m args below meth c H locs cells slots Q (F0 m pc ls (.int v :: .int (nI j) :: .ref (ad 22 i) :: rest)) := by
  obtain ⟨q, hq⟩ := cell_22 hR hi
  obtain ⟨f2, h2, hR2⟩ := rep_pieces hR hD hi hq j v
  exact va_iast hx hb hK hP hD hS q 0 hq rfl (nI_in hj (by decide)) hdg (fun H1 locs1 h3 h4 h5 => by
    rw [nI_clamp (by omega), h2] at h3 h4
    exact kk H1 locs1 f2 h3 h4 h5 hR2)
end WR
