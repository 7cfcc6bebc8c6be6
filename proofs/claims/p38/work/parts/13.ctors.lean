/-! constructors, over raw cells (made by wip/gen/spec_f.py) -/
set_option maxHeartbeats 4000000 in
set_option maxRecDepth 100000 in
theorem c_X5_init (l : Launch) {D : va_G} {tA : Nat → ClassId} {L : List Nat} {f : Nat → va_E} {sz q : Nat} (hq : q ∈ L) (hf0 : f q = .inr (7, [.long 0, .long 0]))  : Met l yX5_init (wsC yX5_init cX5_init 1 none) ({ frames := 1, cells := 0, slots := 0, locals := 20 }) (va_Pc [.ref q] (gZ D tA L f sz)) (va_Qv (fun u : gV => L = u.1 ∧ u.2 q = .inr (7, [.long 0, .long 0]) ∧ ∀ a, a ≠ q → u.2 a = f a) (gF D tA (va_A (va_pl L f) sz)) (va_A (va_pl L f) sz)) 0 0 (va_A (va_pl L f) sz) := by
  refine Met.ofW (cc := cX5_init) (maxL := 1) (ret := none) (by decide) rfl ?_
  intro p e s m args below meth c s₁ B hml hv
  obtain ⟨rfl, hsz, hP, hK, hD0⟩ := hv
  have hx := B.exec
  have hb := B.bytes
  have hr := B.returns
  have hts := atoms_spec (ws := wsC yX5_init cX5_init 1 none) B.pre
  have hta : ∀ w ∈ WA, w.before _ s = true := fun w h => hts w (List.mem_cons_of_mem _ h)
  have hown : s.vm.findClass RX5 = some m.cls := findClass_of_methodNamed B.named
  have hlocks := B.notSynchronized
  have hin : meth.name = "<init>" := (name_of_methodNamed B.named B.method).1
  subst hsz
  have hD : va_D (va_A (va_pl L f) s.heap.size) (va_pl L f) := hD0.self (sz := s.heap.size)
  generalize hAe : va_A (va_pl L f) s.heap.size = A at hD ⊢
  have hA : ∀ q : Nat, s.heap.size ≤ q → A q := fun q h => by rw [← hAe]; exact Or.inr h
  have hS : va_S A s.heap s.heap [] := va_S.rf
  have hP : va_P D vwCl (va_pl L f) s.heap := hP
  have hfr0 : ∀ a, a ∈ L → a ≠ q → f a = f a := fun _ _ _ => rfl
  have hsub0 : ∀ a, a ∈ L → a ∈ L := fun _ h => h
  have hdom0 : ∀ a, a ∈ L → a ∈ L := fun _ h => h
  have hl := lv_entry ([.ref q]) (n := 1) (Nat.le_of_ble_eq_true rfl)
  rw [lg_entry_eq]
  generalize (lg_sl ([.ref q]) ++ List.replicate (1 - (lg_sl ([.ref q])).length) Slot.unset).toArray = ls at hl ⊢
  have hl : lv_has ls 1 [(0, .ref q)] := hl
  refine lv_aload_n hx hb dX5_init_0 rfl (lv_at hl 0 rfl) ?_
  refine W.objInit hx hb hown (hta _ mw86) (hta _ mw75) (hta _ mw76) rfl (by rw [hml]; exact hl.1) rfl dX5_init_1 (Nat.le_of_ble_eq_true rfl) (Nat.le_of_ble_eq_true rfl) ?_
  refine W.eq (g2 := F0 m 4 ls []) rfl ?_
  refine W.widen (k := 0) (n := 0) (Nat.le_of_ble_eq_true rfl) (Nat.le_of_ble_eq_true rfl) ?_
  exact W.vret hx hb hr (fun t ht hWm => gendF (u := (L, f)) ⟨rfl, hf0, fun _ _ => rfl⟩ hP hK hD hS ht hWm) hS.2.2 dX5_init_4

set_option maxHeartbeats 4000000 in
set_option maxRecDepth 100000 in
theorem c_X2_init (l : Launch) {D : va_G} {tA : Nat → ClassId} {L : List Nat} {f : Nat → va_E} {sz q : Nat} (hq : q ∈ L) (hf0 : f q = .inr (4, [.int 0, .int 0, .int 0, .int 0, .long 0, .null, .null]))  : Met l yX2_init (wsC yX2_init cX2_init 1 none) ({ frames := 1, cells := 0, slots := 0, locals := 20 }) (va_Pc [.ref q] (gZ D tA L f sz)) (va_Qv (fun u : gV => L = u.1 ∧ u.2 q = .inr (4, [.int 0, .int 0, .int 0, .int (-1), .long 0, .null, .null]) ∧ ∀ a, a ≠ q → u.2 a = f a) (gF D tA (va_A (va_pl L f) sz)) (va_A (va_pl L f) sz)) 0 0 (va_A (va_pl L f) sz) := by
  refine Met.ofW (cc := cX2_init) (maxL := 1) (ret := none) (by decide) rfl ?_
  intro p e s m args below meth c s₁ B hml hv
  obtain ⟨rfl, hsz, hP, hK, hD0⟩ := hv
  have hx := B.exec
  have hb := B.bytes
  have hr := B.returns
  have hts := atoms_spec (ws := wsC yX2_init cX2_init 1 none) B.pre
  have hta : ∀ w ∈ WA, w.before _ s = true := fun w h => hts w (List.mem_cons_of_mem _ h)
  have hown : s.vm.findClass RX2 = some m.cls := findClass_of_methodNamed B.named
  have hlocks := B.notSynchronized
  have hin : meth.name = "<init>" := (name_of_methodNamed B.named B.method).1
  subst hsz
  have hD : va_D (va_A (va_pl L f) s.heap.size) (va_pl L f) := hD0.self (sz := s.heap.size)
  generalize hAe : va_A (va_pl L f) s.heap.size = A at hD ⊢
  have hA : ∀ q : Nat, s.heap.size ≤ q → A q := fun q h => by rw [← hAe]; exact Or.inr h
  have hS : va_S A s.heap s.heap [] := va_S.rf
  have hP : va_P D vwCl (va_pl L f) s.heap := hP
  have hfr0 : ∀ a, a ∈ L → a ≠ q → f a = f a := fun _ _ _ => rfl
  have hsub0 : ∀ a, a ∈ L → a ∈ L := fun _ h => h
  have hdom0 : ∀ a, a ∈ L → a ∈ L := fun _ h => h
  have hl := lv_entry ([.ref q]) (n := 1) (Nat.le_of_ble_eq_true rfl)
  rw [lg_entry_eq]
  generalize (lg_sl ([.ref q]) ++ List.replicate (1 - (lg_sl ([.ref q])).length) Slot.unset).toArray = ls at hl ⊢
  have hl : lv_has ls 1 [(0, .ref q)] := hl
  refine lv_aload_n hx hb dX2_init_0 rfl (lv_at hl 0 rfl) ?_
  refine W.objInit hx hb hown (hta _ mw515) (hta _ mw75) (hta _ mw76) rfl (by rw [hml]; exact hl.1) rfl dX2_init_1 (Nat.le_of_ble_eq_true rfl) (Nat.le_of_ble_eq_true rfl) ?_
  refine W.eq (g2 := F0 m 4 ls []) rfl ?_
  refine lv_aload_n hx hb dX2_init_4 rfl (lv_at hl 0 rfl) ?_
  refine lv_iconst (v := -1) hx hb dX2_init_5 (by decide) ?_
  refine raw_put (ci := 4) (K := RX2) (T := TX2) (N := 7) (v := .int (-1)) (ty := .int) hx hb hta iwX2 tyX2 tyX2_ok nmX2 hown hK hP hD hS hq hf0 rfl 3 (by decide) (hta _ mw521) rfl (by decide +kernel) rfl rfl (Nat.le_of_ble_eq_true rfl) dX2_init_6 (fun H locs f1 hf2 ho3 hP hD hS => ?_)
  have hf2 : f1 q = .inr (4, [.int 0, .int 0, .int 0, .int (-1), .long 0, .null, .null]) := hf2
  have hz4 : ∀ a, a ≠ q → f1 a = f a := fun a hn9 => ho3 a hn9
  refine W.widen (k := 0) (n := 0) (Nat.le_of_ble_eq_true rfl) (Nat.le_of_ble_eq_true rfl) ?_
  exact W.vret hx hb hr (fun t ht hWm => gendF (u := (L, f1)) ⟨rfl, hf2, hz4⟩ hP hK hD hS ht hWm) hS.2.2 dX2_init_9

set_option maxHeartbeats 4000000 in
set_option maxRecDepth 100000 in
theorem c_X0_init (l : Launch) {D : va_G} {tA : Nat → ClassId} {L : List Nat} {f : Nat → va_E} {sz q : Nat} (hq : q ∈ L) (hf0 : f q = .inr (2, [.int 0, .int 0, .int 0, .int 0, .int 0]))  : Met l yX0_init (wsC yX0_init cX0_init 1 none) ({ frames := 1, cells := 0, slots := 0, locals := 20 }) (va_Pc [.ref q] (gZ D tA L f sz)) (va_Qv (fun u : gV => L = u.1 ∧ u.2 q = .inr (2, [.int 100, .int 10, .int 0, .int 0, .int 0]) ∧ ∀ a, a ≠ q → u.2 a = f a) (gF D tA (va_A (va_pl L f) sz)) (va_A (va_pl L f) sz)) 0 0 (va_A (va_pl L f) sz) := by
  refine Met.ofW (cc := cX0_init) (maxL := 1) (ret := none) (by decide) rfl ?_
  intro p e s m args below meth c s₁ B hml hv
  obtain ⟨rfl, hsz, hP, hK, hD0⟩ := hv
  have hx := B.exec
  have hb := B.bytes
  have hr := B.returns
  have hts := atoms_spec (ws := wsC yX0_init cX0_init 1 none) B.pre
  have hta : ∀ w ∈ WA, w.before _ s = true := fun w h => hts w (List.mem_cons_of_mem _ h)
  have hown : s.vm.findClass RX0 = some m.cls := findClass_of_methodNamed B.named
  have hlocks := B.notSynchronized
  have hin : meth.name = "<init>" := (name_of_methodNamed B.named B.method).1
  subst hsz
  have hD : va_D (va_A (va_pl L f) s.heap.size) (va_pl L f) := hD0.self (sz := s.heap.size)
  generalize hAe : va_A (va_pl L f) s.heap.size = A at hD ⊢
  have hA : ∀ q : Nat, s.heap.size ≤ q → A q := fun q h => by rw [← hAe]; exact Or.inr h
  have hS : va_S A s.heap s.heap [] := va_S.rf
  have hP : va_P D vwCl (va_pl L f) s.heap := hP
  have hfr0 : ∀ a, a ∈ L → a ≠ q → f a = f a := fun _ _ _ => rfl
  have hsub0 : ∀ a, a ∈ L → a ∈ L := fun _ h => h
  have hdom0 : ∀ a, a ∈ L → a ∈ L := fun _ h => h
  have hl := lv_entry ([.ref q]) (n := 1) (Nat.le_of_ble_eq_true rfl)
  rw [lg_entry_eq]
  generalize (lg_sl ([.ref q]) ++ List.replicate (1 - (lg_sl ([.ref q])).length) Slot.unset).toArray = ls at hl ⊢
  have hl : lv_has ls 1 [(0, .ref q)] := hl
  refine lv_aload_n hx hb dX0_init_0 rfl (lv_at hl 0 rfl) ?_
  refine W.objInit hx hb hown (hta _ mw281) (hta _ mw75) (hta _ mw76) rfl (by rw [hml]; exact hl.1) rfl dX0_init_1 (Nat.le_of_ble_eq_true rfl) (Nat.le_of_ble_eq_true rfl) ?_
  refine W.eq (g2 := F0 m 4 ls []) rfl ?_
  refine lv_aload_n hx hb dX0_init_4 rfl (lv_at hl 0 rfl) ?_
  refine lv_bipush (v := 100) hx hb dX0_init_5 (by decide) ?_
  refine raw_put (ci := 2) (K := RX0) (T := TX0) (N := 5) (v := .int 100) (ty := .int) hx hb hta iwX0 tyX0 tyX0_ok nmX0 hown hK hP hD hS hq hf0 rfl 0 (by decide) (hta _ mw282) rfl (by decide +kernel) rfl rfl (Nat.le_of_ble_eq_true rfl) dX0_init_7 (fun H locs f1 hf2 ho3 hP hD hS => ?_)
  have hf2 : f1 q = .inr (2, [.int 100, .int 0, .int 0, .int 0, .int 0]) := hf2
  have hz4 : ∀ a, a ≠ q → f1 a = f a := fun a hn9 => ho3 a hn9
  refine lv_aload_n hx hb dX0_init_10 rfl (lv_at hl 0 rfl) ?_
  refine lv_bipush (v := 10) hx hb dX0_init_11 (by decide) ?_
  refine raw_put (ci := 2) (K := RX0) (T := TX0) (N := 5) (v := .int 10) (ty := .int) hx hb hta iwX0 tyX0 tyX0_ok nmX0 hown hK hP hD hS hq hf2 rfl 1 (by decide) (hta _ mw283) rfl (by decide +kernel) rfl rfl (Nat.le_of_ble_eq_true rfl) dX0_init_13 (fun H locs f5 hf6 ho7 hP hD hS => ?_)
  have hf6 : f5 q = .inr (2, [.int 100, .int 10, .int 0, .int 0, .int 0]) := hf6
  have hz8 : ∀ a, a ≠ q → f5 a = f a := fun a hn9 => (ho7 a hn9).trans (hz4 a hn9)
  refine W.widen (k := 0) (n := 0) (Nat.le_of_ble_eq_true rfl) (Nat.le_of_ble_eq_true rfl) ?_
  exact W.vret hx hb hr (fun t ht hWm => gendF (u := (L, f5)) ⟨rfl, hf6, hz8⟩ hP hK hD hS ht hWm) hS.2.2 dX0_init_16

set_option maxHeartbeats 4000000 in
set_option maxRecDepth 100000 in
theorem c_X9_init (l : Launch) {D : va_G} {tA : Nat → ClassId} {L : List Nat} {f : Nat → va_E} {sz q : Nat} (hq : q ∈ L) (hf0 : f q = .inr (11, [.int 0, .int 0, .int 0]))  : Met l yX9_init (wsC yX9_init cX9_init 1 none) ({ frames := 1, cells := 0, slots := 0, locals := 20 }) (va_Pc [.ref q] (gZ D tA L f sz)) (va_Qv (fun u : gV => L = u.1 ∧ u.2 q = .inr (11, [.int 110, .int 0, .int 0]) ∧ ∀ a, a ≠ q → u.2 a = f a) (gF D tA (va_A (va_pl L f) sz)) (va_A (va_pl L f) sz)) 0 0 (va_A (va_pl L f) sz) := by
  refine Met.ofW (cc := cX9_init) (maxL := 1) (ret := none) (by decide) rfl ?_
  intro p e s m args below meth c s₁ B hml hv
  obtain ⟨rfl, hsz, hP, hK, hD0⟩ := hv
  have hx := B.exec
  have hb := B.bytes
  have hr := B.returns
  have hts := atoms_spec (ws := wsC yX9_init cX9_init 1 none) B.pre
  have hta : ∀ w ∈ WA, w.before _ s = true := fun w h => hts w (List.mem_cons_of_mem _ h)
  have hown : s.vm.findClass RX9 = some m.cls := findClass_of_methodNamed B.named
  have hlocks := B.notSynchronized
  have hin : meth.name = "<init>" := (name_of_methodNamed B.named B.method).1
  subst hsz
  have hD : va_D (va_A (va_pl L f) s.heap.size) (va_pl L f) := hD0.self (sz := s.heap.size)
  generalize hAe : va_A (va_pl L f) s.heap.size = A at hD ⊢
  have hA : ∀ q : Nat, s.heap.size ≤ q → A q := fun q h => by rw [← hAe]; exact Or.inr h
  have hS : va_S A s.heap s.heap [] := va_S.rf
  have hP : va_P D vwCl (va_pl L f) s.heap := hP
  have hfr0 : ∀ a, a ∈ L → a ≠ q → f a = f a := fun _ _ _ => rfl
  have hsub0 : ∀ a, a ∈ L → a ∈ L := fun _ h => h
  have hdom0 : ∀ a, a ∈ L → a ∈ L := fun _ h => h
  have hl := lv_entry ([.ref q]) (n := 1) (Nat.le_of_ble_eq_true rfl)
  rw [lg_entry_eq]
  generalize (lg_sl ([.ref q]) ++ List.replicate (1 - (lg_sl ([.ref q])).length) Slot.unset).toArray = ls at hl ⊢
  have hl : lv_has ls 1 [(0, .ref q)] := hl
  refine lv_aload_n hx hb dX9_init_0 rfl (lv_at hl 0 rfl) ?_
  refine W.objInit hx hb hown (hta _ mw92) (hta _ mw75) (hta _ mw76) rfl (by rw [hml]; exact hl.1) rfl dX9_init_1 (Nat.le_of_ble_eq_true rfl) (Nat.le_of_ble_eq_true rfl) ?_
  refine W.eq (g2 := F0 m 4 ls []) rfl ?_
  refine lv_aload_n hx hb dX9_init_4 rfl (lv_at hl 0 rfl) ?_
  refine lv_bipush (v := 110) hx hb dX9_init_5 (by decide) ?_
  refine raw_put (ci := 11) (K := RX9) (T := TX9) (N := 3) (v := .int 110) (ty := .char) hx hb hta iwX9 tyX9 tyX9_ok nmX9 hown hK hP hD hS hq hf0 rfl 0 (by decide) (hta _ mw93) rfl (by decide +kernel) (by decide) (by decide) (Nat.le_of_ble_eq_true rfl) dX9_init_7 (fun H locs f1 hf2 ho3 hP hD hS => ?_)
  have hf2 : f1 q = .inr (11, [.int 110, .int 0, .int 0]) := hf2
  have hz4 : ∀ a, a ≠ q → f1 a = f a := fun a hn9 => ho3 a hn9
  refine W.widen (k := 0) (n := 0) (Nat.le_of_ble_eq_true rfl) (Nat.le_of_ble_eq_true rfl) ?_
  exact W.vret hx hb hr (fun t ht hWm => gendF (u := (L, f1)) ⟨rfl, hf2, hz4⟩ hP hK hD hS ht hWm) hS.2.2 dX9_init_10

set_option maxHeartbeats 4000000 in
set_option maxRecDepth 100000 in
theorem c_X4_init (l : Launch) {D : va_G} {tA : Nat → ClassId} {L : List Nat} {f : Nat → va_E} {sz q : Nat} (hq : q ∈ L) (hf0 : f q = .inr (6, [.int 0, .int 0, .int 0, .int 0, .int 0, .int 0, .int 0, .int 0, .int 0, .int 0, .null])) (ra se li re : Int32) : Met l yX4_init (wsC yX4_init cX4_init 5 none) ({ frames := 1, cells := 0, slots := 0, locals := 20 }) (va_Pc [.ref q, .int ra, .int se, .int li, .int re] (gZ D tA L f sz)) (va_Qv (fun u : gV => L = u.1 ∧ u.2 q = .inr (6, [.int ra, .int se, .int li, .int re, .int 45, .int (-1), .int 0, .int 0, .int (-1), .int 0, .null]) ∧ ∀ a, a ≠ q → u.2 a = f a) (gF D tA (va_A (va_pl L f) sz)) (va_A (va_pl L f) sz)) 0 0 (va_A (va_pl L f) sz) := by
  refine Met.ofW (cc := cX4_init) (maxL := 5) (ret := none) (by decide) rfl ?_
  intro p e s m args below meth c s₁ B hml hv
  obtain ⟨rfl, hsz, hP, hK, hD0⟩ := hv
  have hx := B.exec
  have hb := B.bytes
  have hr := B.returns
  have hts := atoms_spec (ws := wsC yX4_init cX4_init 5 none) B.pre
  have hta : ∀ w ∈ WA, w.before _ s = true := fun w h => hts w (List.mem_cons_of_mem _ h)
  have hown : s.vm.findClass RX4 = some m.cls := findClass_of_methodNamed B.named
  have hlocks := B.notSynchronized
  have hin : meth.name = "<init>" := (name_of_methodNamed B.named B.method).1
  subst hsz
  have hD : va_D (va_A (va_pl L f) s.heap.size) (va_pl L f) := hD0.self (sz := s.heap.size)
  generalize hAe : va_A (va_pl L f) s.heap.size = A at hD ⊢
  have hA : ∀ q : Nat, s.heap.size ≤ q → A q := fun q h => by rw [← hAe]; exact Or.inr h
  have hS : va_S A s.heap s.heap [] := va_S.rf
  have hP : va_P D vwCl (va_pl L f) s.heap := hP
  have hfr0 : ∀ a, a ∈ L → a ≠ q → f a = f a := fun _ _ _ => rfl
  have hsub0 : ∀ a, a ∈ L → a ∈ L := fun _ h => h
  have hdom0 : ∀ a, a ∈ L → a ∈ L := fun _ h => h
  have hl := lv_entry ([.ref q, .int ra, .int se, .int li, .int re]) (n := 5) (Nat.le_of_ble_eq_true rfl)
  rw [lg_entry_eq]
  generalize (lg_sl ([.ref q, .int ra, .int se, .int li, .int re]) ++ List.replicate (5 - (lg_sl ([.ref q, .int ra, .int se, .int li, .int re])).length) Slot.unset).toArray = ls at hl ⊢
  have hl : lv_has ls 5 [(0, .ref q), (1, .int ra), (2, .int se), (3, .int li), (4, .int re)] := hl
  refine lv_aload_n hx hb dX4_init_0 rfl (lv_at hl 0 rfl) ?_
  refine W.objInit hx hb hown (hta _ mw244) (hta _ mw75) (hta _ mw76) rfl (by rw [hml]; exact hl.1) rfl dX4_init_1 (Nat.le_of_ble_eq_true rfl) (Nat.le_of_ble_eq_true rfl) ?_
  refine W.eq (g2 := F0 m 4 ls []) rfl ?_
  refine lv_aload_n hx hb dX4_init_4 rfl (lv_at hl 0 rfl) ?_
  refine lv_bipush (v := 45) hx hb dX4_init_5 (by decide) ?_
  refine raw_put (ci := 6) (K := RX4) (T := TX4) (N := 11) (v := .int 45) (ty := .char) hx hb hta iwX4 tyX4 tyX4_ok nmX4 hown hK hP hD hS hq hf0 rfl 4 (by decide) (hta _ mw250) rfl (by decide +kernel) (by decide) (by decide) (Nat.le_of_ble_eq_true rfl) dX4_init_7 (fun H locs f1 hf2 ho3 hP hD hS => ?_)
  have hf2 : f1 q = .inr (6, [.int 0, .int 0, .int 0, .int 0, .int 45, .int 0, .int 0, .int 0, .int 0, .int 0, .null]) := hf2
  have hz4 : ∀ a, a ≠ q → f1 a = f a := fun a hn9 => ho3 a hn9
  refine lv_aload_n hx hb dX4_init_10 rfl (lv_at hl 0 rfl) ?_
  refine lv_iconst (v := -1) hx hb dX4_init_11 (by decide) ?_
  refine raw_put (ci := 6) (K := RX4) (T := TX4) (N := 11) (v := .int (-1)) (ty := .int) hx hb hta iwX4 tyX4 tyX4_ok nmX4 hown hK hP hD hS hq hf2 rfl 5 (by decide) (hta _ mw252) rfl (by decide +kernel) rfl rfl (Nat.le_of_ble_eq_true rfl) dX4_init_12 (fun H locs f5 hf6 ho7 hP hD hS => ?_)
  have hf6 : f5 q = .inr (6, [.int 0, .int 0, .int 0, .int 0, .int 45, .int (-1), .int 0, .int 0, .int 0, .int 0, .null]) := hf6
  have hz8 : ∀ a, a ≠ q → f5 a = f a := fun a hn9 => (ho7 a hn9).trans (hz4 a hn9)
  refine lv_aload_n hx hb dX4_init_15 rfl (lv_at hl 0 rfl) ?_
  refine lv_iconst (v := -1) hx hb dX4_init_16 (by decide) ?_
  refine raw_put (ci := 6) (K := RX4) (T := TX4) (N := 11) (v := .int (-1)) (ty := .int) hx hb hta iwX4 tyX4 tyX4_ok nmX4 hown hK hP hD hS hq hf6 rfl 8 (by decide) (hta _ mw256) rfl (by decide +kernel) rfl rfl (Nat.le_of_ble_eq_true rfl) dX4_init_17 (fun H locs f9 hf10 ho11 hP hD hS => ?_)
  have hf10 : f9 q = .inr (6, [.int 0, .int 0, .int 0, .int 0, .int 45, .int (-1), .int 0, .int 0, .int (-1), .int 0, .null]) := hf10
  have hz12 : ∀ a, a ≠ q → f9 a = f a := fun a hn9 => (ho11 a hn9).trans (hz8 a hn9)
  refine lv_aload_n hx hb dX4_init_20 rfl (lv_at hl 0 rfl) ?_
  refine lv_iload_n hx hb dX4_init_21 rfl (lv_at hl 1 rfl) ?_
  refine raw_putF (ci := 6) (K := RX4) (T := TX4) (N := 11) (v := .int ra) (ty := .int) hx hb hta iwX4 tyX4 tyX4_ok nmX4 hown hK hP hD hS hq hf10 rfl 0 (by decide) (hta _ mw245) rfl hin rfl (by decide +kernel) rfl rfl (Nat.le_of_ble_eq_true rfl) dX4_init_22 (fun H locs f13 hf14 ho15 hP hD hS => ?_)
  have hf14 : f13 q = .inr (6, [.int ra, .int 0, .int 0, .int 0, .int 45, .int (-1), .int 0, .int 0, .int (-1), .int 0, .null]) := hf14
  have hz16 : ∀ a, a ≠ q → f13 a = f a := fun a hn9 => (ho15 a hn9).trans (hz12 a hn9)
  refine lv_aload_n hx hb dX4_init_25 rfl (lv_at hl 0 rfl) ?_
  refine lv_iload_n hx hb dX4_init_26 rfl (lv_at hl 2 rfl) ?_
  refine raw_putF (ci := 6) (K := RX4) (T := TX4) (N := 11) (v := .int se) (ty := .int) hx hb hta iwX4 tyX4 tyX4_ok nmX4 hown hK hP hD hS hq hf14 rfl 1 (by decide) (hta _ mw247) rfl hin rfl (by decide +kernel) rfl rfl (Nat.le_of_ble_eq_true rfl) dX4_init_27 (fun H locs f17 hf18 ho19 hP hD hS => ?_)
  have hf18 : f17 q = .inr (6, [.int ra, .int se, .int 0, .int 0, .int 45, .int (-1), .int 0, .int 0, .int (-1), .int 0, .null]) := hf18
  have hz20 : ∀ a, a ≠ q → f17 a = f a := fun a hn9 => (ho19 a hn9).trans (hz16 a hn9)
  refine lv_aload_n hx hb dX4_init_30 rfl (lv_at hl 0 rfl) ?_
  refine lv_iload_n hx hb dX4_init_31 rfl (lv_at hl 3 rfl) ?_
  refine raw_putF (ci := 6) (K := RX4) (T := TX4) (N := 11) (v := .int li) (ty := .int) hx hb hta iwX4 tyX4 tyX4_ok nmX4 hown hK hP hD hS hq hf18 rfl 2 (by decide) (hta _ mw248) rfl hin rfl (by decide +kernel) rfl rfl (Nat.le_of_ble_eq_true rfl) dX4_init_32 (fun H locs f21 hf22 ho23 hP hD hS => ?_)
  have hf22 : f21 q = .inr (6, [.int ra, .int se, .int li, .int 0, .int 45, .int (-1), .int 0, .int 0, .int (-1), .int 0, .null]) := hf22
  have hz24 : ∀ a, a ≠ q → f21 a = f a := fun a hn9 => (ho23 a hn9).trans (hz20 a hn9)
  refine lv_aload_n hx hb dX4_init_35 rfl (lv_at hl 0 rfl) ?_
  refine lv_iload hx hb dX4_init_36 (lv_at hl 4 rfl) ?_
  refine raw_putF (ci := 6) (K := RX4) (T := TX4) (N := 11) (v := .int re) (ty := .int) hx hb hta iwX4 tyX4 tyX4_ok nmX4 hown hK hP hD hS hq hf22 rfl 3 (by decide) (hta _ mw249) rfl hin rfl (by decide +kernel) rfl rfl (Nat.le_of_ble_eq_true rfl) dX4_init_38 (fun H locs f25 hf26 ho27 hP hD hS => ?_)
  have hf26 : f25 q = .inr (6, [.int ra, .int se, .int li, .int re, .int 45, .int (-1), .int 0, .int 0, .int (-1), .int 0, .null]) := hf26
  have hz28 : ∀ a, a ≠ q → f25 a = f a := fun a hn9 => (ho27 a hn9).trans (hz24 a hn9)
  refine W.widen (k := 0) (n := 0) (Nat.le_of_ble_eq_true rfl) (Nat.le_of_ble_eq_true rfl) ?_
  exact W.vret hx hb hr (fun t ht hWm => gendF (u := (L, f25)) ⟨rfl, hf26, hz28⟩ hP hK hD hS ht hWm) hS.2.2 dX4_init_41

set_option maxHeartbeats 4000000 in
set_option maxRecDepth 100000 in
theorem c_X1_init (l : Launch) {D : va_G} {tA : Nat → ClassId} {L : List Nat} {f : Nat → va_E} {sz q : Nat} (hq : q ∈ L) (hf0 : f q = .inr (3, [.null, .int 0, .int 0])) (pt : Nat) (pc9 op : Int32) : Met l yX1_init (wsC yX1_init cX1_init 4 none) ({ frames := 1, cells := 0, slots := 0, locals := 20 }) (va_Pc [.ref q, .ref pt, .int pc9, .int op] (gZ D tA L f sz)) (va_Qv (fun u : gV => L = u.1 ∧ u.2 q = .inr (3, [.ref pt, .int pc9, .int op]) ∧ ∀ a, a ≠ q → u.2 a = f a) (gF D tA (va_A (va_pl L f) sz)) (va_A (va_pl L f) sz)) 0 0 (va_A (va_pl L f) sz) := by
  refine Met.ofW (cc := cX1_init) (maxL := 4) (ret := none) (by decide) rfl ?_
  intro p e s m args below meth c s₁ B hml hv
  obtain ⟨rfl, hsz, hP, hK, hD0⟩ := hv
  have hx := B.exec
  have hb := B.bytes
  have hr := B.returns
  have hts := atoms_spec (ws := wsC yX1_init cX1_init 4 none) B.pre
  have hta : ∀ w ∈ WA, w.before _ s = true := fun w h => hts w (List.mem_cons_of_mem _ h)
  have hown : s.vm.findClass RX1 = some m.cls := findClass_of_methodNamed B.named
  have hlocks := B.notSynchronized
  have hin : meth.name = "<init>" := (name_of_methodNamed B.named B.method).1
  subst hsz
  have hD : va_D (va_A (va_pl L f) s.heap.size) (va_pl L f) := hD0.self (sz := s.heap.size)
  generalize hAe : va_A (va_pl L f) s.heap.size = A at hD ⊢
  have hA : ∀ q : Nat, s.heap.size ≤ q → A q := fun q h => by rw [← hAe]; exact Or.inr h
  have hS : va_S A s.heap s.heap [] := va_S.rf
  have hP : va_P D vwCl (va_pl L f) s.heap := hP
  have hfr0 : ∀ a, a ∈ L → a ≠ q → f a = f a := fun _ _ _ => rfl
  have hsub0 : ∀ a, a ∈ L → a ∈ L := fun _ h => h
  have hdom0 : ∀ a, a ∈ L → a ∈ L := fun _ h => h
  have hl := lv_entry ([.ref q, .ref pt, .int pc9, .int op]) (n := 4) (Nat.le_of_ble_eq_true rfl)
  rw [lg_entry_eq]
  generalize (lg_sl ([.ref q, .ref pt, .int pc9, .int op]) ++ List.replicate (4 - (lg_sl ([.ref q, .ref pt, .int pc9, .int op])).length) Slot.unset).toArray = ls at hl ⊢
  have hl : lv_has ls 4 [(0, .ref q), (1, .ref pt), (2, .int pc9), (3, .int op)] := hl
  refine lv_aload_n hx hb dX1_init_0 rfl (lv_at hl 0 rfl) ?_
  refine W.objInit hx hb hown (hta _ mw341) (hta _ mw75) (hta _ mw76) rfl (by rw [hml]; exact hl.1) rfl dX1_init_1 (Nat.le_of_ble_eq_true rfl) (Nat.le_of_ble_eq_true rfl) ?_
  refine W.eq (g2 := F0 m 4 ls []) rfl ?_
  refine lv_aload_n hx hb dX1_init_4 rfl (lv_at hl 0 rfl) ?_
  refine lv_aload_n hx hb dX1_init_5 rfl (lv_at hl 1 rfl) ?_
  refine raw_putF (ci := 3) (K := RX1) (T := TX1) (N := 3) (v := .ref pt) (ty := .object "Foundrymark$Part") hx hb hta iwX1 tyX1 tyX1_ok nmX1 hown hK hP hD hS hq hf0 rfl 0 (by decide) (hta _ mw342) rfl hin rfl (by decide +kernel) rfl rfl (Nat.le_of_ble_eq_true rfl) dX1_init_6 (fun H locs f1 hf2 ho3 hP hD hS => ?_)
  have hf2 : f1 q = .inr (3, [.ref pt, .int 0, .int 0]) := hf2
  have hz4 : ∀ a, a ≠ q → f1 a = f a := fun a hn9 => ho3 a hn9
  refine lv_aload_n hx hb dX1_init_9 rfl (lv_at hl 0 rfl) ?_
  refine lv_iload_n hx hb dX1_init_10 rfl (lv_at hl 2 rfl) ?_
  refine raw_putF (ci := 3) (K := RX1) (T := TX1) (N := 3) (v := .int pc9) (ty := .int) hx hb hta iwX1 tyX1 tyX1_ok nmX1 hown hK hP hD hS hq hf2 rfl 1 (by decide) (hta _ mw344) rfl hin rfl (by decide +kernel) rfl rfl (Nat.le_of_ble_eq_true rfl) dX1_init_11 (fun H locs f5 hf6 ho7 hP hD hS => ?_)
  have hf6 : f5 q = .inr (3, [.ref pt, .int pc9, .int 0]) := hf6
  have hz8 : ∀ a, a ≠ q → f5 a = f a := fun a hn9 => (ho7 a hn9).trans (hz4 a hn9)
  refine lv_aload_n hx hb dX1_init_14 rfl (lv_at hl 0 rfl) ?_
  refine lv_iload_n hx hb dX1_init_15 rfl (lv_at hl 3 rfl) ?_
  refine raw_putF (ci := 3) (K := RX1) (T := TX1) (N := 3) (v := .int op) (ty := .int) hx hb hta iwX1 tyX1 tyX1_ok nmX1 hown hK hP hD hS hq hf6 rfl 2 (by decide) (hta _ mw346) rfl hin rfl (by decide +kernel) rfl rfl (Nat.le_of_ble_eq_true rfl) dX1_init_16 (fun H locs f9 hf10 ho11 hP hD hS => ?_)
  have hf10 : f9 q = .inr (3, [.ref pt, .int pc9, .int op]) := hf10
  have hz12 : ∀ a, a ≠ q → f9 a = f a := fun a hn9 => (ho11 a hn9).trans (hz8 a hn9)
  refine W.widen (k := 0) (n := 0) (Nat.le_of_ble_eq_true rfl) (Nat.le_of_ble_eq_true rfl) ?_
  exact W.vret hx hb hr (fun t ht hWm => gendF (u := (L, f9)) ⟨rfl, hf10, hz12⟩ hP hK hD hS ht hWm) hS.2.2 dX1_init_19

set_option maxHeartbeats 4000000 in
set_option maxRecDepth 100000 in
theorem c_X6_init_n (l : Launch) {D : va_G} {tA : Nat → ClassId} {L : List Nat} {f : Nat → va_E} {sz q : Nat} (hq : q ∈ L) (hf0 : f q = .inr (8, [.null, .null, .int 0])) (ma : Nat) (ti : Int32) : Met l yX6_init (wsC yX6_init cX6_init 4 none) ({ frames := 1, cells := 0, slots := 0, locals := 20 }) (va_Pc [.ref q, .ref ma, .null, .int ti] (gZ D tA L f sz)) (va_Qv (fun u : gV => L = u.1 ∧ u.2 q = .inr (8, [.ref ma, .null, .int ti]) ∧ ∀ a, a ≠ q → u.2 a = f a) (gF D tA (va_A (va_pl L f) sz)) (va_A (va_pl L f) sz)) 0 0 (va_A (va_pl L f) sz) := by
  refine Met.ofW (cc := cX6_init) (maxL := 4) (ret := none) (by decide) rfl ?_
  intro p e s m args below meth c s₁ B hml hv
  obtain ⟨rfl, hsz, hP, hK, hD0⟩ := hv
  have hx := B.exec
  have hb := B.bytes
  have hr := B.returns
  have hts := atoms_spec (ws := wsC yX6_init cX6_init 4 none) B.pre
  have hta : ∀ w ∈ WA, w.before _ s = true := fun w h => hts w (List.mem_cons_of_mem _ h)
  have hown : s.vm.findClass RX6 = some m.cls := findClass_of_methodNamed B.named
  have hlocks := B.notSynchronized
  have hin : meth.name = "<init>" := (name_of_methodNamed B.named B.method).1
  subst hsz
  have hD : va_D (va_A (va_pl L f) s.heap.size) (va_pl L f) := hD0.self (sz := s.heap.size)
  generalize hAe : va_A (va_pl L f) s.heap.size = A at hD ⊢
  have hA : ∀ q : Nat, s.heap.size ≤ q → A q := fun q h => by rw [← hAe]; exact Or.inr h
  have hS : va_S A s.heap s.heap [] := va_S.rf
  have hP : va_P D vwCl (va_pl L f) s.heap := hP
  have hfr0 : ∀ a, a ∈ L → a ≠ q → f a = f a := fun _ _ _ => rfl
  have hsub0 : ∀ a, a ∈ L → a ∈ L := fun _ h => h
  have hdom0 : ∀ a, a ∈ L → a ∈ L := fun _ h => h
  have hl := lv_entry ([.ref q, .ref ma, .null, .int ti]) (n := 4) (Nat.le_of_ble_eq_true rfl)
  rw [lg_entry_eq]
  generalize (lg_sl ([.ref q, .ref ma, .null, .int ti]) ++ List.replicate (4 - (lg_sl ([.ref q, .ref ma, .null, .int ti])).length) Slot.unset).toArray = ls at hl ⊢
  have hl : lv_has ls 4 [(0, .ref q), (1, .ref ma), (2, .null), (3, .int ti)] := hl
  refine lv_aload_n hx hb dX6_init_0 rfl (lv_at hl 0 rfl) ?_
  refine W.objInit hx hb hown (hta _ mw373) (hta _ mw75) (hta _ mw76) rfl (by rw [hml]; exact hl.1) rfl dX6_init_1 (Nat.le_of_ble_eq_true rfl) (Nat.le_of_ble_eq_true rfl) ?_
  refine W.eq (g2 := F0 m 4 ls []) rfl ?_
  refine lv_aload_n hx hb dX6_init_4 rfl (lv_at hl 0 rfl) ?_
  refine lv_aload_n hx hb dX6_init_5 rfl (lv_at hl 1 rfl) ?_
  refine raw_putF (ci := 8) (K := RX6) (T := TX6) (N := 3) (v := .ref ma) (ty := .object "Foundrymark$Machine") hx hb hta iwX6 tyX6 tyX6_ok nmX6 hown hK hP hD hS hq hf0 rfl 0 (by decide) (hta _ mw374) rfl hin rfl (by decide +kernel) rfl rfl (Nat.le_of_ble_eq_true rfl) dX6_init_6 (fun H locs f1 hf2 ho3 hP hD hS => ?_)
  have hf2 : f1 q = .inr (8, [.ref ma, .null, .int 0]) := hf2
  have hz4 : ∀ a, a ≠ q → f1 a = f a := fun a hn9 => ho3 a hn9
  refine lv_aload_n hx hb dX6_init_9 rfl (lv_at hl 0 rfl) ?_
  refine lv_aload_nN hx hb dX6_init_10 rfl (lv_at hl 2 rfl) ?_
  refine raw_putF (ci := 8) (K := RX6) (T := TX6) (N := 3) (v := .null) (ty := .object "Foundrymark$Machine") hx hb hta iwX6 tyX6 tyX6_ok nmX6 hown hK hP hD hS hq hf2 rfl 1 (by decide) (hta _ mw376) rfl hin rfl (by decide +kernel) rfl rfl (Nat.le_of_ble_eq_true rfl) dX6_init_11 (fun H locs f5 hf6 ho7 hP hD hS => ?_)
  have hf6 : f5 q = .inr (8, [.ref ma, .null, .int 0]) := hf6
  have hz8 : ∀ a, a ≠ q → f5 a = f a := fun a hn9 => (ho7 a hn9).trans (hz4 a hn9)
  refine lv_aload_n hx hb dX6_init_14 rfl (lv_at hl 0 rfl) ?_
  refine lv_iload_n hx hb dX6_init_15 rfl (lv_at hl 3 rfl) ?_
  refine raw_putF (ci := 8) (K := RX6) (T := TX6) (N := 3) (v := .int ti) (ty := .int) hx hb hta iwX6 tyX6 tyX6_ok nmX6 hown hK hP hD hS hq hf6 rfl 2 (by decide) (hta _ mw378) rfl hin rfl (by decide +kernel) rfl rfl (Nat.le_of_ble_eq_true rfl) dX6_init_16 (fun H locs f9 hf10 ho11 hP hD hS => ?_)
  have hf10 : f9 q = .inr (8, [.ref ma, .null, .int ti]) := hf10
  have hz12 : ∀ a, a ≠ q → f9 a = f a := fun a hn9 => (ho11 a hn9).trans (hz8 a hn9)
  refine W.widen (k := 0) (n := 0) (Nat.le_of_ble_eq_true rfl) (Nat.le_of_ble_eq_true rfl) ?_
  exact W.vret hx hb hr (fun t ht hWm => gendF (u := (L, f9)) ⟨rfl, hf10, hz12⟩ hP hK hD hS ht hWm) hS.2.2 dX6_init_19

set_option maxHeartbeats 4000000 in
set_option maxRecDepth 100000 in
theorem c_X6_init_s (l : Launch) {D : va_G} {tA : Nat → ClassId} {L : List Nat} {f : Nat → va_E} {sz q : Nat} (hq : q ∈ L) (hf0 : f q = .inr (8, [.null, .null, .int 0])) (ma al : Nat) (ti : Int32) : Met l yX6_init (wsC yX6_init cX6_init 4 none) ({ frames := 1, cells := 0, slots := 0, locals := 20 }) (va_Pc [.ref q, .ref ma, .ref al, .int ti] (gZ D tA L f sz)) (va_Qv (fun u : gV => L = u.1 ∧ u.2 q = .inr (8, [.ref ma, .ref al, .int ti]) ∧ ∀ a, a ≠ q → u.2 a = f a) (gF D tA (va_A (va_pl L f) sz)) (va_A (va_pl L f) sz)) 0 0 (va_A (va_pl L f) sz) := by
  refine Met.ofW (cc := cX6_init) (maxL := 4) (ret := none) (by decide) rfl ?_
  intro p e s m args below meth c s₁ B hml hv
  obtain ⟨rfl, hsz, hP, hK, hD0⟩ := hv
  have hx := B.exec
  have hb := B.bytes
  have hr := B.returns
  have hts := atoms_spec (ws := wsC yX6_init cX6_init 4 none) B.pre
  have hta : ∀ w ∈ WA, w.before _ s = true := fun w h => hts w (List.mem_cons_of_mem _ h)
  have hown : s.vm.findClass RX6 = some m.cls := findClass_of_methodNamed B.named
  have hlocks := B.notSynchronized
  have hin : meth.name = "<init>" := (name_of_methodNamed B.named B.method).1
  subst hsz
  have hD : va_D (va_A (va_pl L f) s.heap.size) (va_pl L f) := hD0.self (sz := s.heap.size)
  generalize hAe : va_A (va_pl L f) s.heap.size = A at hD ⊢
  have hA : ∀ q : Nat, s.heap.size ≤ q → A q := fun q h => by rw [← hAe]; exact Or.inr h
  have hS : va_S A s.heap s.heap [] := va_S.rf
  have hP : va_P D vwCl (va_pl L f) s.heap := hP
  have hfr0 : ∀ a, a ∈ L → a ≠ q → f a = f a := fun _ _ _ => rfl
  have hsub0 : ∀ a, a ∈ L → a ∈ L := fun _ h => h
  have hdom0 : ∀ a, a ∈ L → a ∈ L := fun _ h => h
  have hl := lv_entry ([.ref q, .ref ma, .ref al, .int ti]) (n := 4) (Nat.le_of_ble_eq_true rfl)
  rw [lg_entry_eq]
  generalize (lg_sl ([.ref q, .ref ma, .ref al, .int ti]) ++ List.replicate (4 - (lg_sl ([.ref q, .ref ma, .ref al, .int ti])).length) Slot.unset).toArray = ls at hl ⊢
  have hl : lv_has ls 4 [(0, .ref q), (1, .ref ma), (2, .ref al), (3, .int ti)] := hl
  refine lv_aload_n hx hb dX6_init_0 rfl (lv_at hl 0 rfl) ?_
  refine W.objInit hx hb hown (hta _ mw373) (hta _ mw75) (hta _ mw76) rfl (by rw [hml]; exact hl.1) rfl dX6_init_1 (Nat.le_of_ble_eq_true rfl) (Nat.le_of_ble_eq_true rfl) ?_
  refine W.eq (g2 := F0 m 4 ls []) rfl ?_
  refine lv_aload_n hx hb dX6_init_4 rfl (lv_at hl 0 rfl) ?_
  refine lv_aload_n hx hb dX6_init_5 rfl (lv_at hl 1 rfl) ?_
  refine raw_putF (ci := 8) (K := RX6) (T := TX6) (N := 3) (v := .ref ma) (ty := .object "Foundrymark$Machine") hx hb hta iwX6 tyX6 tyX6_ok nmX6 hown hK hP hD hS hq hf0 rfl 0 (by decide) (hta _ mw374) rfl hin rfl (by decide +kernel) rfl rfl (Nat.le_of_ble_eq_true rfl) dX6_init_6 (fun H locs f1 hf2 ho3 hP hD hS => ?_)
  have hf2 : f1 q = .inr (8, [.ref ma, .null, .int 0]) := hf2
  have hz4 : ∀ a, a ≠ q → f1 a = f a := fun a hn9 => ho3 a hn9
  refine lv_aload_n hx hb dX6_init_9 rfl (lv_at hl 0 rfl) ?_
  refine lv_aload_n hx hb dX6_init_10 rfl (lv_at hl 2 rfl) ?_
  refine raw_putF (ci := 8) (K := RX6) (T := TX6) (N := 3) (v := .ref al) (ty := .object "Foundrymark$Machine") hx hb hta iwX6 tyX6 tyX6_ok nmX6 hown hK hP hD hS hq hf2 rfl 1 (by decide) (hta _ mw376) rfl hin rfl (by decide +kernel) rfl rfl (Nat.le_of_ble_eq_true rfl) dX6_init_11 (fun H locs f5 hf6 ho7 hP hD hS => ?_)
  have hf6 : f5 q = .inr (8, [.ref ma, .ref al, .int 0]) := hf6
  have hz8 : ∀ a, a ≠ q → f5 a = f a := fun a hn9 => (ho7 a hn9).trans (hz4 a hn9)
  refine lv_aload_n hx hb dX6_init_14 rfl (lv_at hl 0 rfl) ?_
  refine lv_iload_n hx hb dX6_init_15 rfl (lv_at hl 3 rfl) ?_
  refine raw_putF (ci := 8) (K := RX6) (T := TX6) (N := 3) (v := .int ti) (ty := .int) hx hb hta iwX6 tyX6 tyX6_ok nmX6 hown hK hP hD hS hq hf6 rfl 2 (by decide) (hta _ mw378) rfl hin rfl (by decide +kernel) rfl rfl (Nat.le_of_ble_eq_true rfl) dX6_init_16 (fun H locs f9 hf10 ho11 hP hD hS => ?_)
  have hf10 : f9 q = .inr (8, [.ref ma, .ref al, .int ti]) := hf10
  have hz12 : ∀ a, a ≠ q → f9 a = f a := fun a hn9 => (ho11 a hn9).trans (hz8 a hn9)
  refine W.widen (k := 0) (n := 0) (Nat.le_of_ble_eq_true rfl) (Nat.le_of_ble_eq_true rfl) ?_
  exact W.vret hx hb hr (fun t ht hWm => gendF (u := (L, f9)) ⟨rfl, hf10, hz12⟩ hP hK hD hS ht hWm) hS.2.2 dX6_init_19

theorem c_X6_init (l : Launch) {D : va_G} {tA : Nat → ClassId} {L : List Nat} {f : Nat → va_E} {sz q : Nat} (hq : q ∈ L) (hf0 : f q = .inr (8, [.null, .null, .int 0])) (ma : Nat) (al : Option Nat) (ti : Int32) : Met l yX6_init (wsC yX6_init cX6_init 4 none) ({ frames := 1, cells := 0, slots := 0, locals := 20 }) (va_Pc [.ref q, .ref ma, va_rf al, .int ti] (gZ D tA L f sz)) (va_Qv (fun u : gV => L = u.1 ∧ u.2 q = .inr (8, [.ref ma, va_rf al, .int ti]) ∧ ∀ a, a ≠ q → u.2 a = f a) (gF D tA (va_A (va_pl L f) sz)) (va_A (va_pl L f) sz)) 0 0 (va_A (va_pl L f) sz) := by
  cases al with
  | none => exact c_X6_init_n l hq hf0 ma ti
  | some a => exact c_X6_init_s l hq hf0 ma a ti
set_option maxHeartbeats 4000000 in
set_option maxRecDepth 100000 in
theorem c_X3_init (l : Launch) {D : va_G} {tA : Nat → ClassId} {L : List Nat} {f : Nat → va_E} {sz q : Nat} (hq : q ∈ L) (hf0 : f q = .inr (5, [.int 0, .null, .int 0, .null, .null, .null, .int 0, .int 0, .int 0, .long 0])) (nn : Int32) (pt : Nat) (qy : Int32) (co : Int64) : Met l yX3_init (wsC yX3_init cX3_init 6 none) ({ frames := 2, cells := 3, slots := 6, locals := 40 }) (va_Pc [.ref q, .int nn, .ref pt, .int qy, .long co] (gY D tA L f sz)) (va_Qv (fun u : gV => ∃ q1 q29 q62 : Nat, u.2 q = .inr (5, [.int nn, .ref pt, .int qy, .ref q1, .ref q29, .ref q62, .int qy, .int 0, .int 0, .long co]) ∧ (u.2 q1 = .inr (7, [.long 0, .long 0]) ∧ q1 ∉ L ∧ q1 ∈ u.1 ∧ q1 ≠ q) ∧ (u.2 q29 = .inr (7, [.long 0, .long 0]) ∧ q29 ∉ L ∧ q29 ∈ u.1 ∧ q29 ≠ q) ∧ (u.2 q62 = .inr (7, [.long 0, .long 0]) ∧ q62 ∉ L ∧ q62 ∈ u.1 ∧ q62 ≠ q) ∧ q1 ≠ q29 ∧ q1 ≠ q62 ∧ q29 ≠ q62 ∧ (∀ a, a ∈ L → a ∈ u.1) ∧ (∀ a, a ∈ u.1 → a ∈ L ∨ a = q1 ∨ a = q29 ∨ a = q62) ∧ ∀ a, a ∈ L → a ≠ q → u.2 a = f a) (gF D tA (va_A (va_pl L f) sz)) (va_A (va_pl L f) sz)) 3 6 (va_A (va_pl L f) sz) := by
  refine Met.ofW (cc := cX3_init) (maxL := 6) (ret := none) (by decide) rfl ?_
  intro p e s m args below meth c s₁ B hml hv
  obtain ⟨rfl, ⟨hsz, hP, hK, hD0⟩, hX⟩ := hv
  have hx := B.exec
  have hb := B.bytes
  have hr := B.returns
  have hts := atoms_spec (ws := wsC yX3_init cX3_init 6 none) B.pre
  have hta : ∀ w ∈ WA, w.before _ s = true := fun w h => hts w (List.mem_cons_of_mem _ h)
  have hown : s.vm.findClass RX3 = some m.cls := findClass_of_methodNamed B.named
  have hlocks := B.notSynchronized
  have hin : meth.name = "<init>" := (name_of_methodNamed B.named B.method).1
  subst hsz
  have hD : va_D (va_A (va_pl L f) s.heap.size) (va_pl L f) := hD0.self (sz := s.heap.size)
  generalize hAe : va_A (va_pl L f) s.heap.size = A at hD ⊢
  have hA : ∀ q : Nat, s.heap.size ≤ q → A q := fun q h => by rw [← hAe]; exact Or.inr h
  have hS : va_S A s.heap s.heap [] := va_S.rf
  have hP : va_P D vwCl (va_pl L f) s.heap := hP
  have hfr0 : ∀ a, a ∈ L → a ≠ q → f a = f a := fun _ _ _ => rfl
  have hsub0 : ∀ a, a ∈ L → a ∈ L := fun _ h => h
  have hdom0 : ∀ a, a ∈ L → a ∈ L := fun _ h => h
  have hl := lv_entry ([.ref q, .int nn, .ref pt, .int qy, .long co]) (n := 6) (Nat.le_of_ble_eq_true rfl)
  rw [lg_entry_eq]
  generalize (lg_sl ([.ref q, .int nn, .ref pt, .int qy, .long co]) ++ List.replicate (6 - (lg_sl ([.ref q, .int nn, .ref pt, .int qy, .long co])).length) Slot.unset).toArray = ls at hl ⊢
  have hl : lv_has ls 6 [(0, .ref q), (1, .int nn), (2, .ref pt), (3, .int qy), (4, .long co)] := hl
  refine lv_aload_n hx hb dX3_init_0 rfl (lv_at hl 0 rfl) ?_
  refine W.objInit hx hb hown (hta _ mw402) (hta _ mw75) (hta _ mw76) rfl (by rw [hml]; exact hl.1) rfl dX3_init_1 (Nat.le_of_ble_eq_true rfl) (Nat.le_of_ble_eq_true rfl) ?_
  refine W.eq (g2 := F0 m 4 ls []) rfl ?_
  refine lv_aload_n hx hb dX3_init_4 rfl (lv_at hl 0 rfl) ?_
  refine raw_new (ci := 7) (K := RX5) (T := TX5) (N := 2) (fs := [.long 0, .long 0]) hx hb hta iwX5 tyX5 tyX5_ok hown (hta _ mw403) (hta _ mw83) (hta _ mw41) hK hP hD hS hA rfl (fun j hj => by rcases (show j = 0 ∨ j = 1 by omega) with rfl | rfl <;> rfl) (Nat.le_of_ble_eq_true rfl) (Nat.le_of_ble_eq_true rfl) dX3_init_5 (fun q1 H L2 f3 hn4 hm5 hs6 hd7 hf8 ho9 hP hD hS => ?_)
  have hn10 : q ≠ q1 := fun z9 => hn4 (z9 ▸ hq)
  have hm11 := hs6 _ hq
  have hN12 : q1 ∉ L := fun z9 => hn4 (hsub0 _ z9)
  have hs13 : ∀ a, a ∈ L → a ∈ L2 := fun a ha9 => hs6 _ (hsub0 a ha9)
  have hd14 : ∀ a, a ∈ L2 → a ∈ L ∨ a = q1 := fun a ha9 => (hd7 a ha9).elim (fun z9 => Or.inl (hdom0 a z9)) (fun z9 => Or.inr (by omega))
  have hf15 := (ho9 q hn10).trans hf0
  have hfr16 : ∀ a, a ∈ L → a ≠ q → f3 a = f a := fun a ha9 hn9 => (ho9 a (fun z9 => hN12 (z9 ▸ ha9))).trans (hfr0 a ha9 hn9)
  refine lv_dup hx hb dX3_init_8 rfl ?_
  refine graw_N (As := []) (rest := [.ref q1, .ref q]) ⟨hx, hb, hml, hown, hta⟩ (c_X5_init l hm5 hf8) ⟨va_cnB 0 hta (gWI mw85) rfl rfl rfl hX.1.2.2.1 (hta _ mw41) (by decide +kernel) ⟨Nat.le_of_ble_eq_true rfl, Nat.le_of_ble_eq_true rfl⟩, rfl, hta _ mw84⟩ hK hP hD hS hA rfl hl.1 rfl (Nat.le_of_ble_eq_true rfl) dX3_init_9 ⟨Nat.le_of_ble_eq_true rfl, Nat.le_of_ble_eq_true rfl⟩ (fun u17 H locs hw18 hP hD hS => ?_)
  obtain ⟨L9, f19⟩ := u17
  obtain ⟨rfl, hf20, ho21⟩ := hw18
  dsimp only at hP hD hf20 ho21
  have hf22 := (ho21 q hn10).trans hf15
  have hfr23 : ∀ a, a ∈ L → a ≠ q → f19 a = f a := fun a ha9 hn9 => (ho21 a (fun z9 => hN12 (z9 ▸ ha9))).trans (hfr16 a ha9 hn9)
  refine raw_putF (ci := 5) (K := RX3) (T := TX3) (N := 10) (v := .ref q1) (ty := .object "Foundrymark$NumberSet") hx hb hta iwX3 tyX3 tyX3_ok nmX3 hown hK hP hD hS hm11 hf22 rfl 3 (by decide) (hta _ mw413) rfl hin rfl (by decide +kernel) rfl rfl (Nat.le_of_ble_eq_true rfl) dX3_init_12 (fun H locs f24 hf25 ho26 hP hD hS => ?_)
  have hf25 : f24 q = .inr (5, [.int 0, .null, .int 0, .ref q1, .null, .null, .int 0, .int 0, .int 0, .long 0]) := hf25
  have hf27 := (ho26 q1 (Ne.symm hn10)).trans hf20
  have hfr28 : ∀ a, a ∈ L → a ≠ q → f24 a = f a := fun a ha9 hn9 => (ho26 a hn9).trans (hfr23 a ha9 hn9)
  refine lv_aload_n hx hb dX3_init_15 rfl (lv_at hl 0 rfl) ?_
  refine raw_new (ci := 7) (K := RX5) (T := TX5) (N := 2) (fs := [.long 0, .long 0]) hx hb hta iwX5 tyX5 tyX5_ok hown (hta _ mw403) (hta _ mw83) (hta _ mw41) hK hP hD hS hA rfl (fun j hj => by rcases (show j = 0 ∨ j = 1 by omega) with rfl | rfl <;> rfl) (Nat.le_of_ble_eq_true rfl) (Nat.le_of_ble_eq_true rfl) dX3_init_16 (fun q29 H L30 f31 hn32 hm33 hs34 hd35 hf36 ho37 hP hD hS => ?_)
  have hn38 : q ≠ q29 := fun z9 => hn32 (z9 ▸ hm11)
  have hn39 : q1 ≠ q29 := fun z9 => hn32 (z9 ▸ hm5)
  have hm40 := hs34 _ hm11
  have hm41 := hs34 _ hm5
  have hN42 : q29 ∉ L := fun z9 => hn32 (hs13 _ z9)
  have hs43 : ∀ a, a ∈ L → a ∈ L30 := fun a ha9 => hs34 _ (hs13 a ha9)
  have hd44 : ∀ a, a ∈ L30 → a ∈ L ∨ a = q1 ∨ a = q29 := fun a ha9 => (hd35 a ha9).elim (fun z9 => (hd14 a z9).elim Or.inl (fun z8 => Or.inr (by omega))) (fun z9 => Or.inr (by omega))
  have hf45 := (ho37 q hn38).trans hf25
  have hf46 := (ho37 q1 hn39).trans hf27
  have hfr47 : ∀ a, a ∈ L → a ≠ q → f31 a = f a := fun a ha9 hn9 => (ho37 a (fun z9 => hN42 (z9 ▸ ha9))).trans (hfr28 a ha9 hn9)
  refine lv_dup hx hb dX3_init_19 rfl ?_
  refine graw_N (As := []) (rest := [.ref q29, .ref q]) ⟨hx, hb, hml, hown, hta⟩ (c_X5_init l hm33 hf36) ⟨va_cnB 0 hta (gWI mw85) rfl rfl rfl hX.1.2.2.1 (hta _ mw41) (by decide +kernel) ⟨Nat.le_of_ble_eq_true rfl, Nat.le_of_ble_eq_true rfl⟩, rfl, hta _ mw84⟩ hK hP hD hS hA rfl hl.1 rfl (Nat.le_of_ble_eq_true rfl) dX3_init_20 ⟨Nat.le_of_ble_eq_true rfl, Nat.le_of_ble_eq_true rfl⟩ (fun u48 H locs hw49 hP hD hS => ?_)
  obtain ⟨L9, f50⟩ := u48
  obtain ⟨rfl, hf51, ho52⟩ := hw49
  dsimp only at hP hD hf51 ho52
  have hf53 := (ho52 q hn38).trans hf45
  have hf54 := (ho52 q1 hn39).trans hf46
  have hfr55 : ∀ a, a ∈ L → a ≠ q → f50 a = f a := fun a ha9 hn9 => (ho52 a (fun z9 => hN42 (z9 ▸ ha9))).trans (hfr47 a ha9 hn9)
  refine raw_putF (ci := 5) (K := RX3) (T := TX3) (N := 10) (v := .ref q29) (ty := .object "Foundrymark$NumberSet") hx hb hta iwX3 tyX3 tyX3_ok nmX3 hown hK hP hD hS hm40 hf53 rfl 4 (by decide) (hta _ mw416) rfl hin rfl (by decide +kernel) rfl rfl (Nat.le_of_ble_eq_true rfl) dX3_init_23 (fun H locs f56 hf57 ho58 hP hD hS => ?_)
  have hf57 : f56 q = .inr (5, [.int 0, .null, .int 0, .ref q1, .ref q29, .null, .int 0, .int 0, .int 0, .long 0]) := hf57
  have hf59 := (ho58 q1 (Ne.symm hn10)).trans hf54
  have hf60 := (ho58 q29 (Ne.symm hn38)).trans hf51
  have hfr61 : ∀ a, a ∈ L → a ≠ q → f56 a = f a := fun a ha9 hn9 => (ho58 a hn9).trans (hfr55 a ha9 hn9)
  refine lv_aload_n hx hb dX3_init_26 rfl (lv_at hl 0 rfl) ?_
  refine raw_new (ci := 7) (K := RX5) (T := TX5) (N := 2) (fs := [.long 0, .long 0]) hx hb hta iwX5 tyX5 tyX5_ok hown (hta _ mw403) (hta _ mw83) (hta _ mw41) hK hP hD hS hA rfl (fun j hj => by rcases (show j = 0 ∨ j = 1 by omega) with rfl | rfl <;> rfl) (Nat.le_of_ble_eq_true rfl) (Nat.le_of_ble_eq_true rfl) dX3_init_27 (fun q62 H L63 f64 hn65 hm66 hs67 hd68 hf69 ho70 hP hD hS => ?_)
  have hn71 : q ≠ q62 := fun z9 => hn65 (z9 ▸ hm40)
  have hn72 : q1 ≠ q62 := fun z9 => hn65 (z9 ▸ hm41)
  have hn73 : q29 ≠ q62 := fun z9 => hn65 (z9 ▸ hm33)
  have hm74 := hs67 _ hm40
  have hm75 := hs67 _ hm41
  have hm76 := hs67 _ hm33
  have hN77 : q62 ∉ L := fun z9 => hn65 (hs43 _ z9)
  have hs78 : ∀ a, a ∈ L → a ∈ L63 := fun a ha9 => hs67 _ (hs43 a ha9)
  have hd79 : ∀ a, a ∈ L63 → a ∈ L ∨ a = q1 ∨ a = q29 ∨ a = q62 := fun a ha9 => (hd68 a ha9).elim (fun z9 => (hd44 a z9).elim Or.inl (fun z8 => Or.inr (by omega))) (fun z9 => Or.inr (by omega))
  have hf80 := (ho70 q hn71).trans hf57
  have hf81 := (ho70 q1 hn72).trans hf59
  have hf82 := (ho70 q29 hn73).trans hf60
  have hfr83 : ∀ a, a ∈ L → a ≠ q → f64 a = f a := fun a ha9 hn9 => (ho70 a (fun z9 => hN77 (z9 ▸ ha9))).trans (hfr61 a ha9 hn9)
  refine lv_dup hx hb dX3_init_30 rfl ?_
  refine graw_N (As := []) (rest := [.ref q62, .ref q]) ⟨hx, hb, hml, hown, hta⟩ (c_X5_init l hm66 hf69) ⟨va_cnB 0 hta (gWI mw85) rfl rfl rfl hX.1.2.2.1 (hta _ mw41) (by decide +kernel) ⟨Nat.le_of_ble_eq_true rfl, Nat.le_of_ble_eq_true rfl⟩, rfl, hta _ mw84⟩ hK hP hD hS hA rfl hl.1 rfl (Nat.le_of_ble_eq_true rfl) dX3_init_31 ⟨Nat.le_of_ble_eq_true rfl, Nat.le_of_ble_eq_true rfl⟩ (fun u84 H locs hw85 hP hD hS => ?_)
  obtain ⟨L9, f86⟩ := u84
  obtain ⟨rfl, hf87, ho88⟩ := hw85
  dsimp only at hP hD hf87 ho88
  have hf89 := (ho88 q hn71).trans hf80
  have hf90 := (ho88 q1 hn72).trans hf81
  have hf91 := (ho88 q29 hn73).trans hf82
  have hfr92 : ∀ a, a ∈ L → a ≠ q → f86 a = f a := fun a ha9 hn9 => (ho88 a (fun z9 => hN77 (z9 ▸ ha9))).trans (hfr83 a ha9 hn9)
  refine raw_putF (ci := 5) (K := RX3) (T := TX3) (N := 10) (v := .ref q62) (ty := .object "Foundrymark$NumberSet") hx hb hta iwX3 tyX3 tyX3_ok nmX3 hown hK hP hD hS hm74 hf89 rfl 5 (by decide) (hta _ mw418) rfl hin rfl (by decide +kernel) rfl rfl (Nat.le_of_ble_eq_true rfl) dX3_init_34 (fun H locs f93 hf94 ho95 hP hD hS => ?_)
  have hf94 : f93 q = .inr (5, [.int 0, .null, .int 0, .ref q1, .ref q29, .ref q62, .int 0, .int 0, .int 0, .long 0]) := hf94
  have hf96 := (ho95 q1 (Ne.symm hn10)).trans hf90
  have hf97 := (ho95 q29 (Ne.symm hn38)).trans hf91
  have hf98 := (ho95 q62 (Ne.symm hn71)).trans hf87
  have hfr99 : ∀ a, a ∈ L → a ≠ q → f93 a = f a := fun a ha9 hn9 => (ho95 a hn9).trans (hfr92 a ha9 hn9)
  refine lv_aload_n hx hb dX3_init_37 rfl (lv_at hl 0 rfl) ?_
  refine lv_iload_n hx hb dX3_init_38 rfl (lv_at hl 1 rfl) ?_
  refine raw_putF (ci := 5) (K := RX3) (T := TX3) (N := 10) (v := .int nn) (ty := .int) hx hb hta iwX3 tyX3 tyX3_ok nmX3 hown hK hP hD hS hm74 hf94 rfl 0 (by decide) (hta _ mw404) rfl hin rfl (by decide +kernel) rfl rfl (Nat.le_of_ble_eq_true rfl) dX3_init_39 (fun H locs f100 hf101 ho102 hP hD hS => ?_)
  have hf101 : f100 q = .inr (5, [.int nn, .null, .int 0, .ref q1, .ref q29, .ref q62, .int 0, .int 0, .int 0, .long 0]) := hf101
  have hf103 := (ho102 q1 (Ne.symm hn10)).trans hf96
  have hf104 := (ho102 q29 (Ne.symm hn38)).trans hf97
  have hf105 := (ho102 q62 (Ne.symm hn71)).trans hf98
  have hfr106 : ∀ a, a ∈ L → a ≠ q → f100 a = f a := fun a ha9 hn9 => (ho102 a hn9).trans (hfr99 a ha9 hn9)
  refine lv_aload_n hx hb dX3_init_42 rfl (lv_at hl 0 rfl) ?_
  refine lv_aload_n hx hb dX3_init_43 rfl (lv_at hl 2 rfl) ?_
  refine raw_putF (ci := 5) (K := RX3) (T := TX3) (N := 10) (v := .ref pt) (ty := .object "Foundrymark$Part") hx hb hta iwX3 tyX3 tyX3_ok nmX3 hown hK hP hD hS hm74 hf101 rfl 1 (by decide) (hta _ mw408) rfl hin rfl (by decide +kernel) rfl rfl (Nat.le_of_ble_eq_true rfl) dX3_init_44 (fun H locs f107 hf108 ho109 hP hD hS => ?_)
  have hf108 : f107 q = .inr (5, [.int nn, .ref pt, .int 0, .ref q1, .ref q29, .ref q62, .int 0, .int 0, .int 0, .long 0]) := hf108
  have hf110 := (ho109 q1 (Ne.symm hn10)).trans hf103
  have hf111 := (ho109 q29 (Ne.symm hn38)).trans hf104
  have hf112 := (ho109 q62 (Ne.symm hn71)).trans hf105
  have hfr113 : ∀ a, a ∈ L → a ≠ q → f107 a = f a := fun a ha9 hn9 => (ho109 a hn9).trans (hfr106 a ha9 hn9)
  refine lv_aload_n hx hb dX3_init_47 rfl (lv_at hl 0 rfl) ?_
  refine lv_iload_n hx hb dX3_init_48 rfl (lv_at hl 3 rfl) ?_
  refine raw_putF (ci := 5) (K := RX3) (T := TX3) (N := 10) (v := .int qy) (ty := .int) hx hb hta iwX3 tyX3 tyX3_ok nmX3 hown hK hP hD hS hm74 hf108 rfl 2 (by decide) (hta _ mw410) rfl hin rfl (by decide +kernel) rfl rfl (Nat.le_of_ble_eq_true rfl) dX3_init_49 (fun H locs f114 hf115 ho116 hP hD hS => ?_)
  have hf115 : f114 q = .inr (5, [.int nn, .ref pt, .int qy, .ref q1, .ref q29, .ref q62, .int 0, .int 0, .int 0, .long 0]) := hf115
  have hf117 := (ho116 q1 (Ne.symm hn10)).trans hf110
  have hf118 := (ho116 q29 (Ne.symm hn38)).trans hf111
  have hf119 := (ho116 q62 (Ne.symm hn71)).trans hf112
  have hfr120 : ∀ a, a ∈ L → a ≠ q → f114 a = f a := fun a ha9 hn9 => (ho116 a hn9).trans (hfr113 a ha9 hn9)
  refine lv_aload_n hx hb dX3_init_52 rfl (lv_at hl 0 rfl) ?_
  refine lv_lload hx hb dX3_init_53 (lv_at hl 4 rfl) ?_
  refine raw_put (ci := 5) (K := RX3) (T := TX3) (N := 10) (v := .long co) (ty := .long) hx hb hta iwX3 tyX3 tyX3_ok nmX3 hown hK hP hD hS hm74 hf115 rfl 9 (by decide) (hta _ mw424) rfl (by decide +kernel) rfl rfl (Nat.le_of_ble_eq_true rfl) dX3_init_55 (fun H locs f121 hf122 ho123 hP hD hS => ?_)
  have hf122 : f121 q = .inr (5, [.int nn, .ref pt, .int qy, .ref q1, .ref q29, .ref q62, .int 0, .int 0, .int 0, .long co]) := hf122
  have hf124 := (ho123 q1 (Ne.symm hn10)).trans hf117
  have hf125 := (ho123 q29 (Ne.symm hn38)).trans hf118
  have hf126 := (ho123 q62 (Ne.symm hn71)).trans hf119
  have hfr127 : ∀ a, a ∈ L → a ≠ q → f121 a = f a := fun a ha9 hn9 => (ho123 a hn9).trans (hfr120 a ha9 hn9)
  refine lv_aload_n hx hb dX3_init_58 rfl (lv_at hl 0 rfl) ?_
  refine lv_iload_n hx hb dX3_init_59 rfl (lv_at hl 3 rfl) ?_
  refine raw_put (ci := 5) (K := RX3) (T := TX3) (N := 10) (v := .int qy) (ty := .int) hx hb hta iwX3 tyX3 tyX3_ok nmX3 hown hK hP hD hS hm74 hf122 rfl 6 (by decide) (hta _ mw420) rfl (by decide +kernel) rfl rfl (Nat.le_of_ble_eq_true rfl) dX3_init_60 (fun H locs f128 hf129 ho130 hP hD hS => ?_)
  have hf129 : f128 q = .inr (5, [.int nn, .ref pt, .int qy, .ref q1, .ref q29, .ref q62, .int qy, .int 0, .int 0, .long co]) := hf129
  have hf131 := (ho130 q1 (Ne.symm hn10)).trans hf124
  have hf132 := (ho130 q29 (Ne.symm hn38)).trans hf125
  have hf133 := (ho130 q62 (Ne.symm hn71)).trans hf126
  have hfr134 : ∀ a, a ∈ L → a ≠ q → f128 a = f a := fun a ha9 hn9 => (ho130 a hn9).trans (hfr127 a ha9 hn9)
  refine W.widen (k := 3) (n := 6) (Nat.le_of_ble_eq_true rfl) (Nat.le_of_ble_eq_true rfl) ?_
  exact W.vret hx hb hr (fun t ht hWm => gendF (u := (L63, f128)) ⟨q1, q29, q62, hf129, ⟨hf131, hN12, hm75, (Ne.symm hn10)⟩, ⟨hf132, hN42, hm76, (Ne.symm hn38)⟩, ⟨hf133, hN77, hm66, (Ne.symm hn71)⟩, hn39, hn72, hn73, hs78, hd79, hfr134⟩ hP hK hD hS ht hWm) hS.2.2 dX3_init_63

set_option maxHeartbeats 4000000 in
set_option maxRecDepth 100000 in
theorem c_X7_init (l : Launch) {D : va_G} {tA : Nat → ClassId} {L : List Nat} {f : Nat → va_E} {sz q : Nat} (hq : q ∈ L) (hf0 : f q = .inr (9, [.int 0, .null, .int 0, .int 0, .int 0, .null, .null, .null, .int 0, .int 0, .int 0, .long 0])) (nn : Int32) (pt : Nat) (qy op du : Int32) : Met l yX7_init (wsC yX7_init cX7_init 6 none) ({ frames := 2, cells := 3, slots := 99, locals := 40 }) (va_Pc [.ref q, .int nn, .ref pt, .int qy, .int op, .int du] (gY D tA L f sz)) (va_Qv (fun u : gV => ∃ q1 q29 q62 : Nat, u.2 q = .inr (9, [.int nn, .ref pt, .int qy, .int op, .int du, .ref q1, .ref q29, .ref q62, .int 45, .int 0, .int 0, .long 0]) ∧ (u.2 q1 = .inr (4, [.int 0, .int 0, .int 0, .int (-1), .long 0, .null, .null]) ∧ q1 ∉ L ∧ q1 ∈ u.1 ∧ q1 ≠ q) ∧ (u.2 q29 = .inr (7, [.long 0, .long 0]) ∧ q29 ∉ L ∧ q29 ∈ u.1 ∧ q29 ≠ q) ∧ (u.2 q62 = .inl (tA 0, 90, .inl (fun _ => 0)) ∧ q62 ∉ L ∧ q62 ∈ u.1 ∧ q62 ≠ q) ∧ q1 ≠ q29 ∧ q1 ≠ q62 ∧ q29 ≠ q62 ∧ (∀ a, a ∈ L → a ∈ u.1) ∧ (∀ a, a ∈ u.1 → a ∈ L ∨ a = q1 ∨ a = q29 ∨ a = q62) ∧ ∀ a, a ∈ L → a ≠ q → u.2 a = f a) (gF D tA (va_A (va_pl L f) sz)) (va_A (va_pl L f) sz)) 3 99 (va_A (va_pl L f) sz) := by
  refine Met.ofW (cc := cX7_init) (maxL := 6) (ret := none) (by decide) rfl ?_
  intro p e s m args below meth c s₁ B hml hv
  obtain ⟨rfl, ⟨hsz, hP, hK, hD0⟩, hX⟩ := hv
  have hx := B.exec
  have hb := B.bytes
  have hr := B.returns
  have hts := atoms_spec (ws := wsC yX7_init cX7_init 6 none) B.pre
  have hta : ∀ w ∈ WA, w.before _ s = true := fun w h => hts w (List.mem_cons_of_mem _ h)
  have hown : s.vm.findClass RX7 = some m.cls := findClass_of_methodNamed B.named
  have hlocks := B.notSynchronized
  have hin : meth.name = "<init>" := (name_of_methodNamed B.named B.method).1
  subst hsz
  have hD : va_D (va_A (va_pl L f) s.heap.size) (va_pl L f) := hD0.self (sz := s.heap.size)
  generalize hAe : va_A (va_pl L f) s.heap.size = A at hD ⊢
  have hA : ∀ q : Nat, s.heap.size ≤ q → A q := fun q h => by rw [← hAe]; exact Or.inr h
  have hS : va_S A s.heap s.heap [] := va_S.rf
  have hP : va_P D vwCl (va_pl L f) s.heap := hP
  have hfr0 : ∀ a, a ∈ L → a ≠ q → f a = f a := fun _ _ _ => rfl
  have hsub0 : ∀ a, a ∈ L → a ∈ L := fun _ h => h
  have hdom0 : ∀ a, a ∈ L → a ∈ L := fun _ h => h
  have hl := lv_entry ([.ref q, .int nn, .ref pt, .int qy, .int op, .int du]) (n := 6) (Nat.le_of_ble_eq_true rfl)
  rw [lg_entry_eq]
  generalize (lg_sl ([.ref q, .int nn, .ref pt, .int qy, .int op, .int du]) ++ List.replicate (6 - (lg_sl ([.ref q, .int nn, .ref pt, .int qy, .int op, .int du])).length) Slot.unset).toArray = ls at hl ⊢
  have hl : lv_has ls 6 [(0, .ref q), (1, .int nn), (2, .ref pt), (3, .int qy), (4, .int op), (5, .int du)] := hl
  refine lv_aload_n hx hb dX7_init_0 rfl (lv_at hl 0 rfl) ?_
  refine W.objInit hx hb hown (hta _ mw510) (hta _ mw75) (hta _ mw76) rfl (by rw [hml]; exact hl.1) rfl dX7_init_1 (Nat.le_of_ble_eq_true rfl) (Nat.le_of_ble_eq_true rfl) ?_
  refine W.eq (g2 := F0 m 4 ls []) rfl ?_
  refine lv_aload_n hx hb dX7_init_4 rfl (lv_at hl 0 rfl) ?_
  refine raw_new (ci := 4) (K := RX2) (T := TX2) (N := 7) (fs := [.int 0, .int 0, .int 0, .int 0, .long 0, .null, .null]) hx hb hta iwX2 tyX2 tyX2_ok hown (hta _ mw511) (hta _ mw512) (hta _ mw60) hK hP hD hS hA rfl (fun j hj => by rcases (show j = 0 ∨ j = 1 ∨ j = 2 ∨ j = 3 ∨ j = 4 ∨ j = 5 ∨ j = 6 by omega) with rfl | rfl | rfl | rfl | rfl | rfl | rfl <;> rfl) (Nat.le_of_ble_eq_true rfl) (Nat.le_of_ble_eq_true rfl) dX7_init_5 (fun q1 H L2 f3 hn4 hm5 hs6 hd7 hf8 ho9 hP hD hS => ?_)
  have hn10 : q ≠ q1 := fun z9 => hn4 (z9 ▸ hq)
  have hm11 := hs6 _ hq
  have hN12 : q1 ∉ L := fun z9 => hn4 (hsub0 _ z9)
  have hs13 : ∀ a, a ∈ L → a ∈ L2 := fun a ha9 => hs6 _ (hsub0 a ha9)
  have hd14 : ∀ a, a ∈ L2 → a ∈ L ∨ a = q1 := fun a ha9 => (hd7 a ha9).elim (fun z9 => Or.inl (hdom0 a z9)) (fun z9 => Or.inr (by omega))
  have hf15 := (ho9 q hn10).trans hf0
  have hfr16 : ∀ a, a ∈ L → a ≠ q → f3 a = f a := fun a ha9 hn9 => (ho9 a (fun z9 => hN12 (z9 ▸ ha9))).trans (hfr0 a ha9 hn9)
  refine lv_dup hx hb dX7_init_8 rfl ?_
  refine graw_N (As := []) (rest := [.ref q1, .ref q]) ⟨hx, hb, hml, hown, hta⟩ (c_X2_init l hm5 hf8) ⟨va_cnB 0 hta (gWI mw514) rfl rfl rfl hX.1.2.2.2.1 (hta _ mw60) (by decide +kernel) ⟨Nat.le_of_ble_eq_true rfl, Nat.le_of_ble_eq_true rfl⟩, rfl, hta _ mw513⟩ hK hP hD hS hA rfl hl.1 rfl (Nat.le_of_ble_eq_true rfl) dX7_init_9 ⟨Nat.le_of_ble_eq_true rfl, Nat.le_of_ble_eq_true rfl⟩ (fun u17 H locs hw18 hP hD hS => ?_)
  obtain ⟨L9, f19⟩ := u17
  obtain ⟨rfl, hf20, ho21⟩ := hw18
  dsimp only at hP hD hf20 ho21
  have hf22 := (ho21 q hn10).trans hf15
  have hfr23 : ∀ a, a ∈ L → a ≠ q → f19 a = f a := fun a ha9 hn9 => (ho21 a (fun z9 => hN12 (z9 ▸ ha9))).trans (hfr16 a ha9 hn9)
  refine raw_putF (ci := 9) (K := RX7) (T := TX7) (N := 12) (v := .ref q1) (ty := .object "Foundrymark$Job") hx hb hta iwX7 tyX7 tyX7_ok nmX7 hown hK hP hD hS hm11 hf22 rfl 5 (by decide) (hta _ mw540) rfl hin rfl (by decide +kernel) rfl rfl (Nat.le_of_ble_eq_true rfl) dX7_init_12 (fun H locs f24 hf25 ho26 hP hD hS => ?_)
  have hf25 : f24 q = .inr (9, [.int 0, .null, .int 0, .int 0, .int 0, .ref q1, .null, .null, .int 0, .int 0, .int 0, .long 0]) := hf25
  have hf27 := (ho26 q1 (Ne.symm hn10)).trans hf20
  have hfr28 : ∀ a, a ∈ L → a ≠ q → f24 a = f a := fun a ha9 hn9 => (ho26 a hn9).trans (hfr23 a ha9 hn9)
  refine lv_aload_n hx hb dX7_init_15 rfl (lv_at hl 0 rfl) ?_
  refine raw_new (ci := 7) (K := RX5) (T := TX5) (N := 2) (fs := [.long 0, .long 0]) hx hb hta iwX5 tyX5 tyX5_ok hown (hta _ mw528) (hta _ mw83) (hta _ mw41) hK hP hD hS hA rfl (fun j hj => by rcases (show j = 0 ∨ j = 1 by omega) with rfl | rfl <;> rfl) (Nat.le_of_ble_eq_true rfl) (Nat.le_of_ble_eq_true rfl) dX7_init_16 (fun q29 H L30 f31 hn32 hm33 hs34 hd35 hf36 ho37 hP hD hS => ?_)
  have hn38 : q ≠ q29 := fun z9 => hn32 (z9 ▸ hm11)
  have hn39 : q1 ≠ q29 := fun z9 => hn32 (z9 ▸ hm5)
  have hm40 := hs34 _ hm11
  have hm41 := hs34 _ hm5
  have hN42 : q29 ∉ L := fun z9 => hn32 (hs13 _ z9)
  have hs43 : ∀ a, a ∈ L → a ∈ L30 := fun a ha9 => hs34 _ (hs13 a ha9)
  have hd44 : ∀ a, a ∈ L30 → a ∈ L ∨ a = q1 ∨ a = q29 := fun a ha9 => (hd35 a ha9).elim (fun z9 => (hd14 a z9).elim Or.inl (fun z8 => Or.inr (by omega))) (fun z9 => Or.inr (by omega))
  have hf45 := (ho37 q hn38).trans hf25
  have hf46 := (ho37 q1 hn39).trans hf27
  have hfr47 : ∀ a, a ∈ L → a ≠ q → f31 a = f a := fun a ha9 hn9 => (ho37 a (fun z9 => hN42 (z9 ▸ ha9))).trans (hfr28 a ha9 hn9)
  refine lv_dup hx hb dX7_init_19 rfl ?_
  refine graw_N (As := []) (rest := [.ref q29, .ref q]) ⟨hx, hb, hml, hown, hta⟩ (c_X5_init l hm33 hf36) ⟨va_cnB 0 hta (gWI mw85) rfl rfl rfl hX.1.2.2.2.2.1 (hta _ mw41) (by decide +kernel) ⟨Nat.le_of_ble_eq_true rfl, Nat.le_of_ble_eq_true rfl⟩, rfl, hta _ mw84⟩ hK hP hD hS hA rfl hl.1 rfl (Nat.le_of_ble_eq_true rfl) dX7_init_20 ⟨Nat.le_of_ble_eq_true rfl, Nat.le_of_ble_eq_true rfl⟩ (fun u48 H locs hw49 hP hD hS => ?_)
  obtain ⟨L9, f50⟩ := u48
  obtain ⟨rfl, hf51, ho52⟩ := hw49
  dsimp only at hP hD hf51 ho52
  have hf53 := (ho52 q hn38).trans hf45
  have hf54 := (ho52 q1 hn39).trans hf46
  have hfr55 : ∀ a, a ∈ L → a ≠ q → f50 a = f a := fun a ha9 hn9 => (ho52 a (fun z9 => hN42 (z9 ▸ ha9))).trans (hfr47 a ha9 hn9)
  refine raw_putF (ci := 9) (K := RX7) (T := TX7) (N := 12) (v := .ref q29) (ty := .object "Foundrymark$NumberSet") hx hb hta iwX7 tyX7 tyX7_ok nmX7 hown hK hP hD hS hm40 hf53 rfl 6 (by decide) (hta _ mw542) rfl hin rfl (by decide +kernel) rfl rfl (Nat.le_of_ble_eq_true rfl) dX7_init_23 (fun H locs f56 hf57 ho58 hP hD hS => ?_)
  have hf57 : f56 q = .inr (9, [.int 0, .null, .int 0, .int 0, .int 0, .ref q1, .ref q29, .null, .int 0, .int 0, .int 0, .long 0]) := hf57
  have hf59 := (ho58 q1 (Ne.symm hn10)).trans hf54
  have hf60 := (ho58 q29 (Ne.symm hn38)).trans hf51
  have hfr61 : ∀ a, a ∈ L → a ≠ q → f56 a = f a := fun a ha9 hn9 => (ho58 a hn9).trans (hfr55 a ha9 hn9)
  refine lv_aload_n hx hb dX7_init_26 rfl (lv_at hl 0 rfl) ?_
  refine lv_bipush (v := 90) hx hb dX7_init_27 (by decide) ?_
  refine raw_newi (N' := 90) hx hb (hta _ mw551) hK hP hD hS hA (by decide) (by decide) (by decide) (Nat.le_of_ble_eq_true rfl) (Nat.le_of_ble_eq_true rfl) dX7_init_29 (fun q62 H L63 f64 hn65 hm66 hs67 hd68 hf69 ho70 hP hD hS => ?_)
  have hn71 : q ≠ q62 := fun z9 => hn65 (z9 ▸ hm40)
  have hn72 : q1 ≠ q62 := fun z9 => hn65 (z9 ▸ hm41)
  have hn73 : q29 ≠ q62 := fun z9 => hn65 (z9 ▸ hm33)
  have hm74 := hs67 _ hm40
  have hm75 := hs67 _ hm41
  have hm76 := hs67 _ hm33
  have hN77 : q62 ∉ L := fun z9 => hn65 (hs43 _ z9)
  have hs78 : ∀ a, a ∈ L → a ∈ L63 := fun a ha9 => hs67 _ (hs43 a ha9)
  have hd79 : ∀ a, a ∈ L63 → a ∈ L ∨ a = q1 ∨ a = q29 ∨ a = q62 := fun a ha9 => (hd68 a ha9).elim (fun z9 => (hd44 a z9).elim Or.inl (fun z8 => Or.inr (by omega))) (fun z9 => Or.inr (by omega))
  have hf80 := (ho70 q hn71).trans hf57
  have hf81 := (ho70 q1 hn72).trans hf59
  have hf82 := (ho70 q29 hn73).trans hf60
  have hfr83 : ∀ a, a ∈ L → a ≠ q → f64 a = f a := fun a ha9 hn9 => (ho70 a (fun z9 => hN77 (z9 ▸ ha9))).trans (hfr61 a ha9 hn9)
  refine raw_putF (ci := 9) (K := RX7) (T := TX7) (N := 12) (v := .ref q62) (ty := .array (.int)) hx hb hta iwX7 tyX7 tyX7_ok nmX7 hown hK hP hD hS hm74 hf80 rfl 7 (by decide) (hta _ mw544) rfl hin rfl (by decide +kernel) rfl rfl (Nat.le_of_ble_eq_true rfl) dX7_init_31 (fun H locs f84 hf85 ho86 hP hD hS => ?_)
  have hf85 : f84 q = .inr (9, [.int 0, .null, .int 0, .int 0, .int 0, .ref q1, .ref q29, .ref q62, .int 0, .int 0, .int 0, .long 0]) := hf85
  have hf87 := (ho86 q1 (Ne.symm hn10)).trans hf81
  have hf88 := (ho86 q29 (Ne.symm hn38)).trans hf82
  have hf89 := (ho86 q62 (Ne.symm hn71)).trans hf69
  have hfr90 : ∀ a, a ∈ L → a ≠ q → f84 a = f a := fun a ha9 hn9 => (ho86 a hn9).trans (hfr83 a ha9 hn9)
  refine lv_aload_n hx hb dX7_init_34 rfl (lv_at hl 0 rfl) ?_
  refine lv_bipush (v := 45) hx hb dX7_init_35 (by decide) ?_
  refine raw_put (ci := 9) (K := RX7) (T := TX7) (N := 12) (v := .int 45) (ty := .char) hx hb hta iwX7 tyX7 tyX7_ok nmX7 hown hK hP hD hS hm74 hf85 rfl 8 (by decide) (hta _ mw545) rfl (by decide +kernel) (by decide) (by decide) (Nat.le_of_ble_eq_true rfl) dX7_init_37 (fun H locs f91 hf92 ho93 hP hD hS => ?_)
  have hf92 : f91 q = .inr (9, [.int 0, .null, .int 0, .int 0, .int 0, .ref q1, .ref q29, .ref q62, .int 45, .int 0, .int 0, .long 0]) := hf92
  have hf94 := (ho93 q1 (Ne.symm hn10)).trans hf87
  have hf95 := (ho93 q29 (Ne.symm hn38)).trans hf88
  have hf96 := (ho93 q62 (Ne.symm hn71)).trans hf89
  have hfr97 : ∀ a, a ∈ L → a ≠ q → f91 a = f a := fun a ha9 hn9 => (ho93 a hn9).trans (hfr90 a ha9 hn9)
  refine lv_aload_n hx hb dX7_init_40 rfl (lv_at hl 0 rfl) ?_
  refine lv_iload_n hx hb dX7_init_41 rfl (lv_at hl 1 rfl) ?_
  refine raw_putF (ci := 9) (K := RX7) (T := TX7) (N := 12) (v := .int nn) (ty := .int) hx hb hta iwX7 tyX7 tyX7_ok nmX7 hown hK hP hD hS hm74 hf92 rfl 0 (by decide) (hta _ mw529) rfl hin rfl (by decide +kernel) rfl rfl (Nat.le_of_ble_eq_true rfl) dX7_init_42 (fun H locs f98 hf99 ho100 hP hD hS => ?_)
  have hf99 : f98 q = .inr (9, [.int nn, .null, .int 0, .int 0, .int 0, .ref q1, .ref q29, .ref q62, .int 45, .int 0, .int 0, .long 0]) := hf99
  have hf101 := (ho100 q1 (Ne.symm hn10)).trans hf94
  have hf102 := (ho100 q29 (Ne.symm hn38)).trans hf95
  have hf103 := (ho100 q62 (Ne.symm hn71)).trans hf96
  have hfr104 : ∀ a, a ∈ L → a ≠ q → f98 a = f a := fun a ha9 hn9 => (ho100 a hn9).trans (hfr97 a ha9 hn9)
  refine lv_aload_n hx hb dX7_init_45 rfl (lv_at hl 0 rfl) ?_
  refine lv_aload_n hx hb dX7_init_46 rfl (lv_at hl 2 rfl) ?_
  refine raw_putF (ci := 9) (K := RX7) (T := TX7) (N := 12) (v := .ref pt) (ty := .object "Foundrymark$Part") hx hb hta iwX7 tyX7 tyX7_ok nmX7 hown hK hP hD hS hm74 hf99 rfl 1 (by decide) (hta _ mw531) rfl hin rfl (by decide +kernel) rfl rfl (Nat.le_of_ble_eq_true rfl) dX7_init_47 (fun H locs f105 hf106 ho107 hP hD hS => ?_)
  have hf106 : f105 q = .inr (9, [.int nn, .ref pt, .int 0, .int 0, .int 0, .ref q1, .ref q29, .ref q62, .int 45, .int 0, .int 0, .long 0]) := hf106
  have hf108 := (ho107 q1 (Ne.symm hn10)).trans hf101
  have hf109 := (ho107 q29 (Ne.symm hn38)).trans hf102
  have hf110 := (ho107 q62 (Ne.symm hn71)).trans hf103
  have hfr111 : ∀ a, a ∈ L → a ≠ q → f105 a = f a := fun a ha9 hn9 => (ho107 a hn9).trans (hfr104 a ha9 hn9)
  refine lv_aload_n hx hb dX7_init_50 rfl (lv_at hl 0 rfl) ?_
  refine lv_iload_n hx hb dX7_init_51 rfl (lv_at hl 3 rfl) ?_
  refine raw_putF (ci := 9) (K := RX7) (T := TX7) (N := 12) (v := .int qy) (ty := .int) hx hb hta iwX7 tyX7 tyX7_ok nmX7 hown hK hP hD hS hm74 hf106 rfl 2 (by decide) (hta _ mw534) rfl hin rfl (by decide +kernel) rfl rfl (Nat.le_of_ble_eq_true rfl) dX7_init_52 (fun H locs f112 hf113 ho114 hP hD hS => ?_)
  have hf113 : f112 q = .inr (9, [.int nn, .ref pt, .int qy, .int 0, .int 0, .ref q1, .ref q29, .ref q62, .int 45, .int 0, .int 0, .long 0]) := hf113
  have hf115 := (ho114 q1 (Ne.symm hn10)).trans hf108
  have hf116 := (ho114 q29 (Ne.symm hn38)).trans hf109
  have hf117 := (ho114 q62 (Ne.symm hn71)).trans hf110
  have hfr118 : ∀ a, a ∈ L → a ≠ q → f112 a = f a := fun a ha9 hn9 => (ho114 a hn9).trans (hfr111 a ha9 hn9)
  refine lv_aload_n hx hb dX7_init_55 rfl (lv_at hl 0 rfl) ?_
  refine lv_iload hx hb dX7_init_56 (lv_at hl 4 rfl) ?_
  refine raw_putF (ci := 9) (K := RX7) (T := TX7) (N := 12) (v := .int op) (ty := .int) hx hb hta iwX7 tyX7 tyX7_ok nmX7 hown hK hP hD hS hm74 hf113 rfl 3 (by decide) (hta _ mw536) rfl hin rfl (by decide +kernel) rfl rfl (Nat.le_of_ble_eq_true rfl) dX7_init_58 (fun H locs f119 hf120 ho121 hP hD hS => ?_)
  have hf120 : f119 q = .inr (9, [.int nn, .ref pt, .int qy, .int op, .int 0, .ref q1, .ref q29, .ref q62, .int 45, .int 0, .int 0, .long 0]) := hf120
  have hf122 := (ho121 q1 (Ne.symm hn10)).trans hf115
  have hf123 := (ho121 q29 (Ne.symm hn38)).trans hf116
  have hf124 := (ho121 q62 (Ne.symm hn71)).trans hf117
  have hfr125 : ∀ a, a ∈ L → a ≠ q → f119 a = f a := fun a ha9 hn9 => (ho121 a hn9).trans (hfr118 a ha9 hn9)
  refine lv_aload_n hx hb dX7_init_61 rfl (lv_at hl 0 rfl) ?_
  refine lv_iload hx hb dX7_init_62 (lv_at hl 5 rfl) ?_
  refine raw_putF (ci := 9) (K := RX7) (T := TX7) (N := 12) (v := .int du) (ty := .int) hx hb hta iwX7 tyX7 tyX7_ok nmX7 hown hK hP hD hS hm74 hf120 rfl 4 (by decide) (hta _ mw538) rfl hin rfl (by decide +kernel) rfl rfl (Nat.le_of_ble_eq_true rfl) dX7_init_64 (fun H locs f126 hf127 ho128 hP hD hS => ?_)
  have hf127 : f126 q = .inr (9, [.int nn, .ref pt, .int qy, .int op, .int du, .ref q1, .ref q29, .ref q62, .int 45, .int 0, .int 0, .long 0]) := hf127
  have hf129 := (ho128 q1 (Ne.symm hn10)).trans hf122
  have hf130 := (ho128 q29 (Ne.symm hn38)).trans hf123
  have hf131 := (ho128 q62 (Ne.symm hn71)).trans hf124
  have hfr132 : ∀ a, a ∈ L → a ≠ q → f126 a = f a := fun a ha9 hn9 => (ho128 a hn9).trans (hfr125 a ha9 hn9)
  refine W.widen (k := 3) (n := 99) (Nat.le_of_ble_eq_true rfl) (Nat.le_of_ble_eq_true rfl) ?_
  exact W.vret hx hb hr (fun t ht hWm => gendF (u := (L63, f126)) ⟨q1, q29, q62, hf127, ⟨hf129, hN12, hm75, (Ne.symm hn10)⟩, ⟨hf130, hN42, hm76, (Ne.symm hn38)⟩, ⟨hf131, hN77, hm66, (Ne.symm hn71)⟩, hn39, hn72, hn73, hs78, hd79, hfr132⟩ hP hK hD hS ht hWm) hS.2.2 dX7_init_67

set_option maxHeartbeats 4000000 in
set_option maxRecDepth 100000 in
theorem c_X8_init (l : Launch) {D : va_G} {tA : Nat → ClassId} {L : List Nat} {f : Nat → va_E} {sz q : Nat} (hq : q ∈ L) (hf0 : f q = .inr (10, [.int 0, .int 0, .int 0, .null, .null, .null, .int 0, .int 0])) (nn : Int32) (mb : Bool) (fa : Int32) : Met l yX8_init (wsC yX8_init cX8_init 4 none) ({ frames := 2, cells := 3, slots := 12, locals := 40 }) (va_Pc [.ref q, .int nn, .int (bI mb), .int fa] (gY D tA L f sz)) (va_Qv (fun u : gV => ∃ q1 q22 q47 : Nat, u.2 q = .inr (10, [.int nn, .int (bI mb), .int fa, .ref q1, .ref q22, .ref q47, .int 0, .int 0]) ∧ (u.2 q1 = .inl (tA 6, 4, .inr (.inr (.inr (.inr (fun _ => none))))) ∧ q1 ∉ L ∧ q1 ∈ u.1 ∧ q1 ≠ q) ∧ (u.2 q22 = .inl (tA 7, 3, .inr (.inr (.inr (.inr (fun _ => none))))) ∧ q22 ∉ L ∧ q22 ∈ u.1 ∧ q22 ≠ q) ∧ (u.2 q47 = .inr (2, [.int 100, .int 10, .int 0, .int 0, .int 0]) ∧ q47 ∉ L ∧ q47 ∈ u.1 ∧ q47 ≠ q) ∧ q1 ≠ q22 ∧ q1 ≠ q47 ∧ q22 ≠ q47 ∧ (∀ a, a ∈ L → a ∈ u.1) ∧ (∀ a, a ∈ u.1 → a ∈ L ∨ a = q1 ∨ a = q22 ∨ a = q47) ∧ ∀ a, a ∈ L → a ≠ q → u.2 a = f a) (gF D tA (va_A (va_pl L f) sz)) (va_A (va_pl L f) sz)) 3 12 (va_A (va_pl L f) sz) := by
  refine Met.ofW (cc := cX8_init) (maxL := 4) (ret := none) (by decide) rfl ?_
  intro p e s m args below meth c s₁ B hml hv
  obtain ⟨rfl, ⟨hsz, hP, hK, hD0⟩, hX⟩ := hv
  have hx := B.exec
  have hb := B.bytes
  have hr := B.returns
  have hts := atoms_spec (ws := wsC yX8_init cX8_init 4 none) B.pre
  have hta : ∀ w ∈ WA, w.before _ s = true := fun w h => hts w (List.mem_cons_of_mem _ h)
  have hown : s.vm.findClass RX8 = some m.cls := findClass_of_methodNamed B.named
  have hlocks := B.notSynchronized
  have hin : meth.name = "<init>" := (name_of_methodNamed B.named B.method).1
  subst hsz
  have hD : va_D (va_A (va_pl L f) s.heap.size) (va_pl L f) := hD0.self (sz := s.heap.size)
  generalize hAe : va_A (va_pl L f) s.heap.size = A at hD ⊢
  have hA : ∀ q : Nat, s.heap.size ≤ q → A q := fun q h => by rw [← hAe]; exact Or.inr h
  have hS : va_S A s.heap s.heap [] := va_S.rf
  have hP : va_P D vwCl (va_pl L f) s.heap := hP
  have hfr0 : ∀ a, a ∈ L → a ≠ q → f a = f a := fun _ _ _ => rfl
  have hsub0 : ∀ a, a ∈ L → a ∈ L := fun _ h => h
  have hdom0 : ∀ a, a ∈ L → a ∈ L := fun _ h => h
  have hl := lv_entry ([.ref q, .int nn, .int (bI mb), .int fa]) (n := 4) (Nat.le_of_ble_eq_true rfl)
  rw [lg_entry_eq]
  generalize (lg_sl ([.ref q, .int nn, .int (bI mb), .int fa]) ++ List.replicate (4 - (lg_sl ([.ref q, .int nn, .int (bI mb), .int fa])).length) Slot.unset).toArray = ls at hl ⊢
  have hl : lv_has ls 4 [(0, .ref q), (1, .int nn), (2, .int (bI mb)), (3, .int fa)] := hl
  refine lv_aload_n hx hb dX8_init_0 rfl (lv_at hl 0 rfl) ?_
  refine W.objInit hx hb hown (hta _ mw274) (hta _ mw75) (hta _ mw76) rfl (by rw [hml]; exact hl.1) rfl dX8_init_1 (Nat.le_of_ble_eq_true rfl) (Nat.le_of_ble_eq_true rfl) ?_
  refine W.eq (g2 := F0 m 4 ls []) rfl ?_
  refine lv_aload_n hx hb dX8_init_4 rfl (lv_at hl 0 rfl) ?_
  refine lv_iconst (v := 4) hx hb dX8_init_5 (by decide) ?_
  refine raw_newq (N' := 4) (K := RX1) 6 rfl hx hb hown (hta _ mw275) hX.2.2.2.2.2.2.1 hK hP hD hS hA (by decide) (by decide) (by decide) (Nat.le_of_ble_eq_true rfl) (Nat.le_of_ble_eq_true rfl) dX8_init_6 (fun q1 H L2 f3 hn4 hm5 hs6 hd7 hf8 ho9 hP hD hS => ?_)
  have hn10 : q ≠ q1 := fun z9 => hn4 (z9 ▸ hq)
  have hm11 := hs6 _ hq
  have hN12 : q1 ∉ L := fun z9 => hn4 (hsub0 _ z9)
  have hs13 : ∀ a, a ∈ L → a ∈ L2 := fun a ha9 => hs6 _ (hsub0 a ha9)
  have hd14 : ∀ a, a ∈ L2 → a ∈ L ∨ a = q1 := fun a ha9 => (hd7 a ha9).elim (fun z9 => Or.inl (hdom0 a z9)) (fun z9 => Or.inr (by omega))
  have hf15 := (ho9 q hn10).trans hf0
  have hfr16 : ∀ a, a ∈ L → a ≠ q → f3 a = f a := fun a ha9 hn9 => (ho9 a (fun z9 => hN12 (z9 ▸ ha9))).trans (hfr0 a ha9 hn9)
  refine raw_putF (ci := 10) (K := RX8) (T := TX8) (N := 8) (v := .ref q1) (ty := .array (.object "Foundrymark$Component")) hx hb hta iwX8 tyX8 tyX8_ok nmX8 hown hK hP hD hS hm11 hf15 rfl 3 (by decide) (hta _ mw293) rfl hin rfl (by decide +kernel) rfl rfl (Nat.le_of_ble_eq_true rfl) dX8_init_9 (fun H locs f17 hf18 ho19 hP hD hS => ?_)
  have hf18 : f17 q = .inr (10, [.int 0, .int 0, .int 0, .ref q1, .null, .null, .int 0, .int 0]) := hf18
  have hf20 := (ho19 q1 (Ne.symm hn10)).trans hf8
  have hfr21 : ∀ a, a ∈ L → a ≠ q → f17 a = f a := fun a ha9 hn9 => (ho19 a hn9).trans (hfr16 a ha9 hn9)
  refine lv_aload_n hx hb dX8_init_12 rfl (lv_at hl 0 rfl) ?_
  refine lv_iconst (v := 3) hx hb dX8_init_13 (by decide) ?_
  refine raw_newq (N' := 3) (K := RX6) 7 rfl hx hb hown (hta _ mw276) hX.2.2.2.2.2.2.2 hK hP hD hS hA (by decide) (by decide) (by decide) (Nat.le_of_ble_eq_true rfl) (Nat.le_of_ble_eq_true rfl) dX8_init_14 (fun q22 H L23 f24 hn25 hm26 hs27 hd28 hf29 ho30 hP hD hS => ?_)
  have hn31 : q ≠ q22 := fun z9 => hn25 (z9 ▸ hm11)
  have hn32 : q1 ≠ q22 := fun z9 => hn25 (z9 ▸ hm5)
  have hm33 := hs27 _ hm11
  have hm34 := hs27 _ hm5
  have hN35 : q22 ∉ L := fun z9 => hn25 (hs13 _ z9)
  have hs36 : ∀ a, a ∈ L → a ∈ L23 := fun a ha9 => hs27 _ (hs13 a ha9)
  have hd37 : ∀ a, a ∈ L23 → a ∈ L ∨ a = q1 ∨ a = q22 := fun a ha9 => (hd28 a ha9).elim (fun z9 => (hd14 a z9).elim Or.inl (fun z8 => Or.inr (by omega))) (fun z9 => Or.inr (by omega))
  have hf38 := (ho30 q hn31).trans hf18
  have hf39 := (ho30 q1 hn32).trans hf20
  have hfr40 : ∀ a, a ∈ L → a ≠ q → f24 a = f a := fun a ha9 hn9 => (ho30 a (fun z9 => hN35 (z9 ▸ ha9))).trans (hfr21 a ha9 hn9)
  refine raw_putF (ci := 10) (K := RX8) (T := TX8) (N := 8) (v := .ref q22) (ty := .array (.object "Foundrymark$Operation")) hx hb hta iwX8 tyX8 tyX8_ok nmX8 hown hK hP hD hS hm33 hf38 rfl 4 (by decide) (hta _ mw295) rfl hin rfl (by decide +kernel) rfl rfl (Nat.le_of_ble_eq_true rfl) dX8_init_17 (fun H locs f41 hf42 ho43 hP hD hS => ?_)
  have hf42 : f41 q = .inr (10, [.int 0, .int 0, .int 0, .ref q1, .ref q22, .null, .int 0, .int 0]) := hf42
  have hf44 := (ho43 q1 (Ne.symm hn10)).trans hf39
  have hf45 := (ho43 q22 (Ne.symm hn31)).trans hf29
  have hfr46 : ∀ a, a ∈ L → a ≠ q → f41 a = f a := fun a ha9 hn9 => (ho43 a hn9).trans (hfr40 a ha9 hn9)
  refine lv_aload_n hx hb dX8_init_20 rfl (lv_at hl 0 rfl) ?_
  refine raw_new (ci := 2) (K := RX0) (T := TX0) (N := 5) (fs := [.int 0, .int 0, .int 0, .int 0, .int 0]) hx hb hta iwX0 tyX0 tyX0_ok hown (hta _ mw277) (hta _ mw278) (hta _ mw50) hK hP hD hS hA rfl (fun j hj => by rcases (show j = 0 ∨ j = 1 ∨ j = 2 ∨ j = 3 ∨ j = 4 by omega) with rfl | rfl | rfl | rfl | rfl <;> rfl) (Nat.le_of_ble_eq_true rfl) (Nat.le_of_ble_eq_true rfl) dX8_init_21 (fun q47 H L48 f49 hn50 hm51 hs52 hd53 hf54 ho55 hP hD hS => ?_)
  have hn56 : q ≠ q47 := fun z9 => hn50 (z9 ▸ hm33)
  have hn57 : q1 ≠ q47 := fun z9 => hn50 (z9 ▸ hm34)
  have hn58 : q22 ≠ q47 := fun z9 => hn50 (z9 ▸ hm26)
  have hm59 := hs52 _ hm33
  have hm60 := hs52 _ hm34
  have hm61 := hs52 _ hm26
  have hN62 : q47 ∉ L := fun z9 => hn50 (hs36 _ z9)
  have hs63 : ∀ a, a ∈ L → a ∈ L48 := fun a ha9 => hs52 _ (hs36 a ha9)
  have hd64 : ∀ a, a ∈ L48 → a ∈ L ∨ a = q1 ∨ a = q22 ∨ a = q47 := fun a ha9 => (hd53 a ha9).elim (fun z9 => (hd37 a z9).elim Or.inl (fun z8 => Or.inr (by omega))) (fun z9 => Or.inr (by omega))
  have hf65 := (ho55 q hn56).trans hf42
  have hf66 := (ho55 q1 hn57).trans hf44
  have hf67 := (ho55 q22 hn58).trans hf45
  have hfr68 : ∀ a, a ∈ L → a ≠ q → f49 a = f a := fun a ha9 hn9 => (ho55 a (fun z9 => hN62 (z9 ▸ ha9))).trans (hfr46 a ha9 hn9)
  refine lv_dup hx hb dX8_init_24 rfl ?_
  refine graw_N (As := []) (rest := [.ref q47, .ref q]) ⟨hx, hb, hml, hown, hta⟩ (c_X0_init l hm51 hf54) ⟨va_cnB 0 hta (gWI mw280) rfl rfl rfl hX.1.2.2.2.2.2 (hta _ mw50) (by decide +kernel) ⟨Nat.le_of_ble_eq_true rfl, Nat.le_of_ble_eq_true rfl⟩, rfl, hta _ mw279⟩ hK hP hD hS hA rfl hl.1 rfl (Nat.le_of_ble_eq_true rfl) dX8_init_25 ⟨Nat.le_of_ble_eq_true rfl, Nat.le_of_ble_eq_true rfl⟩ (fun u69 H locs hw70 hP hD hS => ?_)
  obtain ⟨L9, f71⟩ := u69
  obtain ⟨rfl, hf72, ho73⟩ := hw70
  dsimp only at hP hD hf72 ho73
  have hf74 := (ho73 q hn56).trans hf65
  have hf75 := (ho73 q1 hn57).trans hf66
  have hf76 := (ho73 q22 hn58).trans hf67
  have hfr77 : ∀ a, a ∈ L → a ≠ q → f71 a = f a := fun a ha9 hn9 => (ho73 a (fun z9 => hN62 (z9 ▸ ha9))).trans (hfr68 a ha9 hn9)
  refine raw_putF (ci := 10) (K := RX8) (T := TX8) (N := 8) (v := .ref q47) (ty := .object "Foundrymark$Chart") hx hb hta iwX8 tyX8 tyX8_ok nmX8 hown hK hP hD hS hm59 hf74 rfl 5 (by decide) (hta _ mw296) rfl hin rfl (by decide +kernel) rfl rfl (Nat.le_of_ble_eq_true rfl) dX8_init_28 (fun H locs f78 hf79 ho80 hP hD hS => ?_)
  have hf79 : f78 q = .inr (10, [.int 0, .int 0, .int 0, .ref q1, .ref q22, .ref q47, .int 0, .int 0]) := hf79
  have hf81 := (ho80 q1 (Ne.symm hn10)).trans hf75
  have hf82 := (ho80 q22 (Ne.symm hn31)).trans hf76
  have hf83 := (ho80 q47 (Ne.symm hn56)).trans hf72
  have hfr84 : ∀ a, a ∈ L → a ≠ q → f78 a = f a := fun a ha9 hn9 => (ho80 a hn9).trans (hfr77 a ha9 hn9)
  refine lv_aload_n hx hb dX8_init_31 rfl (lv_at hl 0 rfl) ?_
  refine lv_iload_n hx hb dX8_init_32 rfl (lv_at hl 1 rfl) ?_
  refine raw_putF (ci := 10) (K := RX8) (T := TX8) (N := 8) (v := .int nn) (ty := .int) hx hb hta iwX8 tyX8 tyX8_ok nmX8 hown hK hP hD hS hm59 hf79 rfl 0 (by decide) (hta _ mw287) rfl hin rfl (by decide +kernel) rfl rfl (Nat.le_of_ble_eq_true rfl) dX8_init_33 (fun H locs f85 hf86 ho87 hP hD hS => ?_)
  have hf86 : f85 q = .inr (10, [.int nn, .int 0, .int 0, .ref q1, .ref q22, .ref q47, .int 0, .int 0]) := hf86
  have hf88 := (ho87 q1 (Ne.symm hn10)).trans hf81
  have hf89 := (ho87 q22 (Ne.symm hn31)).trans hf82
  have hf90 := (ho87 q47 (Ne.symm hn56)).trans hf83
  have hfr91 : ∀ a, a ∈ L → a ≠ q → f85 a = f a := fun a ha9 hn9 => (ho87 a hn9).trans (hfr84 a ha9 hn9)
  refine lv_aload_n hx hb dX8_init_36 rfl (lv_at hl 0 rfl) ?_
  refine lv_iload_n hx hb dX8_init_37 rfl (lv_at hl 2 rfl) ?_
  refine raw_putF (ci := 10) (K := RX8) (T := TX8) (N := 8) (v := .int (bI mb)) (ty := .boolean) hx hb hta iwX8 tyX8 tyX8_ok nmX8 hown hK hP hD hS hm59 hf86 rfl 1 (by decide) (hta _ mw289) rfl hin rfl (by decide +kernel) (by cases mb <;> rfl) (by cases mb <;> rfl) (Nat.le_of_ble_eq_true rfl) dX8_init_38 (fun H locs f92 hf93 ho94 hP hD hS => ?_)
  have hf93 : f92 q = .inr (10, [.int nn, .int (bI mb), .int 0, .ref q1, .ref q22, .ref q47, .int 0, .int 0]) := hf93
  have hf95 := (ho94 q1 (Ne.symm hn10)).trans hf88
  have hf96 := (ho94 q22 (Ne.symm hn31)).trans hf89
  have hf97 := (ho94 q47 (Ne.symm hn56)).trans hf90
  have hfr98 : ∀ a, a ∈ L → a ≠ q → f92 a = f a := fun a ha9 hn9 => (ho94 a hn9).trans (hfr91 a ha9 hn9)
  refine lv_aload_n hx hb dX8_init_41 rfl (lv_at hl 0 rfl) ?_
  refine lv_iload_n hx hb dX8_init_42 rfl (lv_at hl 3 rfl) ?_
  refine raw_putF (ci := 10) (K := RX8) (T := TX8) (N := 8) (v := .int fa) (ty := .int) hx hb hta iwX8 tyX8 tyX8_ok nmX8 hown hK hP hD hS hm59 hf93 rfl 2 (by decide) (hta _ mw291) rfl hin rfl (by decide +kernel) rfl rfl (Nat.le_of_ble_eq_true rfl) dX8_init_43 (fun H locs f99 hf100 ho101 hP hD hS => ?_)
  have hf100 : f99 q = .inr (10, [.int nn, .int (bI mb), .int fa, .ref q1, .ref q22, .ref q47, .int 0, .int 0]) := hf100
  have hf102 := (ho101 q1 (Ne.symm hn10)).trans hf95
  have hf103 := (ho101 q22 (Ne.symm hn31)).trans hf96
  have hf104 := (ho101 q47 (Ne.symm hn56)).trans hf97
  have hfr105 : ∀ a, a ∈ L → a ≠ q → f99 a = f a := fun a ha9 hn9 => (ho101 a hn9).trans (hfr98 a ha9 hn9)
  refine W.widen (k := 3) (n := 12) (Nat.le_of_ble_eq_true rfl) (Nat.le_of_ble_eq_true rfl) ?_
  exact W.vret hx hb hr (fun t ht hWm => gendF (u := (L48, f99)) ⟨q1, q22, q47, hf100, ⟨hf102, hN12, hm60, (Ne.symm hn10)⟩, ⟨hf103, hN35, hm61, (Ne.symm hn31)⟩, ⟨hf104, hN62, hm51, (Ne.symm hn56)⟩, hn32, hn57, hn58, hs63, hd64, hfr105⟩ hP hK hD hS ht hWm) hS.2.2 dX8_init_46

set_option maxHeartbeats 4000000 in
set_option maxRecDepth 100000 in
theorem c_X10_init (l : Launch) {D : va_G} {tA : Nat → ClassId} {L : List Nat} {f : Nat → va_E} {sz q : Nat} (hq : q ∈ L) (hf0 : f q = .inr (12, [.null, .null, .null, .null, .null, .null, .int 0, .int 0, .int 0, .int 0, .int 0, .int 0, .long 0, .long 0]))  : Met l yX10_init (wsC yX10_init cX10_init 2 none) ({ frames := 2, cells := 10, slots := 155, locals := 40 }) (va_Pc [.ref q] (gY D tA L f sz)) (va_Qv (fun u : gV => ∃ q1 q22 q47 q76 q109 q146 q206 q271 q341 q416 : Nat, u.2 q = .inr (12, [.ref q1, .ref q22, .ref q47, .ref q76, .ref q109, .ref q146, .int 0, .int 0, .int 0, .int 0, .int 0, .int 0, .long 0, .long 0]) ∧ (u.2 q1 = .inl (tA 1, 5, .inr (.inr (.inr (.inr (fun _ => none))))) ∧ q1 ∉ L ∧ q1 ∈ u.1 ∧ q1 ≠ q) ∧ (u.2 q22 = .inl (tA 2, 12, .inr (.inr (.inr (.inr (fun _ => none))))) ∧ q22 ∉ L ∧ q22 ∈ u.1 ∧ q22 ≠ q) ∧ (u.2 q47 = .inl (tA 3, 4, .inr (.inr (.inr (.inr (va_up (va_up (va_up (va_up (fun _ => none) 0 (some q206)) 1 (some q271)) 2 (some q341)) 3 (some q416)))))) ∧ q47 ∉ L ∧ q47 ∈ u.1 ∧ q47 ≠ q) ∧ (u.2 q76 = .inl (tA 4, 90, .inr (.inr (.inr (.inr (fun _ => none))))) ∧ q76 ∉ L ∧ q76 ∈ u.1 ∧ q76 ≠ q) ∧ (u.2 q109 = .inl (tA 5, 30, .inr (.inr (.inr (.inr (fun _ => none))))) ∧ q109 ∉ L ∧ q109 ∈ u.1 ∧ q109 ≠ q) ∧ (u.2 q146 = .inr (7, [.long 0, .long 0]) ∧ q146 ∉ L ∧ q146 ∈ u.1 ∧ q146 ≠ q) ∧ (u.2 q206 = .inr (11, [.int 110, .int 0, .int 0]) ∧ q206 ∉ L ∧ q206 ∈ u.1 ∧ q206 ≠ q) ∧ (u.2 q271 = .inr (11, [.int 110, .int 0, .int 0]) ∧ q271 ∉ L ∧ q271 ∈ u.1 ∧ q271 ≠ q) ∧ (u.2 q341 = .inr (11, [.int 110, .int 0, .int 0]) ∧ q341 ∉ L ∧ q341 ∈ u.1 ∧ q341 ≠ q) ∧ (u.2 q416 = .inr (11, [.int 110, .int 0, .int 0]) ∧ q416 ∉ L ∧ q416 ∈ u.1 ∧ q416 ≠ q) ∧ q1 ≠ q22 ∧ q1 ≠ q47 ∧ q1 ≠ q76 ∧ q1 ≠ q109 ∧ q1 ≠ q146 ∧ q1 ≠ q206 ∧ q1 ≠ q271 ∧ q1 ≠ q341 ∧ q1 ≠ q416 ∧ q22 ≠ q47 ∧ q22 ≠ q76 ∧ q22 ≠ q109 ∧ q22 ≠ q146 ∧ q22 ≠ q206 ∧ q22 ≠ q271 ∧ q22 ≠ q341 ∧ q22 ≠ q416 ∧ q47 ≠ q76 ∧ q47 ≠ q109 ∧ q47 ≠ q146 ∧ q47 ≠ q206 ∧ q47 ≠ q271 ∧ q47 ≠ q341 ∧ q47 ≠ q416 ∧ q76 ≠ q109 ∧ q76 ≠ q146 ∧ q76 ≠ q206 ∧ q76 ≠ q271 ∧ q76 ≠ q341 ∧ q76 ≠ q416 ∧ q109 ≠ q146 ∧ q109 ≠ q206 ∧ q109 ≠ q271 ∧ q109 ≠ q341 ∧ q109 ≠ q416 ∧ q146 ≠ q206 ∧ q146 ≠ q271 ∧ q146 ≠ q341 ∧ q146 ≠ q416 ∧ q206 ≠ q271 ∧ q206 ≠ q341 ∧ q206 ≠ q416 ∧ q271 ≠ q341 ∧ q271 ≠ q416 ∧ q341 ≠ q416 ∧ (∀ a, a ∈ L → a ∈ u.1) ∧ (∀ a, a ∈ u.1 → a ∈ L ∨ a = q1 ∨ a = q22 ∨ a = q47 ∨ a = q76 ∨ a = q109 ∨ a = q146 ∨ a = q206 ∨ a = q271 ∨ a = q341 ∨ a = q416) ∧ ∀ a, a ∈ L → a ≠ q → u.2 a = f a) (gF D tA (va_A (va_pl L f) sz)) (va_A (va_pl L f) sz)) 10 155 (va_A (va_pl L f) sz) := by
  refine Met.ofW (cc := cX10_init) (maxL := 2) (ret := none) (by decide) rfl ?_
  intro p e s m args below meth c s₁ B hml hv
  obtain ⟨rfl, ⟨hsz, hP, hK, hD0⟩, hX⟩ := hv
  have hx := B.exec
  have hb := B.bytes
  have hr := B.returns
  have hts := atoms_spec (ws := wsC yX10_init cX10_init 2 none) B.pre
  have hta : ∀ w ∈ WA, w.before _ s = true := fun w h => hts w (List.mem_cons_of_mem _ h)
  have hown : s.vm.findClass RX10 = some m.cls := findClass_of_methodNamed B.named
  have hlocks := B.notSynchronized
  have hin : meth.name = "<init>" := (name_of_methodNamed B.named B.method).1
  subst hsz
  have hD : va_D (va_A (va_pl L f) s.heap.size) (va_pl L f) := hD0.self (sz := s.heap.size)
  generalize hAe : va_A (va_pl L f) s.heap.size = A at hD ⊢
  have hA : ∀ q : Nat, s.heap.size ≤ q → A q := fun q h => by rw [← hAe]; exact Or.inr h
  have hS : va_S A s.heap s.heap [] := va_S.rf
  have hP : va_P D vwCl (va_pl L f) s.heap := hP
  have hfr0 : ∀ a, a ∈ L → a ≠ q → f a = f a := fun _ _ _ => rfl
  have hsub0 : ∀ a, a ∈ L → a ∈ L := fun _ h => h
  have hdom0 : ∀ a, a ∈ L → a ∈ L := fun _ h => h
  have hl := lv_entry ([.ref q]) (n := 2) (Nat.le_of_ble_eq_true rfl)
  rw [lg_entry_eq]
  generalize (lg_sl ([.ref q]) ++ List.replicate (2 - (lg_sl ([.ref q])).length) Slot.unset).toArray = ls at hl ⊢
  have hl : lv_has ls 2 [(0, .ref q)] := hl
  refine lv_aload_n hx hb dX10_init_0 rfl (lv_at hl 0 rfl) ?_
  refine W.objInit hx hb hown (hta _ mw74) (hta _ mw75) (hta _ mw76) rfl (by rw [hml]; exact hl.1) rfl dX10_init_1 (Nat.le_of_ble_eq_true rfl) (Nat.le_of_ble_eq_true rfl) ?_
  refine W.eq (g2 := F0 m 4 ls []) rfl ?_
  refine lv_aload_n hx hb dX10_init_4 rfl (lv_at hl 0 rfl) ?_
  refine lv_iconst (v := 5) hx hb dX10_init_5 (by decide) ?_
  refine raw_newq (N' := 5) (K := RX4) 1 rfl hx hb hown (hta _ mw77) hX.2.1 hK hP hD hS hA (by decide) (by decide) (by decide) (Nat.le_of_ble_eq_true rfl) (Nat.le_of_ble_eq_true rfl) dX10_init_6 (fun q1 H L2 f3 hn4 hm5 hs6 hd7 hf8 ho9 hP hD hS => ?_)
  have hn10 : q ≠ q1 := fun z9 => hn4 (z9 ▸ hq)
  have hm11 := hs6 _ hq
  have hN12 : q1 ∉ L := fun z9 => hn4 (hsub0 _ z9)
  have hs13 : ∀ a, a ∈ L → a ∈ L2 := fun a ha9 => hs6 _ (hsub0 a ha9)
  have hd14 : ∀ a, a ∈ L2 → a ∈ L ∨ a = q1 := fun a ha9 => (hd7 a ha9).elim (fun z9 => Or.inl (hdom0 a z9)) (fun z9 => Or.inr (by omega))
  have hf15 := (ho9 q hn10).trans hf0
  have hfr16 : ∀ a, a ∈ L → a ≠ q → f3 a = f a := fun a ha9 hn9 => (ho9 a (fun z9 => hN12 (z9 ▸ ha9))).trans (hfr0 a ha9 hn9)
  refine raw_putF (ci := 12) (K := RX10) (T := TX10) (N := 14) (v := .ref q1) (ty := .array (.object "Foundrymark$Machine")) hx hb hta iwX10 tyX10 tyX10_ok nmX10 hown hK hP hD hS hm11 hf15 rfl 0 (by decide) (hta _ mw96) rfl hin rfl (by decide +kernel) rfl rfl (Nat.le_of_ble_eq_true rfl) dX10_init_9 (fun H locs f17 hf18 ho19 hP hD hS => ?_)
  have hf18 : f17 q = .inr (12, [.ref q1, .null, .null, .null, .null, .null, .int 0, .int 0, .int 0, .int 0, .int 0, .int 0, .long 0, .long 0]) := hf18
  have hf20 := (ho19 q1 (Ne.symm hn10)).trans hf8
  have hfr21 : ∀ a, a ∈ L → a ≠ q → f17 a = f a := fun a ha9 hn9 => (ho19 a hn9).trans (hfr16 a ha9 hn9)
  refine lv_aload_n hx hb dX10_init_12 rfl (lv_at hl 0 rfl) ?_
  refine lv_bipush (v := 12) hx hb dX10_init_13 (by decide) ?_
  refine raw_newq (N' := 12) (K := RX8) 2 rfl hx hb hown (hta _ mw78) hX.2.2.1 hK hP hD hS hA (by decide) (by decide) (by decide) (Nat.le_of_ble_eq_true rfl) (Nat.le_of_ble_eq_true rfl) dX10_init_15 (fun q22 H L23 f24 hn25 hm26 hs27 hd28 hf29 ho30 hP hD hS => ?_)
  have hn31 : q ≠ q22 := fun z9 => hn25 (z9 ▸ hm11)
  have hn32 : q1 ≠ q22 := fun z9 => hn25 (z9 ▸ hm5)
  have hm33 := hs27 _ hm11
  have hm34 := hs27 _ hm5
  have hN35 : q22 ∉ L := fun z9 => hn25 (hs13 _ z9)
  have hs36 : ∀ a, a ∈ L → a ∈ L23 := fun a ha9 => hs27 _ (hs13 a ha9)
  have hd37 : ∀ a, a ∈ L23 → a ∈ L ∨ a = q1 ∨ a = q22 := fun a ha9 => (hd28 a ha9).elim (fun z9 => (hd14 a z9).elim Or.inl (fun z8 => Or.inr (by omega))) (fun z9 => Or.inr (by omega))
  have hf38 := (ho30 q hn31).trans hf18
  have hf39 := (ho30 q1 hn32).trans hf20
  have hfr40 : ∀ a, a ∈ L → a ≠ q → f24 a = f a := fun a ha9 hn9 => (ho30 a (fun z9 => hN35 (z9 ▸ ha9))).trans (hfr21 a ha9 hn9)
  refine raw_putF (ci := 12) (K := RX10) (T := TX10) (N := 14) (v := .ref q22) (ty := .array (.object "Foundrymark$Part")) hx hb hta iwX10 tyX10 tyX10_ok nmX10 hown hK hP hD hS hm33 hf38 rfl 1 (by decide) (hta _ mw97) rfl hin rfl (by decide +kernel) rfl rfl (Nat.le_of_ble_eq_true rfl) dX10_init_18 (fun H locs f41 hf42 ho43 hP hD hS => ?_)
  have hf42 : f41 q = .inr (12, [.ref q1, .ref q22, .null, .null, .null, .null, .int 0, .int 0, .int 0, .int 0, .int 0, .int 0, .long 0, .long 0]) := hf42
  have hf44 := (ho43 q1 (Ne.symm hn10)).trans hf39
  have hf45 := (ho43 q22 (Ne.symm hn31)).trans hf29
  have hfr46 : ∀ a, a ∈ L → a ≠ q → f41 a = f a := fun a ha9 hn9 => (ho43 a hn9).trans (hfr40 a ha9 hn9)
  refine lv_aload_n hx hb dX10_init_21 rfl (lv_at hl 0 rfl) ?_
  refine lv_iconst (v := 4) hx hb dX10_init_22 (by decide) ?_
  refine raw_newq (N' := 4) (K := RX9) 3 rfl hx hb hown (hta _ mw79) hX.2.2.2.1 hK hP hD hS hA (by decide) (by decide) (by decide) (Nat.le_of_ble_eq_true rfl) (Nat.le_of_ble_eq_true rfl) dX10_init_23 (fun q47 H L48 f49 hn50 hm51 hs52 hd53 hf54 ho55 hP hD hS => ?_)
  have hn56 : q ≠ q47 := fun z9 => hn50 (z9 ▸ hm33)
  have hn57 : q1 ≠ q47 := fun z9 => hn50 (z9 ▸ hm34)
  have hn58 : q22 ≠ q47 := fun z9 => hn50 (z9 ▸ hm26)
  have hm59 := hs52 _ hm33
  have hm60 := hs52 _ hm34
  have hm61 := hs52 _ hm26
  have hN62 : q47 ∉ L := fun z9 => hn50 (hs36 _ z9)
  have hs63 : ∀ a, a ∈ L → a ∈ L48 := fun a ha9 => hs52 _ (hs36 a ha9)
  have hd64 : ∀ a, a ∈ L48 → a ∈ L ∨ a = q1 ∨ a = q22 ∨ a = q47 := fun a ha9 => (hd53 a ha9).elim (fun z9 => (hd37 a z9).elim Or.inl (fun z8 => Or.inr (by omega))) (fun z9 => Or.inr (by omega))
  have hf65 := (ho55 q hn56).trans hf42
  have hf66 := (ho55 q1 hn57).trans hf44
  have hf67 := (ho55 q22 hn58).trans hf45
  have hfr68 : ∀ a, a ∈ L → a ≠ q → f49 a = f a := fun a ha9 hn9 => (ho55 a (fun z9 => hN62 (z9 ▸ ha9))).trans (hfr46 a ha9 hn9)
  refine raw_putF (ci := 12) (K := RX10) (T := TX10) (N := 14) (v := .ref q47) (ty := .array (.object "Foundrymark$Supplier")) hx hb hta iwX10 tyX10 tyX10_ok nmX10 hown hK hP hD hS hm59 hf65 rfl 2 (by decide) (hta _ mw98) rfl hin rfl (by decide +kernel) rfl rfl (Nat.le_of_ble_eq_true rfl) dX10_init_26 (fun H locs f69 hf70 ho71 hP hD hS => ?_)
  have hf70 : f69 q = .inr (12, [.ref q1, .ref q22, .ref q47, .null, .null, .null, .int 0, .int 0, .int 0, .int 0, .int 0, .int 0, .long 0, .long 0]) := hf70
  have hf72 := (ho71 q1 (Ne.symm hn10)).trans hf66
  have hf73 := (ho71 q22 (Ne.symm hn31)).trans hf67
  have hf74 := (ho71 q47 (Ne.symm hn56)).trans hf54
  have hfr75 : ∀ a, a ∈ L → a ≠ q → f69 a = f a := fun a ha9 hn9 => (ho71 a hn9).trans (hfr68 a ha9 hn9)
  refine lv_aload_n hx hb dX10_init_29 rfl (lv_at hl 0 rfl) ?_
  refine lv_bipush (v := 90) hx hb dX10_init_30 (by decide) ?_
  refine raw_newq (N' := 90) (K := RX3) 4 rfl hx hb hown (hta _ mw80) hX.2.2.2.2.1 hK hP hD hS hA (by decide) (by decide) (by decide) (Nat.le_of_ble_eq_true rfl) (Nat.le_of_ble_eq_true rfl) dX10_init_32 (fun q76 H L77 f78 hn79 hm80 hs81 hd82 hf83 ho84 hP hD hS => ?_)
  have hn85 : q ≠ q76 := fun z9 => hn79 (z9 ▸ hm59)
  have hn86 : q1 ≠ q76 := fun z9 => hn79 (z9 ▸ hm60)
  have hn87 : q22 ≠ q76 := fun z9 => hn79 (z9 ▸ hm61)
  have hn88 : q47 ≠ q76 := fun z9 => hn79 (z9 ▸ hm51)
  have hm89 := hs81 _ hm59
  have hm90 := hs81 _ hm60
  have hm91 := hs81 _ hm61
  have hm92 := hs81 _ hm51
  have hN93 : q76 ∉ L := fun z9 => hn79 (hs63 _ z9)
  have hs94 : ∀ a, a ∈ L → a ∈ L77 := fun a ha9 => hs81 _ (hs63 a ha9)
  have hd95 : ∀ a, a ∈ L77 → a ∈ L ∨ a = q1 ∨ a = q22 ∨ a = q47 ∨ a = q76 := fun a ha9 => (hd82 a ha9).elim (fun z9 => (hd64 a z9).elim Or.inl (fun z8 => Or.inr (by omega))) (fun z9 => Or.inr (by omega))
  have hf96 := (ho84 q hn85).trans hf70
  have hf97 := (ho84 q1 hn86).trans hf72
  have hf98 := (ho84 q22 hn87).trans hf73
  have hf99 := (ho84 q47 hn88).trans hf74
  have hfr100 : ∀ a, a ∈ L → a ≠ q → f78 a = f a := fun a ha9 hn9 => (ho84 a (fun z9 => hN93 (z9 ▸ ha9))).trans (hfr75 a ha9 hn9)
  refine raw_putF (ci := 12) (K := RX10) (T := TX10) (N := 14) (v := .ref q76) (ty := .array (.object "Foundrymark$Lot")) hx hb hta iwX10 tyX10 tyX10_ok nmX10 hown hK hP hD hS hm89 hf96 rfl 3 (by decide) (hta _ mw99) rfl hin rfl (by decide +kernel) rfl rfl (Nat.le_of_ble_eq_true rfl) dX10_init_35 (fun H locs f101 hf102 ho103 hP hD hS => ?_)
  have hf102 : f101 q = .inr (12, [.ref q1, .ref q22, .ref q47, .ref q76, .null, .null, .int 0, .int 0, .int 0, .int 0, .int 0, .int 0, .long 0, .long 0]) := hf102
  have hf104 := (ho103 q1 (Ne.symm hn10)).trans hf97
  have hf105 := (ho103 q22 (Ne.symm hn31)).trans hf98
  have hf106 := (ho103 q47 (Ne.symm hn56)).trans hf99
  have hf107 := (ho103 q76 (Ne.symm hn85)).trans hf83
  have hfr108 : ∀ a, a ∈ L → a ≠ q → f101 a = f a := fun a ha9 hn9 => (ho103 a hn9).trans (hfr100 a ha9 hn9)
  refine lv_aload_n hx hb dX10_init_38 rfl (lv_at hl 0 rfl) ?_
  refine lv_bipush (v := 30) hx hb dX10_init_39 (by decide) ?_
  refine raw_newq (N' := 30) (K := RX7) 5 rfl hx hb hown (hta _ mw81) hX.2.2.2.2.2.1 hK hP hD hS hA (by decide) (by decide) (by decide) (Nat.le_of_ble_eq_true rfl) (Nat.le_of_ble_eq_true rfl) dX10_init_41 (fun q109 H L110 f111 hn112 hm113 hs114 hd115 hf116 ho117 hP hD hS => ?_)
  have hn118 : q ≠ q109 := fun z9 => hn112 (z9 ▸ hm89)
  have hn119 : q1 ≠ q109 := fun z9 => hn112 (z9 ▸ hm90)
  have hn120 : q22 ≠ q109 := fun z9 => hn112 (z9 ▸ hm91)
  have hn121 : q47 ≠ q109 := fun z9 => hn112 (z9 ▸ hm92)
  have hn122 : q76 ≠ q109 := fun z9 => hn112 (z9 ▸ hm80)
  have hm123 := hs114 _ hm89
  have hm124 := hs114 _ hm90
  have hm125 := hs114 _ hm91
  have hm126 := hs114 _ hm92
  have hm127 := hs114 _ hm80
  have hN128 : q109 ∉ L := fun z9 => hn112 (hs94 _ z9)
  have hs129 : ∀ a, a ∈ L → a ∈ L110 := fun a ha9 => hs114 _ (hs94 a ha9)
  have hd130 : ∀ a, a ∈ L110 → a ∈ L ∨ a = q1 ∨ a = q22 ∨ a = q47 ∨ a = q76 ∨ a = q109 := fun a ha9 => (hd115 a ha9).elim (fun z9 => (hd95 a z9).elim Or.inl (fun z8 => Or.inr (by omega))) (fun z9 => Or.inr (by omega))
  have hf131 := (ho117 q hn118).trans hf102
  have hf132 := (ho117 q1 hn119).trans hf104
  have hf133 := (ho117 q22 hn120).trans hf105
  have hf134 := (ho117 q47 hn121).trans hf106
  have hf135 := (ho117 q76 hn122).trans hf107
  have hfr136 : ∀ a, a ∈ L → a ≠ q → f111 a = f a := fun a ha9 hn9 => (ho117 a (fun z9 => hN128 (z9 ▸ ha9))).trans (hfr108 a ha9 hn9)
  refine raw_putF (ci := 12) (K := RX10) (T := TX10) (N := 14) (v := .ref q109) (ty := .array (.object "Foundrymark$Order")) hx hb hta iwX10 tyX10 tyX10_ok nmX10 hown hK hP hD hS hm123 hf131 rfl 4 (by decide) (hta _ mw100) rfl hin rfl (by decide +kernel) rfl rfl (Nat.le_of_ble_eq_true rfl) dX10_init_44 (fun H locs f137 hf138 ho139 hP hD hS => ?_)
  have hf138 : f137 q = .inr (12, [.ref q1, .ref q22, .ref q47, .ref q76, .ref q109, .null, .int 0, .int 0, .int 0, .int 0, .int 0, .int 0, .long 0, .long 0]) := hf138
  have hf140 := (ho139 q1 (Ne.symm hn10)).trans hf132
  have hf141 := (ho139 q22 (Ne.symm hn31)).trans hf133
  have hf142 := (ho139 q47 (Ne.symm hn56)).trans hf134
  have hf143 := (ho139 q76 (Ne.symm hn85)).trans hf135
  have hf144 := (ho139 q109 (Ne.symm hn118)).trans hf116
  have hfr145 : ∀ a, a ∈ L → a ≠ q → f137 a = f a := fun a ha9 hn9 => (ho139 a hn9).trans (hfr136 a ha9 hn9)
  refine lv_aload_n hx hb dX10_init_47 rfl (lv_at hl 0 rfl) ?_
  refine raw_new (ci := 7) (K := RX5) (T := TX5) (N := 2) (fs := [.long 0, .long 0]) hx hb hta iwX5 tyX5 tyX5_ok hown (hta _ mw82) (hta _ mw83) (hta _ mw41) hK hP hD hS hA rfl (fun j hj => by rcases (show j = 0 ∨ j = 1 by omega) with rfl | rfl <;> rfl) (Nat.le_of_ble_eq_true rfl) (Nat.le_of_ble_eq_true rfl) dX10_init_48 (fun q146 H L147 f148 hn149 hm150 hs151 hd152 hf153 ho154 hP hD hS => ?_)
  have hn155 : q ≠ q146 := fun z9 => hn149 (z9 ▸ hm123)
  have hn156 : q1 ≠ q146 := fun z9 => hn149 (z9 ▸ hm124)
  have hn157 : q22 ≠ q146 := fun z9 => hn149 (z9 ▸ hm125)
  have hn158 : q47 ≠ q146 := fun z9 => hn149 (z9 ▸ hm126)
  have hn159 : q76 ≠ q146 := fun z9 => hn149 (z9 ▸ hm127)
  have hn160 : q109 ≠ q146 := fun z9 => hn149 (z9 ▸ hm113)
  have hm161 := hs151 _ hm123
  have hm162 := hs151 _ hm124
  have hm163 := hs151 _ hm125
  have hm164 := hs151 _ hm126
  have hm165 := hs151 _ hm127
  have hm166 := hs151 _ hm113
  have hN167 : q146 ∉ L := fun z9 => hn149 (hs129 _ z9)
  have hs168 : ∀ a, a ∈ L → a ∈ L147 := fun a ha9 => hs151 _ (hs129 a ha9)
  have hd169 : ∀ a, a ∈ L147 → a ∈ L ∨ a = q1 ∨ a = q22 ∨ a = q47 ∨ a = q76 ∨ a = q109 ∨ a = q146 := fun a ha9 => (hd152 a ha9).elim (fun z9 => (hd130 a z9).elim Or.inl (fun z8 => Or.inr (by omega))) (fun z9 => Or.inr (by omega))
  have hf170 := (ho154 q hn155).trans hf138
  have hf171 := (ho154 q1 hn156).trans hf140
  have hf172 := (ho154 q22 hn157).trans hf141
  have hf173 := (ho154 q47 hn158).trans hf142
  have hf174 := (ho154 q76 hn159).trans hf143
  have hf175 := (ho154 q109 hn160).trans hf144
  have hfr176 : ∀ a, a ∈ L → a ≠ q → f148 a = f a := fun a ha9 hn9 => (ho154 a (fun z9 => hN167 (z9 ▸ ha9))).trans (hfr145 a ha9 hn9)
  refine lv_dup hx hb dX10_init_51 rfl ?_
  refine graw_N (As := []) (rest := [.ref q146, .ref q]) ⟨hx, hb, hml, hown, hta⟩ (c_X5_init l hm150 hf153) ⟨va_cnB 0 hta (gWI mw85) rfl rfl rfl hX.1.1 (hta _ mw41) (by decide +kernel) ⟨Nat.le_of_ble_eq_true rfl, Nat.le_of_ble_eq_true rfl⟩, rfl, hta _ mw84⟩ hK hP hD hS hA rfl hl.1 rfl (Nat.le_of_ble_eq_true rfl) dX10_init_52 ⟨Nat.le_of_ble_eq_true rfl, Nat.le_of_ble_eq_true rfl⟩ (fun u177 H locs hw178 hP hD hS => ?_)
  obtain ⟨L9, f179⟩ := u177
  obtain ⟨rfl, hf180, ho181⟩ := hw178
  dsimp only at hP hD hf180 ho181
  have hf182 := (ho181 q hn155).trans hf170
  have hf183 := (ho181 q1 hn156).trans hf171
  have hf184 := (ho181 q22 hn157).trans hf172
  have hf185 := (ho181 q47 hn158).trans hf173
  have hf186 := (ho181 q76 hn159).trans hf174
  have hf187 := (ho181 q109 hn160).trans hf175
  have hfr188 : ∀ a, a ∈ L → a ≠ q → f179 a = f a := fun a ha9 hn9 => (ho181 a (fun z9 => hN167 (z9 ▸ ha9))).trans (hfr176 a ha9 hn9)
  refine raw_putF (ci := 12) (K := RX10) (T := TX10) (N := 14) (v := .ref q146) (ty := .object "Foundrymark$NumberSet") hx hb hta iwX10 tyX10 tyX10_ok nmX10 hown hK hP hD hS hm161 hf182 rfl 5 (by decide) (hta _ mw101) rfl hin rfl (by decide +kernel) rfl rfl (Nat.le_of_ble_eq_true rfl) dX10_init_55 (fun H locs f189 hf190 ho191 hP hD hS => ?_)
  have hf190 : f189 q = .inr (12, [.ref q1, .ref q22, .ref q47, .ref q76, .ref q109, .ref q146, .int 0, .int 0, .int 0, .int 0, .int 0, .int 0, .long 0, .long 0]) := hf190
  have hf192 := (ho191 q1 (Ne.symm hn10)).trans hf183
  have hf193 := (ho191 q22 (Ne.symm hn31)).trans hf184
  have hf194 := (ho191 q47 (Ne.symm hn56)).trans hf185
  have hf195 := (ho191 q76 (Ne.symm hn85)).trans hf186
  have hf196 := (ho191 q109 (Ne.symm hn118)).trans hf187
  have hf197 := (ho191 q146 (Ne.symm hn155)).trans hf180
  have hfr198 : ∀ a, a ∈ L → a ≠ q → f189 a = f a := fun a ha9 hn9 => (ho191 a hn9).trans (hfr188 a ha9 hn9)
  refine lv_iconst (v := 0) hx hb dX10_init_58 (by decide) ?_
  refine lv_istore_n (lv' := [(1, .int 0), (0, .ref q)]) hx hb dX10_init_59 rfl hl (by decide) rfl (fun ls hl => ?_)
  refine lv_iload_n hx hb dX10_init_60 rfl (lv_at hl 0 rfl) ?_
  refine lv_aload_n hx hb dX10_init_61 rfl (lv_at hl 1 rfl) ?_
  obtain ⟨z199, hz200⟩ := pl_at hm161 hf190
  refine va_get (D := D) (ci := 12) (v := .ref q47) (C := RX10) (T := TX10) (N := 14) hx hb hta iwX10 hown hK hP z199 hz200 rfl 2 (by decide) (hta _ mw98) (fun _ h9 => h9) rfl dX10_init_62 ?_
  obtain ⟨z201, hz202⟩ := pl_at hm164 hf194
  refine va_alen hx hb hK hP z201 3 hz202 rfl (v := 4) rfl dX10_init_65 ?_
  refine lv_icmp_ge (tgt := 88) hx hb dX10_init_66 (by decide) (fun c203 => ?_) (fun c203 => ?_)
  · exact absurd c203 (by decide)
  · skip
    refine lv_aload_n hx hb dX10_init_69 rfl (lv_at hl 1 rfl) ?_
    obtain ⟨z204, hz205⟩ := pl_at hm161 hf190
    refine va_get (D := D) (ci := 12) (v := .ref q47) (C := RX10) (T := TX10) (N := 14) hx hb hta iwX10 hown hK hP z204 hz205 rfl 2 (by decide) (hta _ mw98) (fun _ h9 => h9) rfl dX10_init_70 ?_
    refine lv_iload_n hx hb dX10_init_73 rfl (lv_at hl 0 rfl) ?_
    refine raw_new (ci := 11) (K := RX9) (T := TX9) (N := 3) (fs := [.int 0, .int 0, .int 0]) hx hb hta iwX9 tyX9 tyX9_ok hown (hta _ mw79) (hta _ mw89) (hta _ mw42) hK hP hD hS hA rfl (fun j hj => by rcases (show j = 0 ∨ j = 1 ∨ j = 2 by omega) with rfl | rfl | rfl <;> rfl) (Nat.le_of_ble_eq_true rfl) (Nat.le_of_ble_eq_true rfl) dX10_init_74 (fun q206 H L207 f208 hn209 hm210 hs211 hd212 hf213 ho214 hP hD hS => ?_)
    have hn215 : q ≠ q206 := fun z9 => hn209 (z9 ▸ hm161)
    have hn216 : q1 ≠ q206 := fun z9 => hn209 (z9 ▸ hm162)
    have hn217 : q22 ≠ q206 := fun z9 => hn209 (z9 ▸ hm163)
    have hn218 : q47 ≠ q206 := fun z9 => hn209 (z9 ▸ hm164)
    have hn219 : q76 ≠ q206 := fun z9 => hn209 (z9 ▸ hm165)
    have hn220 : q109 ≠ q206 := fun z9 => hn209 (z9 ▸ hm166)
    have hn221 : q146 ≠ q206 := fun z9 => hn209 (z9 ▸ hm150)
    have hm222 := hs211 _ hm161
    have hm223 := hs211 _ hm162
    have hm224 := hs211 _ hm163
    have hm225 := hs211 _ hm164
    have hm226 := hs211 _ hm165
    have hm227 := hs211 _ hm166
    have hm228 := hs211 _ hm150
    have hN229 : q206 ∉ L := fun z9 => hn209 (hs168 _ z9)
    have hs230 : ∀ a, a ∈ L → a ∈ L207 := fun a ha9 => hs211 _ (hs168 a ha9)
    have hd231 : ∀ a, a ∈ L207 → a ∈ L ∨ a = q1 ∨ a = q22 ∨ a = q47 ∨ a = q76 ∨ a = q109 ∨ a = q146 ∨ a = q206 := fun a ha9 => (hd212 a ha9).elim (fun z9 => (hd169 a z9).elim Or.inl (fun z8 => Or.inr (by omega))) (fun z9 => Or.inr (by omega))
    have hf232 := (ho214 q hn215).trans hf190
    have hf233 := (ho214 q1 hn216).trans hf192
    have hf234 := (ho214 q22 hn217).trans hf193
    have hf235 := (ho214 q47 hn218).trans hf194
    have hf236 := (ho214 q76 hn219).trans hf195
    have hf237 := (ho214 q109 hn220).trans hf196
    have hf238 := (ho214 q146 hn221).trans hf197
    have hfr239 : ∀ a, a ∈ L → a ≠ q → f208 a = f a := fun a ha9 hn9 => (ho214 a (fun z9 => hN229 (z9 ▸ ha9))).trans (hfr198 a ha9 hn9)
    refine lv_dup hx hb dX10_init_77 rfl ?_
    refine graw_N (As := []) (rest := [.ref q206, .int 0, .ref q47]) ⟨hx, hb, hml, hown, hta⟩ (c_X9_init l hm210 hf213) ⟨va_cnB 0 hta (gWI mw91) rfl rfl rfl hX.1.2.1 (hta _ mw42) (by decide +kernel) ⟨Nat.le_of_ble_eq_true rfl, Nat.le_of_ble_eq_true rfl⟩, rfl, hta _ mw90⟩ hK hP hD hS hA rfl hl.1 rfl (Nat.le_of_ble_eq_true rfl) dX10_init_78 ⟨Nat.le_of_ble_eq_true rfl, Nat.le_of_ble_eq_true rfl⟩ (fun u240 H locs hw241 hP hD hS => ?_)
    obtain ⟨L9, f242⟩ := u240
    obtain ⟨rfl, hf243, ho244⟩ := hw241
    dsimp only at hP hD hf243 ho244
    have hf245 := (ho244 q hn215).trans hf232
    have hf246 := (ho244 q1 hn216).trans hf233
    have hf247 := (ho244 q22 hn217).trans hf234
    have hf248 := (ho244 q47 hn218).trans hf235
    have hf249 := (ho244 q76 hn219).trans hf236
    have hf250 := (ho244 q109 hn220).trans hf237
    have hf251 := (ho244 q146 hn221).trans hf238
    have hfr252 : ∀ a, a ∈ L → a ≠ q → f242 a = f a := fun a ha9 hn9 => (ho244 a (fun z9 => hN229 (z9 ▸ ha9))).trans (hfr239 a ha9 hn9)
    refine raw_ast (K := RX9) (T := TX9) (N := 3) (ci := 11) (j := 0) 3 rfl hx hb hK hP hD hS hm225 hf248 hm210 hf243 rfl (by decide) (by decide) dX10_init_81 (fun H locs f253 hf254 ho255 hP hD hS => ?_)
    have hf256 := (ho255 q hn56).trans hf245
    have hf257 := (ho255 q1 hn57).trans hf246
    have hf258 := (ho255 q22 hn58).trans hf247
    have hf259 := (ho255 q76 (Ne.symm hn88)).trans hf249
    have hf260 := (ho255 q109 (Ne.symm hn121)).trans hf250
    have hf261 := (ho255 q146 (Ne.symm hn158)).trans hf251
    have hf262 := (ho255 q206 (Ne.symm hn218)).trans hf243
    have hfr263 : ∀ a, a ∈ L → a ≠ q → f253 a = f a := fun a ha9 hn9 => (ho255 a (fun z9 => hN62 (z9 ▸ ha9))).trans (hfr252 a ha9 hn9)
    refine lv_iinc (v := 1) (lv' := [(1, .int 1), (0, .ref q)]) hx hb dX10_init_82 hl (k := 0) rfl (by decide) (by decide) rfl (fun ls hl => ?_)
    refine lv_goto (tgt := 60) hx hb dX10_init_85 (by decide) ?_
    refine lv_iload_n hx hb dX10_init_60 rfl (lv_at hl 0 rfl) ?_
    refine lv_aload_n hx hb dX10_init_61 rfl (lv_at hl 1 rfl) ?_
    obtain ⟨z264, hz265⟩ := pl_at hm222 hf256
    refine va_get (D := D) (ci := 12) (v := .ref q47) (C := RX10) (T := TX10) (N := 14) hx hb hta iwX10 hown hK hP z264 hz265 rfl 2 (by decide) (hta _ mw98) (fun _ h9 => h9) rfl dX10_init_62 ?_
    obtain ⟨z266, hz267⟩ := pl_at hm225 hf254
    refine va_alen hx hb hK hP z266 3 hz267 rfl (v := 4) rfl dX10_init_65 ?_
    refine lv_icmp_ge (tgt := 88) hx hb dX10_init_66 (by decide) (fun c268 => ?_) (fun c268 => ?_)
    · exact absurd c268 (by decide)
    · skip
      refine lv_aload_n hx hb dX10_init_69 rfl (lv_at hl 1 rfl) ?_
      obtain ⟨z269, hz270⟩ := pl_at hm222 hf256
      refine va_get (D := D) (ci := 12) (v := .ref q47) (C := RX10) (T := TX10) (N := 14) hx hb hta iwX10 hown hK hP z269 hz270 rfl 2 (by decide) (hta _ mw98) (fun _ h9 => h9) rfl dX10_init_70 ?_
      refine lv_iload_n hx hb dX10_init_73 rfl (lv_at hl 0 rfl) ?_
      refine raw_new (ci := 11) (K := RX9) (T := TX9) (N := 3) (fs := [.int 0, .int 0, .int 0]) hx hb hta iwX9 tyX9 tyX9_ok hown (hta _ mw79) (hta _ mw89) (hta _ mw42) hK hP hD hS hA rfl (fun j hj => by rcases (show j = 0 ∨ j = 1 ∨ j = 2 by omega) with rfl | rfl | rfl <;> rfl) (Nat.le_of_ble_eq_true rfl) (Nat.le_of_ble_eq_true rfl) dX10_init_74 (fun q271 H L272 f273 hn274 hm275 hs276 hd277 hf278 ho279 hP hD hS => ?_)
      have hn280 : q ≠ q271 := fun z9 => hn274 (z9 ▸ hm222)
      have hn281 : q1 ≠ q271 := fun z9 => hn274 (z9 ▸ hm223)
      have hn282 : q22 ≠ q271 := fun z9 => hn274 (z9 ▸ hm224)
      have hn283 : q47 ≠ q271 := fun z9 => hn274 (z9 ▸ hm225)
      have hn284 : q76 ≠ q271 := fun z9 => hn274 (z9 ▸ hm226)
      have hn285 : q109 ≠ q271 := fun z9 => hn274 (z9 ▸ hm227)
      have hn286 : q146 ≠ q271 := fun z9 => hn274 (z9 ▸ hm228)
      have hn287 : q206 ≠ q271 := fun z9 => hn274 (z9 ▸ hm210)
      have hm288 := hs276 _ hm222
      have hm289 := hs276 _ hm223
      have hm290 := hs276 _ hm224
      have hm291 := hs276 _ hm225
      have hm292 := hs276 _ hm226
      have hm293 := hs276 _ hm227
      have hm294 := hs276 _ hm228
      have hm295 := hs276 _ hm210
      have hN296 : q271 ∉ L := fun z9 => hn274 (hs230 _ z9)
      have hs297 : ∀ a, a ∈ L → a ∈ L272 := fun a ha9 => hs276 _ (hs230 a ha9)
      have hd298 : ∀ a, a ∈ L272 → a ∈ L ∨ a = q1 ∨ a = q22 ∨ a = q47 ∨ a = q76 ∨ a = q109 ∨ a = q146 ∨ a = q206 ∨ a = q271 := fun a ha9 => (hd277 a ha9).elim (fun z9 => (hd231 a z9).elim Or.inl (fun z8 => Or.inr (by omega))) (fun z9 => Or.inr (by omega))
      have hf299 := (ho279 q hn280).trans hf256
      have hf300 := (ho279 q1 hn281).trans hf257
      have hf301 := (ho279 q22 hn282).trans hf258
      have hf302 := (ho279 q47 hn283).trans hf254
      have hf303 := (ho279 q76 hn284).trans hf259
      have hf304 := (ho279 q109 hn285).trans hf260
      have hf305 := (ho279 q146 hn286).trans hf261
      have hf306 := (ho279 q206 hn287).trans hf262
      have hfr307 : ∀ a, a ∈ L → a ≠ q → f273 a = f a := fun a ha9 hn9 => (ho279 a (fun z9 => hN296 (z9 ▸ ha9))).trans (hfr263 a ha9 hn9)
      refine lv_dup hx hb dX10_init_77 rfl ?_
      refine graw_N (As := []) (rest := [.ref q271, .int 1, .ref q47]) ⟨hx, hb, hml, hown, hta⟩ (c_X9_init l hm275 hf278) ⟨va_cnB 0 hta (gWI mw91) rfl rfl rfl hX.1.2.1 (hta _ mw42) (by decide +kernel) ⟨Nat.le_of_ble_eq_true rfl, Nat.le_of_ble_eq_true rfl⟩, rfl, hta _ mw90⟩ hK hP hD hS hA rfl hl.1 rfl (Nat.le_of_ble_eq_true rfl) dX10_init_78 ⟨Nat.le_of_ble_eq_true rfl, Nat.le_of_ble_eq_true rfl⟩ (fun u308 H locs hw309 hP hD hS => ?_)
      obtain ⟨L9, f310⟩ := u308
      obtain ⟨rfl, hf311, ho312⟩ := hw309
      dsimp only at hP hD hf311 ho312
      have hf313 := (ho312 q hn280).trans hf299
      have hf314 := (ho312 q1 hn281).trans hf300
      have hf315 := (ho312 q22 hn282).trans hf301
      have hf316 := (ho312 q47 hn283).trans hf302
      have hf317 := (ho312 q76 hn284).trans hf303
      have hf318 := (ho312 q109 hn285).trans hf304
      have hf319 := (ho312 q146 hn286).trans hf305
      have hf320 := (ho312 q206 hn287).trans hf306
      have hfr321 : ∀ a, a ∈ L → a ≠ q → f310 a = f a := fun a ha9 hn9 => (ho312 a (fun z9 => hN296 (z9 ▸ ha9))).trans (hfr307 a ha9 hn9)
      refine raw_ast (K := RX9) (T := TX9) (N := 3) (ci := 11) (j := 1) 3 rfl hx hb hK hP hD hS hm291 hf316 hm275 hf311 rfl (by decide) (by decide) dX10_init_81 (fun H locs f322 hf323 ho324 hP hD hS => ?_)
      have hf325 := (ho324 q hn56).trans hf313
      have hf326 := (ho324 q1 hn57).trans hf314
      have hf327 := (ho324 q22 hn58).trans hf315
      have hf328 := (ho324 q76 (Ne.symm hn88)).trans hf317
      have hf329 := (ho324 q109 (Ne.symm hn121)).trans hf318
      have hf330 := (ho324 q146 (Ne.symm hn158)).trans hf319
      have hf331 := (ho324 q206 (Ne.symm hn218)).trans hf320
      have hf332 := (ho324 q271 (Ne.symm hn283)).trans hf311
      have hfr333 : ∀ a, a ∈ L → a ≠ q → f322 a = f a := fun a ha9 hn9 => (ho324 a (fun z9 => hN62 (z9 ▸ ha9))).trans (hfr321 a ha9 hn9)
      refine lv_iinc (v := 2) (lv' := [(1, .int 2), (0, .ref q)]) hx hb dX10_init_82 hl (k := 0) rfl (by decide) (by decide) rfl (fun ls hl => ?_)
      refine lv_goto (tgt := 60) hx hb dX10_init_85 (by decide) ?_
      refine lv_iload_n hx hb dX10_init_60 rfl (lv_at hl 0 rfl) ?_
      refine lv_aload_n hx hb dX10_init_61 rfl (lv_at hl 1 rfl) ?_
      obtain ⟨z334, hz335⟩ := pl_at hm288 hf325
      refine va_get (D := D) (ci := 12) (v := .ref q47) (C := RX10) (T := TX10) (N := 14) hx hb hta iwX10 hown hK hP z334 hz335 rfl 2 (by decide) (hta _ mw98) (fun _ h9 => h9) rfl dX10_init_62 ?_
      obtain ⟨z336, hz337⟩ := pl_at hm291 hf323
      refine va_alen hx hb hK hP z336 3 hz337 rfl (v := 4) rfl dX10_init_65 ?_
      refine lv_icmp_ge (tgt := 88) hx hb dX10_init_66 (by decide) (fun c338 => ?_) (fun c338 => ?_)
      · exact absurd c338 (by decide)
      · skip
        refine lv_aload_n hx hb dX10_init_69 rfl (lv_at hl 1 rfl) ?_
        obtain ⟨z339, hz340⟩ := pl_at hm288 hf325
        refine va_get (D := D) (ci := 12) (v := .ref q47) (C := RX10) (T := TX10) (N := 14) hx hb hta iwX10 hown hK hP z339 hz340 rfl 2 (by decide) (hta _ mw98) (fun _ h9 => h9) rfl dX10_init_70 ?_
        refine lv_iload_n hx hb dX10_init_73 rfl (lv_at hl 0 rfl) ?_
        refine raw_new (ci := 11) (K := RX9) (T := TX9) (N := 3) (fs := [.int 0, .int 0, .int 0]) hx hb hta iwX9 tyX9 tyX9_ok hown (hta _ mw79) (hta _ mw89) (hta _ mw42) hK hP hD hS hA rfl (fun j hj => by rcases (show j = 0 ∨ j = 1 ∨ j = 2 by omega) with rfl | rfl | rfl <;> rfl) (Nat.le_of_ble_eq_true rfl) (Nat.le_of_ble_eq_true rfl) dX10_init_74 (fun q341 H L342 f343 hn344 hm345 hs346 hd347 hf348 ho349 hP hD hS => ?_)
        have hn350 : q ≠ q341 := fun z9 => hn344 (z9 ▸ hm288)
        have hn351 : q1 ≠ q341 := fun z9 => hn344 (z9 ▸ hm289)
        have hn352 : q22 ≠ q341 := fun z9 => hn344 (z9 ▸ hm290)
        have hn353 : q47 ≠ q341 := fun z9 => hn344 (z9 ▸ hm291)
        have hn354 : q76 ≠ q341 := fun z9 => hn344 (z9 ▸ hm292)
        have hn355 : q109 ≠ q341 := fun z9 => hn344 (z9 ▸ hm293)
        have hn356 : q146 ≠ q341 := fun z9 => hn344 (z9 ▸ hm294)
        have hn357 : q206 ≠ q341 := fun z9 => hn344 (z9 ▸ hm295)
        have hn358 : q271 ≠ q341 := fun z9 => hn344 (z9 ▸ hm275)
        have hm359 := hs346 _ hm288
        have hm360 := hs346 _ hm289
        have hm361 := hs346 _ hm290
        have hm362 := hs346 _ hm291
        have hm363 := hs346 _ hm292
        have hm364 := hs346 _ hm293
        have hm365 := hs346 _ hm294
        have hm366 := hs346 _ hm295
        have hm367 := hs346 _ hm275
        have hN368 : q341 ∉ L := fun z9 => hn344 (hs297 _ z9)
        have hs369 : ∀ a, a ∈ L → a ∈ L342 := fun a ha9 => hs346 _ (hs297 a ha9)
        have hd370 : ∀ a, a ∈ L342 → a ∈ L ∨ a = q1 ∨ a = q22 ∨ a = q47 ∨ a = q76 ∨ a = q109 ∨ a = q146 ∨ a = q206 ∨ a = q271 ∨ a = q341 := fun a ha9 => (hd347 a ha9).elim (fun z9 => (hd298 a z9).elim Or.inl (fun z8 => Or.inr (by omega))) (fun z9 => Or.inr (by omega))
        have hf371 := (ho349 q hn350).trans hf325
        have hf372 := (ho349 q1 hn351).trans hf326
        have hf373 := (ho349 q22 hn352).trans hf327
        have hf374 := (ho349 q47 hn353).trans hf323
        have hf375 := (ho349 q76 hn354).trans hf328
        have hf376 := (ho349 q109 hn355).trans hf329
        have hf377 := (ho349 q146 hn356).trans hf330
        have hf378 := (ho349 q206 hn357).trans hf331
        have hf379 := (ho349 q271 hn358).trans hf332
        have hfr380 : ∀ a, a ∈ L → a ≠ q → f343 a = f a := fun a ha9 hn9 => (ho349 a (fun z9 => hN368 (z9 ▸ ha9))).trans (hfr333 a ha9 hn9)
        refine lv_dup hx hb dX10_init_77 rfl ?_
        refine graw_N (As := []) (rest := [.ref q341, .int 2, .ref q47]) ⟨hx, hb, hml, hown, hta⟩ (c_X9_init l hm345 hf348) ⟨va_cnB 0 hta (gWI mw91) rfl rfl rfl hX.1.2.1 (hta _ mw42) (by decide +kernel) ⟨Nat.le_of_ble_eq_true rfl, Nat.le_of_ble_eq_true rfl⟩, rfl, hta _ mw90⟩ hK hP hD hS hA rfl hl.1 rfl (Nat.le_of_ble_eq_true rfl) dX10_init_78 ⟨Nat.le_of_ble_eq_true rfl, Nat.le_of_ble_eq_true rfl⟩ (fun u381 H locs hw382 hP hD hS => ?_)
        obtain ⟨L9, f383⟩ := u381
        obtain ⟨rfl, hf384, ho385⟩ := hw382
        dsimp only at hP hD hf384 ho385
        have hf386 := (ho385 q hn350).trans hf371
        have hf387 := (ho385 q1 hn351).trans hf372
        have hf388 := (ho385 q22 hn352).trans hf373
        have hf389 := (ho385 q47 hn353).trans hf374
        have hf390 := (ho385 q76 hn354).trans hf375
        have hf391 := (ho385 q109 hn355).trans hf376
        have hf392 := (ho385 q146 hn356).trans hf377
        have hf393 := (ho385 q206 hn357).trans hf378
        have hf394 := (ho385 q271 hn358).trans hf379
        have hfr395 : ∀ a, a ∈ L → a ≠ q → f383 a = f a := fun a ha9 hn9 => (ho385 a (fun z9 => hN368 (z9 ▸ ha9))).trans (hfr380 a ha9 hn9)
        refine raw_ast (K := RX9) (T := TX9) (N := 3) (ci := 11) (j := 2) 3 rfl hx hb hK hP hD hS hm362 hf389 hm345 hf384 rfl (by decide) (by decide) dX10_init_81 (fun H locs f396 hf397 ho398 hP hD hS => ?_)
        have hf399 := (ho398 q hn56).trans hf386
        have hf400 := (ho398 q1 hn57).trans hf387
        have hf401 := (ho398 q22 hn58).trans hf388
        have hf402 := (ho398 q76 (Ne.symm hn88)).trans hf390
        have hf403 := (ho398 q109 (Ne.symm hn121)).trans hf391
        have hf404 := (ho398 q146 (Ne.symm hn158)).trans hf392
        have hf405 := (ho398 q206 (Ne.symm hn218)).trans hf393
        have hf406 := (ho398 q271 (Ne.symm hn283)).trans hf394
        have hf407 := (ho398 q341 (Ne.symm hn353)).trans hf384
        have hfr408 : ∀ a, a ∈ L → a ≠ q → f396 a = f a := fun a ha9 hn9 => (ho398 a (fun z9 => hN62 (z9 ▸ ha9))).trans (hfr395 a ha9 hn9)
        refine lv_iinc (v := 3) (lv' := [(1, .int 3), (0, .ref q)]) hx hb dX10_init_82 hl (k := 0) rfl (by decide) (by decide) rfl (fun ls hl => ?_)
        refine lv_goto (tgt := 60) hx hb dX10_init_85 (by decide) ?_
        refine lv_iload_n hx hb dX10_init_60 rfl (lv_at hl 0 rfl) ?_
        refine lv_aload_n hx hb dX10_init_61 rfl (lv_at hl 1 rfl) ?_
        obtain ⟨z409, hz410⟩ := pl_at hm359 hf399
        refine va_get (D := D) (ci := 12) (v := .ref q47) (C := RX10) (T := TX10) (N := 14) hx hb hta iwX10 hown hK hP z409 hz410 rfl 2 (by decide) (hta _ mw98) (fun _ h9 => h9) rfl dX10_init_62 ?_
        obtain ⟨z411, hz412⟩ := pl_at hm362 hf397
        refine va_alen hx hb hK hP z411 3 hz412 rfl (v := 4) rfl dX10_init_65 ?_
        refine lv_icmp_ge (tgt := 88) hx hb dX10_init_66 (by decide) (fun c413 => ?_) (fun c413 => ?_)
        · exact absurd c413 (by decide)
        · skip
          refine lv_aload_n hx hb dX10_init_69 rfl (lv_at hl 1 rfl) ?_
          obtain ⟨z414, hz415⟩ := pl_at hm359 hf399
          refine va_get (D := D) (ci := 12) (v := .ref q47) (C := RX10) (T := TX10) (N := 14) hx hb hta iwX10 hown hK hP z414 hz415 rfl 2 (by decide) (hta _ mw98) (fun _ h9 => h9) rfl dX10_init_70 ?_
          refine lv_iload_n hx hb dX10_init_73 rfl (lv_at hl 0 rfl) ?_
          refine raw_new (ci := 11) (K := RX9) (T := TX9) (N := 3) (fs := [.int 0, .int 0, .int 0]) hx hb hta iwX9 tyX9 tyX9_ok hown (hta _ mw79) (hta _ mw89) (hta _ mw42) hK hP hD hS hA rfl (fun j hj => by rcases (show j = 0 ∨ j = 1 ∨ j = 2 by omega) with rfl | rfl | rfl <;> rfl) (Nat.le_of_ble_eq_true rfl) (Nat.le_of_ble_eq_true rfl) dX10_init_74 (fun q416 H L417 f418 hn419 hm420 hs421 hd422 hf423 ho424 hP hD hS => ?_)
          have hn425 : q ≠ q416 := fun z9 => hn419 (z9 ▸ hm359)
          have hn426 : q1 ≠ q416 := fun z9 => hn419 (z9 ▸ hm360)
          have hn427 : q22 ≠ q416 := fun z9 => hn419 (z9 ▸ hm361)
          have hn428 : q47 ≠ q416 := fun z9 => hn419 (z9 ▸ hm362)
          have hn429 : q76 ≠ q416 := fun z9 => hn419 (z9 ▸ hm363)
          have hn430 : q109 ≠ q416 := fun z9 => hn419 (z9 ▸ hm364)
          have hn431 : q146 ≠ q416 := fun z9 => hn419 (z9 ▸ hm365)
          have hn432 : q206 ≠ q416 := fun z9 => hn419 (z9 ▸ hm366)
          have hn433 : q271 ≠ q416 := fun z9 => hn419 (z9 ▸ hm367)
          have hn434 : q341 ≠ q416 := fun z9 => hn419 (z9 ▸ hm345)
          have hm435 := hs421 _ hm359
          have hm436 := hs421 _ hm360
          have hm437 := hs421 _ hm361
          have hm438 := hs421 _ hm362
          have hm439 := hs421 _ hm363
          have hm440 := hs421 _ hm364
          have hm441 := hs421 _ hm365
          have hm442 := hs421 _ hm366
          have hm443 := hs421 _ hm367
          have hm444 := hs421 _ hm345
          have hN445 : q416 ∉ L := fun z9 => hn419 (hs369 _ z9)
          have hs446 : ∀ a, a ∈ L → a ∈ L417 := fun a ha9 => hs421 _ (hs369 a ha9)
          have hd447 : ∀ a, a ∈ L417 → a ∈ L ∨ a = q1 ∨ a = q22 ∨ a = q47 ∨ a = q76 ∨ a = q109 ∨ a = q146 ∨ a = q206 ∨ a = q271 ∨ a = q341 ∨ a = q416 := fun a ha9 => (hd422 a ha9).elim (fun z9 => (hd370 a z9).elim Or.inl (fun z8 => Or.inr (by omega))) (fun z9 => Or.inr (by omega))
          have hf448 := (ho424 q hn425).trans hf399
          have hf449 := (ho424 q1 hn426).trans hf400
          have hf450 := (ho424 q22 hn427).trans hf401
          have hf451 := (ho424 q47 hn428).trans hf397
          have hf452 := (ho424 q76 hn429).trans hf402
          have hf453 := (ho424 q109 hn430).trans hf403
          have hf454 := (ho424 q146 hn431).trans hf404
          have hf455 := (ho424 q206 hn432).trans hf405
          have hf456 := (ho424 q271 hn433).trans hf406
          have hf457 := (ho424 q341 hn434).trans hf407
          have hfr458 : ∀ a, a ∈ L → a ≠ q → f418 a = f a := fun a ha9 hn9 => (ho424 a (fun z9 => hN445 (z9 ▸ ha9))).trans (hfr408 a ha9 hn9)
          refine lv_dup hx hb dX10_init_77 rfl ?_
          refine graw_N (As := []) (rest := [.ref q416, .int 3, .ref q47]) ⟨hx, hb, hml, hown, hta⟩ (c_X9_init l hm420 hf423) ⟨va_cnB 0 hta (gWI mw91) rfl rfl rfl hX.1.2.1 (hta _ mw42) (by decide +kernel) ⟨Nat.le_of_ble_eq_true rfl, Nat.le_of_ble_eq_true rfl⟩, rfl, hta _ mw90⟩ hK hP hD hS hA rfl hl.1 rfl (Nat.le_of_ble_eq_true rfl) dX10_init_78 ⟨Nat.le_of_ble_eq_true rfl, Nat.le_of_ble_eq_true rfl⟩ (fun u459 H locs hw460 hP hD hS => ?_)
          obtain ⟨L9, f461⟩ := u459
          obtain ⟨rfl, hf462, ho463⟩ := hw460
          dsimp only at hP hD hf462 ho463
          have hf464 := (ho463 q hn425).trans hf448
          have hf465 := (ho463 q1 hn426).trans hf449
          have hf466 := (ho463 q22 hn427).trans hf450
          have hf467 := (ho463 q47 hn428).trans hf451
          have hf468 := (ho463 q76 hn429).trans hf452
          have hf469 := (ho463 q109 hn430).trans hf453
          have hf470 := (ho463 q146 hn431).trans hf454
          have hf471 := (ho463 q206 hn432).trans hf455
          have hf472 := (ho463 q271 hn433).trans hf456
          have hf473 := (ho463 q341 hn434).trans hf457
          have hfr474 : ∀ a, a ∈ L → a ≠ q → f461 a = f a := fun a ha9 hn9 => (ho463 a (fun z9 => hN445 (z9 ▸ ha9))).trans (hfr458 a ha9 hn9)
          refine raw_ast (K := RX9) (T := TX9) (N := 3) (ci := 11) (j := 3) 3 rfl hx hb hK hP hD hS hm438 hf467 hm420 hf462 rfl (by decide) (by decide) dX10_init_81 (fun H locs f475 hf476 ho477 hP hD hS => ?_)
          have hf478 := (ho477 q hn56).trans hf464
          have hf479 := (ho477 q1 hn57).trans hf465
          have hf480 := (ho477 q22 hn58).trans hf466
          have hf481 := (ho477 q76 (Ne.symm hn88)).trans hf468
          have hf482 := (ho477 q109 (Ne.symm hn121)).trans hf469
          have hf483 := (ho477 q146 (Ne.symm hn158)).trans hf470
          have hf484 := (ho477 q206 (Ne.symm hn218)).trans hf471
          have hf485 := (ho477 q271 (Ne.symm hn283)).trans hf472
          have hf486 := (ho477 q341 (Ne.symm hn353)).trans hf473
          have hf487 := (ho477 q416 (Ne.symm hn428)).trans hf462
          have hfr488 : ∀ a, a ∈ L → a ≠ q → f475 a = f a := fun a ha9 hn9 => (ho477 a (fun z9 => hN62 (z9 ▸ ha9))).trans (hfr474 a ha9 hn9)
          refine lv_iinc (v := 4) (lv' := [(1, .int 4), (0, .ref q)]) hx hb dX10_init_82 hl (k := 0) rfl (by decide) (by decide) rfl (fun ls hl => ?_)
          refine lv_goto (tgt := 60) hx hb dX10_init_85 (by decide) ?_
          refine lv_iload_n hx hb dX10_init_60 rfl (lv_at hl 0 rfl) ?_
          refine lv_aload_n hx hb dX10_init_61 rfl (lv_at hl 1 rfl) ?_
          obtain ⟨z489, hz490⟩ := pl_at hm435 hf478
          refine va_get (D := D) (ci := 12) (v := .ref q47) (C := RX10) (T := TX10) (N := 14) hx hb hta iwX10 hown hK hP z489 hz490 rfl 2 (by decide) (hta _ mw98) (fun _ h9 => h9) rfl dX10_init_62 ?_
          obtain ⟨z491, hz492⟩ := pl_at hm438 hf476
          refine va_alen hx hb hK hP z491 3 hz492 rfl (v := 4) rfl dX10_init_65 ?_
          refine lv_icmp_ge (tgt := 88) hx hb dX10_init_66 (by decide) (fun c493 => ?_) (fun c493 => ?_)
          · skip
            refine W.widen (k := 10) (n := 155) (Nat.le_of_ble_eq_true rfl) (Nat.le_of_ble_eq_true rfl) ?_
            exact W.vret hx hb hr (fun t ht hWm => gendF (u := (L417, f475)) ⟨q1, q22, q47, q76, q109, q146, q206, q271, q341, q416, hf478, ⟨hf479, hN12, hm436, (Ne.symm hn10)⟩, ⟨hf480, hN35, hm437, (Ne.symm hn31)⟩, ⟨hf476, hN62, hm438, (Ne.symm hn56)⟩, ⟨hf481, hN93, hm439, (Ne.symm hn85)⟩, ⟨hf482, hN128, hm440, (Ne.symm hn118)⟩, ⟨hf483, hN167, hm441, (Ne.symm hn155)⟩, ⟨hf484, hN229, hm442, (Ne.symm hn215)⟩, ⟨hf485, hN296, hm443, (Ne.symm hn280)⟩, ⟨hf486, hN368, hm444, (Ne.symm hn350)⟩, ⟨hf487, hN445, hm420, (Ne.symm hn425)⟩, hn32, hn57, hn86, hn119, hn156, hn216, hn281, hn351, hn426, hn58, hn87, hn120, hn157, hn217, hn282, hn352, hn427, hn88, hn121, hn158, hn218, hn283, hn353, hn428, hn122, hn159, hn219, hn284, hn354, hn429, hn160, hn220, hn285, hn355, hn430, hn221, hn286, hn356, hn431, hn287, hn357, hn432, hn358, hn433, hn434, hs446, hd447, hfr488⟩ hP hK hD hS ht hWm) hS.2.2 dX10_init_88
          · exact absurd (by decide) c493

