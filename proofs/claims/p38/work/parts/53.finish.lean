/-! PURE: a job is finished -/
theorem fiT_53 {Y : St} {o : Nat} {c : Int32} : fiT (uI Y 53 o c) o = fiT Y o := by
  have e : up2 (up2 (sI Y) 53 o c) 53 o 102 = up2 (sI Y) 53 o 102 := by
    funext k i
    simp only [up2]
    by_cases h : k = 53 ∧ i = o
    · rw [if_pos h, if_pos h]
    · rw [if_neg h, if_neg h, if_neg h]
  show (Y.1, up2 (up2 (up2 (sI Y) 53 o c) 53 o 102) 63 o (up2 (sI Y) 53 o c 2 0), Y.2.2) = _
  rw [e, up2_nk _ _ (by decide)]
  rfl
theorem fiS_53 {Y : St} {o : Nat} {c : Int32} : fiS (uI Y 53 o c) o = fiS Y o := by
  unfold fiS fiU
  rw [fiT_53, show sI (uI Y 53 o c) 60 o = sI Y 60 o from rfl]
theorem IJob.fin {Y T : St} {o : Nat} (hJ : IJob Y o) (hm : ¬ sI Y 20 (sN Y 7 o) = 0) (h119 : sI Y 53 o = 119) (hnow : 0 ≤ (sI Y 2 0).toInt) (ho : o < nOc Y) (hO : nOc T = nOc Y) (hL : nLc Y ≤ nLc T) (h7 : ∀ i, sN T 7 i = sN Y 7 i)
    (hI : ∀ k, k = 20 ∨ k = 50 ∨ k = 60 ∨ k = 61 → ∀ i, sI T k i = sI Y k i) (h40 : ∀ i, i < nLc Y → sI T 40 i = sI Y 40 i) (h53 : sI T 53 o = 102) (h53n : ∀ i, i ≠ o → sI T 53 i = sI Y 53 i) (h63 : sI T 63 o = sI Y 2 0) (h63n : ∀ i, i ≠ o → sI T 63 i = sI Y 63 i)
    (hr3 : sR T 3 o = none) (hr3n : ∀ i, i ≠ o → sR T 3 i = sR Y 3 i) (hr4 : (sR T 4 o = none ∧ sI Y 60 o = 0) ∨ ∃ n, sR T 4 o = some n ∧ ¬ sI Y 60 o = 0 ∧ n < nLc T ∧ sI T 40 n = sI Y 60 o) (hr4n : ∀ i, i ≠ o → sR T 4 i = sR Y 4 i) (h5 : sJ T 5 o = 0) (h5n : ∀ i, i ≠ o → sJ T 5 i = sJ Y 5 i) : IJob T 1000 := by
  intro o' ho'
  rw [hO] at ho'
  have k := hJ o' ho'
  unfold inWk isDn eT
  rw [hI 20 (by decide), hI 50 (by decide), hI 60 (by decide), hI 61 (by decide), h7]
  by_cases e : o' = o
  · subst e
    have hw : inWk Y o' := Or.inl h119
    rw [h53, h63, hr3, h5]
    have nn : ¬ sI Y 2 0 = -1 := fun z => by rw [z] at hnow; exact absurd hnow (by decide)
    refine ⟨k.1, fun _ => k.2.1 (Or.inl hw), fun _ z => absurd nn z, fun _ => ⟨fun z => absurd z (by decide), fun z => absurd rfl z⟩, ⟨fun _ => Or.inl rfl, fun _ => nn⟩, fun _ => hnow, fun i z => ?_, fun _ => ?_, by decide, fun _ => rfl⟩
    · rcases hr4 with ⟨a, -⟩ | ⟨n, a, b, c, d⟩
      · rw [a] at z; exact absurd z (by simp)
      · rw [a] at z; cases z; exact ⟨nn, c, d⟩
    · rcases hr4 with ⟨a, b⟩ | ⟨n, a, b, -⟩
      · rw [a]; exact ⟨fun _ => b, fun _ => rfl⟩
      · rw [a]; exact ⟨fun z => absurd z (by simp), fun z => absurd z b⟩
  · rw [h53n o' e, h63n o' e, hr3n o' e, hr4n o' e, h5n o' e]
    refine ⟨k.1, k.2.1, k.2.2.1, fun _ => k.2.2.2.1 e, k.2.2.2.2.1, k.2.2.2.2.2.1, fun i z => ?_, k.2.2.2.2.2.2.2⟩
    obtain ⟨a, b, c⟩ := k.2.2.2.2.2.2.1 i z
    rw [h40 i b]
    exact ⟨a, Nat.lt_of_lt_of_le b hL, c⟩
/-- what stays where a job is finished -/
def FinK (Y T : St) (o : Nat) : Prop := sI T 53 o = 102 ∧ (∀ i, i ≠ o → sI T 53 i = sI Y 53 i) ∧ sI T 1 0 = sI Y 1 0 ∧ sI T 2 0 = sI Y 2 0 ∧ sJ T 1 0 = sJ Y 1 0 ∧ (∀ k, k ≠ 2 → k ≠ 6 → ∀ i, sN T k i = sN Y k i) ∧ (∀ i, i ≠ o → ∀ k, sR T k i = sR Y k i) ∧ (∀ i, sR T 1 i = sR Y 1 i) ∧ (∀ k, k = 14 ∨ k = 18 ∨ k = 19 ∨ k = 17 → ∀ i, sI T k i = sI Y k i)
theorem Inv0.fin {Y : St} {o : Nat} (hI : Inv0 Y o) (hH : ILH Y) (ho : o < nOc Y) (h119 : sI Y 53 o = 119) (h3 : sR Y 3 o = none) (hn : nLc Y < 90) : Inv (fiS Y o) ∧ FinK Y (fiS Y o) o := by
  have hI0 := hI
  obtain ⟨hW, hP, hB, hQ, hV, hO, hJ, hD, hM, hTr, hHd, hC, hN⟩ := hI
  obtain ⟨k1, k2, k3, k4, k5⟩ := hI0.cost
  have hm : ¬ sI Y 20 (sN Y 7 o) = 0 := fun z => by
    rcases (hO o ho).2.2.2.2 z with e | e <;> (rw [h119] at e; exact absurd e (by decide))
  have hw : inWk Y o := Or.inl h119
  have hnd : ¬ isDn Y o := fun z => by
    rcases (hJ o ho).2.2.2.2.1.mp z with e | ⟨e, -⟩ <;> (rw [h119] at e; exact absurd e (by decide))
  have h4n : sR Y 4 o = none := by
    cases e : sR Y 4 o with
    | none => rfl
    | some i => exact absurd ((hJ o ho).2.2.2.2.2.2.1 i e).1 hnd
  have hnow : 0 ≤ (sI Y 2 0).toInt := hN.2.2.2.1
  have he0 : 0 ≤ eT Y o := (hJ o ho).2.2.2.2.2.2.2.2.1
  have hg0 := (hD.1 o ho).1
  have heg := k2 o ho
  -- the state with the order finished
  have f53 : sI (fiT Y o) 53 o = 102 := by simp [fiT, sI, up2]
  have f63 : sI (fiT Y o) 63 o = sI Y 2 0 := by simp [fiT, sI, up2]
  have fI : ∀ k i, ¬ (k = 53 ∧ i = o) → ¬ (k = 63 ∧ i = o) → sI (fiT Y o) k i = sI Y k i := fun k i a b => (up2_ne (up2 (sI Y) 53 o 102) _ b).trans (up2_ne (sI Y) _ a)
  have fK : ∀ k, k ≠ 53 → k ≠ 63 → ∀ i, sI (fiT Y o) k i = sI Y k i := fun k a b i => fI k i (fun z => a z.1) (fun z => b z.1)
  have f53n : ∀ i, i ≠ o → sI (fiT Y o) 53 i = sI Y 53 i := fun i e => fI 53 i (fun z => e z.2) (fun z => absurd z.1 (by decide))
  have f63n : ∀ i, i ≠ o → sI (fiT Y o) 63 i = sI Y 63 i := fun i e => fI 63 i (fun z => absurd z.1 (by decide)) (fun z => e z.2)
  have fc : ∀ c : Int32, c ≠ 102 → c ≠ 119 → ∀ i, sI (fiT Y o) 53 i = c ↔ sI Y 53 i = c := fun c a b i => by
    by_cases e : i = o
    · rw [e, f53, h119]; exact ⟨fun z => absurd z.symm a, fun z => absurd z.symm b⟩
    · rw [f53n i e]
  have gP : IPart (fiT Y o) := hP.fr rfl (fK 30 (by decide) (by decide)) (fK 20 (by decide) (by decide))
  have gB : ILB (fiT Y o) := hB.fr rfl (fK 40 (by decide) (by decide)) (fK 41 (by decide) (by decide)) (fK 42 (by decide) (by decide)) (fK 43 (by decide) (by decide)) (fun _ => rfl)
  have gQ : ILQ (fiT Y o) := hQ.fr rfl (fK 40 (by decide) (by decide)) (fK 41 (by decide) (by decide)) (fK 43 (by decide) (by decide)) (fc 112 (by decide) (by decide)) (fun _ _ => rfl)
  have gV : ILV (fiT Y o) := hV.fr rfl (fK 42 (by decide) (by decide)) (fc 112 (by decide) (by decide)) (fun _ _ => rfl)
  have gH : ILH (fiT Y o) := hH.fr rfl (fK 42 (by decide) (by decide)) (fun _ _ _ => ⟨rfl, rfl⟩)
  have gO : IOrd (fiT Y o) := by
    intro o' ho'
    have k := hO o' ho'
    rw [fK 50 (by decide) (by decide), fK 20 (by decide) (by decide)]
    by_cases e : o' = o
    · subst e
      rw [f53]
      exact ⟨Or.inr (Or.inr (Or.inr (Or.inr (Or.inl rfl)))), k.2.1, fun z => absurd z (by decide), k.2.2.2.1, fun z => absurd z hm⟩
    · rw [f53n o' e]; exact k
  have gD9 : IDel (fiT Y o) := hD.fr rfl (fK 43 (by decide) (by decide)) (fK 50 (by decide) (by decide)) (fK 55 (by decide) (by decide)) (fc 100 (by decide) (by decide)) (fun _ => rfl) (fun _ => rfl) (fun _ => rfl)
  have gM : IMach (fiT Y o) := hM.fr rfl (fun _ => rfl) (fK 2 (by decide) (by decide) 0) (fK 10 (by decide) (by decide)) (fK 14 (by decide) (by decide)) (fK 17 (by decide) (by decide)) (fK 19 (by decide) (by decide)) (fc 111 (by decide) (by decide))
  have gT9 : ITr (fiT Y o) := hTr.fr rfl (fun _ _ _ _ => rfl)
  have gHd : IHd (fiT Y o) := hHd
  by_cases h60 : sI Y 60 o = 0
  · -- no pieces are left
    have eS : fiS Y o = uJ (uJ (fiT Y o) 2 0 (sJ Y 2 0 + sJ Y 5 o)) 5 o 0 := by unfold fiS; rw [if_pos h60]
    rw [eS]
    have tJ : ∀ k i, ¬ (k = 2 ∧ i = 0) → ¬ (k = 5 ∧ i = o) → sJ (uJ (uJ (fiT Y o) 2 0 (sJ Y 2 0 + sJ Y 5 o)) 5 o 0) k i = sJ Y k i := fun k i a b => (up2_ne _ _ b).trans (up2_ne _ _ a)
    have t5 : sJ (uJ (uJ (fiT Y o) 2 0 (sJ Y 2 0 + sJ Y 5 o)) 5 o 0) 5 o = 0 := up2_self _ _ _ _
    have t2 : sJ (uJ (uJ (fiT Y o) 2 0 (sJ Y 2 0 + sJ Y 5 o)) 5 o 0) 2 0 = sJ Y 2 0 + sJ Y 5 o := by simp [sJ, up2]
    have tn : sN (uJ (uJ (fiT Y o) 2 0 (sJ Y 2 0 + sJ Y 5 o)) 5 o 0) = sN Y := rfl
    have ti : sI (uJ (uJ (fiT Y o) 2 0 (sJ Y 2 0 + sJ Y 5 o)) 5 o 0) = sI (fiT Y o) := rfl
    have tr : sR (uJ (uJ (fiT Y o) 2 0 (sJ Y 2 0 + sJ Y 5 o)) 5 o 0) = sR Y := rfl
    have tp : sP (uJ (uJ (fiT Y o) 2 0 (sJ Y 2 0 + sJ Y 5 o)) 5 o 0) = sP Y := rfl
    have tW : WT (uJ (uJ (fiT Y o) 2 0 (sJ Y 2 0 + sJ Y 5 o)) 5 o 0) := hW
    generalize uJ (uJ (fiT Y o) 2 0 (sJ Y 2 0 + sJ Y 5 o)) 5 o 0 = T at tJ t5 t2 tn ti tr tp tW ⊢
    have fN : sN T = sN (fiT Y o) := tn
    have jk : ∀ k, k ≠ 2 → k ≠ 5 → ∀ i, sJ T k i = sJ (fiT Y o) k i := fun k a b i => tJ k i (fun z => a z.1) (fun z => b z.1)
    have iI : ∀ k i, sI T k i = sI (fiT Y o) k i := fun k i => by rw [ti]
    refine ⟨⟨⟨tW, gP.fr fN (iI 30) (iI 20), gB.fr fN (iI 40) (iI 41) (iI 42) (iI 43) (jk 3 (by decide) (by decide)), gQ.fr fN (iI 40) (iI 41) (iI 43) (fun i => by rw [ti]) (fun o i => by rw [tp]; rfl), gV.fr fN (iI 42) (fun i => by rw [ti]) (fun o i => by rw [tp]; rfl), gO.fr fN (iI 20) (iI 50) (iI 53) (fun o i => by rw [tp]; rfl), ?_, gD9.fr fN (iI 43) (iI 50) (iI 55) (fun i => by rw [ti]) (jk 4 (by decide) (by decide)) (jk 26 (by decide) (by decide)) (jk 27 (by decide) (by decide)), gM.fr fN (fun i => by rw [tr]; rfl) (iI 2 0) (iI 10) (iI 14) (iI 17) (iI 19) (fun i => by rw [ti]), gT9.fr fN (fun k hk i j => nsM_fr (jk (2 * k) (by omega) (by omega)) (jk (2 * k + 1) (by omega) (by omega)) i j), gHd.fr (by rw [fN]; exact Nat.le_refl _) (fun j => nsM_fr (jk (2 * 14) (by decide) (by decide)) (jk (2 * 14 + 1) (by decide) (by decide)) 0 j), ?_, ?_⟩, gH.fr fN (iI 42) (fun k hk i => ⟨jk (2 * k) (by omega) (by omega) i, jk (2 * k + 1) (by omega) (by omega) i⟩)⟩, ?_⟩
    · exact hJ.fin hm h119 hnow ho (congrFun (congrFun tn 3) 0) (Nat.le_of_eq (congrFun (congrFun tn 2) 0).symm) (fun i => by rw [tn]) (fun k hk i => by rw [ti]; exact fK k (by omega) (by omega) i) (fun i _ => by rw [ti]; exact fK 40 (by decide) (by decide) i) (by rw [ti]; exact f53) (fun i e => by rw [ti]; exact f53n i e) (by rw [ti]; exact f63) (fun i e => by rw [ti]; exact f63n i e) (by rw [tr]; exact h3) (fun i _ => by rw [tr]) (Or.inl ⟨by rw [tr]; exact h4n, h60⟩) (fun i _ => by rw [tr]) t5 (fun i e => tJ 5 i (fun z => absurd z.1 (by decide)) (fun z => e z.2))
    · obtain ⟨c1, c2, c3, c4⟩ := hC
      have j1 : sJ T 1 0 = sJ Y 1 0 := tJ 1 0 (fun z => absurd z.1 (by decide)) (fun z => absurd z.1 (by decide))
      have l2 : (sJ T 2 0).toInt = (sJ Y 2 0).toInt + eT Y o := by rw [t2]; exact i64_addV rfl rfl (by omega) (by omega)
      have q1 : sm (fun i => cT T i) (nLc Y) = sm (fun i => cT Y i) (nLc Y) := sm_congr (fun i _ => congrArg Int64.toInt (jk 3 (by decide) (by decide) i))
      have g4 : ∀ o', gD T o' = gD Y o' := fun o' => congrArg Int64.toInt (jk 4 (by decide) (by decide) o')
      have e5 : eT T o = 0 := by show (sJ T 5 o).toInt = 0; rw [t5]; rfl
      have q3 : sm (fun o' => eT T o' + gD T o') (nOc Y) = sm (fun o => eT Y o + gD Y o) (nOc Y) + (eT T o + gD T o - (eT Y o + gD Y o)) := sm_upd (f := fun o => eT Y o + gD Y o) (g := fun o' => eT T o' + gD T o') ho (fun o' _ hne => by
        have e5 : eT T o' = eT Y o' := congrArg Int64.toInt (tJ 5 o' (fun z => absurd z.1 (by decide)) (fun z => hne z.2))
        show eT T o' + gD T o' = eT Y o' + gD Y o'
        rw [e5, g4])
      rw [e5, g4] at q3
      have en : nLc T = nLc Y := congrFun (congrFun tn 2) 0
      have eo : nOc T = nOc Y := congrFun (congrFun tn 3) 0
      refine ⟨?_, by omega, by rw [j1, ti, fK 1 (by decide) (by decide)]; exact c3, fun _ => ⟨o, by rw [eo]; exact ho, ?_, by rw [tr]; exact h4n⟩⟩
      · rw [en, eo, l2, j1, q1]; omega
      · unfold isDn
        rw [ti, f63]
        intro z; rw [z] at hnow; exact absurd hnow (by decide)
    · exact hN.fr tn (fun i => by rw [tr]) (by rw [ti]; exact fK 1 (by decide) (by decide) 0) (by rw [ti]; exact fK 2 (by decide) (by decide) 0)
    · exact ⟨by rw [ti]; exact f53, fun i e => by rw [ti]; exact f53n i e, by rw [ti]; exact fK 1 (by decide) (by decide) 0, by rw [ti]; exact fK 2 (by decide) (by decide) 0, tJ 1 0 (fun z => absurd z.1 (by decide)) (fun z => absurd z.1 (by decide)), fun k _ _ i => by rw [tn], fun i _ k => by rw [tr], fun i => by rw [tr], fun k hk i => by rw [ti]; exact fK k (by omega) (by omega) i⟩
  · -- its lot
    have eS : fiS Y o = uJ (nsS (fiU Y o) o (sN Y 2 0)) 5 o 0 := by unfold fiS; rw [if_neg h60]
    rw [eS]
    have hsc := (hJ o ho).1
    have hqu := (hJ o ho).2.1 (Or.inl hw)
    have h100 := (hO o ho).2.2.2.1
    have q0 : 0 < (sI Y 60 o).toInt := by
      have : ¬ (sI Y 60 o).toInt = 0 := fun z => h60 (i32_ext z)
      omega
    -- the state with the new lot
    have zI : ∀ k i, sI (fiU Y o) k i = sI (nlS (fiT Y o) (sN Y 7 o) (sI Y 60 o) (sJ Y 5 o)) k i := fun _ _ => rfl
    have zR : ∀ k i, ¬ (k = 4 ∧ i = o) → sR (fiU Y o) k i = sR Y k i := fun k i a => up2_ne _ _ a
    have zR4 : sR (fiU Y o) 4 o = some (sN Y 2 0) := up2_self _ _ _ _
    have zB : ILB (fiU Y o) := ILB.nl (S := fiT Y o) (p := sN Y 7 o) gB hsc.1 (by omega) he0 (fun z => by omega)
    have zQ : ILQ (fiU Y o) := ILQ.nl (S := fiT Y o) (p := sN Y 7 o) (qy := sI Y 60 o) (co := sJ Y 5 o) gQ gO
    have zV : ILV (fiU Y o) := ILV.nl (S := fiT Y o) (p := sN Y 7 o) (qy := sI Y 60 o) (co := sJ Y 5 o) gV gO
    have zH : ILH (fiU Y o) := ILH.nl (S := fiT Y o) (p := sN Y 7 o) (qy := sI Y 60 o) (co := sJ Y 5 o) gH
    have zO : IOrd (fiU Y o) := IOrd.nl (S := fiT Y o) (p := sN Y 7 o) (qy := sI Y 60 o) (co := sJ Y 5 o) gO
    have zP : IPart (fiU Y o) := IPart.nl (S := fiT Y o) (p := sN Y 7 o) (qy := sI Y 60 o) (co := sJ Y 5 o) gP
    have zD : IDel (fiU Y o) := IDel.nl (S := fiT Y o) (p := sN Y 7 o) (qy := sI Y 60 o) (co := sJ Y 5 o) gD9
    have zM : IMach (fiU Y o) := (IMach.nl (S := fiT Y o) (p := sN Y 7 o) (qy := sI Y 60 o) (co := sJ Y 5 o) gM).fr rfl (fun i => rfl) rfl (fun _ => rfl) (fun _ => rfl) (fun _ => rfl) (fun _ => rfl) (fun _ => Iff.rfl)
    have zT : ITr (fiU Y o) := ITr.nl (S := fiT Y o) (p := sN Y 7 o) (qy := sI Y 60 o) (co := sJ Y 5 o) gT9 hn
    have zHd : IHd (fiU Y o) := IHd.nl (S := fiT Y o) (p := sN Y 7 o) (qy := sI Y 60 o) (co := sJ Y 5 o) gHd
    have zL : nLc (fiU Y o) = nLc Y + 1 := nl_nL (S := fiT Y o) (p := sN Y 7 o) (qy := sI Y 60 o) (co := sJ Y 5 o)
    have zO3 : nOc (fiU Y o) = nOc Y := nl_nO (S := fiT Y o) (p := sN Y 7 o) (qy := sI Y 60 o) (co := sJ Y 5 o)
    have zc : sm (fun i => cT (fiU Y o) i) (nLc (fiU Y o)) = sm (fun i => cT Y i) (nLc Y) + eT Y o := sm_c_nl (S := fiT Y o) (p := sN Y 7 o) (qy := sI Y 60 o) (co := sJ Y 5 o)
    have z6 : sN (fiU Y o) 6 (sN Y 2 0) = sN Y 7 o := nl_N6n (S := fiT Y o) (p := sN Y 7 o) (qy := sI Y 60 o) (co := sJ Y 5 o)
    have zP0 : pT (fiU Y o) o (sN Y 2 0) = 0 := p_out (S := Y) hO ho (Nat.le_refl _)
    have hNS := ns_spec (S := fiU Y o) (o := o) (n := sN Y 2 0) (by rw [zL]; omega) zL (fun m hm => nl_s (S := fiT Y o) (p := sN Y 7 o) (qy := sI Y 60 o) (co := sJ Y 5 o) (Or.inl rfl) m) zP0 (fun q hq => by
      rw [zO3] at hq
      show nsM (nlS (fiT Y o) (sN Y 7 o) (sI Y 60 o) (sJ Y 5 o)) 13 q (sN Y 2 0) = false
      rw [nl_Mk (Or.inl rfl)]
      show nsM Y 13 q (sN Y 2 0) = false
      rcases hh : nsM Y 13 q (sN Y 2 0) with _ | _
      · rfl
      · have := (hTr.2 q hq (sN Y 2 0) (by have : nLc Y = sN Y 2 0 := rfl; omega) hh).1
        exact absurd this (Nat.lt_irrefl _)) (fun j hj => by
      have hj : 0 < pT Y o j := hj
      obtain ⟨a, b⟩ := ((hO o ho).2.1 j).2 hj
      have ne : j ≠ sN (fiT Y o) 2 0 := Nat.ne_of_lt a
      rw [zL, z6]
      refine ⟨by omega, ?_⟩
      show sN (nlS (fiT Y o) (sN Y 7 o) (sI Y 60 o) (sJ Y 5 o)) 6 j < _
      rw [nl_N6 ne]; exact b) zT
    obtain ⟨s1, s2, s3, s4⟩ := hNS
    have sW0 : WT (fiU Y o) := by
      have hWn : WT (nlS (fiT Y o) (sN Y 7 o) (sI Y 60 o) (sJ Y 5 o)) := WT.nl (S := fiT Y o) hW (hW.ordPart ho) hn
      have hln : sN Y 2 0 < sN (nlS (fiT Y o) (sN Y 7 o) (sI Y 60 o) (sJ Y 5 o)) 2 0 := Nat.lt_of_lt_of_le (Nat.lt_succ_self _) (Nat.le_of_eq (nlS_nL (S := fiT Y o)).symm)
      exact WT.setR hWn (fun a z => by cases z; exact ⟨fun q => by omega, fun q => by omega, fun q => by omega, fun _ => hln⟩)
    have sn : sN (nsS (fiU Y o) o (sN Y 2 0)) = sN (fiU Y o) := rfl
    have sr : sR (nsS (fiU Y o) o (sN Y 2 0)) = sR (fiU Y o) := rfl
    generalize nsS (fiU Y o) o (sN Y 2 0) = X at s1 s2 s3 s4 sn sr ⊢
    have t5 : sJ (uJ X 5 o 0) 5 o = 0 := up2_self _ _ _ _
    have tJ : ∀ k i, ¬ (k = 5 ∧ i = o) → sJ (uJ X 5 o 0) k i = sJ X k i := fun k i a => up2_ne _ _ a
    have tT : ITr (uJ X 5 o 0) := s4.fr rfl (fun k hk i j => nsM_fr (fun i => tJ (2 * k) i (by omega)) (fun i => tJ (2 * k + 1) i (by omega)) i j)
    have tn : sN (uJ X 5 o 0) = sN (fiU Y o) := sn
    have tr : sR (uJ X 5 o 0) = sR (fiU Y o) := sr
    have ti : sI (uJ X 5 o 0) = sI (fiU Y o) := s1
    have tp : sP (uJ X 5 o 0) = sP (fiU Y o) := s2
    have jk : ∀ k, k ≠ 5 → k ≠ 16 → k ≠ 17 → k ≠ 18 → k ≠ 19 → ∀ i, sJ (uJ X 5 o 0) k i = sJ (fiU Y o) k i := fun k a b c d e i => (tJ k i (fun z => a z.1)).trans (s3 k i d e (fun z => z.1.elim b c))
    have j16 : ∀ k, k = 16 ∨ k = 17 → ∀ i, i ≠ sN Y 2 0 → sJ (uJ X 5 o 0) k i = sJ (fiU Y o) k i := fun k a i b => (tJ k i (by omega)).trans (s3 k i (by omega) (by omega) (fun z => b z.2))
    have t5n : ∀ i, i ≠ o → sJ (uJ X 5 o 0) 5 i = sJ Y 5 i := fun i e => (tJ 5 i (fun z => e z.2)).trans ((s3 5 i (by decide) (by decide) (by simp)).trans (nl_Jk (S := fiT Y o) (p := sN Y 7 o) (qy := sI Y 60 o) (co := sJ Y 5 o) (k := 5) (i := i) (by decide)))
    generalize uJ X 5 o 0 = T at t5 tJ tT tn tr ti tp jk j16 t5n ⊢
    have iI : ∀ k i, sI T k i = sI (fiU Y o) k i := fun k i => by rw [ti]
    have uK : ∀ k, k ≠ 40 → k ≠ 41 → k ≠ 42 → k ≠ 43 → ∀ i, sI T k i = sI (fiT Y o) k i := fun k a b c d i => (iI k i).trans (nl_Ik (S := fiT Y o) (p := sN Y 7 o) (qy := sI Y 60 o) (co := sJ Y 5 o) ⟨a, b, c, d⟩)
    have jY : ∀ k, k ≠ 3 → k ≠ 5 → k ≠ 16 → k ≠ 17 → k ≠ 18 → k ≠ 19 → k ≠ 20 → k ≠ 21 → ∀ i, sJ T k i = sJ Y k i := fun k a b c d e f g h i => (jk k b c d e f i).trans (nl_Jk (S := fiT Y o) (p := sN Y 7 o) (qy := sI Y 60 o) (co := sJ Y 5 o) ⟨a, c, d, e, f, g, h⟩)
    have en : nLc T = nLc Y + 1 := (congrFun (congrFun tn 2) 0).trans zL
    have eo : nOc T = nOc Y := (congrFun (congrFun tn 3) 0).trans zO3
    have tNk : ∀ k, k ≠ 2 → k ≠ 6 → ∀ i, sN T k i = sN Y k i := fun k a b i => (congrFun (congrFun tn k) i).trans (nlS_n (S := fiT Y o) (p := sN Y 7 o) (qy := sI Y 60 o) (co := sJ Y 5 o) a b)
    have tr4 : sR T 4 o = some (nLc Y) := by rw [tr]; exact zR4
    have trn : ∀ k i, ¬ (k = 4 ∧ i = o) → sR T k i = sR Y k i := fun k i a => by rw [tr]; exact zR k i a
    refine ⟨⟨⟨sW0.fr tn tr, zP.fr tn (iI 30) (iI 20), zB.fr tn (iI 40) (iI 41) (iI 42) (iI 43) (jk 3 (by decide) (by decide) (by decide) (by decide) (by decide)), zQ.fr tn (iI 40) (iI 41) (iI 43) (fun i => by rw [ti]) (fun a b => by rw [tp]), zV.fr tn (iI 42) (fun i => by rw [ti]) (fun a b => by rw [tp]), zO.fr tn (iI 20) (iI 50) (iI 53) (fun a b => by rw [tp]), ?_, zD.fr tn (iI 43) (iI 50) (iI 55) (fun i => by rw [ti]) (jk 4 (by decide) (by decide) (by decide) (by decide) (by decide)) (jk 26 (by decide) (by decide) (by decide) (by decide) (by decide)) (jk 27 (by decide) (by decide) (by decide) (by decide) (by decide)), zM.fr tn (fun i => by rw [tr]) (iI 2 0) (iI 10) (iI 14) (iI 17) (iI 19) (fun i => by rw [ti]), tT, zHd.fr (by rw [tn]; exact Nat.le_refl _) (fun j => nsM_fr (jk (2 * 14) (by decide) (by decide) (by decide) (by decide) (by decide)) (jk (2 * 14 + 1) (by decide) (by decide) (by decide) (by decide) (by decide)) 0 j), ?_, ?_⟩, ?_⟩, ?_⟩
    · exact hJ.fin hm h119 hnow ho eo (by omega) (tNk 7 (by decide) (by decide)) (fun k hk i => (uK k (by omega) (by omega) (by omega) (by omega) i).trans (fK k (by omega) (by omega) i)) (fun i hi => (iI 40 i).trans ((nl_I (S := fiT Y o) (p := sN Y 7 o) (qy := sI Y 60 o) (co := sJ Y 5 o) (Nat.ne_of_lt hi)).trans (fK 40 (by decide) (by decide) i))) ((uK 53 (by decide) (by decide) (by decide) (by decide) o).trans f53) (fun i e => (uK 53 (by decide) (by decide) (by decide) (by decide) i).trans (f53n i e)) ((uK 63 (by decide) (by decide) (by decide) (by decide) o).trans f63) (fun i e => (uK 63 (by decide) (by decide) (by decide) (by decide) i).trans (f63n i e)) ((trn 3 o (fun z => absurd z.1 (by decide))).trans h3) (fun i e => trn 3 i (fun z => e z.2)) (Or.inr ⟨nLc Y, tr4, h60, by omega, (iI 40 _).trans (nl_40 (S := fiT Y o) (p := sN Y 7 o) (qy := sI Y 60 o) (co := sJ Y 5 o))⟩) (fun i e => trn 4 i (fun z => e z.2)) t5 t5n
    · obtain ⟨c1, c2, c3, c4⟩ := hC
      have j1 : sJ T 1 0 = sJ Y 1 0 := jY 1 (by decide) (by decide) (by decide) (by decide) (by decide) (by decide) (by decide) (by decide) 0
      have j2 : sJ T 2 0 = sJ Y 2 0 := jY 2 (by decide) (by decide) (by decide) (by decide) (by decide) (by decide) (by decide) (by decide) 0
      have g4 : ∀ o', gD T o' = gD Y o' := fun o' => congrArg Int64.toInt (jY 4 (by decide) (by decide) (by decide) (by decide) (by decide) (by decide) (by decide) (by decide) o')
      have e5 : eT T o = 0 := by show (sJ T 5 o).toInt = 0; rw [t5]; rfl
      have q1 : sm (fun i => cT T i) (nLc T) = sm (fun i => cT Y i) (nLc Y) + eT Y o := by
        rw [show nLc T = nLc (fiU Y o) from congrFun (congrFun tn 2) 0, ← zc]
        exact sm_congr (fun i _ => congrArg Int64.toInt (jk 3 (by decide) (by decide) (by decide) (by decide) (by decide) i))
      have q3 : sm (fun o' => eT T o' + gD T o') (nOc Y) = sm (fun o => eT Y o + gD Y o) (nOc Y) + (eT T o + gD T o - (eT Y o + gD Y o)) := sm_upd (f := fun o => eT Y o + gD Y o) (g := fun o' => eT T o' + gD T o') ho (fun o' _ hne => by
        have e5 : eT T o' = eT Y o' := congrArg Int64.toInt (t5n o' hne)
        show eT T o' + gD T o' = eT Y o' + gD Y o'
        rw [e5, g4])
      rw [e5, g4] at q3
      refine ⟨?_, by rw [j2]; exact c2, by rw [j1, (uK 1 (by decide) (by decide) (by decide) (by decide) 0).trans (fK 1 (by decide) (by decide) 0)]; exact c3, fun z => ?_⟩
      · rw [q1, eo, j1, j2]; omega
      · rw [j2] at z
        obtain ⟨o', a1, a2, a3⟩ := c4 z
        have ne : o' ≠ o := fun q => hnd (q ▸ a2)
        refine ⟨o', by rw [eo]; exact a1, ?_, (trn 4 o' (fun z => ne z.2)).trans a3⟩
        unfold isDn
        rw [(uK 63 (by decide) (by decide) (by decide) (by decide) o').trans (f63n o' ne)]; exact a2
    · obtain ⟨n1, n2, n3, n4, n5⟩ := hN
      have b1 : sI T 1 0 = sI Y 1 0 := (uK 1 (by decide) (by decide) (by decide) (by decide) 0).trans (fK 1 (by decide) (by decide) 0)
      have b2 : sI T 2 0 = sI Y 2 0 := (uK 2 (by decide) (by decide) (by decide) (by decide) 0).trans (fK 2 (by decide) (by decide) 0)
      have q : sm (fun o => bZ (sR T 4 o).isSome) (nOc Y) = sm (fun o => bZ (sR Y 4 o).isSome) (nOc Y) + (bZ (sR T 4 o).isSome - bZ (sR Y 4 o).isSome) := sm_upd (f := fun o => bZ (sR Y 4 o).isSome) (g := fun o => bZ (sR T 4 o).isSome) ho (fun o' _ hne => by
        show bZ (sR T 4 o').isSome = bZ (sR Y 4 o').isSome
        rw [trn 4 o' (fun z => hne z.2)])
      rw [tr4, h4n] at q
      have q : sm (fun o => bZ (sR T 4 o).isSome) (nOc Y) = sm (fun o => bZ (sR Y 4 o).isSome) (nOc Y) + (1 - 0) := q
      refine ⟨by rw [b1]; exact n1, by rw [b1]; exact n2, ?_, by rw [b2]; exact n4, by rw [b2]; exact n5⟩
      rw [b1, eo, en, q]
      omega
    · intro i hi hv
      have vv : vT T i = vT (fiU Y o) i := congrArg Int32.toInt (iI 42 i)
      rw [vv] at hv
      have hi2 : i < nLc (fiU Y o) := by rw [zL]; omega
      have ne : i ≠ sN Y 2 0 := fun z => by
        have : vT (fiU Y o) i = 0 := by rw [z]; exact congrArg Int32.toInt (nl_42 (S := fiT Y o) (p := sN Y 7 o) (qy := sI Y 60 o) (co := sJ Y 5 o))
        omega
      have eb : barred T i = barred (fiU Y o) i := by
        unfold barred
        rw [show nsM T 14 0 i = nsM (fiU Y o) 14 0 i from nsM_fr (jk (2 * 14) (by decide) (by decide) (by decide) (by decide) (by decide)) (jk (2 * 14 + 1) (by decide) (by decide) (by decide) (by decide) (by decide)) 0 i, show nsLo T 8 i = nsLo (fiU Y o) 8 i from j16 16 (Or.inl rfl) i ne, show nsHi T 8 i = nsHi (fiU Y o) 8 i from j16 17 (Or.inr rfl) i ne, show nsLo T 14 0 = nsLo (fiU Y o) 14 0 from jk (2 * 14) (by decide) (by decide) (by decide) (by decide) (by decide) 0, show nsHi T 14 0 = nsHi (fiU Y o) 14 0 from jk (2 * 14 + 1) (by decide) (by decide) (by decide) (by decide) (by decide) 0]
      rw [eb]
      exact zH i hi2 hv
    · exact ⟨(uK 53 (by decide) (by decide) (by decide) (by decide) o).trans f53, fun i e => (uK 53 (by decide) (by decide) (by decide) (by decide) i).trans (f53n i e), (uK 1 (by decide) (by decide) (by decide) (by decide) 0).trans (fK 1 (by decide) (by decide) 0), (uK 2 (by decide) (by decide) (by decide) (by decide) 0).trans (fK 2 (by decide) (by decide) 0), jY 1 (by decide) (by decide) (by decide) (by decide) (by decide) (by decide) (by decide) (by decide) 0, tNk, fun i e k => trn k i (fun z => e z.2), fun i => trn 1 i (fun z => absurd z.1 (by decide)), fun k hk i => (uK k (by omega) (by omega) (by omega) (by omega) i).trans (fK k (by omega) (by omega) i)⟩
