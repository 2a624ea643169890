theorem whB_same {A B : Nat → Nat → Int32} {nr nb i : Nat} {p : Int32} (h : Same A B nr nb) (hi : i < nb) : whB A i p = whB B i p := by
  unfold whB; rw [h.2 11 (by omega) (by omega) i hi, h.2 8 (by omega) (by omega) i hi, h.2 9 (by omega) (by omega) i hi]
theorem cutB_same {A B : Nat → Nat → Int32} {nr nb i : Nat} {p n : Int32} (h : Same A B nr nb) (hi : i < nb) : cutB A i p n = cutB B i p n := by
  unfold cutB; rw [whB_same h hi, h.2 7 (by omega) (by omega) i hi]
theorem knB_same {A B : Nat → Nat → Int32} {nr nb i : Nat} {p n : Int32} (h : Same A B nr nb) (hi : i < nb) : knB A i p n = knB B i p n := by
  unfold knB; rw [whB_same h hi, h.2 7 (by omega) (by omega) i hi]
theorem hvL_same {LV : (Nat → Int32) → Bool → Int32} {A B : Nat → Nat → Int32} {nr nb i : Nat} {w len : Int32} (hn : nr ≤ 10) (h : Same A B nr nb) (hr : RibOK A nr i) (hi : i < nb) : ∀ g, hvL LV A w i len g = hvL LV B w i len g := fun g => by
  unfold hvL FA
  obtain ⟨⟨r, hr, er⟩, -⟩ := hr
  have s := fun f h5 hf => h.2 f h5 hf i hi
  rw [← s 5 (by omega) (by omega), ← s 6 (by omega) (by omega), ← s 8 (by omega) (by omega), ← s 9 (by omega) (by omega), er, nI_clamp (by omega), h.1 4 (by omega) r hr]
theorem chD_same {LV : (Nat → Int32) → Bool → Int32} {A B : Nat → Nat → Int32} {nr nb i x : Nat} {wd p n : Int32} (h : LedOK A B nr nb) (hi : i < nb) : chD LV A wd p n i x = chD LV B wd p n i x := by
  obtain ⟨⟨n1, n2, n3⟩, q2, q3, q4, q5⟩ := id h
  have hr := q3 i hi
  obtain ⟨⟨r, hr0, er⟩, -⟩ := id hr
  have el : lnC A p n i = lnC B p n i := by unfold lnC; rw [cutB_same q5 hi, q5.2 7 (by omega) (by omega) i hi]
  unfold chD
  rw [el, hvL_same n2 q5 hr hi, hvL_same n2 q5 hr hi, hvA_same n2 q5 hr hi, hvA_same n2 q5 hr hi, ← q5.2 5 (by omega) (by omega) i hi, ← q5.2 6 (by omega) (by omega) i hi, er, nI_clamp (by omega)]
  exact (ctr_A (WFd.of h).on n2 (fun j hj => (q5.1 0 (by omega) j hj).symm) (fun j hj => (q5.1 1 (by omega) j hj).symm) hr0).symm
/-- one length -/
def lnU (A : Nat → Nat → Int32) (i : Nat) (x : Int32) : Nat → Nat → Int32 := fun f k => if f = 7 ∧ k = i then x else A f k
theorem lnU_e {A : Nat → Nat → Int32} {i : Nat} {x : Int32} : lnU A i x 7 i = x := if_pos ⟨rfl, rfl⟩
theorem lnU_o {A : Nat → Nat → Int32} {i f k : Nat} {x : Int32} (h : f ≠ 7 ∨ k ≠ i) : lnU A i x f k = A f k := if_neg (fun y => by omega)
theorem LedOK.ln {A B : Nat → Nat → Int32} {nr nb i l : Nat} (q : LedOK A B nr nb) (hi : i < nb) (h1 : 1 ≤ l) (h2 : l ≤ 99) : LedOK (lnU A i (nI l)) (lnU B i (nI l)) nr nb := by
  obtain ⟨-, -, q3, q4, q5⟩ := id q
  have o : ∀ (A : Nat → Nat → Int32) f k, (f ≠ 7 ∨ k ≠ i) → lnU A i (nI l) f k = A f k := fun A f k z => if_neg (fun y => by omega)
  refine q.ribU (k := i) hi (Or.inl rfl) (fun f hf j hj => o A f j (by omega)) (fun f hf j hj => o B f j (by omega)) ?_ ?_ (fun f h5 hf => ?_)
  · obtain ⟨r1, r2, r3, r4, r5⟩ := q3 i hi
    unfold RibOK
    rw [o A 5 i (by omega), o A 6 i (by omega), o A 8 i (by omega), o A 9 i (by omega), o A 10 i (by omega), o A 11 i (by omega)]
    exact ⟨r1, r2, ⟨l, h2, if_pos ⟨rfl, rfl⟩, fun _ => h1⟩, r4, r5⟩
  · rw [o A 11 i (by omega)]; exact q4.2 i (by have := q.1; omega)
  · by_cases e : f = 7
    · subst e; unfold lnU; rw [if_pos ⟨rfl, rfl⟩, if_pos ⟨rfl, rfl⟩]
    · rw [o A f i (Or.inl e), o B f i (Or.inl e)]; exact q5.2 f h5 hf i hi
theorem payS_E {LV : (Nat → Int32) → Bool → Int32} {A : Nat → Nat → Int32} {nr nb : Nat} {wd a b m x y x' y' : Int32} : PyE 11 (payS LV A nr nb wd a b m (11, x, y)) (payS LV A nr nb wd a b m (11, x', y')) := by
  unfold payS; exact pyO_E (s := (11, x, y)) (t := (11, x', y')) (Or.inr ⟨rfl, rfl⟩)
theorem cut_len {A : Nat → Nat → Int32} {nr i k : Nat} {a : Int32} (hr : RibOK A nr i) (hk : k ≤ 98) (ci : cutB A i a (nI k) = true) : ∃ l, 1 ≤ l ∧ l ≤ 99 ∧ A 7 i - nI k = nI l := by
  obtain ⟨-, -, ⟨l, hl, el, -⟩, -⟩ := hr
  unfold cutB at ci
  have q3 := (Bool.and_eq_true_iff.mp ci).2
  have q4 : decide (nI k < nI l) = true := by rw [sub_lt hl hk, ← el]; exact q3
  have q5 := (nI_ltI (by omega) (by omega)).mp (of_decide_eq_true q4)
  exact ⟨l - k, by omega, by omega, by rw [el, nI_sub (by omega)]⟩
theorem kn_len {A : Nat → Nat → Int32} {nr j k : Nat} {b : Int32} (hr : RibOK A nr j) (hk : k ≤ 98) (hk1 : 1 ≤ k) (cj : knB A j b (nI k) = true) : ∃ l, 1 ≤ l ∧ l ≤ 99 ∧ A 7 j + nI k = nI l := by
  obtain ⟨-, -, ⟨l, hl, el, -⟩, -⟩ := hr
  unfold knB at cj
  have q2 := of_decide_eq_true (Bool.and_eq_true_iff.mp cj).2
  rw [el, nI_add] at q2
  have q3 := (nI_leI (b := 99) (by omega) (by omega)).mp q2
  exact ⟨l + k, by omega, q3, by rw [el, nI_add]⟩
/-- a call that changes lengths, of both ledgers alike -/
theorem Inv.len {P : Nat → Nat → Prop} {μ μ' : Mem} (hI : Inv LRel μ) (h : Fr P μ μ') (hP : ∀ a j, P a j → Lo a j ∨ a = 11 ∨ a = 153) (hL : LedI μ') : Inv LRel μ' := by
  obtain ⟨i1, i2, i3, i4, i5⟩ := hI
  have e : ∀ a j, ¬ (Lo a j ∨ a = 11 ∨ a = 153) → gi μ' a j = gi μ a j := fun a j z => h.1 a j (fun w => z (hP a j w))
  refine ⟨hL, i2.cong ?_ ?_ ?_ ?_, i3.cong ?_ ?_ ?_ ?_, i4.cong ?_ ?_ ?_ ?_ ?_, LRel_eq _ _ ⟨?_, ?_, ?_, ?_, ?_⟩ i5⟩
  all_goals intros
  all_goals exact e _ _ (by unfold Lo; omega)
section PAY8
variable {G : Gx} {d v : Nat} {μ : Mem} {bc bs : Nat} {Q : Option Value → List Sh → Mem → Nat → Nat → Prop}
def pP1 (a j : Nat) : Prop := pP a j ∨ a = 11
theorem pP1_SfM : ∀ a j, pP1 a j → SfM a j := fun a j z => by unfold pP1 pP pL at z; unfold SfM; omega
theorem othM_A {μ1 : Mem} {nr nb sz n i j k : Nat} {a b : Int32} (hF : Fr pP1 μ μ1) (hM : WM μ nr nb sz n) (q5 : LedOK (fun f => gi μ (4 + f)) (fun f => gi μ (146 + f)) nr nb) (hw : (gi μ 3 14) = (gi μ 144 4)) (hk : k ≤ 98) (hab : a ≠ b) (hi : i < nb) (hj : j < nb) (ci : cutB (fun f => gi μ (4 + f)) i a (nI k) = true) (cj : knB (fun f => gi μ (4 + f)) j b (nI k) = true) : othM μ1 nr nb sz n (nI k) (ln0 μ1 nr nb sz n) i j = othA (lawV (fun f => gi μ (30 + f)) sz n) (fun f => gi μ (4 + f)) nr nb (gi μ 3 14) a (nI k) i j := by
  obtain ⟨⟨n1, n2, n3⟩, q2, q3, q4, s⟩ := id q5
  have ci' : cutB (fun f => gi μ (146 + f)) i a (nI k) = true := by rw [← cutB_same s hi]; exact ci
  have cj' : knB (fun f => gi μ (146 + f)) j b (nI k) = true := by rw [← knB_same s hj]; exact cj
  have hij := cut_ne hab ci cj
  have hM' := hM.kn hi hj hk hab ci' cj'
  have f4 : gi μ1 144 4 = gi μ 144 4 := hF.1 _ _ (by unfold pP1 pP pL; omega)
  have eLV : lawV (fun f => gi (knM μ i j (nI k)) (30 + f)) sz n = lawV (fun f => gi μ (30 + f)) sz n := lawV_fr (fun f hf => funext (fun x => knM_o (by omega)))
  unfold othM othA cnB
  refine sm_cong (fun r hr => ?_)
  dsimp only
  have f148 : gi μ1 148 r = gi μ 148 r := hF.1 _ _ (by unfold pP1 pP pL; omega)
  have s2 : gi μ 6 r = gi μ 148 r := s.1 2 (by omega) r hr
  have e1 : (WGM (knM μ1 i j (nI k)) nr nb sz n (gi μ1 144 4)).2 r = (WG (fun f => gi μ (4 + f)) (hvA (lawV (fun f => gi μ (30 + f)) sz n) (fun f => gi μ (4 + f)) (gi μ 3 14)) nr nb).2 r + chD (lawV (fun f => gi μ (30 + f)) sz n) (fun f => gi μ (4 + f)) (gi μ 3 14) a (nI k) i r + chD (lawV (fun f => gi μ (30 + f)) sz n) (fun f => gi μ (4 + f)) (gi μ 3 14) a (nI k) j r := by
    rw [f4, ← hw, WGM_kn hF pP1_SfM hij, WG_same q5, chD_same q5 hi, chD_same q5 hj]
    unfold WGM
    rw [eLV, WG_two (A := fun f => gi μ (146 + f)) (i := i) (j := j) (WFd.of2 q5) hM'.2.2.1 (fun f hf h7 => funext (fun x => knM_o (by omega))) hi hj hij (fun x hx z1 z2 => by
      show gi (knM μ i j (nI k)) 153 x = gi μ 153 x
      rw [knM_7 hij, if_neg z2, if_neg z1]) (by unfold cutB at ci'; exact (whB_i (Bool.and_eq_true_iff.mp ci').1).1) (by unfold knB at cj'; exact (whB_i (Bool.and_eq_true_iff.mp cj').1).1)]
    have l1 : gi (knM μ i j (nI k)) (146 + 7) i = lnC (fun f => gi μ (146 + f)) a (nI k) i := by
      show gi (knM μ i j (nI k)) 153 i = gi μ 153 i + _
      rw [knM_7 hij, if_neg hij, if_pos rfl, if_pos ci', Int32.sub_eq_add_neg]
    have l2 : gi (knM μ i j (nI k)) (146 + 7) j = lnC (fun f => gi μ (146 + f)) a (nI k) j := by
      show gi (knM μ i j (nI k)) 153 j = gi μ 153 j + _
      rw [knM_7 hij, if_pos rfl, if_neg]
      intro z
      unfold cutB at z; unfold knB at cj'
      exact hab ((whB_i (Bool.and_eq_true_iff.mp z).1).2.2.symm.trans (whB_i (Bool.and_eq_true_iff.mp cj').1).2.2)
    rw [l1, l2]
    rfl
  have e2 : ln0 μ1 nr nb sz n r = lnV ((WG (fun f => gi μ (4 + f)) (hvA (lawV (fun f => gi μ (30 + f)) sz n) (fun f => gi μ (4 + f)) (gi μ 3 14)) nr nb).2 r) (gi μ (4 + 2) r) := by
    unfold ln0
    rw [f4, f148, ← hw, WGM_fr hF pP1_SfM, WG_same q5, show gi μ (4 + 2) r = gi μ 148 r from s2]
    rfl
  rw [e1, e2, f148, ← s2]
theorem both_pay (hd : 8 ≤ d) {a b m w : Int32} (hI : Inv LRel μ) : Both G d LRel mX10_pay mX11_pay [.int a, .int b, .int m, .int w] v μ bc bs := by
  obtain ⟨i1, i2, i3, i4, i5⟩ := id hI
  obtain ⟨nr, nb, q1, q2, q3, q4, q5⟩ := id i1
  obtain ⟨⟨n1, n2, n3⟩, -, -, -, s⟩ := id q5
  obtain ⟨⟨e1, e2, e3⟩, e4, e5, e6⟩ := id i2
  obtain ⟨sz, n, hC, hM⟩ := i5.both q1 q2 q3 q4 q5
  -- the reference's search, behind the class's
  have eS : ∀ μ1, Fr pP1 μ μ1 → payC a b m w → ∀ t, pyO (fun i => cutB (fun f => gi μ1 (146 + f)) i a m) (fun j => knB (fun f => gi μ1 (146 + f)) j b m) (othM μ1 nr nb sz n m (ln0 μ1 nr nb sz n)) nb nb t = payS (lawV (fun f => gi μ (30 + f)) sz n) (fun f => gi μ (4 + f)) nr nb (gi μ 3 14) a b m t := fun μ1 hF hc t => by
    have fB := frM_B hF pP1_SfM
    obtain ⟨k, hk0, rfl⟩ := ofN (show (0 : Int32) ≤ m by have := hc.2.1.1; simp only [i_le] at *; have e0 : (0 : Int32).toInt = 0 := rfl; have e1 : (1 : Int32).toInt = 1 := rfl; omega)
    have hk : k ≤ 98 := (nI_leI (b := 98) (by omega) (by omega)).mp hc.2.1.2
    unfold payS
    refine pyO_cong (fun j hj => ?_) (fun i hi => ?_) (fun i hi ci j hj cj => ?_)
    · rw [knB_fr fB, ← knB_same s hj]
    · rw [cutB_fr fB, ← cutB_same s hi]
    · rw [cutB_fr fB, ← cutB_same s hi] at ci
      rw [knB_fr fB, ← knB_same s hj] at cj
      exact othM_A hF hM q5 e1 hk hc.1.2.2 hi hj ci cj
  refine k_pay (by omega) hC (fun c => k_mPay (by omega) hM (fun _ => ⟨rfl, v, rfl, hI, rfl, rfl⟩) (fun z => absurd z c) (fun z => absurd z c)) (fun c e μ1 hF => ?_) (fun c i j hi hj ci cj e μ1 hF => ?_)
  · have hF1 : Fr pP1 μ μ1 := hF.mono (fun a j z => Or.inl z)
    refine k_mPay (by omega) (hM.fr hF1 pP1_SfM) (fun z => absurd c z) (fun _ _ μ2 hF2 => ⟨rfl, v, rfl, hI.keep LRel_eq ((keep_fr hF pP_Lo).trans (keep_fr hF2 pKl_Lo)), rfl, rfl⟩) (fun _ i j hi hj ci cj e' μ2 hF2 => ?_)
    exfalso
    rw [eS μ1 hF1 c] at e'
    have pE : PyE 11 (payS (lawV (fun f => gi μ (30 + f)) sz n) (fun f => gi μ (4 + f)) nr nb (gi μ 3 14) a b m (11, (gi μ 51 9), (gi μ 51 10))) (payS (lawV (fun f => gi μ (30 + f)) sz n) (fun f => gi μ (4 + f)) nr nb (gi μ 3 14) a b m (11, -2, -2)) := payS_E
    rw [e, e'] at pE
    have le := othM_le (μ := μ1) (nr := nr) (nb := nb) (sz := sz) (n := n) (i := i) (j := j) (m := m) (ln := ln0 μ1 nr nb sz n) n2
    rcases pE with z | ⟨-, z⟩
    · have := congrArg (fun q => q.1) z
      dsimp only at this
      rw [← this] at le; exact absurd le (by decide)
    · dsimp only at z
      rw [z] at le; exact absurd le (by decide)
  · obtain ⟨k, hk0, rfl⟩ := ofN (show (0 : Int32) ≤ m by have := c.2.1.1; simp only [i_le] at *; have e0 : (0 : Int32).toInt = 0 := rfl; have e1 : (1 : Int32).toInt = 1 := rfl; omega)
    have hk : k ≤ 98 := (nI_leI (b := 98) (by omega) (by omega)).mp c.2.1.2
    have hk1 : 1 ≤ k := (nI_leI (a := 1) (by omega) (by omega)).mp c.2.1.1
    have hij := cut_ne c.1.2.2 ci cj
    have hF1 : Fr pP1 μ (if w = 2 then knC μ1 i j (nI k) else μ1) := by
      have hF0 : Fr pP1 μ μ1 := hF.mono (fun a j z => Or.inl z)
      split
      · unfold knC; exact (hF0.si (Or.inr rfl)).si (Or.inr rfl)
      · exact hF0
    have ow := othA_le (LV := lawV (fun f => gi μ (30 + f)) sz n) (A := fun f => gi μ (4 + f)) (nr := nr) (nb := nb) (i := i) (j := j) (wd := (gi μ 3 14)) (p := a) (n := nI k) n2
    generalize hmc : (if w = 2 then knC μ1 i j (nI k) else μ1) = μc at hF1 ⊢
    refine k_mPay (by omega) (hM.fr hF1 pP1_SfM) (fun z => absurd c z) (fun _ e' μ2 hF2 => ?_) (fun _ i' j' hi' hj' ci' cj' e' μ2 hF2 => ?_)
    · exfalso
      rw [eS μc hF1 c] at e'
      have pE : PyE 11 (payS (lawV (fun f => gi μ (30 + f)) sz n) (fun f => gi μ (4 + f)) nr nb (gi μ 3 14) a b (nI k) (11, (gi μ 51 9), (gi μ 51 10))) (payS (lawV (fun f => gi μ (30 + f)) sz n) (fun f => gi μ (4 + f)) nr nb (gi μ 3 14) a b (nI k) (11, -2, -2)) := payS_E
      rw [e, e'] at pE
      rcases pE with z | ⟨z, -⟩
      · have := congrArg (fun q => q.1) z
        dsimp only at this
        rw [this] at ow; exact absurd ow (by decide)
      · dsimp only at z
        rw [z] at ow; exact absurd ow (by decide)
    · have eS' := e'
      rw [eS μc hF1 c] at eS'
      have pE : PyE 11 (payS (lawV (fun f => gi μ (30 + f)) sz n) (fun f => gi μ (4 + f)) nr nb (gi μ 3 14) a b (nI k) (11, (gi μ 51 9), (gi μ 51 10))) (payS (lawV (fun f => gi μ (30 + f)) sz n) (fun f => gi μ (4 + f)) nr nb (gi μ 3 14) a b (nI k) (11, -2, -2)) := payS_E
      rw [e, eS'] at pE
      have pe : (othA (lawV (fun f => gi μ (30 + f)) sz n) (fun f => gi μ (4 + f)) nr nb (gi μ 3 14) a (nI k) i j, nI i, nI j) = (othM μc nr nb sz n (nI k) (ln0 μc nr nb sz n) i' j', nI i', nI j') := by
        rcases pE with z | ⟨z, -⟩
        · exact z
        · dsimp only at z
          rw [z] at ow; exact absurd ow (by decide)
      have z1 := congrArg (fun q => q.1) pe
      have z2 := (nI_eq (by omega) (by omega)).mp (congrArg (fun q => q.2.1) pe)
      have z3 := (nI_eq (by omega) (by omega)).mp (congrArg (fun q => q.2.2) pe)
      dsimp only at z1
      subst z2 z3
      refine ⟨by rw [z1], v, rfl, ?_, rfl, rfl⟩
      by_cases q : w = 2
      · rw [if_pos q] at hmc
        rw [if_pos q]
        have hFF : Fr (fun a j => Lo a j ∨ a = 11 ∨ a = 153) μ (knM μ2 i j (nI k)) := by
          have h1 : Fr (fun a j => Lo a j ∨ a = 11 ∨ a = 153) μ μc := hF1.mono (fun a j z => by
            rcases z with z | z
            · exact Or.inl (pP_Lo a j z)
            · exact Or.inr (Or.inl z))
          have h2 : Fr (fun a j => Lo a j ∨ a = 11 ∨ a = 153) μ μ2 := h1.trans (hF2.mono (fun a j z => Or.inl (pKl_Lo a j z)))
          exact h2.trans (knM_F.mono (fun a j z => Or.inr (Or.inr z)))
        refine hI.len hFF (fun a j z => z) ?_
        obtain ⟨l1, a1, a2, a3⟩ := cut_len (q5.2.2.1 i hi) hk ci
        obtain ⟨l2, b1, b2, b3⟩ := kn_len (q5.2.2.1 j hj) hk hk1 cj
        have c153 : ∀ x, gi μ2 153 x = gi μ 153 x := fun x => (hF2.1 _ _ (by unfold pKl pK pN; omega)).trans (hF1.1 _ _ (by unfold pP1 pP pL; omega))
        have s7i : gi μ 11 i = gi μ 153 i := s.2 7 (by omega) (by omega) i hi
        have s7j : gi μ 11 j = gi μ 153 j := s.2 7 (by omega) (by omega) j hj
        have a3' : gi μ 11 i - nI k = nI l1 := a3
        have b3' : gi μ 11 j + nI k = nI l2 := b3
        have m1 : ∀ x, gi μ1 11 x = gi μ 11 x := fun x => hF.1 _ _ (by unfold pP pL; omega)
        have hq := (q5.ln hi a1 a2).ln hj b1 b2
        have fx : ∀ a x, ¬ (Lo a x ∨ a = 11 ∨ a = 153) → gi (knM μ2 i j (nI k)) a x = gi μ a x := hFF.1
        refine ⟨nr, nb, (fx _ _ (by unfold Lo; omega)).trans q1, (fx _ _ (by unfold Lo; omega)).trans q2, (fx _ _ (by unfold Lo; omega)).trans q3, (fx _ _ (by unfold Lo; omega)).trans q4, hq.cong (fun f hf x => ?_) (fun f hf x => ?_)⟩
        · by_cases f7 : f = 7
          · subst f7
            show gi (knM μ2 i j (nI k)) 11 x = lnU (lnU (fun f => gi μ (4 + f)) i (nI l1)) j (nI l2) 7 x
            rw [knM_o (by omega), hF2.1 11 x (by unfold pKl pK pN; omega), ← hmc]
            unfold knC
            by_cases y : x = j
            · subst y; rw [gi_si, lnU_e, m1]; exact b3'
            · rw [gi_si_k y, lnU_o (Or.inr y)]
              by_cases y2 : x = i
              · subst y2; rw [gi_si, lnU_e, m1]; exact a3'
              · rw [gi_si_k y2, lnU_o (Or.inr y2)]; exact m1 x
          · rw [fx _ _ (by unfold Lo; omega)]
            rw [lnU_o (Or.inl f7), lnU_o (Or.inl f7)]
        · by_cases f7 : f = 7
          · subst f7
            show gi (knM μ2 i j (nI k)) 153 x = lnU (lnU (fun f => gi μ (146 + f)) i (nI l1)) j (nI l2) 7 x
            rw [knM_7 hij, c153, c153, c153]
            by_cases y : x = j
            · subst y; rw [if_pos rfl, lnU_e, ← s7j]; exact b3'
            · rw [if_neg y, lnU_o (Or.inr y)]
              by_cases y2 : x = i
              · subst y2; rw [if_pos rfl, lnU_e, ← s7i]; exact a3'
              · rw [if_neg y2, lnU_o (Or.inr y2)]
          · rw [fx _ _ (by unfold Lo; omega)]
            rw [lnU_o (Or.inl f7), lnU_o (Or.inl f7)]
      · rw [if_neg q] at hmc
        rw [if_neg q]
        subst hmc
        exact hI.keep LRel_eq ((keep_fr hF pP_Lo).trans (keep_fr hF2 pKl_Lo))
end PAY8
