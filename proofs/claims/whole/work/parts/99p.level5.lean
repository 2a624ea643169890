theorem mv_led {A B : Nat → Nat → Int32} {i q nr nb : Nat} {a : Int32} (h : LedOK A B nr nb) (hq : q < nr) (ha : -9 ≤ a.toInt ∧ a.toInt ≤ 9) : LedOK (mv A i (nI q) a) (mv B i (nI q) a) nr nb := by
  obtain ⟨h1, h2, h3, h4, h5, h6⟩ := id h
  obtain ⟨m1, m2, m3⟩ := mv_wf (i := i) (a := a) (show WFd A nr nb from ⟨h1, h2, h3⟩) hq ha
  refine ⟨m1, m2, m3, ⟨fun j hj => ?_, fun j hj => ?_⟩, fun f hf j hj => ?_, fun f f5 hf j hj => ?_⟩
  · rw [mv_f (f := 3) (by omega) (by omega), mv_f (f := 4) (by omega) (by omega)]; exact h4.1 j hj
  · rw [mv_f (f := 11) (by omega) (by omega)]; exact h4.2 j hj
  · rw [mv_f (by omega) (by omega), mv_f (by omega) (by omega)]; exact h5 f hf j hj
  · unfold mv; rw [h6 f f5 hf j hj]
theorem hg_led {A B : Nat → Nat → Int32} {ri ro : Nat → Nat} {ar : Nat → Int32} {P : Nat → Nat} {nr nb m : Nat} (h : LedOK A B nr nb) (hT : Tld A nr nb m ri ro ar) (hP : ∀ k, k < m → P k < m) : ∀ {k : Nat}, k ≤ m → LedOK (hgA A ri ro ar P k) (hgA B ri ro ar P k) nr nb
  | 0, _ => h
  | k + 1, hk => by
    have t := hT.1 (P k) (hP k (by omega))
    exact mv_led (hg_led h hT hP (by omega)) t.2.2.1 t.2.2.2
theorem sm_sb {f g : Nat → Int32} : ∀ {k : Nat}, sm (fun j => f j - g j) k = sm f k - sm g k
  | 0 => show (0 : Int32) = 0 - 0 by decide
  | k + 1 => by
    rw [sm, sm, sm, sm_sb (k := k)]
    generalize sm f k = x
    generalize sm g k = y
    generalize f k = z
    generalize g k = u
    grind
theorem vl_same {LV : (Nat → Int32) → Bool → Int32} {A B : Nat → Nat → Int32} {nr nb m : Nat} {w : Int32} {ri ro : Nat → Nat} {ar : Nat → Int32} {P : List Nat} (h : LedOK A B nr nb) (hT : Tld A nr nb m ri ro ar) (hl : P.length = m) (hP : ∀ k, k < m → P.getD k 0 < m) : vlC LV A nr nb w m ri ro ar P = vlR LV B nr nb w m ri ro ar P := by
  have hW : WFd A nr nb := ⟨h.1, h.2.1, h.2.2.1⟩
  unfold vlC vlR
  rw [← WG_same (hg_led h hT hP (Nat.le_refl m))]
  refine sm_cong (fun r hr => ?_)
  rw [hg_mo (r := r) hW hT hP (Nat.le_refl m), h.2.2.2.2.1 2 (by omega) r hr, sm_sb]
  unfold msI
  rw [hl]
  congr 2
  generalize sm _ m = x
  generalize sm _ m = y
  generalize mo0 LV A nr nb w r = z
  grind
theorem TkP.same {A B : Nat → Nat → Int32} {nr nb k : Nat} {fb : Nat → Nat} (h : LedOK A B nr nb) : TkP A nr nb fb k ↔ TkP B nr nb fb k := by
  unfold TkP
  by_cases c : riF fb k < nb
  · rw [h.2.2.2.2.2 11 (by omega) (by omega) _ c]
  · exact ⟨fun z => absurd z.1.1 c, fun z => absurd z.1.1 c⟩
theorem Inv.ledT {P : Nat → Nat → Prop} {μ μ' : Mem} (hI : Inv LRel μ) (h : Fi P μ μ') (hP : ∀ a j, P a j → Lo a j ∨ (4 ≤ a ∧ a ≤ 15) ∨ (146 ≤ a ∧ a ≤ 157) ∨ a = 1 ∧ j = 1 ∨ a = 144 ∧ j = 1) (hL : LedI μ') (hT : TapeI μ') : Inv LRel μ' := by
  obtain ⟨i1, i2, i3, i4, i5⟩ := hI
  have c : ∀ a j, ¬ (Lo a j ∨ (4 ≤ a ∧ a ≤ 15) ∨ (146 ≤ a ∧ a ≤ 157) ∨ a = 1 ∧ j = 1 ∨ a = 144 ∧ j = 1) → gi μ' a j = gi μ a j := fun a j z => h a j (fun w => z (hP a j w))
  refine ⟨hL, i2.cong ?_ ?_ ?_ ?_, hT, i4.cong ?_ ?_ ?_ ?_ ?_, LRel_eq _ _ ⟨?_, ?_, ?_, ?_, ?_⟩ i5⟩
  all_goals intros
  all_goals exact c _ _ (by unfold Lo; omega)
section LV5
variable {G : Gx} {d v : Nat} {μ : Mem} {bc bs : Nat} {nr nb sz n : Nat}
theorem level_inv {μ1 μ2 : Mem} {A' B' : Nat → Nat → Int32} (hI : Inv LRel μ) (q1 : (gi μ 3 12) = nI nr) (q2 : (gi μ 144 2) = nI nr) (q3 : (gi μ 3 13) = nI nb) (q4 : (gi μ 144 3) = nI nb) (hF : Fr pLv μ μ1) (z1 : gi μ1 1 1 = 0) (hA : ∀ f, f < 12 → gi μ1 (4 + f) = A' f) (hF2 : Fr pLm μ1 μ2) (z2 : gi μ2 144 1 = 0) (hB : ∀ f, f < 12 → gi μ2 (146 + f) = B' f) (hL : LedOK A' B' nr nb) : Inv LRel μ2 := by
  have c : ∀ a j, ¬ pLv a j → ¬ pLm a j → gi μ2 a j = gi μ a j := fun a j x y => (hF2.1 a j y).trans (hF.1 a j x)
  refine hI.ledT (P := fun a j => pLv a j ∨ pLm a j) (fun a j z => c a j (fun y => z (Or.inl y)) (fun y => z (Or.inr y))) (fun a j z => ?_) ⟨nr, nb, ?_, ?_, ?_, ?_, hL.cong (fun f hf j => ?_) (fun f hf j => ?_)⟩ ⟨0, by omega, (hF2.1 1 1 (by unfold pLm pLl pK pN; omega)).trans z1, z2, fun j hj => absurd hj (by omega)⟩
  · unfold pLv pSe pRd pS pL pLm pLl pK pN at z; unfold Lo; omega
  · exact (c _ _ (by unfold pLv pSe pRd pS pL; omega) (by unfold pLm pLl pK pN; omega)).trans q1
  · exact (c _ _ (by unfold pLv pSe pRd pS pL; omega) (by unfold pLm pLl pK pN; omega)).trans q2
  · exact (c _ _ (by unfold pLv pSe pRd pS pL; omega) (by unfold pLm pLl pK pN; omega)).trans q3
  · exact (c _ _ (by unfold pLv pSe pRd pS pL; omega) (by unfold pLm pLl pK pN; omega)).trans q4
  · exact (hF2.1 _ _ (by unfold pLm pLl pK pN; omega)).trans (congrFun (hA f hf) j)
  · exact congrFun (hB f hf) j
theorem both_level (hd : 14 ≤ d) {a w : Int32} (hI : Inv LRel μ) : Both G d LRel mX10_level mX11_level [.int a, .int w] v μ bc bs := by
  obtain ⟨i1, i2, i3, i4, i5⟩ := id hI
  obtain ⟨nr, nb, q1, q2, q3, q4, q5⟩ := id i1
  obtain ⟨⟨n1, n2, n3⟩, -, -, qb, s⟩ := id q5
  obtain ⟨ts, t1, t2, t3, t4⟩ := id i3
  obtain ⟨sz, n, hC, hM⟩ := i5.both q1 q2 q3 q4 q5
  have hw := i2.1.1
  obtain ⟨fb, hfb⟩ : ∃ fb : Nat → Nat, fb = fun j => (gi μ 2 j).toNatClampNeg := ⟨_, rfl⟩
  have tb : ∀ j, j < ts → fb j < 256 ∧ gi μ 2 j = nI (fb j) := fun j hj => by
    obtain ⟨b, h1, h2, -⟩ := t4 j hj
    rw [hfb]; dsimp only; rw [h2, nI_clamp (by omega)]; exact ⟨h1, rfl⟩
  have o : ∀ {μ1}, Fr pLv μ μ1 → ∀ a j, ¬ pLv a j → gi μ1 a j = gi μ a j := fun hF a j z => hF.1 a j z
  have tm : ∀ {μ1}, Fr pLv μ μ1 → ∀ j, j < ts → fb j < 256 ∧ gu μ1 j = nI (fb j) := fun {μ1} hF j hj => by
    obtain ⟨b, h1, h2, h3⟩ := t4 j hj
    refine ⟨(tb j hj).1, ?_⟩
    rw [← (tb j hj).2, h2]
    unfold gu
    rw [hF.1 145 j (by unfold pLv pSe pRd pS pL; omega)]; exact h3
  have t3' : ∀ {μ1}, Fr pLv μ μ1 → gi μ1 144 1 = nI ts := fun hF => (hF.1 _ _ (by unfold pLv pSe pRd pS pL; omega)).trans t3
  have cB : ∀ {μ1}, Fr pLv μ μ1 → ∀ f, f < 12 → gi μ1 (146 + f) = gi μ (146 + f) := fun hF f hf => funext fun j => hF.1 _ _ (by unfold pLv pSe pRd pS pL; omega)
  have hM1 : ∀ {μ1}, Fr pLv μ μ1 → WM μ1 nr nb sz n := fun hF => hM.fr hF (fun a j z => by unfold pLv pSe pRd pS pL at z; unfold SfM; omega)
  have tk : ∀ {μ1 k}, Fr pLv μ μ1 → (TkP (fun f => gi μ1 (146 + f)) nr nb fb k ↔ TkP (fun f => gi μ (4 + f)) nr nb fb k) := fun {μ1 k} hF => by
    rw [TkP.same q5]
    unfold TkP
    rw [show (fun f => gi μ1 (146 + f)) 11 = (fun f => gi μ (146 + f)) 11 from cB hF 11 (by omega)]
  refine k_level (fb := fb) (by omega) hC t2 t1 tb (fun c => ?_) (fun c m m1 m6 e x μ1 hF z1 hA1 => ?_) (fun c m m1 m6 e x F eF μ1 hF z1 hA1 => ?_)
  · exact k_mLevel (fb := fb) (by omega) hM t3 t1 (tm Fr.rf) (fun _ => ⟨rfl, v, rfl, hI, rfl, rfl⟩) (fun c' => absurd c' c) (fun c' => absurd c' c)
  · refine k_mLevel (fb := fb) (by omega) (hM1 hF) (t3' hF) t1 (tm hF) (fun c' => absurd c c') (fun _ m' m1' m6' e' x' μ2 hF2 z2 hB2 => ⟨rfl, v, rfl, level_inv hI q1 q2 q3 q4 hF z1 hA1 hF2 z2 (fun f hf => (hB2 f hf).trans (cB hF f hf)) q5, rfl, rfl⟩) (fun _ m' m1' m6' e' x' => ?_)
    have em : m' = m := (nI_eq (by omega) (by omega)).mp (e'.symm.trans e)
    subst em
    exact absurd (fun k hk => (tk hF).mp (x' k hk)) x
  · refine k_mLevel (fb := fb) (by omega) (hM1 hF) (t3' hF) t1 (tm hF) (fun c' => absurd c c') (fun _ m' m1' m6' e' x' => ?_) (fun _ m' m1' m6' e' x' F' eF' μ2 hF2 z2 hB2 => ?_)
    · have em : m' = m := (nI_eq (by omega) (by omega)).mp (e'.symm.trans e)
      subst em
      exact absurd (fun k hk => (tk hF).mpr (x k hk)) x'
    · have em : m' = m := (nI_eq (by omega) (by omega)).mp (e'.symm.trans e)
      subst em
      have hT := Tld.of x
      have q5' : LedOK (fun f => gi μ (4 + f)) (fun f => gi μ1 (146 + f)) nr nb := q5.cong (fun f hf j => rfl) (fun f hf j => congrFun (cB hF f hf) j)
      have hme : ∀ P ∈ pmL m' m' [], P.length = m' ∧ ∀ j, j < m' → P.getD j 0 < m' := fun P hP => by
        obtain ⟨p1, p2⟩ := pmL_mem (m := m') (f := m') (pre := []) (fun x hx => by simp at hx) P hP
        rw [List.length_nil, Nat.zero_add] at p1
        refine ⟨p1, fun j hj => p2 _ ?_⟩
        rw [List.getD_eq_getElem?_getD, List.getElem?_eq_getElem (by omega)]
        exact List.getElem_mem _
      have hne : pmL m' m' [] ≠ [] := fun z => by
        have := (chk_1 m' (by omega) m1).2
        rw [z] at this; exact absurd this (by simp)
      have ev : ∀ P ∈ pmL m' m' [], vlC (lawV (fun f => gi μ (30 + f)) sz n) (fun f => gi μ (4 + f)) nr nb (gi μ 3 14) m' (riF fb) (roF fb) (arF fb) P = vlR (lawV (fun f => gi μ1 (30 + f)) sz n) (fun f => gi μ1 (146 + f)) nr nb (gi μ1 144 4) m' (riF fb) (roF fb) (arF fb) P := fun P hP => by
        obtain ⟨p1, p2⟩ := hme P hP
        rw [vl_same q5' hT p1 p2, lawV_fr (A := fun f => gi μ (30 + f)) (fun f hf => funext fun j => hF.1 _ _ (by unfold pLv pSe pRd pS pL; omega)), hF.1 144 4 (by unfold pLv pSe pRd pS pL; omega), hw]
      have eFF : F' = F := by
        rw [eF, eF', lvB_cong ev]
        exact lvB_0 hne (fun P _ => vsI_lt n2 (by decide)) (fun P _ => vsI_lt n2 (by decide))
      rw [eFF] at hB2 ⊢
      have ok := lvB_ok (v := vlC (lawV (fun f => gi μ (30 + f)) sz n) (fun f => gi μ (4 + f)) nr nb (gi μ 3 14) m' (riF fb) (roF fb) (arF fb)) (x := 2147483647) m1 m6 (fun P => vsI_lt n2 (by decide))
      rw [← eF] at ok
      refine ⟨rfl, v, rfl, ?_, rfl, rfl⟩
      by_cases c6 : w = 6
      · refine level_inv hI q1 q2 q3 q4 hF z1 (fun f hf => ?_) hF2 z2 (fun f hf => ?_) (hg_led q5' hT ok.2 (Nat.le_refl m'))
        · rw [hA1 f hf, if_pos c6]
        · rw [hB2 f hf, if_pos c6]
      · refine level_inv hI q1 q2 q3 q4 hF z1 (fun f hf => ?_) hF2 z2 (fun f hf => ?_) q5'
        · rw [hA1 f hf, if_neg c6]
        · rw [hB2 f hf, if_neg c6]
end LV5
