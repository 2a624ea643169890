/-! law on both -/
theorem LRk_of {A B : Nat → Nat → Int32} {sz k s : Nat} {x : Cl} (hsz : sz ≤ 200) (hC : ClC A sz k x) (r1 : RV x.2.1) (r2 : RV x.2.2) (b0 : B 0 k = x.1) (b1 : B 1 k = nI s) (b2 : B 2 k = nI (s + x.2.1.1.length)) (b3 : B 3 k = nI (s + x.2.1.1.length + x.2.2.1.length)) (he : s + x.2.1.1.length + x.2.2.1.length ≤ 200) (cd : ∀ j y, (x.2.1.1 ++ x.2.2.1)[j]? = some y → B 4 (s + j) = y.1 ∧ B 5 (s + j) = y.2) : LRk A B sz k := by
  have CA : CdA (B 4) (B 5) s (x.2.1.1 ++ x.2.2.1) := cd
  obtain ⟨e0, q0, q1, q2, a1, a2, a3, a4, a5, a6, a7, a8, a9, a10⟩ := hC
  refine ⟨e0.trans b0.symm, s, s + x.2.1.1.length, s + x.2.1.1.length + x.2.2.1.length, by omega, by omega, he, b1, b2, b3, fun F => ⟨x.2.2.2.1 F, x.2.1.2.1 F, ?_, ?_, ?_, ?_⟩⟩
  · have := r2 (B 4) (B 5) F (s + x.2.1.1.length) 0 [] CA.right (by rw [List.length_nil]; omega)
    rw [Nat.zero_add] at this
    rw [show s + x.2.1.1.length + x.2.2.1.length - (s + x.2.1.1.length) = x.2.2.1.length by omega, this, wkL]
  · have := r1 (B 4) (B 5) F s 0 [] CA.left (by rw [List.length_nil]; omega)
    rw [Nat.zero_add] at this
    rw [show s + x.2.1.1.length - s = x.2.1.1.length by omega, this, wkL]
  · rw [a5, nI_clamp (by omega)]
    have X := a8.2.2 (A 0) (A 1) sz F false (fun j _ _ => ⟨rfl, rfl⟩) (by omega) hsz
    show ((rk (A 0) (A 1) sz F (q1 + 1) [] false).2.1 && !(rk (A 0) (A 1) sz F (q1 + 1) [] false).2.2) = _
    cases e2 : (x.2.2.2.1 F).2 with
    | true =>
      rw [e2, if_pos rfl] at X
      rw [X, Bool.not_true, Bool.and_false, Bool.and_false]
    | false =>
      rw [e2, if_neg (by decide), rk_at (p := q2) (by omega) hsz, if_pos a9] at X
      rw [X]
  · rw [a4, nI_clamp (by omega)]
    have X := a6.2 (A 0) (A 1) sz F [] false (fun j _ _ => ⟨rfl, rfl⟩) (by omega) hsz (by rw [List.length_nil]; omega)
    show (if (rk (A 0) (A 1) sz F q0 [] false).2.2 = true then 0 else botL (rk (A 0) (A 1) sz F q0 [] false).1) = _
    cases e2 : (x.2.1.2.1 F).2 with
    | true =>
      rw [e2, if_pos rfl] at X
      rw [X, if_pos rfl, if_pos rfl]
    | false =>
      rw [e2, if_neg (by decide), rk_at (p := q1) (by omega) hsz, if_pos a7] at X
      rw [X]
      rfl
theorem LRel_of {μ1 μ2 : Mem} {cs : List Cl} (h1 : LwC μ1 cs) (hF : Fr pMx μ1 μ2) (h2 : LwM μ2 cs) : LRel μ2 := by
  obtain ⟨sz, c1, c2, c3, c4, c5, c6⟩ := h1
  obtain ⟨m1, C, D, m2, ⟨m3, m4⟩, m5, m6⟩ := h2
  have eA : ∀ f, f < 5 → gi μ2 (30 + f) = gi μ1 (30 + f) := fun f hf => funext fun j => hF.1 _ _ (by unfold pMx pMl pMc pMr; omega)
  have gk : ∀ k, k < cs.length → ∃ x, cs[k]? = some x := fun k hk => ⟨_, List.getElem?_eq_getElem hk⟩
  have cc : ∀ k x, cs[k]? = some x → ClC (fun f => gi μ2 (30 + f)) sz k x := fun k x hx => (c6 k x hx).mv (Nat.le_refl _) (fun j _ => ⟨congrFun (eA 0 (by omega)) j, congrFun (eA 1 (by omega)) j⟩) (congrFun (eA 2 (by omega)) k) (congrFun (eA 3 (by omega)) k) (congrFun (eA 4 (by omega)) k)
  refine ⟨sz, cs.length, ?_, ?_, m1, ⟨c2, c4, fun k hk => ?_, fun p hp z => ?_⟩, fun k hk => ?_⟩
  · exact (hF.1 _ _ (by unfold pMx pMl pMc pMr; omega)).trans c1
  · exact (hF.1 _ _ (by unfold pMx pMl pMc pMr; omega)).trans c3
  · obtain ⟨x, hx⟩ := gk k hk
    obtain ⟨-, q0, q1, q2, a1, a2, a3, a4, a5, -⟩ := cc k x hx
    exact ⟨⟨q1 + 1, by omega, a5⟩, q0, by omega, a4⟩
  · have z' : gi μ1 30 p = 4 ∨ gi μ1 30 p = 5 := by rw [← congrFun (eA 0 (by omega)) p]; exact z
    obtain ⟨y, hy, e⟩ := c5 p (by omega) hp z'
    exact ⟨y, hy, (congrFun (eA 1 (by omega)) p).trans e⟩
  · obtain ⟨x, hx⟩ := gk k hk
    obtain ⟨r1, r2, s, d1, d2, d3⟩ := m4 k x hx
    obtain ⟨w1, w2, w3, w4⟩ := m6 k _ d1
    exact LRk_of (s := s) c2 (cc k x hx) r1 r2 w1 w2 w3 w4 (by omega) (fun j y hy => m5 _ y (d3 j y hy))
section BLW
variable {G : Gx} {d v : Nat} {μ : Mem} {bc bs : Nat}
theorem both_law (hd : 30 ≤ d) {a : Int32} (hI : Inv LRel μ) : Both G d LRel mX10_law mX11_law [.int a] v μ bc bs := by
  obtain ⟨i1, i2, i3, i4, i5⟩ := id hI
  obtain ⟨ts, t1, t2, t3, t4⟩ := id i3
  obtain ⟨fb, hfb⟩ : ∃ fb : Nat → Nat, fb = fun j => (gi μ 2 j).toNatClampNeg := ⟨_, rfl⟩
  have tb : ∀ j, j < ts → fb j < 256 ∧ gi μ 2 j = nI (fb j) := fun j hj => by
    obtain ⟨b, h1, h2, -⟩ := t4 j hj
    rw [hfb]; dsimp only; rw [h2, nI_clamp (by omega)]; exact ⟨h1, rfl⟩
  have tm : ∀ {μ1}, Fr pLx μ μ1 → ∀ j, j < ts → fb j < 256 ∧ gu μ1 j = nI (fb j) := fun {μ1} hF j hj => by
    obtain ⟨b, h1, h2, h3⟩ := t4 j hj
    refine ⟨(tb j hj).1, ?_⟩
    rw [← (tb j hj).2, h2]
    unfold gu
    rw [hF.1 145 j (by unfold pLx pLw pRl pRf pRc pRo pCp; omega)]; exact h3
  have t3' : ∀ {μ1}, Fr pLx μ μ1 → gi μ1 144 1 = nI ts := fun hF => (hF.1 _ _ (by unfold pLx pLw pRl pRf pRc pRo pCp; omega)).trans t3
  have wx : ∀ {μ1}, Fr pLw μ μ1 → Fr pLx μ μ1 := fun hF => hF.mono (fun _ _ z => Or.inl z)
  have eL : ∀ {L L'}, L ≤ 200 → L' ≤ 200 → a = nI L → a = nI L' → L' = L := fun {L L'} h h' e e' => (nI_eq (by omega) (by omega)).mp (e'.symm.trans e)
  refine k_law (fb := fb) hd t1 t2 tb (fun c => ?_) (fun c L l1 l2 l3 e er he μ1 hF z1 => ?_) (fun c L l1 l2 l3 e cs he μ1 hF z1 hW => ?_)
  · exact k_mLaw (fb := fb) (by omega) t1 t3 (tm Fr.rf) (fun _ => ⟨rfl, v, rfl, hI, rfl, rfl⟩) (fun c' => absurd c' c) (fun c' => absurd c' c)
  · refine k_mLaw (fb := fb) (by omega) t1 (t3' (wx hF)) (tm (wx hF)) (fun c' => absurd c c') (fun _ L' l1' l2' l3' e' er' he' μ2 hF2 z2 => ?_) (fun _ L' l1' l2' l3' e' cs' he' => ?_)
    · have := eL l2 l2' e e'
      subst this
      have ee : er' = er := Sum.inl.inj (he'.symm.trans he)
      subst ee
      have c' : ∀ a j, ¬ pLw a j → ¬ pMl a j → gi μ2 a j = gi μ a j := fun a j x y => (hF2.1 a j y).trans (hF.1 a j x)
      refine ⟨rfl, v, rfl, hI.fi (P := fun a j => pLw a j ∨ pMl a j) (fun a j z => c' a j (fun y => z (Or.inl y)) (fun y => z (Or.inr y))) (fun a j z => ?_) (i2.cong ?_ ?_ ?_ ?_) ⟨0, by omega, (hF2.1 1 1 (by unfold pMl pMc pMr; omega)).trans z1, z2, fun j hj => absurd hj (by omega)⟩, rfl, rfl⟩
      · unfold pLw pRl pRf pRc pRo pMl pMc pMr at z; unfold Lo2 Lo; omega
      all_goals exact c' _ _ (by unfold pLw pRl pRf pRc pRo; omega) (by unfold pMl pMc pMr; omega)
    · have := eL l2 l2' e e'
      subst this
      rw [he] at he'; simp at he'
  · refine k_mLaw (fb := fb) (by omega) t1 (t3' hF) (tm hF) (fun c' => absurd c c') (fun _ L' l1' l2' l3' e' er' he' => ?_) (fun _ L' l1' l2' l3' e' cs' he' μ2 hF2 z2 hM => ?_)
    · have := eL l2 l2' e e'
      subst this
      rw [he] at he'; simp at he'
    · have := eL l2 l2' e e'
      subst this
      have ee : cs' = cs := Sum.inr.inj (he'.symm.trans he)
      subst ee
      have c' : ∀ a j, ¬ pLx a j → ¬ pMx a j → gi μ2 a j = gi μ a j := fun a j x y => (hF2.1 a j y).trans (hF.1 a j x)
      refine ⟨rfl, v, rfl, ⟨i1.cong ?_ ?_ ?_ ?_ ?_ ?_, i2.cong ?_ ?_ ?_ ?_, ⟨0, by omega, (hF2.1 1 1 (by unfold pMx pMl pMc pMr; omega)).trans z1, z2, fun j hj => absurd hj (by omega)⟩, i4.cong ?_ ?_ ?_ ?_ ?_, LRel_of hW hF2 hM⟩, rfl, rfl⟩
      all_goals intros
      all_goals exact c' _ _ (by unfold pLx pLw pRl pRf pRc pRo pCp; omega) (by unfold pMx pMl pMc pMr; omega)
end BLW
