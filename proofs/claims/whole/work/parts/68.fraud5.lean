section FRD5
variable {G : Gx} {d v : Nat} {μ : Mem} {bc bs : Nat} {Q : Option Value → List Sh → Mem → Nat → Nat → Prop}
theorem WG_kn {nr nb sz n i j k r : Nat} {a b w : Int32} (hM : WM μ nr nb sz n) (q5 : LedOK (fun f => gi μ (4 + f)) (fun f => gi μ (146 + f)) nr nb) (hk : k ≤ 98) (hab : a ≠ b) (hi : i < nb) (hj : j < nb) (ci : cutB (fun f => gi μ (4 + f)) i a (nI k) = true) (cj : knB (fun f => gi μ (4 + f)) j b (nI k) = true) : (WGM (knM μ i j (nI k)) nr nb sz n w).2 r = (WG (fun f => gi μ (4 + f)) (hvA (lawV (fun f => gi μ (30 + f)) sz n) (fun f => gi μ (4 + f)) w) nr nb).2 r + chD (lawV (fun f => gi μ (30 + f)) sz n) (fun f => gi μ (4 + f)) w a (nI k) i r + chD (lawV (fun f => gi μ (30 + f)) sz n) (fun f => gi μ (4 + f)) w a (nI k) j r := by
  obtain ⟨⟨n1, n2, n3⟩, q2, q3, q4, s⟩ := id q5
  have ci' : cutB (fun f => gi μ (146 + f)) i a (nI k) = true := by rw [← cutB_same s hi]; exact ci
  have cj' : knB (fun f => gi μ (146 + f)) j b (nI k) = true := by rw [← knB_same s hj]; exact cj
  have hij := cut_ne hab ci cj
  have hM' := hM.kn hi hj hk hab ci' cj'
  have eLV : lawV (fun f => gi (knM μ i j (nI k)) (30 + f)) sz n = lawV (fun f => gi μ (30 + f)) sz n := lawV_fr (fun f hf => funext (fun x => knM_o (by omega)))
  rw [WG_same q5, chD_same q5 hi, chD_same q5 hj]
  unfold WGM
  rw [eLV, WG_two (A := fun f => gi μ (146 + f)) (i := i) (j := j) (WFd.of2 q5) hM'.2.2.1 (fun f hf h7 => funext (fun x => knM_o (by omega))) hi hj hij (fun x hx z1 z2 => by
    show gi (knM μ i j (nI k)) 153 x = gi μ 153 x
    rw [knM_7 hij, if_neg z2, if_neg z1]) (by unfold cutB at ci'; exact (whB_i (Bool.and_eq_true_iff.mp ci').1).1) (by unfold knB at cj'; exact (whB_i (Bool.and_eq_true_iff.mp cj').1).1)]
  have l1 : gi (knM μ i j (nI k)) (146 + 7) i = lnC (fun f => gi μ (146 + f)) a (nI k) i := by
    show gi (knM μ i j (nI k)) 153 i = gi μ 153 i + _
    rw [knM_7 hij, if_neg hij, if_pos rfl, if_pos ci', Int32.sub_eq_add_neg]
  have l2 : gi (knM μ i j (nI k)) (146 + 7) j = lnC (fun f => gi μ (146 + f)) a (nI k) j := by
    show gi (knM μ i j (nI k)) 153 j = gi μ 153 j + _
    rw [knM_7 hij, if_pos rfl, if_neg]
    intro z
    unfold cutB at z; unfold knB at cj'
    exact hab ((whB_i (Bool.and_eq_true_iff.mp z).1).2.2.symm.trans (whB_i (Bool.and_eq_true_iff.mp cj').1).2.2)
  rw [l1, l2]
  rfl
theorem anB_dec {b : Bool} {P : Prop} [Decidable P] (h : P ↔ b = false) : (!decide P) = b := by
  cases b with
  | false => rw [decide_eq_true (h.mpr rfl)]; rfl
  | true => rw [decide_eq_false (fun z => absurd (h.mp z) (by decide))]; rfl
theorem frd_eq {μ1 : Mem} {nr nb sz n k m i j : Nat} {a b : Int32} (hF : Fi Lo2 μ μ1) (hM : WM μ nr nb sz n) (q5 : LedOK (fun f => gi μ (4 + f)) (fun f => gi μ (146 + f)) nr nb) (hab : a ≠ b) (hm : m ≤ 98) (hi : i < nb) (hj : j < nb) (hg : ∀ e, e < k → gu μ1 e = gi μ 2 e) : frM μ1 nr nb sz n a b k m i j = frB (lawV (fun f => gi μ (30 + f)) sz n) (fun f => gi μ (4 + f)) nr nb a b (fun e => gi μ 2 e - 9) k m i j := by
  obtain ⟨⟨n1, n2, n3⟩, q2, q3, q4, s⟩ := id q5
  have fB : ∀ f, f < 12 → gi μ1 (146 + f) = gi μ (146 + f) := fun f hf => funext (fun x => hF _ _ (by unfold Lo2 Lo; omega))
  unfold frM frB
  rw [cutB_fr fB, knB_fr fB, ← cutB_same s hi, ← knB_same s hj]
  cases ec : (cutB (fun f => gi μ (4 + f)) i a (nI m) && knB (fun f => gi μ (4 + f)) j b (nI m)) with
  | false => rfl
  | true =>
    obtain ⟨ci, cj⟩ := Bool.and_eq_true_iff.mp ec
    have hij := cut_ne hab ci cj
    rw [Bool.true_and, Bool.true_and]
    unfold unB
    refine congrArg not (anB_cong (fun e he => ?_))
    rw [hg e he, picM_fi (knM_fi hF (fun _ _ z => z) hij) (fun _ _ z => z), picM_fi hF (fun _ _ z => z)]
    show _ = dayB _ _ _ _ _ _ (gi μ 2 e - 9) _ _
    generalize gi μ 2 e - 9 = w
    have e1 : picM (knM μ i j (nI m)) nr nb sz n w = picL (snB (fun f => gi μ (4 + f))) (fun r => lnV (mo0 (lawV (fun f => gi μ (30 + f)) sz n) (fun f => gi μ (4 + f)) nr nb w r + chD (lawV (fun f => gi μ (30 + f)) sz n) (fun f => gi μ (4 + f)) w a (nI m) i r + chD (lawV (fun f => gi μ (30 + f)) sz n) (fun f => gi μ (4 + f)) w a (nI m) j r) (gi μ 6 r)) nr := by
      unfold picM
      refine picL_cong (fun r hr => ?_) (fun r hr _ => ?_)
      · show (!decide (gi (knM μ i j (nI m)) 149 r = 0)) = !decide (gi μ 7 r = 0)
        rw [knM_o (by omega), show gi μ 7 r = gi μ 149 r from s.1 3 (by omega) r hr]
      · rw [WG_kn hM q5 hm hab hi hj ci cj, knM_o (by omega), show gi μ 6 r = gi μ 148 r from s.1 2 (by omega) r hr]; rfl
    have e2 : picM μ nr nb sz n w = picL (snB (fun f => gi μ (4 + f))) (fun r => lnV (mo0 (lawV (fun f => gi μ (30 + f)) sz n) (fun f => gi μ (4 + f)) nr nb w r) (gi μ 6 r)) nr := by
      unfold picM
      refine picL_cong (fun r hr => ?_) (fun r hr _ => ?_)
      · show (!decide (gi μ 149 r = 0)) = !decide (gi μ 7 r = 0)
        rw [show gi μ 7 r = gi μ 149 r from s.1 3 (by omega) r hr]
      · rw [show gi μ 6 r = gi μ 148 r from s.1 2 (by omega) r hr, show WGM μ nr nb sz n w = WGC μ nr nb sz n w from (WG_same q5).symm]; rfl
    rw [e1, e2]
    have q := picL_eq (sn := snB (fun f => gi μ (4 + f))) (ln := fun r => lnV (mo0 (lawV (fun f => gi μ (30 + f)) sz n) (fun f => gi μ (4 + f)) nr nb w r + chD (lawV (fun f => gi μ (30 + f)) sz n) (fun f => gi μ (4 + f)) w a (nI m) i r + chD (lawV (fun f => gi μ (30 + f)) sz n) (fun f => gi μ (4 + f)) w a (nI m) j r) (gi μ 6 r)) (ln' := fun r => lnV (mo0 (lawV (fun f => gi μ (30 + f)) sz n) (fun f => gi μ (4 + f)) nr nb w r) (gi μ 6 r)) (n := nr) n2 (fun r _ => lnV_b) (fun r _ => lnV_b)
    exact anB_dec q
theorem both_fraud (hd : 10 ≤ d) {a b m w : Int32} (hI : Inv LRel μ) : Both G d LRel mX10_fraud mX11_fraud [.int a, .int b, .int m, .int w] v μ bc bs := by
  obtain ⟨i1, i2, i3, i4, i5⟩ := id hI
  obtain ⟨nr, nb, q1, q2, q3, q4, q5⟩ := id i1
  obtain ⟨⟨n1, n2, n3⟩, -, -, -, s⟩ := id q5
  obtain ⟨ts, t1, t2, t3, t4⟩ := id i3
  obtain ⟨sz, n, hC, hM⟩ := i5.both q1 q2 q3 q4 q5
  have tb : ∀ j, j < ts → ∃ b, b < 256 ∧ gi μ 2 j = nI b := fun j hj => by obtain ⟨b, h1, h2, -⟩ := t4 j hj; exact ⟨b, h1, h2⟩
  have fin : ∀ μ1 μ2, Fr pPt μ μ1 → gi μ1 1 1 = 0 → Fi pFm μ1 μ2 → gi μ2 144 1 = 0 → Inv LRel μ2 := fun μ1 μ2 hF z1 hF2 z2 => by
    have hFF : Fi Lo2 μ μ2 := ((Fi.of hF).mono pPt_Lo).trans (hF2.mono pFm_Lo)
    have c : ∀ a j, ¬ pPt a j → ¬ pFm a j → gi μ2 a j = gi μ a j := fun a j x y => (hF2 a j y).trans (hF.1 a j x)
    refine hI.fi hFF (fun _ _ z => z) (i2.cong ?_ ?_ ?_ ?_) ⟨0, by omega, (hF2 1 1 (by unfold pFm pK pN; omega)).trans z1, z2, fun j hj => absurd hj (by omega)⟩
    all_goals exact c _ _ (by unfold pPt pP pL; omega) (by unfold pFm pK pN; omega)
  have tell : ∀ μ1 k, Fr pPt μ μ1 → k ≤ ts → ∀ e, e < k → gu μ1 e = gi μ 2 e := fun μ1 k hF hk e he => by
    obtain ⟨b, h1, h2, h3⟩ := t4 e (by omega)
    unfold gu
    rw [hF.1 145 e (by unfold pPt pP pL; omega), h3, h2]
  have tol2 : ∀ μ1 k, Fr pPt μ μ1 → k ≤ ts → anB (fun j => !decide (gu μ1 j ≤ nI 18)) k = anB (fun j => !decide (gi μ 2 j ≤ nI 18)) k := fun μ1 k hF hk => anB_cong (fun e he => by rw [tell μ1 k hF hk e he])
  have kts : ∀ k, k ≤ 6 → frC a b m w ts → m = nI k → k ≤ ts := fun k hk c e => by
    have := c.2.2.2; rw [e] at this; exact (nI_leI (by omega) (by omega)).mp this
  have same : ∀ {k k' : Nat}, k ≤ 6 → k' ≤ 6 → m = nI k → m = nI k' → k' = k := fun h h' e e' => (nI_eq (by omega) (by omega)).mp (e'.symm.trans e)
  have w2 : ∀ {μ1}, Fr pPt μ μ1 → WM μ1 nr nb sz n := fun hF => hM.fr2 hF pPt_Lo
  have t3' : ∀ {μ1}, Fr pPt μ μ1 → gi μ1 144 1 = nI ts := fun hF => (hF.1 _ _ (by unfold pPt pP pL; omega)).trans t3
  have eqv : ∀ μ1 k r, Fr pPt μ μ1 → k ≤ ts → frC a b m w ts → FstF (frM μ1 nr nb sz n a b k) nb 98 r → FstF (frB (lawV (fun f => gi μ (30 + f)) sz n) (fun f => gi μ (4 + f)) nr nb a b (fun e => gi μ 2 e - 9) k) nb 98 r := fun μ1 k r hF hk c q => q.cong (fun m i j x1 x2 x3 x4 => frd_eq ((Fi.of hF).mono pPt_Lo) hM q5 c.1.2.2 x2 x3 x4 (tell μ1 k hF hk))
  refine k_fraud (by omega) hC (fun _ _ => rfl) rfl t2 t1 tb (fun c => k_mFraud (by omega) hM t3 t1 (fun _ => ⟨rfl, v, rfl, hI, rfl, rfl⟩) (fun z => absurd z c) (fun z => absurd z c) (fun z => absurd z c)) (fun c k hk e x μ1 hF z1 => ?_) (fun c k hk e x y μ1 hF z1 => ?_) (fun c k hk e x mm i j y μ1 hF z1 => ?_)
  · refine k_mFraud (by omega) (w2 hF) (t3' hF) t1 (fun z => absurd c z) (fun _ k' hk' e' x' μ2 hF2 z2 => ⟨rfl, v, rfl, fin μ1 μ2 hF z1 hF2 z2, rfl, rfl⟩) (fun _ k' hk' e' x' => ?_) (fun _ k' hk' e' x' => ?_)
    · rw [same hk hk' e e', tol2 μ1 k hF (kts k hk c e), x] at x'; exact absurd x' (by decide)
    · rw [same hk hk' e e', tol2 μ1 k hF (kts k hk c e), x] at x'; exact absurd x' (by decide)
  · refine k_mFraud (by omega) (w2 hF) (t3' hF) t1 (fun z => absurd c z) (fun _ k' hk' e' x' => ?_) (fun _ k' hk' e' x' y' μ2 hF2 z2 => ⟨rfl, v, rfl, fin μ1 μ2 hF z1 hF2 z2, rfl, rfl⟩) (fun _ k' hk' e' x' mm' i' j' y' => ?_)
    · rw [same hk hk' e e', tol2 μ1 k hF (kts k hk c e), x] at x'; exact absurd x' (by decide)
    · have ek := same hk hk' e e'
      subst ek
      exact absurd (FstF.uniq y (eqv μ1 k' _ hF (kts k' hk' c e') c y')) (by intro z; exact absurd z (by simp))
  · refine k_mFraud (by omega) (w2 hF) (t3' hF) t1 (fun z => absurd c z) (fun _ k' hk' e' x' => ?_) (fun _ k' hk' e' x' y' => ?_) (fun _ k' hk' e' x' mm' i' j' y' μ2 hF2 z2 => ⟨?_, v, rfl, fin μ1 μ2 hF z1 hF2 z2, rfl, rfl⟩)
    · rw [same hk hk' e e', tol2 μ1 k hF (kts k hk c e), x] at x'; exact absurd x' (by decide)
    · have ek := same hk hk' e e'
      subst ek
      exact absurd (FstF.uniq y (eqv μ1 k' _ hF (kts k' hk' c e') c y')) (by intro z; exact absurd z (by simp))
    · have ek := same hk hk' e e'
      subst ek
      have z := FstF.uniq y (eqv μ1 k' _ hF (kts k' hk' c e') c y')
      injection z with z
      injection z with z3 z4
      injection z4 with z4 z5
      rw [z3, z4, z5]
end FRD5
