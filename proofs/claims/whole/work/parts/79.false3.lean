section FAL3
variable {G : Gx} {d v : Nat} {μ : Mem} {bc bs : Nat}
theorem gu_n (k : Nat) : ∃ b, b < 256 ∧ gu μ k = nI b := by
  have h : (gu μ k).toBitVec.toNat < 256 := by
    unfold gu
    rw [Int32.toBitVec_and, BitVec.toNat_and]
    exact Nat.lt_of_le_of_lt Nat.and_le_right (by decide)
  refine ⟨(gu μ k).toBitVec.toNat, h, ?_⟩
  apply Int32.toBitVec_inj.mp
  apply BitVec.eq_of_toNat_eq
  rw [show (nI (gu μ k).toBitVec.toNat).toBitVec = BitVec.ofNat 32 (gu μ k).toBitVec.toNat from rfl, BitVec.toNat_ofNat, Nat.mod_eq_of_lt (by omega)]
theorem hn0_of {A : Nat → Nat → Int32} {nr : Nat} (hn : nr ≤ 10) (c : anB (guB μ) (plc A nr) = false) : ¬ tpL (gu μ) (plc A nr) < 0 := by
  refine (tp_lo (A := A) (f := gu μ) (r := nr) hn (fun k hk => ?_)).1
  obtain ⟨b, x1, x2⟩ := gu_n (μ := μ) k
  refine ⟨b, ?_, x2⟩
  refine Decidable.byContradiction (fun z => ?_)
  have := anB_t (p := guB μ) hk (by unfold guB; rw [x2, decide_eq_false (p := nI b ≤ 18) (fun y => z ((nI_leI (b := 18) (by omega) (by omega)).mp y))]; rfl)
  rw [c] at this; exact absurd this (by decide)
/-- what the two watchers need of both objects -/
theorem wat_pre {μ1 : Mem} {nr nb sz n ts : Nat} (hF : Fi pWt μ μ1) (hM : WM μ nr nb sz n) (q5 : LedOK (fun f => gi μ (4 + f)) (fun f => gi μ (146 + f)) nr nb) (hw : (gi μ 3 14) = (gi μ 144 4)) (t4 : ∀ j, j < ts → ∃ b, b < 256 ∧ gi μ 2 j = nI b ∧ gi μ 145 j &&& 255 = nI b) (hp : plc (fun f => gi μ (4 + f)) nr ≤ ts) : WM μ1 nr nb sz n ∧ plc (fun f => gi μ1 (146 + f)) nr = plc (fun f => gi μ (4 + f)) nr ∧ anB (guB μ1) (plc (fun f => gi μ (4 + f)) nr) = anB (tdB μ) (plc (fun f => gi μ (4 + f)) nr) ∧ (anB (tdB μ) (plc (fun f => gi μ (4 + f)) nr) = false → ¬ tpL (gu μ1) (plc (fun f => gi μ (4 + f)) nr) < 0 ∧ ∀ i l, i < nb → 1 ≤ l → l ≤ 99 → lbM μ1 nr nb sz n (tpL (gu μ1) (plc (fun f => gi μ (4 + f)) nr)) i (nI l) = fB (lawV (fun f => gi μ (30 + f)) sz n) (fun f => gi μ (4 + f)) nr nb (gi μ 3 14) (tdT μ) i (nI l)) := by
  obtain ⟨⟨n1, n2, n3⟩, -, -, -, s⟩ := id q5
  have eP : plc (fun f => gi μ1 (146 + f)) nr = plc (fun f => gi μ (4 + f)) nr := by
    have e : ∀ r, plc (fun f => gi μ1 (146 + f)) r = plc (fun f => gi μ (146 + f)) r := by
      intro r
      induction r with
      | zero => rfl
      | succ r ih =>
        have x : snB (fun f => gi μ1 (146 + f)) r = snB (fun f => gi μ (146 + f)) r := by
          show (!decide (gi μ1 149 r = 0)) = !decide (gi μ 149 r = 0)
          rw [hF 149 r (by unfold pWt pS pL; omega)]
        rw [plc, plc, ih, x]
    rw [e, plc_same s (Nat.le_refl _)]
  have eg : gu μ1 = gu μ := funext (fun x => by unfold gu; rw [hF 145 x (by unfold pWt pS pL; omega)])
  have eB : anB (guB μ1) (plc (fun f => gi μ (4 + f)) nr) = anB (tdB μ) (plc (fun f => gi μ (4 + f)) nr) := anB_cong (fun k hk => by
    obtain ⟨b, x1, x2, x3⟩ := t4 k (by omega)
    unfold guB tdB
    rw [eg, show gu μ k = nI b from x3, x2])
  refine ⟨hM.fi hF pWt_Lo, eP, eB, fun c => ?_⟩
  have hg : ∀ k, k < plc (fun f => gi μ (4 + f)) nr → ∃ b, b ≤ 18 ∧ gi μ 2 k = nI b ∧ gu μ k = nI b := fun k hk => by
    obtain ⟨b, x1, x2, x3⟩ := t4 k (by omega)
    refine ⟨b, ?_, x2, x3⟩
    refine Decidable.byContradiction (fun z => ?_)
    have := anB_t (p := tdB μ) hk (by unfold tdB; rw [x2, decide_eq_false (p := nI b ≤ 18) (fun y => z ((nI_leI (b := 18) (by omega) (by omega)).mp y))]; rfl)
    rw [c] at this; exact absurd this (by decide)
  rw [eg]
  refine ⟨(tp_lo (A := fun f => gi μ (4 + f)) (f := gu μ) (r := nr) n2 (fun k hk => by obtain ⟨b, x1, x2, x3⟩ := hg k hk; exact ⟨b, x1, x3⟩)).1, fun i l hi h1 h2 => ?_⟩
  have := lb_eq hM q5 hw hi h1 h2 hg
  rw [← plc_same s (Nat.le_refl _)] at this
  rw [← this]
  exact lbM_f3 hF (fun a j z => by unfold pWt pS pL at z; unfold Lo; omega)
theorem wat_inv {μ1 μ2 : Mem} (hI : Inv LRel μ) (hF : Fi pWt μ μ1) (z1 : gi μ1 1 1 = 0) (hF2 : Fi pCm μ1 μ2) (z2 : gi μ2 144 1 = 0) : Inv LRel μ2 := by
  obtain ⟨i1, i2, i3, i4, i5⟩ := id hI
  have c : ∀ a j, ¬ pWt a j → ¬ pCm a j → gi μ2 a j = gi μ a j := fun a j x y => (hF2 a j y).trans (hF a j x)
  refine hI.fi ((hF.mono pWt_Lo).trans (hF2.mono pCm_Lo)) (fun _ _ z => z) (i2.cong ?_ ?_ ?_ ?_) ⟨0, by omega, (hF2 1 1 (by unfold pCm pK pN; omega)).trans z1, z2, fun j hj => absurd hj (by omega)⟩
  all_goals exact c _ _ (by unfold pWt pS pL; omega) (by unfold pCm pK pN; omega)
theorem both_falseBy (hd : 10 ≤ d) {i : Int32} (hI : Inv LRel μ) : Both G d LRel mX10_falseBy mX11_falseBy [.int i] v μ bc bs := by
  obtain ⟨i1, i2, i3, i4, i5⟩ := id hI
  obtain ⟨nr, nb, q1, q2, q3, q4, q5⟩ := id i1
  obtain ⟨⟨n1, n2, n3⟩, -, -, -, s⟩ := id q5
  obtain ⟨ts, t1, t2, t3, t4⟩ := id i3
  obtain ⟨sz, n, hC, hM⟩ := i5.both q1 q2 q3 q4 q5
  have hw := i2.1.1
  have tb : ∀ j, j < ts → ∃ b, b < 256 ∧ gi μ 2 j = nI b := fun j hj => by obtain ⟨b, h1, h2, -⟩ := t4 j hj; exact ⟨b, h1, h2⟩
  have t3' : ∀ {μ1}, Fi pWt μ μ1 → gi μ1 144 1 = nI ts := fun hF => (hF _ _ (by unfold pWt pS pL; omega)).trans t3
  have pl10 := plc_le (A := fun f => gi μ (4 + f)) (r := nr)
  have eP := plc_same s (Nat.le_refl nr)
  refine k_falseBy (by omega) hC t2 t1 tb (fun c => ?_) (fun k hk e hp x μ1 hF z1 => ?_) (fun k hk e hp x μ1 hF z1 => ?_)
  · refine k_mFalseBy (by omega) hM t3 t1 (hn0_of n2) (fun _ => ⟨rfl, v, rfl, hI, rfl, rfl⟩) (fun k hk e hp' => ?_) (fun k hk e hp' => ?_)
    · rw [← eP] at hp'; exact absurd (by subst e; exact ⟨⟨nI_pos' (by omega), nI_lt hk (by omega)⟩, (nI_leI (by omega) (by omega)).mpr hp'⟩) c
    · rw [← eP] at hp'; exact absurd (by subst e; exact ⟨⟨nI_pos' (by omega), nI_lt hk (by omega)⟩, (nI_leI (by omega) (by omega)).mpr hp'⟩) c
  · obtain ⟨p1, p2, p3, p4⟩ := wat_pre hF hM q5 hw t4 hp
    refine k_mFalseBy (by omega) p1 (t3' hF) t1 (fun z => ?_) (fun z => ?_) (fun k' hk' e' hp' x' μ2 hF2 z2 => ⟨rfl, v, rfl, wat_inv hI hF z1 hF2 z2, rfl, rfl⟩) (fun k' hk' e' hp' x' => ?_)
    · rw [p2, p3, x] at z; exact absurd z (by decide)
    · rw [p2] at z; subst e; exact absurd ⟨⟨nI_pos' (by omega), nI_lt hk (by omega)⟩, (nI_leI (by omega) (by omega)).mpr hp⟩ z
    · rw [p2, p3, x] at x'; exact absurd x' (by decide)
  · obtain ⟨p1, p2, p3, p4⟩ := wat_pre hF hM q5 hw t4 hp
    refine k_mFalseBy (by omega) p1 (t3' hF) t1 (fun z => ?_) (fun z => ?_) (fun k' hk' e' hp' x' => ?_) (fun k' hk' e' hp' x' μ2 hF2 z2 => ⟨?_, v, rfl, wat_inv hI hF z1 hF2 z2, rfl, rfl⟩)
    · rw [p2]; exact (p4 x).1
    · rw [p2] at z; subst e; exact absurd ⟨⟨nI_pos' (by omega), nI_lt hk (by omega)⟩, (nI_leI (by omega) (by omega)).mpr hp⟩ z
    · rw [p2, p3, x] at x'; exact absurd x' (by decide)
    · have ek : k' = k := (nI_eq (by omega) (by omega)).mp (e'.symm.trans e)
      subst ek
      refine congrArg (fun x => some (Value.int x)) ?_
      unfold cnB
      refine sm_cong (fun j hj => ?_)
      dsimp only
      rw [p2, (p4 x).2 k' (j + 1) hk' (by omega) (by omega)]
end FAL3
