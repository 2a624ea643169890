/-! both calls once more: what the heap's shape is between them -/
def KD (G : Gx) (d : Nat) (N : MI) (as : List Value) (lay : List Sh) (μ : Mem) (bc bs : Nat) (Q : Option Value → List Sh → Mem → Nat → Nat → Prop) : Prop := (∃ v, lay = LAY v) ∧ KC G d N as lay μ bc bs Q
def Bot (G : Gx) (d : Nat) (LR : Mem → Prop) (N N' : MI) (as : List Value) (v : Nat) (μ : Mem) (bc bs : Nat) : Prop :=
  KC G d N (.ref 0 :: as) (LAY v) μ bc bs (fun r lay1 μ1 bc1 bs1 => KD G d N' (.ref 144 :: as) lay1 μ1 bc1 bs1 (fun r2 lay2 μ2 bc2 bs2 => r = r2 ∧ ∃ v2, (lay2, v2) = (LAY v2, v) ∧ Inv LR μ2 ∧ bc2 = bc ∧ bs2 = bs))
def BotG (G : Gx) (d : Nat) (LR : Mem → Prop) (N N' : MI) (as : List Value) (v : Nat) (μ : Mem) (bc bs : Nat) : Prop :=
  KC G d N (.ref 0 :: as) (LAY v) μ bc bs (fun r lay1 μ1 bc1 bs1 => KD G d N' (.ref 144 :: as) lay1 μ1 bc1 bs1 (fun r2 lay2 μ2 bc2 bs2 => r = r2 ∧ ∃ v2, v2 ≤ 2 ∧ lay2 = LAY v2 ∧ Inv LR μ2 ∧ bc2 = bc - 2 ∧ bs2 = bs - 7840))
section
variable {G : Gx} {d v : Nat} {μ : Mem} {bc bs : Nat} {Q : Option Value → List Sh → Mem → Nat → Nat → Prop} {LR : Mem → Prop}
theorem l_mBalance {p : Int32} {nb : Nat} (hd : 2 ≤ d) (hb : (gi μ 144 3) = nI nb) (hn : nb ≤ 40) (h1 : 0 ≤ p ∧ p ≤ 7 → Q (some (.int (sm (fun i => balM (gi μ 157 (i)) (gi μ 154 (i)) (gi μ 155 (i)) (gi μ 156 (i)) (gi μ 153 (i)) p) nb))) (LAY v) μ bc bs) (h0 : ¬ (0 ≤ p ∧ p ≤ 7) → Q (some (.int (-1000000000))) (LAY v) μ bc bs) : KD G d mX11_balance [.ref 144, .int p] (LAY v) μ bc bs Q := ⟨⟨_, rfl⟩, k_mBalance (p := p) (nb := nb) hd hb hn h1 h0⟩
end
section
variable {G : Gx} {d v : Nat} {μ : Mem} {bc bs : Nat} {Q : Option Value → List Sh → Mem → Nat → Nat → Prop} {LR : Mem → Prop}
theorem bot_balance (hd : 3 ≤ d) {p : Int32} (hI : Inv LR μ) : Bot G d LR mX10_balance mX11_balance [.int p] v μ bc bs := by
  obtain ⟨i1, i2, i3, i4, i5⟩ := id hI
  obtain ⟨nr, nb, q1, q2, q3, q4, q5⟩ := id i1
  obtain ⟨⟨n1, n2, n3⟩, -⟩ := id q5
  refine k_balance (by omega) q3 n3 (fun c => l_mBalance (by omega) q4 n3 (fun _ => ⟨?_, v, rfl, hI, rfl, rfl⟩) (fun q => absurd c q)) (fun c => l_mBalance (by omega) q4 n3 (fun q => absurd q c) (fun _ => ⟨rfl, v, rfl, hI, rfl, rfl⟩))
  refine congrArg (fun z => some (Value.int z)) (sm_cong (fun i hi => ?_))
  have h9 := bal_eq (q5.2.2.1 i hi) c
  have s := fun f h5 hf => q5.2.2.2.2.2 f h5 hf i hi
  simp only [Nat.reduceAdd] at h9
  rw [h9]
  have s7 := s 7 (by omega) (by omega)
  have s8 := s 8 (by omega) (by omega)
  have s9 := s 9 (by omega) (by omega)
  have s10 := s 10 (by omega) (by omega)
  have s11 := s 11 (by omega) (by omega)
  simp only [Nat.reduceAdd] at s7 s8 s9 s10 s11
  rw [s7, s8, s9, s10, s11]
end
section
variable {G : Gx} {d v : Nat} {μ : Mem} {bc bs : Nat} {Q : Option Value → List Sh → Mem → Nat → Nat → Prop}
theorem l_mCheck {a : Int32} {nr nb sz n ts : Nat} (hd : 6 ≤ d) (hW : WM μ nr nb sz n) (hs : (gi μ 144 1) = nI ts) (hts : ts ≤ 220) (h0 : ¬ (0 ≤ a ∧ a ≤ nI (ts / 4)) → Q (some (.int (-2))) (LAY v) μ bc bs) (h1 : ∀ k r, k ≤ ts / 4 → a = nI k → r ≤ k → r ≤ nr → (∀ j, j < r → nmF (gi μ 145) (4 * j) 4 = lnV ((WGM μ nr nb sz n (gi μ 144 4)).2 j) (gi μ 148 (j))) → (r < k → r < nr → ¬ nmF (gi μ 145) (4 * r) 4 = lnV ((WGM μ nr nb sz n (gi μ 144 4)).2 r) (gi μ 148 (r))) → ∀ μ', Fr pCm μ μ' → gi μ' 144 1 = 0 → Q (some (.int (chV r k nr))) (LAY v) μ' bc bs) : KD G d mX11_check [.ref 144, .int a] (LAY v) μ bc bs Q := ⟨⟨_, rfl⟩, k_mCheck (a := a) (nr := nr) (nb := nb) (sz := sz) (n := n) (ts := ts) hd hW hs hts h0 h1⟩
end
section
variable {G : Gx} {d v : Nat} {μ : Mem} {bc bs : Nat} {Q : Option Value → List Sh → Mem → Nat → Nat → Prop}
theorem bot_check (hd : 7 ≤ d) {a : Int32} (hI : Inv LRel μ) : Bot G d LRel mX10_check mX11_check [.int a] v μ bc bs := by
  obtain ⟨i1, i2, i3, i4, i5⟩ := id hI
  obtain ⟨nr, nb, q1, q2, q3, q4, q5⟩ := id i1
  obtain ⟨⟨n1, n2, n3⟩, -, -, -, s⟩ := id q5
  obtain ⟨⟨e1, e2, e3⟩, e4, e5, e6⟩ := id i2
  obtain ⟨ts, t1, t2, t3, t4⟩ := id i3
  obtain ⟨sz, n, hC, hM⟩ := i5.both q1 q2 q3 q4 q5
  refine k_check (by omega) hC t2 t1 (fun c => l_mCheck (by omega) hM t3 t1 (fun _ => ⟨rfl, v, rfl, hI, rfl, rfl⟩) (fun k r hk e _ _ _ _ _ _ _ => absurd (by subst e; exact ⟨nI_pos' (by omega), (nI_leI (by omega) (by omega)).mpr hk⟩) c)) (fun k r hk e r1 r2 r3 r4 μ1 hF z1 => ?_)
  subst e
  have fM : ∀ a j, 144 ≤ a → gi μ1 a j = gi μ a j := fun a j h => hF.1 a j (by unfold pC pS pL; omega)
  refine l_mCheck (by omega) (hM.fr2 hF pC_Lo) ((fM _ _ (by omega)).trans t3) t1 (fun c => absurd ⟨nI_pos' (by omega), (nI_leI (by omega) (by omega)).mpr hk⟩ c) (fun k' r' hk' e' r1' r2' r3' r4' μ2 hF2 z2 => ⟨?_, v, rfl, ?_, rfl, rfl⟩)
  · have ek : k' = k := ((nI_eq (by omega) (by omega)).mp e').symm
    subst ek
    have cv : ∀ j, j < k' → j < nr → (nmF (gi μ1 145) (4 * j) 4 = lnV ((WGM μ1 nr nb sz n (gi μ1 144 4)).2 j) (gi μ1 148 j) ↔ nmF (gi μ 2) (4 * j) 4 = lnV ((WGC μ nr nb sz n (gi μ 3 14)).2 j) (gi μ 6 (j))) := fun j hj hn => by
      have x1 : nmF (gi μ1 145) (4 * j) 4 = nmF (gi μ 2) (4 * j) 4 := nmF_cong (fun x hx => by
        obtain ⟨b, hb, y1, y2⟩ := t4 (4 * j + x) (by omega)
        rw [fM _ _ (by omega), y2, y1, and255 hb])
      have x2 : gi μ 6 j = gi μ 148 j := s.1 2 (by omega) j hn
      rw [x1, fM 144 4 (by omega), fM 148 j (by omega), ← e1, WGM_fr2 hF pC_Lo, show WGM μ nr nb sz n (gi μ 3 14) = WGC μ nr nb sz n (gi μ 3 14) from (WG_same q5).symm, x2]
    have er : r' = r := by
      rcases Nat.lt_trichotomy r' r with x | x | x
      · exact absurd ((cv r' (by omega) (by omega)).mpr (r3 r' x)) (r4' (by omega) (by omega))
      · exact x
      · exact absurd ((cv r (by omega) (by omega)).mp (r3' r x)) (r4 (by omega) (by omega))
    subst er
    rfl
  · have hFF : Fr Lo2 μ μ2 := (hF.mono pC_Lo).trans (hF2.mono pCm_Lo)
    have c1 : gi μ2 3 14 = gi μ 3 14 := (hF2.1 _ _ (by unfold pCm pK pN; omega)).trans (hF.1 _ _ (by unfold pC pS pL; omega))
    have c2 : gi μ2 3 15 = gi μ 3 15 := (hF2.1 _ _ (by unfold pCm pK pN; omega)).trans (hF.1 _ _ (by unfold pC pS pL; omega))
    have c3 : gi μ2 144 4 = gi μ 144 4 := (hF2.1 _ _ (by unfold pCm pK pN; omega)).trans (hF.1 _ _ (by unfold pC pS pL; omega))
    have c4 : gi μ2 144 5 = gi μ 144 5 := (hF2.1 _ _ (by unfold pCm pK pN; omega)).trans (hF.1 _ _ (by unfold pC pS pL; omega))
    have c5 : gi μ2 1 1 = nI 0 := (hF2.1 _ _ (by unfold pCm pK pN; omega)).trans z1
    exact hI.fr hFF (fun _ _ z => z) (i2.cong c1 c2 c3 c4) ⟨0, by omega, c5, z2, fun j hj => absurd hj (by omega)⟩
end
section
variable {G : Gx} {d v : Nat} {μ : Mem} {bc bs : Nat} {Q : Option Value → List Sh → Mem → Nat → Nat → Prop} {A : Nat → Nat → Int32}
theorem l_mClear {nr nb : Nat} (hd : 3 ≤ d) (hb : (gi μ 144 3) = nI nb) (hn : nb ≤ 40) (hA : ∀ f, f < 12 → gi μ (146 + f) = A f) (hR : Rbs A nr nb) (h : ∀ μ', Fr pCm2 μ μ' → (∀ f, f < 12 → gi μ' (146 + f) = (clF nb 64 A 0).1 f) → Q (some (.int (nI (clF nb 64 A 0).2))) (LAY v) μ' bc bs) : KD G d mX11_clear [.ref 144] (LAY v) μ bc bs Q := ⟨⟨_, rfl⟩, k_mClear (nr := nr) (nb := nb) hd hb hn hA hR h⟩
end
section
variable {G : Gx} {d v : Nat} {μ : Mem} {bc bs : Nat} {Q : Option Value → List Sh → Mem → Nat → Nat → Prop} {A : Nat → Nat → Int32}
theorem bot_clear (hd : 14 ≤ d) (hI : Inv LRel μ) : Bot G d LRel mX10_clear mX11_clear [] v μ bc bs := by
  obtain ⟨i1, i2, i3, i4, i5⟩ := id hI
  obtain ⟨nr, nb, q1, q2, q3, q4, q5⟩ := id i1
  obtain ⟨⟨n1, n2, n3⟩, q6, q7, q8, s⟩ := id q5
  obtain ⟨cl1, cl2⟩ := clF_led q5
  have hB : Rbs (fun f => gi μ (146 + f)) nr nb := ⟨(WFd.of2 q5).2.2, trivial⟩
  refine k_clear (by omega) q3 n3 (fun f hf => rfl) q5.rbs (fun μ1 hF hA1 => ?_)
  have g4 : gi μ1 144 3 = nI nb := (hF.1 _ _ (by unfold pCl pFb pCd; omega)).trans q4
  refine l_mClear (by omega) g4 n3 (A := fun f => gi μ (146 + f)) (fun f hf => funext fun j => hF.1 _ _ (by unfold pCl pFb pCd; omega)) hB (fun μ2 hF2 hA2 => ⟨?_, v, rfl, ?_, rfl, rfl⟩)
  · rw [cl2]
  · have c : ∀ a j, ¬ pCl a j → ¬ pCm2 a j → gi μ2 a j = gi μ a j := fun a j x y => (hF2.1 a j y).trans (hF.1 a j x)
    refine hI.led (P := fun a j => pCl a j ∨ pCm2 a j) (fun a j z => c a j (fun y => z (Or.inl y)) (fun y => z (Or.inr y))) (fun a j z => ?_) ⟨nr, nb, ?_, ?_, ?_, ?_, cl1.cong (fun f hf j => ?_) (fun f hf j => ?_)⟩
    · unfold pCl pFb pCd pCm2 pFr pCe at z; unfold Lo; omega
    · exact (c _ _ (by unfold pCl pFb pCd; omega) (by unfold pCm2 pFr pCe; omega)).trans q1
    · exact (c _ _ (by unfold pCl pFb pCd; omega) (by unfold pCm2 pFr pCe; omega)).trans q2
    · exact (c _ _ (by unfold pCl pFb pCd; omega) (by unfold pCm2 pFr pCe; omega)).trans q3
    · exact (c _ _ (by unfold pCl pFb pCd; omega) (by unfold pCm2 pFr pCe; omega)).trans q4
    · exact (hF2.1 _ _ (by unfold pCm2 pFr pCe; omega)).trans (congrFun (hA1 f hf) j)
    · exact congrFun (hA2 f hf) j
end
section
variable {G : Gx} {d v : Nat} {μ : Mem} {bc bs : Nat} {Q : Option Value → List Sh → Mem → Nat → Nat → Prop} {LR : Mem → Prop}
theorem l_mCount {w : Int32} {nb : Nat} (hd : 1 ≤ d) (hb : (gi μ 144 3) = nI nb) (hn : nb ≤ 40) (h : Q (some (.int (cntF w (gi μ 144 2) (gi μ 144 3) (gi μ 144 18) (gi μ 144 1) (gi μ 144 5) ((gi μ 144 4) + 9) (sm (fun i => if (gi μ 157 (i)) = 0 then 0 else 1) nb)))) (LAY v) μ bc bs) : KD G d mX11_count [.ref 144, .int w] (LAY v) μ bc bs Q := ⟨⟨_, rfl⟩, k_mCount (w := w) (nb := nb) hd hb hn h⟩
end
section
variable {G : Gx} {d v : Nat} {μ : Mem} {bc bs : Nat} {Q : Option Value → List Sh → Mem → Nat → Nat → Prop} {LR : Mem → Prop}
theorem bot_count (hd : 2 ≤ d) (hc : ∀ μ, LR μ → gi μ 29 8 = gi μ 144 18) {w : Int32} (hI : Inv LR μ) : Bot G d LR mX10_count mX11_count [.int w] v μ bc bs := by
  obtain ⟨i1, i2, i3, i4, i5⟩ := id hI
  obtain ⟨nr, nb, q1, q2, q3, q4, q5⟩ := id i1
  obtain ⟨⟨n1, n2, n3⟩, -⟩ := id q5
  refine k_count (by omega) q3 n3 (l_mCount (by omega) q4 n3 ⟨?_, v, rfl, hI, rfl, rfl⟩)
  obtain ⟨ts, t1, t2, t3, -⟩ := i3
  rw [q1, q2, q3, q4, hc μ i5, t2, t3, i2.1.1, i2.2.1]
  rw [sm_cong (f := fun i => if gi μ 15 i = 0 then 0 else 1) (g := fun i => if gi μ 157 i = 0 then 0 else 1) (fun i hi => by
    have h9 := q5.2.2.2.2.2 11 (by omega) (by omega) i hi
    simp only [Nat.reduceAdd] at h9
    rw [h9])]
end
section
variable {G : Gx} {d v : Nat} {μ : Mem} {bc bs : Nat} {Q : Option Value → List Sh → Mem → Nat → Nat → Prop}
theorem l_mDraw {a : Int32} {nr nb sz n : Nat} (hd : 7 ≤ d) (hW : WM μ nr nb sz n) (hx : 0 ≤ (gi μ 144 5) ∧ (gi μ 144 5) ≤ 65535) (h0 : ¬ (1 ≤ a ∧ a ≤ 60) → Q (some (.int (-1))) (LAY v) μ bc bs) (h1 : ∀ k, 1 ≤ k → k ≤ 60 → a = nI k → ∀ μ', Fr pE μ μ' → gi μ' 144 5 = xN (gi μ 144 5) k → gi μ' 144 4 = drW (xN (gi μ 144 5) k) → Q (some (.int (cN (fun w => anB (slF (fun f => gi μ (146 + f)) (WGM μ nr nb sz n w).2) nr) (gi μ 144 5) k))) (LAY v) μ' bc bs) : KD G d mX11_draw [.ref 144, .int a] (LAY v) μ bc bs Q := ⟨⟨_, rfl⟩, k_mDraw (a := a) (nr := nr) (nb := nb) (sz := sz) (n := n) hd hW hx h0 h1⟩
end
section
variable {G : Gx} {d v : Nat} {μ : Mem} {bc bs : Nat} {Q : Option Value → List Sh → Mem → Nat → Nat → Prop}
theorem bot_draw (hd : 8 ≤ d) {a : Int32} (hI : Inv LRel μ) : Bot G d LRel mX10_draw mX11_draw [.int a] v μ bc bs := by
  obtain ⟨i1, i2, i3, i4, i5⟩ := id hI
  obtain ⟨nr, nb, q1, q2, q3, q4, q5⟩ := id i1
  obtain ⟨⟨n1, n2, n3⟩, -⟩ := id q5
  obtain ⟨⟨e1, e2, e3⟩, e4, e5, e6⟩ := id i2
  obtain ⟨sz, n, hC, hM⟩ := i5.both q1 q2 q3 q4 q5
  refine k_draw (by omega) hC (fun c => l_mDraw (by omega) hM (by rw [← e4]; exact ⟨e5, e6⟩) (fun _ => ⟨rfl, v, rfl, hI, rfl, rfl⟩) (fun k h1 h2 e => absurd (by subst e; exact ⟨(nI_leI (a := 1) (by omega) (by omega)).mpr h1, (nI_leI (b := 60) (by omega) (by omega)).mpr h2⟩) c)) (fun k h1 h2 e μ1 hF x1 x2 => ?_)
  have el : gi μ1 144 5 = gi μ 144 5 := hF.1 _ _ (by unfold pD pS pL; omega)
  refine l_mDraw (by omega) (hM.fr2 hF pD_Lo) (by rw [el, ← e4]; exact ⟨e5, e6⟩) (fun c => absurd (by subst e; exact ⟨(nI_leI (a := 1) (by omega) (by omega)).mpr h1, (nI_leI (b := 60) (by omega) (by omega)).mpr h2⟩) c) (fun k' h1' h2' e' μ2 hF2 y1 y2 => ⟨?_, v, rfl, ?_, rfl, rfl⟩)
  · have ek : k' = k := (nI_eq (by omega) (by omega)).mp (e'.symm.trans e)
    subst ek
    rw [el, ← e4]
    refine congrArg (fun x => some (Value.int x)) ?_
    refine cN_cong (fun w => anB_cong (fun r hr => ?_)) k'
    have f3 : gi μ1 149 r = gi μ 149 r := hF.1 _ _ (by unfold pD pS pL; omega)
    have f2 : gi μ1 148 r = gi μ 148 r := hF.1 _ _ (by unfold pD pS pL; omega)
    have e9 : WGM μ1 nr nb sz n w = WGC μ nr nb sz n w := (WGM_fr2 hF pD_Lo).trans (WG_same q5).symm
    rw [e9]
    have s3 : gi μ 7 r = gi μ 149 r := q5.2.2.2.2.1 3 (by omega) r hr
    have s2 : gi μ 6 r = gi μ 148 r := q5.2.2.2.2.1 2 (by omega) r hr
    show (!decide (gi μ 7 r = 0) && !decide (lnV ((WGC μ nr nb sz n w).2 r) (gi μ 6 r) = 0)) = (!decide (gi μ1 149 r = 0) && !decide (lnV ((WGC μ nr nb sz n w).2 r) (gi μ1 148 r) = 0))
    rw [f3, f2, s3, s2]
  · have ek : k' = k := (nI_eq (by omega) (by omega)).mp (e'.symm.trans e)
    subst ek
    have hFF : Fr Lo2 μ μ2 := (hF.mono pD_Lo).trans (hF2.mono pE_Lo)
    have z1 : gi μ2 3 15 = xN (gi μ 3 15) k' := (hF2.1 _ _ (by unfold pE pK pN; omega)).trans x1
    have z2 : gi μ2 3 14 = drW (xN (gi μ 3 15) k') := (hF2.1 _ _ (by unfold pE pK pN; omega)).trans x2
    rw [el, ← e4] at y1 y2
    have b1 := xN_n (x := (gi μ 3 15)) ⟨e5, e6⟩ k'
    have b2 := drW_n b1
    have c1 : ∀ j, gi μ2 2 j = gi μ 2 j := fun j => (hF2.1 _ _ (by unfold pE pK pN; omega)).trans (hF.1 _ _ (by unfold pD pS pL; omega))
    have c2 : ∀ j, gi μ2 145 j = gi μ 145 j := fun j => (hF2.1 _ _ (by unfold pE pK pN; omega)).trans (hF.1 _ _ (by unfold pD pS pL; omega))
    have c3 : gi μ2 1 1 = gi μ 1 1 := (hF2.1 _ _ (by unfold pE pK pN; omega)).trans (hF.1 _ _ (by unfold pD pS pL; omega))
    have c4 : gi μ2 144 1 = gi μ 144 1 := (hF2.1 _ _ (by unfold pE pK pN; omega)).trans (hF.1 _ _ (by unfold pD pS pL; omega))
    refine hI.fr hFF (fun _ _ z => z) ?_ (i3.cong c3 c4 c1 c2)
    unfold NumI
    rw [z1, z2, y1, y2]
    exact ⟨⟨rfl, b2⟩, rfl, b1⟩
end
section
variable {G : Gx} {d v : Nat} {μ : Mem} {bc bs : Nat} {Q : Option Value → List Sh → Mem → Nat → Nat → Prop}
theorem l_mFall {i : Int32} {nb : Nat} (hd : 2 ≤ d) (hb : (gi μ 144 3) = nI nb) (hn : nb ≤ 40) (h1 : (0 ≤ i ∧ i < nI nb) ∧ ¬ (gi μ 157 (i.toNatClampNeg)) = 0 → Q (some (.int 1)) (LAY v) (si μ 157 i.toNatClampNeg 0) bc bs) (h0 : ¬ ((0 ≤ i ∧ i < nI nb) ∧ ¬ (gi μ 157 (i.toNatClampNeg)) = 0) → Q (some (.int 0)) (LAY v) μ bc bs) : KD G d mX11_fall [.ref 144, .int i] (LAY v) μ bc bs Q := ⟨⟨_, rfl⟩, k_mFall (i := i) (nb := nb) hd hb hn h1 h0⟩
end
section
variable {G : Gx} {d v : Nat} {μ : Mem} {bc bs : Nat} {LR : Mem → Prop}
theorem bot_fall (hLR : ∀ μ μ', LawEq μ μ' → LR μ → LR μ') (hd : 4 ≤ d) {i : Int32} (hI : Inv LR μ) : Bot G d LR mX10_fall mX11_fall [.int i] v μ bc bs := by
  obtain ⟨i1, i2, i3, i4, i5⟩ := id hI
  obtain ⟨nr, nb, q1, q2, q3, q4, q5⟩ := id i1
  obtain ⟨⟨n1, n2, n3⟩, -⟩ := id q5
  have hsame : 0 ≤ i ∧ i < nI nb → gi μ 157 i.toNatClampNeg = gi μ 15 i.toNatClampNeg := fun c => by
    obtain ⟨k, hk, rfl⟩ := ofN c.1
    have hkn : k < nb := (nI_ltI (by omega) (by omega)).mp c.2
    rw [nI_clamp (by omega)]
    exact (q5.2.2.2.2.2 11 (by omega) (by omega) k hkn).symm
  refine k_fall (by omega) q3 n3 (fun c => l_mFall (by omega) (by simp (disch := omega) only [gi_si_a]; exact q4) n3 (fun _ => ⟨rfl, v, rfl, ?_, rfl, rfl⟩) (fun q => absurd ⟨c.1, by simp (disch := omega) only [gi_si_a]; rw [hsame c.1]; exact c.2⟩ q)) (fun c => l_mFall (by omega) q4 n3 (fun x => absurd ⟨x.1, by rw [← hsame x.1]; exact x.2⟩ c) (fun _ => ⟨rfl, v, rfl, hI, rfl, rfl⟩))
  obtain ⟨c1, ch⟩ := c
  obtain ⟨k, hk, rfl⟩ := ofN c1.1
  have hkn : k < nb := (nI_ltI (by omega) (by omega)).mp c1.2
  rw [nI_clamp (by omega)] at *
  refine ⟨⟨nr, nb, ?_, ?_, ?_, ?_, q5.ribU (k := k) hkn (Or.inl rfl) ?_ ?_ ?_ ?_ ?_⟩, i2.cong ?_ ?_ ?_ ?_, i3.cong ?_ ?_ ?_ ?_, i4.cong ?_ ?_ ?_ ?_ ?_, hLR _ _ ⟨?_, ?_, ?_, ?_, ?_⟩ i5⟩
  case refine_5 => intro f hf j h; rcases h with h | h <;> simp (disch := omega) only [gi_si_a, gi_si_k]
  case refine_6 => intro f hf j h; rcases h with h | h <;> simp (disch := omega) only [gi_si_a, gi_si_k]
  case refine_7 =>
    have h9 := q5.2.2.1 k hkn
    unfold RibOK at h9 ⊢
    simp (disch := omega) only [Nat.reduceAdd, gi_si, gi_si_a, gi_si_k] at h9 ⊢
    obtain ⟨l', z1, z2, z3⟩ := h9.2.2.1
    exact ⟨h9.1, h9.2.1, ⟨l', z1, z2, fun q => absurd trivial q⟩, h9.2.2.2⟩
  case refine_8 =>
    simp (disch := omega) only [Nat.reduceAdd, gi_si, gi_si_a, gi_si_k]
    exact Or.inl trivial
  case refine_9 =>
    intro f h5 hf
    have h9 := q5.2.2.2.2.2 f h5 hf k hkn
    obtain rfl | h7 : f = 11 ∨ f < 11 := by omega
    · simp (disch := omega) only [Nat.reduceAdd, gi_si, gi_si_a, gi_si_k]
    · simp (disch := omega) only [gi_si, gi_si_a, gi_si_k]
      exact h9
  all_goals intros
  all_goals (simp (disch := omega) only [gi_si, gi_si_a, gi_si_k]; try assumption)
end
section
variable {G : Gx} {d v : Nat} {μ : Mem} {bc bs : Nat} {Q : Option Value → List Sh → Mem → Nat → Nat → Prop} {nr nb sz n : Nat}
theorem l_mFalseBy {i : Int32} {ts : Nat} (hd : 9 ≤ d) (hW : WM μ nr nb sz n) (hs : (gi μ 144 1) = nI ts) (hts : ts ≤ 220) (hn0 : anB (guB μ) (plc (fun f => gi μ (146 + f)) nr) = false → ¬ tpL (gu μ) (plc (fun f => gi μ (146 + f)) nr) < 0)
    (h0 : ¬ ((0 ≤ i ∧ i < nI nb) ∧ nI (plc (fun f => gi μ (146 + f)) nr) ≤ nI ts) → Q (some (.int (-1))) (LAY v) μ bc bs)
    (h1 : ∀ k, k < nb → i = nI k → plc (fun f => gi μ (146 + f)) nr ≤ ts → anB (guB μ) (plc (fun f => gi μ (146 + f)) nr) = true → ∀ μ', Fi pCm μ μ' → gi μ' 144 1 = 0 → Q (some (.int (-2))) (LAY v) μ' bc bs)
    (h2 : ∀ k, k < nb → i = nI k → plc (fun f => gi μ (146 + f)) nr ≤ ts → anB (guB μ) (plc (fun f => gi μ (146 + f)) nr) = false → ∀ μ', Fi pCm μ μ' → gi μ' 144 1 = 0 → Q (some (.int (cnB (fun j => lbM μ nr nb sz n (tpL (gu μ) (plc (fun f => gi μ (146 + f)) nr)) k (nI (j + 1))) 99))) (LAY v) μ' bc bs) : KD G d mX11_falseBy [.ref 144, .int i] (LAY v) μ bc bs Q := ⟨⟨_, rfl⟩, k_mFalseBy (i := i) (ts := ts) hd hW hs hts hn0 h0 h1 h2⟩
end
section
variable {G : Gx} {d v : Nat} {μ : Mem} {bc bs : Nat}
theorem bot_falseBy (hd : 10 ≤ d) {i : Int32} (hI : Inv LRel μ) : Bot G d LRel mX10_falseBy mX11_falseBy [.int i] v μ bc bs := by
  obtain ⟨i1, i2, i3, i4, i5⟩ := id hI
  obtain ⟨nr, nb, q1, q2, q3, q4, q5⟩ := id i1
  obtain ⟨⟨n1, n2, n3⟩, -, -, -, s⟩ := id q5
  obtain ⟨ts, t1, t2, t3, t4⟩ := id i3
  obtain ⟨sz, n, hC, hM⟩ := i5.both q1 q2 q3 q4 q5
  have hw := i2.1.1
  have tb : ∀ j, j < ts → ∃ b, b < 256 ∧ gi μ 2 j = nI b := fun j hj => by obtain ⟨b, h1, h2, -⟩ := t4 j hj; exact ⟨b, h1, h2⟩
  have t3' : ∀ {μ1}, Fi pWt μ μ1 → gi μ1 144 1 = nI ts := fun hF => (hF _ _ (by unfold pWt pS pL; omega)).trans t3
  have pl10 := plc_le (A := fun f => gi μ (4 + f)) (r := nr)
  have eP := plc_same s (Nat.le_refl nr)
  refine k_falseBy (by omega) hC t2 t1 tb (fun c => ?_) (fun k hk e hp x μ1 hF z1 => ?_) (fun k hk e hp x μ1 hF z1 => ?_)
  · refine l_mFalseBy (by omega) hM t3 t1 (hn0_of n2) (fun _ => ⟨rfl, v, rfl, hI, rfl, rfl⟩) (fun k hk e hp' => ?_) (fun k hk e hp' => ?_)
    · rw [← eP] at hp'; exact absurd (by subst e; exact ⟨⟨nI_pos' (by omega), nI_lt hk (by omega)⟩, (nI_leI (by omega) (by omega)).mpr hp'⟩) c
    · rw [← eP] at hp'; exact absurd (by subst e; exact ⟨⟨nI_pos' (by omega), nI_lt hk (by omega)⟩, (nI_leI (by omega) (by omega)).mpr hp'⟩) c
  · obtain ⟨p1, p2, p3, p4⟩ := wat_pre hF hM q5 hw t4 hp
    refine l_mFalseBy (by omega) p1 (t3' hF) t1 (fun z => ?_) (fun z => ?_) (fun k' hk' e' hp' x' μ2 hF2 z2 => ⟨rfl, v, rfl, wat_inv hI hF z1 hF2 z2, rfl, rfl⟩) (fun k' hk' e' hp' x' => ?_)
    · rw [p2, p3, x] at z; exact absurd z (by decide)
    · rw [p2] at z; subst e; exact absurd ⟨⟨nI_pos' (by omega), nI_lt hk (by omega)⟩, (nI_leI (by omega) (by omega)).mpr hp⟩ z
    · rw [p2, p3, x] at x'; exact absurd x' (by decide)
  · obtain ⟨p1, p2, p3, p4⟩ := wat_pre hF hM q5 hw t4 hp
    refine l_mFalseBy (by omega) p1 (t3' hF) t1 (fun z => ?_) (fun z => ?_) (fun k' hk' e' hp' x' => ?_) (fun k' hk' e' hp' x' μ2 hF2 z2 => ⟨?_, v, rfl, wat_inv hI hF z1 hF2 z2, rfl, rfl⟩)
    · rw [p2]; exact (p4 x).1
    · rw [p2] at z; subst e; exact absurd ⟨⟨nI_pos' (by omega), nI_lt hk (by omega)⟩, (nI_leI (by omega) (by omega)).mpr hp⟩ z
    · rw [p2, p3, x] at x'; exact absurd x' (by decide)
    · have ek : k' = k := (nI_eq (by omega) (by omega)).mp (e'.symm.trans e)
      subst ek
      refine congrArg (fun x => some (Value.int x)) ?_
      unfold cnB
      refine sm_cong (fun j hj => ?_)
      dsimp only
      rw [p2, (p4 x).2 k' (j + 1) hk' (by omega) (by omega)]
end
section
variable {G : Gx} {d v : Nat} {μ : Mem} {bc bs : Nat} {Q : Option Value → List Sh → Mem → Nat → Nat → Prop} {LR : Mem → Prop}
theorem l_mFeed {a b c e f : Int32} {ts : Nat} (hd : 1 ≤ d) (ht : (gi μ 144 1) = nI ts) (hs : ts ≤ 220) (h1 : ts + 20 ≤ 220 → Q (some (.int (nI (ts + 20)))) (LAY v) (f5M μ ts a b c e f) bc bs) (h0 : ¬ ts + 20 ≤ 220 → Q (some (.int (-1))) (LAY v) μ bc bs) : KD G d mX11_feed [.ref 144, .int a, .int b, .int c, .int e, .int f] (LAY v) μ bc bs Q := ⟨⟨_, rfl⟩, k_mFeed (a := a) (b := b) (c := c) (e := e) (f := f) (ts := ts) hd ht hs h1 h0⟩
end
section
variable {G : Gx} {d v : Nat} {μ : Mem} {bc bs : Nat} {Q : Option Value → List Sh → Mem → Nat → Nat → Prop} {LR : Mem → Prop}
theorem bot_feed (hLR : ∀ μ μ', LawEq μ μ' → LR μ → LR μ') (hd : 2 ≤ d) {a b c e f : Int32} (hI : Inv LR μ) : Bot G d LR mX10_feed mX11_feed [.int a, .int b, .int c, .int e, .int f] v μ bc bs := by
  obtain ⟨i1, i2, i3, i4, i5⟩ := id hI
  obtain ⟨ts, t1, t2, t3, t4⟩ := i3
  refine k_feed (by omega) t2 t1 (fun q => l_mFeed (by omega) (ts := ts) (by rw [f5C_o (by omega) (by omega)]; exact t3) t1 (fun _ => ⟨rfl, v, rfl, ?_, rfl, rfl⟩) (fun z => absurd q z)) (fun q => l_mFeed (by omega) t3 t1 (fun z => absurd z q) (fun _ => ⟨rfl, v, rfl, hI, rfl, rfl⟩))
  refine ⟨i1.cong ?_ ?_ ?_ ?_ ?_ ?_, i2.cong ?_ ?_ ?_ ?_, ⟨ts + 20, q, ?_, ?_, ?_⟩, i4.cong ?_ ?_ ?_ ?_ ?_, hLR _ _ ⟨?_, ?_, ?_, ?_, ?_⟩ i5⟩
  case refine_11 =>
    rw [f5M_o (by omega) (by omega)]
    exact addC_11 (addC_11 (addC_11 (addC_11 (addC_11 t2))))
  case refine_12 =>
    have e0 : gi (f5C μ ts a b c e f) 144 1 = nI ts := by rw [f5C_o (by omega) (by omega)]; exact t3
    exact addM_11 (addM_11 (addM_11 (addM_11 (addM_11 e0))))
  case refine_13 =>
    have h0 : TB μ (f5C μ ts a b c e f) ts := fun j hj => by
      rw [f5M_145]; exact t4 j hj
    have h5 := h0.add (x := a) |>.add (x := b) |>.add (x := c) |>.add (x := e) |>.add (x := f)
    intro j hj
    rw [f5M_o (a := 2) (by omega) (by omega)]
    exact h5 j hj
  all_goals intros
  all_goals rw [f5M_o (by omega) (by omega), f5C_o (by omega) (by omega)]
end
section
variable {G : Gx} {d v : Nat} {μ : Mem} {bc bs : Nat} {Q : Option Value → List Sh → Mem → Nat → Nat → Prop}
theorem l_mFraud {ts nr nb sz n : Nat} {a b m w : Int32} (hd : 9 ≤ d) (hW : WM μ nr nb sz n) (hs : (gi μ 144 1) = nI ts) (hts : ts ≤ 220)
    (h0 : ¬ frC a b m w ts → Q (some (.int (-1))) (LAY v) μ bc bs)
    (h1 : frC a b m w ts → ∀ k, k ≤ 6 → m = nI k → anB (fun j => !decide (gu μ j ≤ nI 18)) k = true → ∀ μ', Fi pFm μ μ' → gi μ' 144 1 = 0 → Q (some (.int (-2))) (LAY v) μ' bc bs)
    (h2 : frC a b m w ts → ∀ k, k ≤ 6 → m = nI k → anB (fun j => !decide (gu μ j ≤ nI 18)) k = false → FstF (frM μ nr nb sz n a b k) nb 98 none → ∀ μ', Fi pFm μ μ' → gi μ' 144 1 = 0 → Q (some (.int (-2))) (LAY v) μ' bc bs)
    (h3 : frC a b m w ts → ∀ k, k ≤ 6 → m = nI k → anB (fun j => !decide (gu μ j ≤ nI 18)) k = false → ∀ mm i j, FstF (frM μ nr nb sz n a b k) nb 98 (some (mm, i, j)) → ∀ μ', Fi pFm μ μ' → gi μ' 144 1 = 0 → Q (some (.int (frA w (nI mm) (nI i) (nI j)))) (LAY v) μ' bc bs) : KD G d mX11_fraud [.ref 144, .int a, .int b, .int m, .int w] (LAY v) μ bc bs Q := ⟨⟨_, rfl⟩, k_mFraud (ts := ts) (nr := nr) (nb := nb) (sz := sz) (n := n) (a := a) (b := b) (m := m) (w := w) hd hW hs hts h0 h1 h2 h3⟩
end
section
variable {G : Gx} {d v : Nat} {μ : Mem} {bc bs : Nat} {Q : Option Value → List Sh → Mem → Nat → Nat → Prop}
theorem bot_fraud (hd : 10 ≤ d) {a b m w : Int32} (hI : Inv LRel μ) : Bot G d LRel mX10_fraud mX11_fraud [.int a, .int b, .int m, .int w] v μ bc bs := by
  obtain ⟨i1, i2, i3, i4, i5⟩ := id hI
  obtain ⟨nr, nb, q1, q2, q3, q4, q5⟩ := id i1
  obtain ⟨⟨n1, n2, n3⟩, -, -, -, s⟩ := id q5
  obtain ⟨ts, t1, t2, t3, t4⟩ := id i3
  obtain ⟨sz, n, hC, hM⟩ := i5.both q1 q2 q3 q4 q5
  have tb : ∀ j, j < ts → ∃ b, b < 256 ∧ gi μ 2 j = nI b := fun j hj => by obtain ⟨b, h1, h2, -⟩ := t4 j hj; exact ⟨b, h1, h2⟩
  have fin : ∀ μ1 μ2, Fr pPt μ μ1 → gi μ1 1 1 = 0 → Fi pFm μ1 μ2 → gi μ2 144 1 = 0 → Inv LRel μ2 := fun μ1 μ2 hF z1 hF2 z2 => by
    have hFF : Fi Lo2 μ μ2 := ((Fi.of hF).mono pPt_Lo).trans (hF2.mono pFm_Lo)
    have c : ∀ a j, ¬ pPt a j → ¬ pFm a j → gi μ2 a j = gi μ a j := fun a j x y => (hF2 a j y).trans (hF.1 a j x)
    refine hI.fi hFF (fun _ _ z => z) (i2.cong ?_ ?_ ?_ ?_) ⟨0, by omega, (hF2 1 1 (by unfold pFm pK pN; omega)).trans z1, z2, fun j hj => absurd hj (by omega)⟩
    all_goals exact c _ _ (by unfold pPt pP pL; omega) (by unfold pFm pK pN; omega)
  have tell : ∀ μ1 k, Fr pPt μ μ1 → k ≤ ts → ∀ e, e < k → gu μ1 e = gi μ 2 e := fun μ1 k hF hk e he => by
    obtain ⟨b, h1, h2, h3⟩ := t4 e (by omega)
    unfold gu
    rw [hF.1 145 e (by unfold pPt pP pL; omega), h3, h2]
  have tol2 : ∀ μ1 k, Fr pPt μ μ1 → k ≤ ts → anB (fun j => !decide (gu μ1 j ≤ nI 18)) k = anB (fun j => !decide (gi μ 2 j ≤ nI 18)) k := fun μ1 k hF hk => anB_cong (fun e he => by rw [tell μ1 k hF hk e he])
  have kts : ∀ k, k ≤ 6 → frC a b m w ts → m = nI k → k ≤ ts := fun k hk c e => by
    have := c.2.2.2; rw [e] at this; exact (nI_leI (by omega) (by omega)).mp this
  have same : ∀ {k k' : Nat}, k ≤ 6 → k' ≤ 6 → m = nI k → m = nI k' → k' = k := fun h h' e e' => (nI_eq (by omega) (by omega)).mp (e'.symm.trans e)
  have w2 : ∀ {μ1}, Fr pPt μ μ1 → WM μ1 nr nb sz n := fun hF => hM.fr2 hF pPt_Lo
  have t3' : ∀ {μ1}, Fr pPt μ μ1 → gi μ1 144 1 = nI ts := fun hF => (hF.1 _ _ (by unfold pPt pP pL; omega)).trans t3
  have eqv : ∀ μ1 k r, Fr pPt μ μ1 → k ≤ ts → frC a b m w ts → FstF (frM μ1 nr nb sz n a b k) nb 98 r → FstF (frB (lawV (fun f => gi μ (30 + f)) sz n) (fun f => gi μ (4 + f)) nr nb a b (fun e => gi μ 2 e - 9) k) nb 98 r := fun μ1 k r hF hk c q => q.cong (fun m i j x1 x2 x3 x4 => frd_eq ((Fi.of hF).mono pPt_Lo) hM q5 c.1.2.2 x2 x3 x4 (tell μ1 k hF hk))
  refine k_fraud (by omega) hC (fun _ _ => rfl) rfl t2 t1 tb (fun c => l_mFraud (by omega) hM t3 t1 (fun _ => ⟨rfl, v, rfl, hI, rfl, rfl⟩) (fun z => absurd z c) (fun z => absurd z c) (fun z => absurd z c)) (fun c k hk e x μ1 hF z1 => ?_) (fun c k hk e x y μ1 hF z1 => ?_) (fun c k hk e x mm i j y μ1 hF z1 => ?_)
  · refine l_mFraud (by omega) (w2 hF) (t3' hF) t1 (fun z => absurd c z) (fun _ k' hk' e' x' μ2 hF2 z2 => ⟨rfl, v, rfl, fin μ1 μ2 hF z1 hF2 z2, rfl, rfl⟩) (fun _ k' hk' e' x' => ?_) (fun _ k' hk' e' x' => ?_)
    · rw [same hk hk' e e', tol2 μ1 k hF (kts k hk c e), x] at x'; exact absurd x' (by decide)
    · rw [same hk hk' e e', tol2 μ1 k hF (kts k hk c e), x] at x'; exact absurd x' (by decide)
  · refine l_mFraud (by omega) (w2 hF) (t3' hF) t1 (fun z => absurd c z) (fun _ k' hk' e' x' => ?_) (fun _ k' hk' e' x' y' μ2 hF2 z2 => ⟨rfl, v, rfl, fin μ1 μ2 hF z1 hF2 z2, rfl, rfl⟩) (fun _ k' hk' e' x' mm' i' j' y' => ?_)
    · rw [same hk hk' e e', tol2 μ1 k hF (kts k hk c e), x] at x'; exact absurd x' (by decide)
    · have ek := same hk hk' e e'
      subst ek
      exact absurd (FstF.uniq y (eqv μ1 k' _ hF (kts k' hk' c e') c y')) (by intro z; exact absurd z (by simp))
  · refine l_mFraud (by omega) (w2 hF) (t3' hF) t1 (fun z => absurd c z) (fun _ k' hk' e' x' => ?_) (fun _ k' hk' e' x' y' => ?_) (fun _ k' hk' e' x' mm' i' j' y' μ2 hF2 z2 => ⟨?_, v, rfl, fin μ1 μ2 hF z1 hF2 z2, rfl, rfl⟩)
    · rw [same hk hk' e e', tol2 μ1 k hF (kts k hk c e), x] at x'; exact absurd x' (by decide)
    · have ek := same hk hk' e e'
      subst ek
      exact absurd (FstF.uniq y (eqv μ1 k' _ hF (kts k' hk' c e') c y')) (by intro z; exact absurd z (by simp))
    · have ek := same hk hk' e e'
      subst ek
      have z := FstF.uniq y (eqv μ1 k' _ hF (kts k' hk' c e') c y')
      injection z with z
      injection z with z3 z4
      injection z4 with z4 z5
      rw [z3, z4, z5]
end
section
variable {G : Gx} {d v : Nat} {μ : Mem} {bc bs : Nat} {Q : Option Value → List Sh → Mem → Nat → Nat → Prop} {nr nb sz n : Nat}
theorem l_mGust {a w : Int32} {ts : Nat} (hd : 9 ≤ d) (hW : WM μ nr nb sz n) (hs : (gi μ 144 1) = nI ts) (hts : ts ≤ 220) (hn0 : anB (guB μ) (plc (fun f => gi μ (146 + f)) nr) = false → ¬ tpL (gu μ) (plc (fun f => gi μ (146 + f)) nr) < 0)
    (h0 : ¬ ((1 ≤ a ∧ a ≤ 6) ∧ (0 ≤ w ∧ w ≤ 1) ∧ nI (plc (fun f => gi μ (146 + f)) nr) + a ≤ nI ts) → Q (some (.int (-1))) (LAY v) μ bc bs)
    (h1 : ∀ m, 1 ≤ m → m ≤ 6 → a = nI m → (0 ≤ w ∧ w ≤ 1) → plc (fun f => gi μ (146 + f)) nr + m ≤ ts → (anB (guB μ) (plc (fun f => gi μ (146 + f)) nr) || anB (fun j => guB μ (plc (fun f => gi μ (146 + f)) nr + j)) m) = true → ∀ μ', Fi pGm μ μ' → gi μ' 144 1 = 0 → Q (some (.int (-2))) (LAY v) μ' bc bs)
    (h2 : ∀ m, 1 ≤ m → m ≤ 6 → a = nI m → (0 ≤ w ∧ w ≤ 1) → plc (fun f => gi μ (146 + f)) nr + m ≤ ts → (anB (guB μ) (plc (fun f => gi μ (146 + f)) nr) || anB (fun j => guB μ (plc (fun f => gi μ (146 + f)) nr + j)) m) = false → (mlL μ nr nb sz n (tpL (gu μ) (plc (fun f => gi μ (146 + f)) nr))).length = 0 → ∀ μ', Fi pGm μ μ' → gi μ' 144 1 = 0 → Q (some (.int (-3))) (LAY v) μ' bc bs)
    (h3 : ∀ m, 1 ≤ m → m ≤ 6 → a = nI m → (0 ≤ w ∧ w ≤ 1) → plc (fun f => gi μ (146 + f)) nr + m ≤ ts → (anB (guB μ) (plc (fun f => gi μ (146 + f)) nr) || anB (fun j => guB μ (plc (fun f => gi μ (146 + f)) nr + j)) m) = false → ∀ L, L = mlL μ nr nb sz n (tpL (gu μ) (plc (fun f => gi μ (146 + f)) nr)) → 0 < L.length → ∀ μ', Fi pGm μ μ' → gi μ' 144 1 = 0 → Q (some (.int (if w = 0 then gu μ (plc (fun f => gi μ (146 + f)) nr + gB (crW μ nr nb sz n L (plc (fun f => gi μ (146 + f)) nr)) m) else nI (crW μ nr nb sz n L (plc (fun f => gi μ (146 + f)) nr) (gB (crW μ nr nb sz n L (plc (fun f => gi μ (146 + f)) nr)) m))))) (LAY v) μ' bc bs) : KD G d mX11_gust [.ref 144, .int a, .int w] (LAY v) μ bc bs Q := ⟨⟨_, rfl⟩, k_mGust (a := a) (w := w) (ts := ts) hd hW hs hts hn0 h0 h1 h2 h3⟩
end
section
variable {G : Gx} {d v : Nat} {μ : Mem} {bc bs : Nat} {nr nb sz n : Nat}
theorem bot_gust (hd : 10 ≤ d) (hv : v ≤ 2) (hbc : 2 ≤ bc) (hbs : 7840 ≤ bs) {a w : Int32} (hI : Inv LRel μ) : BotG G d LRel mX10_gust mX11_gust [.int a, .int w] v μ bc bs := by
  obtain ⟨i1, i2, i3, i4, i5⟩ := id hI
  obtain ⟨nr, nb, q1, q2, q3, q4, q5⟩ := id i1
  obtain ⟨⟨n1, n2, n3⟩, -, -, -, s⟩ := id q5
  obtain ⟨ts, t1, t2, t3, t4⟩ := id i3
  obtain ⟨sz, n, hC, hM⟩ := i5.both q1 q2 q3 q4 q5
  have hw := i2.1.1
  have tb : ∀ j, j < ts → ∃ b, b < 256 ∧ gi μ 2 j = nI b := fun j hj => by obtain ⟨b, h1, h2, -⟩ := t4 j hj; exact ⟨b, h1, h2⟩
  have t3' : ∀ {μ1}, Fi pGt μ μ1 → gi μ1 144 1 = nI ts := fun hF => (hF _ _ (by unfold pGt pS pL; omega)).trans t3
  have pl10 := plc_le (A := fun f => gi μ (4 + f)) (r := nr)
  have eP := plc_same s (Nat.le_refl nr)
  obtain ⟨pl, hpl⟩ : ∃ pl, pl = plc (fun f => gi μ (4 + f)) nr := ⟨_, rfl⟩
  have cond : ∀ m, 1 ≤ m → m ≤ 6 → a = nI m → (0 ≤ w ∧ w ≤ 1) → pl + m ≤ ts → (1 ≤ a ∧ a ≤ 6) ∧ (0 ≤ w ∧ w ≤ 1) ∧ nI pl + a ≤ nI ts := fun m x1 x2 e cw x3 => by
    subst e
    refine ⟨⟨nI_le (a := 1) x1 (by omega), nI_le (b := 6) x2 (by omega)⟩, cw, ?_⟩
    rw [nI_add]; exact nI_le x3 (by omega)
  have wnE : ∀ {μ1 : Mem} {m : Nat}, (∀ j, j < ts → gu μ1 j = gi μ 2 j) → pl + m ≤ ts → anB (fun j => guB μ1 (pl + j)) m = anB (wnB μ pl) m := fun {μ1 m} e hm => anB_cong (fun j hj => by unfold guB wnB; rw [e _ (by omega)])
  unfold BotG
  refine k_gust (by omega) hv hbc hbs hC t2 t1 tb (fun c => ?_) (fun m x1 x2 e cw x3 x μ1 hF z1 => ?_) (fun m x1 x2 e cw x3 x L0 μ1 hF z1 => ?_) (fun m x1 x2 e cw x3 x L0 μ1 hF z1 => ?_)
  · rw [← hpl] at c
    refine l_mGust (by omega) hM t3 t1 (hn0_of n2) (fun _ => ⟨rfl, v, hv, rfl, hI, rfl, rfl⟩) (fun m x1 x2 e cw x3 => ?_) (fun m x1 x2 e cw x3 => ?_) (fun m x1 x2 e cw x3 => ?_)
    all_goals (rw [← eP, ← hpl] at x3; exact absurd (cond m x1 x2 e cw x3) c)
  · rw [← hpl] at x3 x
    obtain ⟨p1, p2, p3, p4, p5⟩ := gus_pre hF hM q5 hw t4 (by rw [← hpl]; omega)
    rw [← hpl] at p2 p4 p5
    refine l_mGust (by omega) p1 (t3' hF) t1 (hn0_of n2) (fun z => ?_) (fun m' y1 y2 e' cw' y3 y μ2 hF2 z2 => ⟨rfl, v, hv, rfl, gus_inv hI hF z1 hF2 z2, rfl, rfl⟩) (fun m' y1 y2 e' cw' y3 y => ?_) (fun m' y1 y2 e' cw' y3 y => ?_)
    · rw [p2] at z; exact absurd (cond m x1 x2 e cw x3) z
    all_goals
      have em : m' = m := (nI_eq (by omega) (by omega)).mp (e'.symm.trans e)
      subst em
      rw [p2, p4, wnE p3 x3, x] at y; exact absurd y (by decide)
  · rw [← hpl] at x3 x
    obtain ⟨p1, p2, p3, p4, p5⟩ := gus_pre hF hM q5 hw t4 (by rw [← hpl]; omega)
    rw [← hpl] at p2 p4 p5
    have xt := (Bool.or_eq_false_iff.mp x).1
    refine l_mGust (by omega) p1 (t3' hF) t1 (hn0_of n2) (fun z => ?_) (fun m' y1 y2 e' cw' y3 y => ?_) (fun m' y1 y2 e' cw' y3 y _ μ2 hF2 z2 => ⟨rfl, max v 1, by omega, rfl, gus_inv hI hF z1 hF2 z2, rfl, rfl⟩) (fun m' y1 y2 e' cw' y3 y L eL hL => ?_)
    · rw [p2] at z; exact absurd (cond m x1 x2 e cw x3) z
    · have em : m' = m := (nI_eq (by omega) (by omega)).mp (e'.symm.trans e)
      subst em
      rw [p2, p4, wnE p3 x3, x] at y; exact absurd y (by decide)
    · rw [p2, p5 xt] at eL
      rw [eL, L0] at hL
      exact absurd hL (by omega)
  · rw [← hpl] at x3 x
    obtain ⟨p1, p2, p3, p4, p5⟩ := gus_pre hF hM q5 hw t4 (by rw [← hpl]; omega)
    rw [← hpl] at p2 p4 p5 ⊢
    have xt := (Bool.or_eq_false_iff.mp x).1
    refine l_mGust (by omega) p1 (t3' hF) t1 (hn0_of n2) (fun z => ?_) (fun m' y1 y2 e' cw' y3 y => ?_) (fun m' y1 y2 e' cw' y3 y yL => ?_) (fun m' y1 y2 e' cw' y3 y L eL hL μ2 hF2 z2 => ⟨?_, 2, by omega, rfl, gus_inv hI hF z1 hF2 z2, rfl, rfl⟩)
    · rw [p2] at z; exact absurd (cond m x1 x2 e cw x3) z
    · have em : m' = m := (nI_eq (by omega) (by omega)).mp (e'.symm.trans e)
      subst em
      rw [p2, p4, wnE p3 x3, x] at y; exact absurd y (by decide)
    · rw [p2, p5 xt] at yL
      rw [yL] at L0
      exact absurd L0 (by omega)
    · have em : m' = m := (nI_eq (by omega) (by omega)).mp (e'.symm.trans e)
      subst em
      rw [p2, p5 xt] at eL
      rw [p2, ← eL]
      have eM : ∀ k, k < m' → crM μ nr nb sz n L pl k = crW μ1 nr nb sz n L pl k := fun k hk => by
        unfold crM crW
        refine mstA_cong (fun j hj => ?_)
        rw [p3 _ (by omega), picM_fi (si153 hF) pGt_Lo]
        rw [eL] at hj ⊢
        obtain ⟨i, jj, u1, u2, u3, u4⟩ := clA_mem (cg_mem hj)
        rw [show cg (gsL μ nr nb sz n) j = (i, jj + 1) from u4]
        refine (pc_eq hM q5 u1 (by omega) (by omega) (fun z => ?_)).symm
        unfold fB at u3
        rw [decide_eq_true (show (fun f => gi μ (4 + f)) 11 i = 0 from (s.2 11 (by omega) (by omega) i u1).trans z), Bool.not_true, Bool.false_and, Bool.false_and] at u3
        exact absurd u3 (by decide)
      have eG := gB_cong eM
      have lt := gB_lt (M := crW μ1 nr nb sz n L pl) (k := m') (by omega)
      rw [eG, eM _ lt, p3 _ (by omega)]
end
section
variable {G : Gx} {d v : Nat} {μ : Mem} {bc bs : Nat} {Q : Option Value → List Sh → Mem → Nat → Nat → Prop} {LR : Mem → Prop}
theorem l_mKeep {nb' : Nat} (hd : 1 ≤ d) (hb : (gi μ 144 3) = nI nb') (hn : nb' ≤ 40) (h : ∀ μ1 μ', μ1 = si (si (si (si (si μ 144 68 1) 144 69 (gi μ 144 2)) 144 70 (gi μ 144 3)) 144 71 (gi μ 144 4)) 144 72 (gi μ 144 5) → KR (fun f => 146 + f) kM 194 205 μ1 μ' 10 40 → Q (some (.int (sm (fun i => if (gi μ 157 (i)) = 0 then 0 else 1) nb'))) (LAY v) μ' bc bs) : KD G d mX11_keep [.ref 144] (LAY v) μ bc bs Q := ⟨⟨_, rfl⟩, k_mKeep (nb' := nb') hd hb hn h⟩
end
section
variable {G : Gx} {d v : Nat} {μ : Mem} {bc bs : Nat} {Q : Option Value → List Sh → Mem → Nat → Nat → Prop} {LR : Mem → Prop}
theorem bot_keep (hLR : ∀ μ μ', LawEq μ μ' → LR μ → LR μ') (hd : 3 ≤ d) (hI : Inv LR μ) : Bot G d LR mX10_keep mX11_keep [] v μ bc bs := by
  obtain ⟨i1, i2, i3, i4, i5⟩ := id hI
  obtain ⟨nr, nb', q1, q2, q3, q4, q5⟩ := id i1
  obtain ⟨⟨n1, n2, n3⟩, -⟩ := id q5
  refine k_keep (by omega) q3 n3 q5.2.2.2.1 (fun μ1 hC => l_mKeep (nb' := nb') (by omega) (by rw [gi_si_a (by omega), hC.1 144 (by omega)]; exact q4) n3 (fun μ2 μ3 e2 hK => ⟨?_, v, rfl, ?_, rfl, rfl⟩))
  · refine congrArg (fun z => some (Value.int z)) (sm_cong (fun i hi => ?_))
    rw [gi_si_a (by omega), hC.1 157 (by omega)]
    have h9 := q5.2.2.2.2.2 11 (by omega) (by omega) i hi
    simp only [Nat.reduceAdd] at h9
    rw [h9]
  · have o : ∀ a, a ≠ 144 → ¬ (194 ≤ a ∧ a ≤ 205) → ¬ (16 ≤ a ∧ a ≤ 28) → (a ≠ 0) → ∀ j, gi μ3 a j = gi μ a j := fun a h1 h2 h3 h4 j => by
      rw [hK.1 a h2, e2]
      simp (disch := omega) only [gi_si_a]
      exact hC.1 a (by omega) j
    have o144 : ∀ k, ¬ (68 ≤ k ∧ k ≤ 72) → gi μ3 144 k = gi μ 144 k := fun k hk => by
      rw [hK.1 144 (by omega), e2]
      simp (disch := omega) only [gi_si_k, gi_si_a]
      exact hC.1 144 (by omega) k
    have o16 : ∀ a, 16 ≤ a → a ≤ 28 → ∀ j, gi μ3 a j = gi μ1 a j := fun a h1 h2 j => by
      rw [hK.1 a (by omega), e2]
      simp (disch := omega) only [gi_si_a]
    refine ⟨i1.cong ?_ ?_ ?_ ?_ ?_ ?_, i2.cong ?_ ?_ ?_ ?_, i3.cong ?_ ?_ ?_ ?_, Or.inr ⟨?_, ?_, nr, nb', ?_, ?_, ?_, ?_, q5.copy ?_ ?_ ?_ ?_, ?_⟩, hLR _ _ ⟨?_, ?_, ?_, ?_, ?_⟩ i5⟩
    case refine_15 =>
      rw [hK.1 0 (by omega), e2]
      simp (disch := omega) only [gi_si_a, gi_si]
    case refine_16 =>
      rw [hK.1 144 (by omega), e2]
      simp (disch := omega) only [gi_si_k, gi_si]
    case refine_17 => rw [o16 16 (by omega) (by omega), hC.2.2.2 12 (by omega) (by omega)]; exact q1
    case refine_18 =>
      rw [hK.1 144 (by omega), e2]
      simp (disch := omega) only [gi_si_k, gi_si, gi_si_a]
      rw [hC.1 144 (by omega)]; exact q2
    case refine_19 => rw [o16 16 (by omega) (by omega), hC.2.2.2 13 (by omega) (by omega)]; exact q3
    case refine_20 =>
      rw [hK.1 144 (by omega), e2]
      simp (disch := omega) only [gi_si_k, gi_si, gi_si_a]
      rw [hC.1 144 (by omega)]; exact q4
    case refine_21 => intro f hf j hj; rw [o16 (17 + f) (by omega) (by omega)]; exact hC.2.1 f hf j hj
    case refine_22 => intro f h5 hf j hj; rw [o16 (17 + f) (by omega) (by omega)]; exact hC.2.2.1 f h5 hf j hj
    case refine_23 =>
      intro f hf j hj
      rw [hK.2.1 f hf j hj, e2]
      simp (disch := omega) only [gi_si_a]
      rw [hC.1 (146 + f) (by omega)]
    case refine_24 =>
      intro f h5 hf j hj
      rw [hK.2.2 f h5 hf j hj, e2]
      simp (disch := omega) only [gi_si_a]
      rw [hC.1 (146 + f) (by omega)]
    case refine_25 =>
      rw [o16 16 (by omega) (by omega), o16 16 (by omega) (by omega), hC.2.2.2 14 (by omega) (by omega), hC.2.2.2 15 (by omega) (by omega), hK.1 144 (by omega), hK.1 144 (by omega), e2]
      simp (disch := omega) only [gi_si_k, gi_si, gi_si_a]
      rw [hC.1 144 (by omega), hC.1 144 (by omega)]
      exact i2
    all_goals intros
    all_goals first | exact o _ (by omega) (by omega) (by omega) (by omega) _ | exact o144 _ (by omega)
end
section
variable {G : Gx} {d v : Nat} {μ : Mem} {bc bs : Nat} {Q : Option Value → List Sh → Mem → Nat → Nat → Prop} {fb : Nat → Nat}
theorem l_mLaw {a : Int32} {ts : Nat} (hd : 8 ≤ d) (ht2 : ts ≤ 220) (hs : gi μ 144 1 = nI ts) (hb : ∀ j, j < ts → fb j < 256 ∧ gu μ j = nI (fb j)) (h0 : ¬ lwCd a ts → Q (some (.int (-1))) (LAY v) μ bc bs)
    (h1 : lwCd a ts → ∀ L, 1 ≤ L → L ≤ 200 → L ≤ ts → a = nI L → ∀ e, lawR (nxC L fb) L 201 [] 0 = .inl e → ∀ μ', Fr pMl μ μ' → gi μ' 144 1 = 0 → Q (some (.int (flt e.1 e.2))) (LAY v) μ' bc bs)
    (h2 : lwCd a ts → ∀ L, 1 ≤ L → L ≤ 200 → L ≤ ts → a = nI L → ∀ cs, lawR (nxC L fb) L 201 [] 0 = .inr cs → ∀ μ', Fr pMx μ μ' → gi μ' 144 1 = 0 → LwM μ' cs → Q (some (.int (nI cs.length))) (LAY v) μ' bc bs) : KD G d mX11_law [.ref 144, .int a] (LAY v) μ bc bs Q := ⟨⟨_, rfl⟩, k_mLaw (a := a) (ts := ts) hd ht2 hs hb h0 h1 h2⟩
end
section
variable {G : Gx} {d v : Nat} {μ : Mem} {bc bs : Nat}
theorem bot_law (hd : 30 ≤ d) {a : Int32} (hI : Inv LRel μ) : Bot G d LRel mX10_law mX11_law [.int a] v μ bc bs := by
  obtain ⟨i1, i2, i3, i4, i5⟩ := id hI
  obtain ⟨ts, t1, t2, t3, t4⟩ := id i3
  obtain ⟨fb, hfb⟩ : ∃ fb : Nat → Nat, fb = fun j => (gi μ 2 j).toNatClampNeg := ⟨_, rfl⟩
  have tb : ∀ j, j < ts → fb j < 256 ∧ gi μ 2 j = nI (fb j) := fun j hj => by
    obtain ⟨b, h1, h2, -⟩ := t4 j hj
    rw [hfb]; dsimp only; rw [h2, nI_clamp (by omega)]; exact ⟨h1, rfl⟩
  have tm : ∀ {μ1}, Fr pLx μ μ1 → ∀ j, j < ts → fb j < 256 ∧ gu μ1 j = nI (fb j) := fun {μ1} hF j hj => by
    obtain ⟨b, h1, h2, h3⟩ := t4 j hj
    refine ⟨(tb j hj).1, ?_⟩
    rw [← (tb j hj).2, h2]
    unfold gu
    rw [hF.1 145 j (by unfold pLx pLw pRl pRf pRc pRo pCp; omega)]; exact h3
  have t3' : ∀ {μ1}, Fr pLx μ μ1 → gi μ1 144 1 = nI ts := fun hF => (hF.1 _ _ (by unfold pLx pLw pRl pRf pRc pRo pCp; omega)).trans t3
  have wx : ∀ {μ1}, Fr pLw μ μ1 → Fr pLx μ μ1 := fun hF => hF.mono (fun _ _ z => Or.inl z)
  have eL : ∀ {L L'}, L ≤ 200 → L' ≤ 200 → a = nI L → a = nI L' → L' = L := fun {L L'} h h' e e' => (nI_eq (by omega) (by omega)).mp (e'.symm.trans e)
  refine k_law (fb := fb) hd t1 t2 tb (fun c => ?_) (fun c L l1 l2 l3 e er he μ1 hF z1 => ?_) (fun c L l1 l2 l3 e cs he μ1 hF z1 hW => ?_)
  · exact l_mLaw (fb := fb) (by omega) t1 t3 (tm Fr.rf) (fun _ => ⟨rfl, v, rfl, hI, rfl, rfl⟩) (fun c' => absurd c' c) (fun c' => absurd c' c)
  · refine l_mLaw (fb := fb) (by omega) t1 (t3' (wx hF)) (tm (wx hF)) (fun c' => absurd c c') (fun _ L' l1' l2' l3' e' er' he' μ2 hF2 z2 => ?_) (fun _ L' l1' l2' l3' e' cs' he' => ?_)
    · have := eL l2 l2' e e'
      subst this
      have ee : er' = er := Sum.inl.inj (he'.symm.trans he)
      subst ee
      have c' : ∀ a j, ¬ pLw a j → ¬ pMl a j → gi μ2 a j = gi μ a j := fun a j x y => (hF2.1 a j y).trans (hF.1 a j x)
      refine ⟨rfl, v, rfl, hI.fi (P := fun a j => pLw a j ∨ pMl a j) (fun a j z => c' a j (fun y => z (Or.inl y)) (fun y => z (Or.inr y))) (fun a j z => ?_) (i2.cong ?_ ?_ ?_ ?_) ⟨0, by omega, (hF2.1 1 1 (by unfold pMl pMc pMr; omega)).trans z1, z2, fun j hj => absurd hj (by omega)⟩, rfl, rfl⟩
      · unfold pLw pRl pRf pRc pRo pMl pMc pMr at z; unfold Lo2 Lo; omega
      all_goals exact c' _ _ (by unfold pLw pRl pRf pRc pRo; omega) (by unfold pMl pMc pMr; omega)
    · have := eL l2 l2' e e'
      subst this
      rw [he] at he'; simp at he'
  · refine l_mLaw (fb := fb) (by omega) t1 (t3' hF) (tm hF) (fun c' => absurd c c') (fun _ L' l1' l2' l3' e' er' he' => ?_) (fun _ L' l1' l2' l3' e' cs' he' μ2 hF2 z2 hM => ?_)
    · have := eL l2 l2' e e'
      subst this
      rw [he] at he'; simp at he'
    · have := eL l2 l2' e e'
      subst this
      have ee : cs' = cs := Sum.inr.inj (he'.symm.trans he)
      subst ee
      have c' : ∀ a j, ¬ pLx a j → ¬ pMx a j → gi μ2 a j = gi μ a j := fun a j x y => (hF2.1 a j y).trans (hF.1 a j x)
      refine ⟨rfl, v, rfl, ⟨i1.cong ?_ ?_ ?_ ?_ ?_ ?_, i2.cong ?_ ?_ ?_ ?_, ⟨0, by omega, (hF2.1 1 1 (by unfold pMx pMl pMc pMr; omega)).trans z1, z2, fun j hj => absurd hj (by omega)⟩, i4.cong ?_ ?_ ?_ ?_ ?_, LRel_of hW hF2 hM⟩, rfl, rfl⟩
      all_goals intros
      all_goals exact c' _ _ (by unfold pLx pLw pRl pRf pRc pRo pCp; omega) (by unfold pMx pMl pMc pMr; omega)
end
section
variable {G : Gx} {d v : Nat} {μ : Mem} {bc bs : Nat} {Q : Option Value → List Sh → Mem → Nat → Nat → Prop} {nr nb sz n : Nat}
theorem l_mLevel {a w : Int32} {ts : Nat} {fb : Nat → Nat} (hd : 7 ≤ d) (hW : WM μ nr nb sz n) (hs : (gi μ 144 1) = nI ts) (hts : ts ≤ 220) (hb : ∀ j, j < ts → fb j < 256 ∧ gu μ j = nI (fb j))
    (h0 : ¬ lvCd a w ts → Q (some (.int (-3))) (LAY v) μ bc bs)
    (h1 : lvCd a w ts → ∀ m, 1 ≤ m → m ≤ 6 → a = nI m → ¬ (∀ k, k < m → TkP (fun f => gi μ (146 + f)) nr nb fb k) → ∀ μ', Fr pLm μ μ' → gi μ' 144 1 = 0 → (∀ f, f < 12 → gi μ' (146 + f) = gi μ (146 + f)) → Q (some (.int (-2))) (LAY v) μ' bc bs)
    (h2 : lvCd a w ts → ∀ m, 1 ≤ m → m ≤ 6 → a = nI m → (∀ k, k < m → TkP (fun f => gi μ (146 + f)) nr nb fb k) → ∀ B, B = lvB (vlR (lawV (fun f => gi μ (30 + f)) sz n) (fun f => gi μ (146 + f)) nr nb (gi μ 144 4) m (riF fb) (roF fb) (arF fb)) (1000000000, []) (pmL m m []) → ∀ μ', Fr pLm μ μ' → gi μ' 144 1 = 0 → (∀ f, f < 12 → gi μ' (146 + f) = if w = 6 then hgA (fun f => gi μ (146 + f)) (riF fb) (roF fb) (arF fb) (fun j => B.2.getD j 0) m f else gi μ (146 + f)) → Q (some (.int (lvF w B))) (LAY v) μ' bc bs) : KD G d mX11_level [.ref 144, .int a, .int w] (LAY v) μ bc bs Q := ⟨⟨_, rfl⟩, k_mLevel (a := a) (w := w) (ts := ts) (fb := fb) hd hW hs hts hb h0 h1 h2⟩
end
section
variable {G : Gx} {d v : Nat} {μ : Mem} {bc bs : Nat} {nr nb sz n : Nat}
theorem bot_level (hd : 14 ≤ d) {a w : Int32} (hI : Inv LRel μ) : Bot G d LRel mX10_level mX11_level [.int a, .int w] v μ bc bs := by
  obtain ⟨i1, i2, i3, i4, i5⟩ := id hI
  obtain ⟨nr, nb, q1, q2, q3, q4, q5⟩ := id i1
  obtain ⟨⟨n1, n2, n3⟩, -, -, qb, s⟩ := id q5
  obtain ⟨ts, t1, t2, t3, t4⟩ := id i3
  obtain ⟨sz, n, hC, hM⟩ := i5.both q1 q2 q3 q4 q5
  have hw := i2.1.1
  obtain ⟨fb, hfb⟩ : ∃ fb : Nat → Nat, fb = fun j => (gi μ 2 j).toNatClampNeg := ⟨_, rfl⟩
  have tb : ∀ j, j < ts → fb j < 256 ∧ gi μ 2 j = nI (fb j) := fun j hj => by
    obtain ⟨b, h1, h2, -⟩ := t4 j hj
    rw [hfb]; dsimp only; rw [h2, nI_clamp (by omega)]; exact ⟨h1, rfl⟩
  have o : ∀ {μ1}, Fr pLv μ μ1 → ∀ a j, ¬ pLv a j → gi μ1 a j = gi μ a j := fun hF a j z => hF.1 a j z
  have tm : ∀ {μ1}, Fr pLv μ μ1 → ∀ j, j < ts → fb j < 256 ∧ gu μ1 j = nI (fb j) := fun {μ1} hF j hj => by
    obtain ⟨b, h1, h2, h3⟩ := t4 j hj
    refine ⟨(tb j hj).1, ?_⟩
    rw [← (tb j hj).2, h2]
    unfold gu
    rw [hF.1 145 j (by unfold pLv pSe pRd pS pL; omega)]; exact h3
  have t3' : ∀ {μ1}, Fr pLv μ μ1 → gi μ1 144 1 = nI ts := fun hF => (hF.1 _ _ (by unfold pLv pSe pRd pS pL; omega)).trans t3
  have cB : ∀ {μ1}, Fr pLv μ μ1 → ∀ f, f < 12 → gi μ1 (146 + f) = gi μ (146 + f) := fun hF f hf => funext fun j => hF.1 _ _ (by unfold pLv pSe pRd pS pL; omega)
  have hM1 : ∀ {μ1}, Fr pLv μ μ1 → WM μ1 nr nb sz n := fun hF => hM.fr hF (fun a j z => by unfold pLv pSe pRd pS pL at z; unfold SfM; omega)
  have tk : ∀ {μ1 k}, Fr pLv μ μ1 → (TkP (fun f => gi μ1 (146 + f)) nr nb fb k ↔ TkP (fun f => gi μ (4 + f)) nr nb fb k) := fun {μ1 k} hF => by
    rw [TkP.same q5]
    unfold TkP
    rw [show (fun f => gi μ1 (146 + f)) 11 = (fun f => gi μ (146 + f)) 11 from cB hF 11 (by omega)]
  refine k_level (fb := fb) (by omega) hC t2 t1 tb (fun c => ?_) (fun c m m1 m6 e x μ1 hF z1 hA1 => ?_) (fun c m m1 m6 e x F eF μ1 hF z1 hA1 => ?_)
  · exact l_mLevel (fb := fb) (by omega) hM t3 t1 (tm Fr.rf) (fun _ => ⟨rfl, v, rfl, hI, rfl, rfl⟩) (fun c' => absurd c' c) (fun c' => absurd c' c)
  · refine l_mLevel (fb := fb) (by omega) (hM1 hF) (t3' hF) t1 (tm hF) (fun c' => absurd c c') (fun _ m' m1' m6' e' x' μ2 hF2 z2 hB2 => ⟨rfl, v, rfl, level_inv hI q1 q2 q3 q4 hF z1 hA1 hF2 z2 (fun f hf => (hB2 f hf).trans (cB hF f hf)) q5, rfl, rfl⟩) (fun _ m' m1' m6' e' x' => ?_)
    have em : m' = m := (nI_eq (by omega) (by omega)).mp (e'.symm.trans e)
    subst em
    exact absurd (fun k hk => (tk hF).mp (x' k hk)) x
  · refine l_mLevel (fb := fb) (by omega) (hM1 hF) (t3' hF) t1 (tm hF) (fun c' => absurd c c') (fun _ m' m1' m6' e' x' => ?_) (fun _ m' m1' m6' e' x' F' eF' μ2 hF2 z2 hB2 => ?_)
    · have em : m' = m := (nI_eq (by omega) (by omega)).mp (e'.symm.trans e)
      subst em
      exact absurd (fun k hk => (tk hF).mpr (x k hk)) x'
    · have em : m' = m := (nI_eq (by omega) (by omega)).mp (e'.symm.trans e)
      subst em
      have hT := Tld.of x
      have q5' : LedOK (fun f => gi μ (4 + f)) (fun f => gi μ1 (146 + f)) nr nb := q5.cong (fun f hf j => rfl) (fun f hf j => congrFun (cB hF f hf) j)
      have hme : ∀ P ∈ pmL m' m' [], P.length = m' ∧ ∀ j, j < m' → P.getD j 0 < m' := fun P hP => by
        obtain ⟨p1, p2⟩ := pmL_mem (m := m') (f := m') (pre := []) (fun x hx => by simp at hx) P hP
        rw [List.length_nil, Nat.zero_add] at p1
        refine ⟨p1, fun j hj => p2 _ ?_⟩
        rw [List.getD_eq_getElem?_getD, List.getElem?_eq_getElem (by omega)]
        exact List.getElem_mem _
      have hne : pmL m' m' [] ≠ [] := fun z => by
        have := (chk_1 m' (by omega) m1).2
        rw [z] at this; exact absurd this (by simp)
      have ev : ∀ P ∈ pmL m' m' [], vlC (lawV (fun f => gi μ (30 + f)) sz n) (fun f => gi μ (4 + f)) nr nb (gi μ 3 14) m' (riF fb) (roF fb) (arF fb) P = vlR (lawV (fun f => gi μ1 (30 + f)) sz n) (fun f => gi μ1 (146 + f)) nr nb (gi μ1 144 4) m' (riF fb) (roF fb) (arF fb) P := fun P hP => by
        obtain ⟨p1, p2⟩ := hme P hP
        rw [vl_same q5' hT p1 p2, lawV_fr (A := fun f => gi μ (30 + f)) (fun f hf => funext fun j => hF.1 _ _ (by unfold pLv pSe pRd pS pL; omega)), hF.1 144 4 (by unfold pLv pSe pRd pS pL; omega), hw]
      have eFF : F' = F := by
        rw [eF, eF', lvB_cong ev]
        exact lvB_0 hne (fun P _ => vsI_lt n2 (by decide)) (fun P _ => vsI_lt n2 (by decide))
      rw [eFF] at hB2 ⊢
      have ok := lvB_ok (v := vlC (lawV (fun f => gi μ (30 + f)) sz n) (fun f => gi μ (4 + f)) nr nb (gi μ 3 14) m' (riF fb) (roF fb) (arF fb)) (x := 2147483647) m1 m6 (fun P => vsI_lt n2 (by decide))
      rw [← eF] at ok
      refine ⟨rfl, v, rfl, ?_, rfl, rfl⟩
      by_cases c6 : w = 6
      · refine level_inv hI q1 q2 q3 q4 hF z1 (fun f hf => ?_) hF2 z2 (fun f hf => ?_) (hg_led q5' hT ok.2 (Nat.le_refl m'))
        · rw [hA1 f hf, if_pos c6]
        · rw [hB2 f hf, if_pos c6]
      · refine level_inv hI q1 q2 q3 q4 hF z1 (fun f hf => ?_) hF2 z2 (fun f hf => ?_) q5'
        · rw [hA1 f hf, if_neg c6]
        · rw [hB2 f hf, if_neg c6]
end
section
variable {G : Gx} {d v : Nat} {μ : Mem} {bc bs : Nat} {Q : Option Value → List Sh → Mem → Nat → Nat → Prop}
theorem l_mMove {i r a : Int32} {nr nb : Nat} (hd : 2 ≤ d) (hr : (gi μ 144 2) = nI nr) (hr1 : 1 ≤ nr) (hrn : nr ≤ 10) (hb : (gi μ 144 3) = nI nb) (hn : nb ≤ 40) (h1 : (0 ≤ i ∧ i < nI nb) ∧ ¬ (gi μ 157 (i.toNatClampNeg)) = 0 → 0 ≤ r ∧ r < nI nr → -9 ≤ a ∧ a ≤ 9 → Q (some (.int 1)) (LAY v) (si (si μ 151 i.toNatClampNeg r) 152 i.toNatClampNeg a) bc bs) (h0 : ¬ (((0 ≤ i ∧ i < nI nb) ∧ ¬ (gi μ 157 (i.toNatClampNeg)) = 0) ∧ (0 ≤ r ∧ r < nI nr) ∧ (-9 ≤ a ∧ a ≤ 9)) → Q (some (.int 0)) (LAY v) μ bc bs) : KD G d mX11_move [.ref 144, .int i, .int r, .int a] (LAY v) μ bc bs Q := ⟨⟨_, rfl⟩, k_mMove (i := i) (r := r) (a := a) (nr := nr) (nb := nb) hd hr hr1 hrn hb hn h1 h0⟩
end
section
variable {G : Gx} {d v : Nat} {μ : Mem} {bc bs : Nat} {LR : Mem → Prop}
theorem bot_move (hLR : ∀ μ μ', LawEq μ μ' → LR μ → LR μ') (hd : 4 ≤ d) {i r a : Int32} (hI : Inv LR μ) : Bot G d LR mX10_move mX11_move [.int i, .int r, .int a] v μ bc bs := by
  obtain ⟨i1, i2, i3, i4, i5⟩ := id hI
  obtain ⟨nr, nb, q1, q2, q3, q4, q5⟩ := id i1
  obtain ⟨⟨n1, n2, n3⟩, -⟩ := id q5
  have hsame : 0 ≤ i ∧ i < nI nb → gi μ 157 i.toNatClampNeg = gi μ 15 i.toNatClampNeg := fun c => by
    obtain ⟨k, hk, rfl⟩ := ofN c.1
    have hkn : k < nb := (nI_ltI (by omega) (by omega)).mp c.2
    rw [nI_clamp (by omega)]
    exact (q5.2.2.2.2.2 11 (by omega) (by omega) k hkn).symm
  refine k_move (by omega) q1 q3 n3 (fun c c2 c3 => l_mMove (by omega) (by simp (disch := omega) only [gi_si_a]; exact q2) n1 n2 (by simp (disch := omega) only [gi_si_a]; exact q4) n3 (fun _ _ _ => ⟨rfl, v, rfl, ?_, rfl, rfl⟩) (fun q => absurd ⟨⟨c.1, by simp (disch := omega) only [gi_si_a]; rw [hsame c.1]; exact c.2⟩, c2, c3⟩ q)) (fun c => l_mMove (by omega) q2 n1 n2 q4 n3 (fun x y z => absurd ⟨⟨x.1, by rw [← hsame x.1]; exact x.2⟩, y, z⟩ c) (fun _ => ⟨rfl, v, rfl, hI, rfl, rfl⟩))
  obtain ⟨c1, ch⟩ := c
  obtain ⟨k, hk, rfl⟩ := ofN c1.1
  have hkn : k < nb := (nI_ltI (by omega) (by omega)).mp c1.2
  rw [nI_clamp (by omega)] at *
  refine ⟨⟨nr, nb, ?_, ?_, ?_, ?_, q5.ribU (k := k) hkn (Or.inl rfl) ?_ ?_ ?_ ?_ ?_⟩, i2.cong ?_ ?_ ?_ ?_, i3.cong ?_ ?_ ?_ ?_, i4.cong ?_ ?_ ?_ ?_ ?_, hLR _ _ ⟨?_, ?_, ?_, ?_, ?_⟩ i5⟩
  case refine_5 => intro f hf j h; rcases h with h | h <;> simp (disch := omega) only [gi_si_a, gi_si_k]
  case refine_6 => intro f hf j h; rcases h with h | h <;> simp (disch := omega) only [gi_si_a, gi_si_k]
  case refine_7 =>
    have h9 := q5.2.2.1 k hkn
    unfold RibOK at h9 ⊢
    simp (disch := omega) only [Nat.reduceAdd, gi_si, gi_si_a, gi_si_k] at h9 ⊢
    simp only [i_le] at c3
    obtain ⟨r', hr', rfl⟩ := ofN c2.1
    exact ⟨⟨r', (nI_ltI (by omega) (by omega)).mp c2.2, rfl⟩, c3, h9.2.2⟩
  case refine_8 =>
    have h9 := q5.2.2.2.1.2 k (by omega)
    simp (disch := omega) only [Nat.reduceAdd, gi_si, gi_si_a, gi_si_k] at h9 ⊢
    exact h9
  case refine_9 =>
    intro f h5 hf
    have h9 := q5.2.2.2.2.2 f h5 hf k hkn
    obtain rfl | rfl | h7 : f = 5 ∨ f = 6 ∨ 7 ≤ f := by omega
    · simp (disch := omega) only [Nat.reduceAdd, gi_si, gi_si_a, gi_si_k]
    · simp (disch := omega) only [Nat.reduceAdd, gi_si, gi_si_a, gi_si_k]
    · simp (disch := omega) only [gi_si, gi_si_a, gi_si_k]
      exact h9
  all_goals intros
  all_goals (simp (disch := omega) only [gi_si, gi_si_a, gi_si_k]; try assumption)
end
section
variable {G : Gx} {d v : Nat} {μ : Mem} {bc bs : Nat} {Q : Option Value → List Sh → Mem → Nat → Nat → Prop} {nr nb sz n : Nat} {tip : Int32 → Bool} {wl : Nat → Nat} {s : Nat}
theorem l_mOrder {a lim w : Int32} (hd : 8 ≤ d) (hW : WM μ nr nb sz n) (h01 : ∀ i, i < nb → gi μ 157 i = 0 ∨ gi μ 157 i = 1) (h0 : ¬ orC a lim w → Q (some (.int (-1))) (LAY v) μ bc bs)
    (h1 : orC a lim w → ∀ s, 1 ≤ s → s < 256 → a = nI s → ∀ μ', Fr pOm μ μ' → Q (some (.int (orF (tpB (lawV (fun f => gi μ (30 + f)) sz n) (fun f => gi μ (146 + f)) nr nb (gi μ 144 4) lim) (wlN (fun f => gi μ (146 + f)) nb) s w))) (LAY v) μ' bc bs) : KD G d mX11_order [.ref 144, .int a, .int lim, .int w] (LAY v) μ bc bs Q := ⟨⟨_, rfl⟩, k_mOrder (a := a) (lim := lim) (w := w) hd hW h01 h0 h1⟩
end
section
variable {G : Gx} {d v : Nat} {μ : Mem} {bc bs : Nat} {Q : Option Value → List Sh → Mem → Nat → Nat → Prop} {nr nb sz n : Nat} {tip : Int32 → Bool} {wl : Nat → Nat} {s : Nat}
theorem bot_order (hd : 9 ≤ d) {a lim w : Int32} (hI : Inv LRel μ) : Bot G d LRel mX10_order mX11_order [.int a, .int lim, .int w] v μ bc bs := by
  obtain ⟨i1, i2, i3, i4, i5⟩ := id hI
  obtain ⟨nr, nb, q1, q2, q3, q4, q5⟩ := id i1
  obtain ⟨⟨n1, n2, n3⟩, -, -, qb, s⟩ := id q5
  obtain ⟨sz, n, hC, hM⟩ := i5.both q1 q2 q3 q4 q5
  have hw := i2.1.1
  have h01 : ∀ {μ1}, Fr pOb μ μ1 → ∀ i, i < nb → gi μ1 157 i = 0 ∨ gi μ1 157 i = 1 := fun {μ1} hF i hi => by
    rw [hF.1 157 i (by unfold pOb pWp pS pL; omega), ← show gi μ 15 i = gi μ 157 i from s.2 11 (by omega) (by omega) i hi]
    exact qb.2 i (by omega)
  refine k_order (by omega) hC (fun c => ?_) (fun c s' hs1 hs e μ1 hF => ?_)
  · exact l_mOrder (by omega) hM (h01 Fr.rf) (fun _ => ⟨rfl, v, rfl, hI, rfl, rfl⟩) (fun c' => absurd c' c)
  · refine l_mOrder (by omega) (hM.fr2 hF (fun a j z => Or.inl (pOb_Lo a j z))) (h01 hF) (fun c' => absurd c c') (fun _ s2 hs1' hs' e' μ2 hF2 => ⟨?_, v, rfl, hI.keep LRel_eq ((keep_fr hF pOb_Lo).trans (keep_fr hF2 pOm_Lo)), rfl, rfl⟩)
    have es : s2 = s' := (nI_eq (by omega) (by omega)).mp (e'.symm.trans e)
    subst es
    have cB : ∀ f, f < 12 → gi μ1 (146 + f) = gi μ (146 + f) := fun f hf => funext fun j => hF.1 _ _ (by unfold pOb pWp pS pL; omega)
    have et : tpB (lawV (fun f => gi μ1 (30 + f)) sz n) (fun f => gi μ1 (146 + f)) nr nb (gi μ1 144 4) lim = tpB (lawV (fun f => gi μ (30 + f)) sz n) (fun f => gi μ (4 + f)) nr nb (gi μ 3 14) lim := funext fun g => by
      rw [tpB_fr (A := fun f => gi μ (146 + f)) cB, tpB_same q5, lawV_fr (A := fun f => gi μ (30 + f)) (fun f hf => funext fun j => hF.1 _ _ (by unfold pOb pWp pS pL; omega)), hF.1 144 4 (by unfold pOb pWp pS pL; omega), hw]
    have ew : wlN (fun f => gi μ1 (146 + f)) nb = wlN (fun f => gi μ (4 + f)) nb := funext fun p => by
      rw [← wlN_same q5]
      unfold wlN
      exact smN_cong (fun i _ => by rw [whB_fr cB, show (fun f => gi μ1 (146 + f)) 7 i = gi μ 153 i from congrFun (cB 7 (by omega)) i])
    rw [et, ew]
end
section
variable {G : Gx} {d v : Nat} {μ : Mem} {bc bs : Nat} {Q : Option Value → List Sh → Mem → Nat → Nat → Prop} {LR : Mem → Prop}
theorem l_mOwes {a b : Int32} {nb : Nat} (hd : 2 ≤ d) (hb : (gi μ 144 3) = nI nb) (hn : nb ≤ 40) (hok : ∀ i, i < nb → (gi μ 154 (i)) = 1 → ∃ x y, x < 8 ∧ y < 8 ∧ (gi μ 155 (i)) = nI x ∧ (gi μ 156 (i)) = nI y) (h1 : (0 ≤ a ∧ a ≤ 7) ∧ (0 ≤ b ∧ b ≤ 7) ∧ a ≠ b → Q (some (.int (sm (fun i => owT (gi μ 157 (i)) (gi μ 154 (i)) (gi μ 155 (i)) (gi μ 156 (i)) (gi μ 153 (i)) a b) nb))) (LAY v) (sar μ 189 (dbM μ nb)) bc bs) (h0 : ¬ ((0 ≤ a ∧ a ≤ 7) ∧ (0 ≤ b ∧ b ≤ 7) ∧ a ≠ b) → Q (some (.int (-1))) (LAY v) μ bc bs) : KD G d mX11_owes [.ref 144, .int a, .int b] (LAY v) μ bc bs Q := ⟨⟨_, rfl⟩, k_mOwes (a := a) (b := b) (nb := nb) hd hb hn hok h1 h0⟩
end
section
variable {G : Gx} {d v : Nat} {μ : Mem} {bc bs : Nat} {Q : Option Value → List Sh → Mem → Nat → Nat → Prop} {LR : Mem → Prop}
theorem bot_owes (hLR : ∀ μ μ', LawEq μ μ' → LR μ → LR μ') (hd : 4 ≤ d) {a b : Int32} (hI : Inv LR μ) : Bot G d LR mX10_owes mX11_owes [.int a, .int b] v μ bc bs := by
  obtain ⟨i1, i2, i3, i4, i5⟩ := id hI
  obtain ⟨nr, nb, q1, q2, q3, q4, q5⟩ := id i1
  obtain ⟨⟨n1, n2, n3⟩, -⟩ := id q5
  have s := fun i hi f h5 hf => q5.2.2.2.2.2 f h5 hf i hi
  have hok : ∀ i, i < nb → (gi μ 154 (i)) = 1 → ∃ x y, x < 8 ∧ y < 8 ∧ (gi μ 155 (i)) = nI x ∧ (gi μ 156 (i)) = nI y := fun i hi hc => by
    obtain ⟨-, -, -, ⟨o, ho, e9⟩, e⟩ := q5.2.2.1 i hi
    have s8 := s i hi 8 (by omega) (by omega)
    have s9 := s i hi 9 (by omega) (by omega)
    have s10 := s i hi 10 (by omega) (by omega)
    simp only [Nat.reduceAdd] at s8 s9 s10 e9 e
    rcases e with ⟨c, -⟩ | ⟨-, t, ht, e10, -⟩
    · rw [s8, hc] at c; exact absurd c (by decide)
    · exact ⟨o, t, ho, ht, s9 ▸ e9, s10 ▸ e10⟩
  refine k_owes (by omega) q3 n3 (fun c => l_mOwes (by omega) q4 n3 hok (fun _ => ⟨?_, v, rfl, Inv.keep hLR (keep_sar (by omega)) hI, rfl, rfl⟩) (fun q => absurd c q)) (fun c => l_mOwes (by omega) q4 n3 hok (fun q => absurd q c) (fun _ => ⟨rfl, v, rfl, hI, rfl, rfl⟩))
  refine congrArg (fun z => some (Value.int z)) (sm_cong (fun i hi => ?_))
  have s7 := s i hi 7 (by omega) (by omega)
  have s8 := s i hi 8 (by omega) (by omega)
  have s9 := s i hi 9 (by omega) (by omega)
  have s10 := s i hi 10 (by omega) (by omega)
  have s11 := s i hi 11 (by omega) (by omega)
  simp only [Nat.reduceAdd] at s7 s8 s9 s10 s11
  rw [s7, s8, s9, s10, s11]
end
section
variable {G : Gx} {d v : Nat} {μ : Mem} {bc bs : Nat} {Q : Option Value → List Sh → Mem → Nat → Nat → Prop}
theorem l_mPay {a b m w : Int32} {nr nb sz n : Nat} (hd : 7 ≤ d) (hW : WM μ nr nb sz n) (h0 : ¬ payC a b m w → Q (some (.int (-3))) (LAY v) μ bc bs) (h1 : payC a b m w → pyO (fun i => cutB (fun f => gi μ (146 + f)) i a m) (fun j => knB (fun f => gi μ (146 + f)) j b m) (othM μ nr nb sz n m (ln0 μ nr nb sz n)) nb nb (11, -2, -2) = (11, -2, -2) → ∀ μ', Fr pKl μ μ' → Q (some (.int (-2))) (LAY v) μ' bc bs)
    (h2 : payC a b m w → ∀ i j, i < nb → j < nb → cutB (fun f => gi μ (146 + f)) i a m = true → knB (fun f => gi μ (146 + f)) j b m = true → pyO (fun i => cutB (fun f => gi μ (146 + f)) i a m) (fun j => knB (fun f => gi μ (146 + f)) j b m) (othM μ nr nb sz n m (ln0 μ nr nb sz n)) nb nb (11, -2, -2) = (othM μ nr nb sz n m (ln0 μ nr nb sz n) i j, nI i, nI j) → ∀ μ', Fr pKl μ μ' → Q (some (.int (payA w (nI i) (nI j) (othM μ nr nb sz n m (ln0 μ nr nb sz n) i j)))) (LAY v) (if w = 2 then knM μ' i j m else μ') bc bs) : KD G d mX11_pay [.ref 144, .int a, .int b, .int m, .int w] (LAY v) μ bc bs Q := ⟨⟨_, rfl⟩, k_mPay (a := a) (b := b) (m := m) (w := w) (nr := nr) (nb := nb) (sz := sz) (n := n) hd hW h0 h1 h2⟩
end
section
variable {G : Gx} {d v : Nat} {μ : Mem} {bc bs : Nat} {Q : Option Value → List Sh → Mem → Nat → Nat → Prop}
theorem bot_pay (hd : 8 ≤ d) {a b m w : Int32} (hI : Inv LRel μ) : Bot G d LRel mX10_pay mX11_pay [.int a, .int b, .int m, .int w] v μ bc bs := by
  obtain ⟨i1, i2, i3, i4, i5⟩ := id hI
  obtain ⟨nr, nb, q1, q2, q3, q4, q5⟩ := id i1
  obtain ⟨⟨n1, n2, n3⟩, -, -, -, s⟩ := id q5
  obtain ⟨⟨e1, e2, e3⟩, e4, e5, e6⟩ := id i2
  obtain ⟨sz, n, hC, hM⟩ := i5.both q1 q2 q3 q4 q5
  -- the reference's search, behind the class's
  have eS : ∀ μ1, Fr pP1 μ μ1 → payC a b m w → ∀ t, pyO (fun i => cutB (fun f => gi μ1 (146 + f)) i a m) (fun j => knB (fun f => gi μ1 (146 + f)) j b m) (othM μ1 nr nb sz n m (ln0 μ1 nr nb sz n)) nb nb t = payS (lawV (fun f => gi μ (30 + f)) sz n) (fun f => gi μ (4 + f)) nr nb (gi μ 3 14) a b m t := fun μ1 hF hc t => by
    have fB := frM_B hF pP1_SfM
    obtain ⟨k, hk0, rfl⟩ := ofN (show (0 : Int32) ≤ m by have := hc.2.1.1; simp only [i_le] at *; have e0 : (0 : Int32).toInt = 0 := rfl; have e1 : (1 : Int32).toInt = 1 := rfl; omega)
    have hk : k ≤ 98 := (nI_leI (b := 98) (by omega) (by omega)).mp hc.2.1.2
    unfold payS
    refine pyO_cong (fun j hj => ?_) (fun i hi => ?_) (fun i hi ci j hj cj => ?_)
    · rw [knB_fr fB, ← knB_same s hj]
    · rw [cutB_fr fB, ← cutB_same s hi]
    · rw [cutB_fr fB, ← cutB_same s hi] at ci
      rw [knB_fr fB, ← knB_same s hj] at cj
      exact othM_A hF hM q5 e1 hk hc.1.2.2 hi hj ci cj
  refine k_pay (by omega) hC (fun c => l_mPay (by omega) hM (fun _ => ⟨rfl, v, rfl, hI, rfl, rfl⟩) (fun z => absurd z c) (fun z => absurd z c)) (fun c e μ1 hF => ?_) (fun c i j hi hj ci cj e μ1 hF => ?_)
  · have hF1 : Fr pP1 μ μ1 := hF.mono (fun a j z => Or.inl z)
    refine l_mPay (by omega) (hM.fr hF1 pP1_SfM) (fun z => absurd c z) (fun _ _ μ2 hF2 => ⟨rfl, v, rfl, hI.keep LRel_eq ((keep_fr hF pP_Lo).trans (keep_fr hF2 pKl_Lo)), rfl, rfl⟩) (fun _ i j hi hj ci cj e' μ2 hF2 => ?_)
    exfalso
    rw [eS μ1 hF1 c] at e'
    have pE : PyE 11 (payS (lawV (fun f => gi μ (30 + f)) sz n) (fun f => gi μ (4 + f)) nr nb (gi μ 3 14) a b m (11, (gi μ 51 9), (gi μ 51 10))) (payS (lawV (fun f => gi μ (30 + f)) sz n) (fun f => gi μ (4 + f)) nr nb (gi μ 3 14) a b m (11, -2, -2)) := payS_E
    rw [e, e'] at pE
    have le := othM_le (μ := μ1) (nr := nr) (nb := nb) (sz := sz) (n := n) (i := i) (j := j) (m := m) (ln := ln0 μ1 nr nb sz n) n2
    rcases pE with z | ⟨-, z⟩
    · have := congrArg (fun q => q.1) z
      dsimp only at this
      rw [← this] at le; exact absurd le (by decide)
    · dsimp only at z
      rw [z] at le; exact absurd le (by decide)
  · obtain ⟨k, hk0, rfl⟩ := ofN (show (0 : Int32) ≤ m by have := c.2.1.1; simp only [i_le] at *; have e0 : (0 : Int32).toInt = 0 := rfl; have e1 : (1 : Int32).toInt = 1 := rfl; omega)
    have hk : k ≤ 98 := (nI_leI (b := 98) (by omega) (by omega)).mp c.2.1.2
    have hk1 : 1 ≤ k := (nI_leI (a := 1) (by omega) (by omega)).mp c.2.1.1
    have hij := cut_ne c.1.2.2 ci cj
    have hF1 : Fr pP1 μ (if w = 2 then knC μ1 i j (nI k) else μ1) := by
      have hF0 : Fr pP1 μ μ1 := hF.mono (fun a j z => Or.inl z)
      split
      · unfold knC; exact (hF0.si (Or.inr rfl)).si (Or.inr rfl)
      · exact hF0
    have ow := othA_le (LV := lawV (fun f => gi μ (30 + f)) sz n) (A := fun f => gi μ (4 + f)) (nr := nr) (nb := nb) (i := i) (j := j) (wd := (gi μ 3 14)) (p := a) (n := nI k) n2
    generalize hmc : (if w = 2 then knC μ1 i j (nI k) else μ1) = μc at hF1 ⊢
    refine l_mPay (by omega) (hM.fr hF1 pP1_SfM) (fun z => absurd c z) (fun _ e' μ2 hF2 => ?_) (fun _ i' j' hi' hj' ci' cj' e' μ2 hF2 => ?_)
    · exfalso
      rw [eS μc hF1 c] at e'
      have pE : PyE 11 (payS (lawV (fun f => gi μ (30 + f)) sz n) (fun f => gi μ (4 + f)) nr nb (gi μ 3 14) a b (nI k) (11, (gi μ 51 9), (gi μ 51 10))) (payS (lawV (fun f => gi μ (30 + f)) sz n) (fun f => gi μ (4 + f)) nr nb (gi μ 3 14) a b (nI k) (11, -2, -2)) := payS_E
      rw [e, e'] at pE
      rcases pE with z | ⟨z, -⟩
      · have := congrArg (fun q => q.1) z
        dsimp only at this
        rw [this] at ow; exact absurd ow (by decide)
      · dsimp only at z
        rw [z] at ow; exact absurd ow (by decide)
    · have eS' := e'
      rw [eS μc hF1 c] at eS'
      have pE : PyE 11 (payS (lawV (fun f => gi μ (30 + f)) sz n) (fun f => gi μ (4 + f)) nr nb (gi μ 3 14) a b (nI k) (11, (gi μ 51 9), (gi μ 51 10))) (payS (lawV (fun f => gi μ (30 + f)) sz n) (fun f => gi μ (4 + f)) nr nb (gi μ 3 14) a b (nI k) (11, -2, -2)) := payS_E
      rw [e, eS'] at pE
      have pe : (othA (lawV (fun f => gi μ (30 + f)) sz n) (fun f => gi μ (4 + f)) nr nb (gi μ 3 14) a (nI k) i j, nI i, nI j) = (othM μc nr nb sz n (nI k) (ln0 μc nr nb sz n) i' j', nI i', nI j') := by
        rcases pE with z | ⟨z, -⟩
        · exact z
        · dsimp only at z
          rw [z] at ow; exact absurd ow (by decide)
      have z1 := congrArg (fun q => q.1) pe
      have z2 := (nI_eq (by omega) (by omega)).mp (congrArg (fun q => q.2.1) pe)
      have z3 := (nI_eq (by omega) (by omega)).mp (congrArg (fun q => q.2.2) pe)
      dsimp only at z1
      subst z2 z3
      refine ⟨by rw [z1], v, rfl, ?_, rfl, rfl⟩
      by_cases q : w = 2
      · rw [if_pos q] at hmc
        rw [if_pos q]
        have hFF : Fr (fun a j => Lo a j ∨ a = 11 ∨ a = 153) μ (knM μ2 i j (nI k)) := by
          have h1 : Fr (fun a j => Lo a j ∨ a = 11 ∨ a = 153) μ μc := hF1.mono (fun a j z => by
            rcases z with z | z
            · exact Or.inl (pP_Lo a j z)
            · exact Or.inr (Or.inl z))
          have h2 : Fr (fun a j => Lo a j ∨ a = 11 ∨ a = 153) μ μ2 := h1.trans (hF2.mono (fun a j z => Or.inl (pKl_Lo a j z)))
          exact h2.trans (knM_F.mono (fun a j z => Or.inr (Or.inr z)))
        refine hI.len hFF (fun a j z => z) ?_
        obtain ⟨l1, a1, a2, a3⟩ := cut_len (q5.2.2.1 i hi) hk ci
        obtain ⟨l2, b1, b2, b3⟩ := kn_len (q5.2.2.1 j hj) hk hk1 cj
        have c153 : ∀ x, gi μ2 153 x = gi μ 153 x := fun x => (hF2.1 _ _ (by unfold pKl pK pN; omega)).trans (hF1.1 _ _ (by unfold pP1 pP pL; omega))
        have s7i : gi μ 11 i = gi μ 153 i := s.2 7 (by omega) (by omega) i hi
        have s7j : gi μ 11 j = gi μ 153 j := s.2 7 (by omega) (by omega) j hj
        have a3' : gi μ 11 i - nI k = nI l1 := a3
        have b3' : gi μ 11 j + nI k = nI l2 := b3
        have m1 : ∀ x, gi μ1 11 x = gi μ 11 x := fun x => hF.1 _ _ (by unfold pP pL; omega)
        have hq := (q5.ln hi a1 a2).ln hj b1 b2
        have fx : ∀ a x, ¬ (Lo a x ∨ a = 11 ∨ a = 153) → gi (knM μ2 i j (nI k)) a x = gi μ a x := hFF.1
        refine ⟨nr, nb, (fx _ _ (by unfold Lo; omega)).trans q1, (fx _ _ (by unfold Lo; omega)).trans q2, (fx _ _ (by unfold Lo; omega)).trans q3, (fx _ _ (by unfold Lo; omega)).trans q4, hq.cong (fun f hf x => ?_) (fun f hf x => ?_)⟩
        · by_cases f7 : f = 7
          · subst f7
            show gi (knM μ2 i j (nI k)) 11 x = lnU (lnU (fun f => gi μ (4 + f)) i (nI l1)) j (nI l2) 7 x
            rw [knM_o (by omega), hF2.1 11 x (by unfold pKl pK pN; omega), ← hmc]
            unfold knC
            by_cases y : x = j
            · subst y; rw [gi_si, lnU_e, m1]; exact b3'
            · rw [gi_si_k y, lnU_o (Or.inr y)]
              by_cases y2 : x = i
              · subst y2; rw [gi_si, lnU_e, m1]; exact a3'
              · rw [gi_si_k y2, lnU_o (Or.inr y2)]; exact m1 x
          · rw [fx _ _ (by unfold Lo; omega)]
            rw [lnU_o (Or.inl f7), lnU_o (Or.inl f7)]
        · by_cases f7 : f = 7
          · subst f7
            show gi (knM μ2 i j (nI k)) 153 x = lnU (lnU (fun f => gi μ (146 + f)) i (nI l1)) j (nI l2) 7 x
            rw [knM_7 hij, c153, c153, c153]
            by_cases y : x = j
            · subst y; rw [if_pos rfl, lnU_e, ← s7j]; exact b3'
            · rw [if_neg y, lnU_o (Or.inr y)]
              by_cases y2 : x = i
              · subst y2; rw [if_pos rfl, lnU_e, ← s7i]; exact a3'
              · rw [if_neg y2, lnU_o (Or.inr y2)]
          · rw [fx _ _ (by unfold Lo; omega)]
            rw [lnU_o (Or.inl f7), lnU_o (Or.inl f7)]
      · rw [if_neg q] at hmc
        rw [if_neg q]
        subst hmc
        exact hI.keep LRel_eq ((keep_fr hF pP_Lo).trans (keep_fr hF2 pKl_Lo))
end
section
variable {G : Gx} {d v : Nat} {μ : Mem} {bc bs : Nat} {Q : Option Value → List Sh → Mem → Nat → Nat → Prop}
theorem l_mRed {r a l o t : Int32} {nr nb : Nat} (hd : 3 ≤ d) (hr : (gi μ 144 2) = nI nr) (hr1 : 1 ≤ nr) (hrn : nr ≤ 10) (hb : (gi μ 144 3) = nI nb) (hn : nb ≤ 40) (h1 : (0 ≤ t ∧ t ≤ 7) ∧ o ≠ t → (0 ≤ r ∧ r < nI nr) ∧ (-9 ≤ a ∧ a ≤ 9) ∧ (1 ≤ l ∧ l ≤ 99) ∧ (0 ≤ o ∧ o ≤ 7) ∧ nb < 40 → Q (some (.int (nI nb))) (LAY v) (nAddRib μ nb r a l 1 o t) bc bs) (h0 : ¬ (((0 ≤ t ∧ t ≤ 7) ∧ o ≠ t) ∧ (0 ≤ r ∧ r < nI nr) ∧ (-9 ≤ a ∧ a ≤ 9) ∧ (1 ≤ l ∧ l ≤ 99) ∧ (0 ≤ o ∧ o ≤ 7) ∧ nb < 40) → Q (some (.int (-1))) (LAY v) μ bc bs) : KD G d mX11_red [.ref 144, .int r, .int a, .int l, .int o, .int t] (LAY v) μ bc bs Q := ⟨⟨_, rfl⟩, k_mRed (r := r) (a := a) (l := l) (o := o) (t := t) (nr := nr) (nb := nb) hd hr hr1 hrn hb hn h1 h0⟩
end
section
variable {G : Gx} {d v : Nat} {μ : Mem} {bc bs : Nat} {LR : Mem → Prop}
theorem bot_red (hLR : ∀ μ μ', LawEq μ μ' → LR μ → LR μ') (hd : 4 ≤ d) {r a l o t : Int32} (hI : Inv LR μ) : Bot G d LR mX10_red mX11_red [.int r, .int a, .int l, .int o, .int t] v μ bc bs := by
  obtain ⟨i1, i2, i3, i4, i5⟩ := id hI
  obtain ⟨nr, nb, q1, q2, q3, q4, q5⟩ := id i1
  obtain ⟨⟨n1, n2, n3⟩, -⟩ := id q5
  refine k_red (by omega) q1 q3 n3 (fun c ct => l_mRed (by omega) (by unfold mAddRib; simp (disch := omega) only [gi_si_a]; exact q2) n1 n2 (by unfold mAddRib; simp (disch := omega) only [gi_si_a]; exact q4) n3 (fun _ _ => ⟨rfl, v, rfl, ?_, rfl, rfl⟩) (fun q => absurd ⟨ct.2, c⟩ q)) (fun c => l_mRed (by omega) q2 n1 n2 q4 n3 (fun q z => absurd ⟨z, z.2.2.2.1, q⟩ c) (fun _ => ⟨rfl, v, rfl, hI, rfl, rfl⟩))
  unfold nAddRib mAddRib
  refine ⟨⟨nr, nb + 1, ?_, ?_, ?_, ?_, q5.ribU (k := nb) (by omega) (Or.inr ⟨rfl, rfl, c.2.2.2.2⟩) ?_ ?_ ?_ ?_ ?_⟩, i2.cong ?_ ?_ ?_ ?_, i3.cong ?_ ?_ ?_ ?_, i4.cong ?_ ?_ ?_ ?_ ?_, hLR _ _ ⟨?_, ?_, ?_, ?_, ?_⟩ i5⟩
  case refine_5 => intro f hf j h; rcases h with h | h <;> simp (disch := omega) only [gi_si_a, gi_si_k]
  case refine_6 => intro f hf j h; rcases h with h | h <;> simp (disch := omega) only [gi_si_a, gi_si_k]
  case refine_7 =>
    unfold RibOK
    simp (disch := omega) only [Nat.reduceAdd, gi_si, gi_si_a, gi_si_k]
    obtain ⟨c1, c2, c3, c4, c5⟩ := c
    obtain ⟨k, hk, rfl⟩ := ofN c1.1
    obtain ⟨l', hl', rfl⟩ := ofN (r := l) (by simp only [i_le] at *; have e : (0 : Int32).toInt = 0 := rfl; have e1 : (1 : Int32).toInt = 1 := rfl; omega)
    obtain ⟨o', ho', rfl⟩ := ofN c4.1
    have hl1 : 1 ≤ l' := (nI_leI (a := 1) (by omega) (by omega)).mp c3.1
    have hl2 : l' ≤ 99 := (nI_leI (b := 99) (by omega) (by omega)).mp c3.2
    have ho1 : o' ≤ 7 := (nI_leI (b := 7) (by omega) (by omega)).mp c4.2
    simp only [i_le] at c2
    exact ⟨⟨k, (nI_ltI (by omega) (by omega)).mp c1.2, rfl⟩, c2, ⟨l', hl2, rfl, fun _ => hl1⟩, ⟨o', by omega, rfl⟩, Or.inr ⟨trivial, by
      obtain ⟨-, ct1, ct2⟩ := ct
      obtain ⟨t2, ht2, rfl⟩ := ofN ct1.1
      exact ⟨t2, by have := (nI_leI (b := 7) (by omega) (by omega)).mp ct1.2; omega, rfl, fun q => ct2 q.symm⟩⟩⟩
  case refine_8 =>
    simp (disch := omega) only [Nat.reduceAdd, gi_si, gi_si_a, gi_si_k]
    exact Or.inr trivial
  case refine_9 =>
    intro f h5 hf
    obtain rfl | rfl | rfl | rfl | rfl | rfl | rfl : f = 5 ∨ f = 6 ∨ f = 7 ∨ f = 8 ∨ f = 9 ∨ f = 10 ∨ f = 11 := by omega
    all_goals simp (disch := omega) only [Nat.reduceAdd, gi_si, gi_si_a, gi_si_k]
  all_goals intros
  all_goals (simp (disch := omega) only [gi_si, gi_si_a, gi_si_k]; try assumption)
end
section
variable {G : Gx} {d v : Nat} {μ : Mem} {bc bs : Nat} {Q : Option Value → List Sh → Mem → Nat → Nat → Prop} {LR : Mem → Prop}
theorem l_mRibbon {w : Int32} {r : Int32} {nr nb sz n : Nat} (hd : 5 ≤ d) (hW : WM μ nr nb sz n) (h0 : ¬ (0 ≤ r ∧ r < nI nb) → Q (some (.int (-1000000000))) (LAY v) μ bc bs) (h1 : ∀ k, k < nb → r = nI k → ∀ μ', Fr pN μ μ' → Q (some (.int (rbF w (gi μ 151 (k)) (gi μ 152 (k)) (gi μ 153 (k)) (gi μ 154 (k)) (gi μ 155 (k)) (gi μ 156 (k)) (if (gi μ 157 (k)) = 0 then 0 else 1) (hvA (lawV (fun f => gi μ (30 + f)) sz n) (fun f => gi μ (146 + f)) (gi μ 144 4) k true) (hvA (lawV (fun f => gi μ (30 + f)) sz n) (fun f => gi μ (146 + f)) (gi μ 144 4) k false)))) (LAY v) μ' bc bs) : KD G d mX11_ribbon [.ref 144, .int r, .int w] (LAY v) μ bc bs Q := ⟨⟨_, rfl⟩, k_mRibbon (w := w) (r := r) (nr := nr) (nb := nb) (sz := sz) (n := n) hd hW h0 h1⟩
end
section
variable {G : Gx} {d v : Nat} {μ : Mem} {bc bs : Nat} {Q : Option Value → List Sh → Mem → Nat → Nat → Prop} {LR : Mem → Prop}
theorem bot_ribbon (hd : 7 ≤ d) {r w : Int32} (hI : Inv LRel μ) : Bot G d LRel mX10_ribbon mX11_ribbon [.int r, .int w] v μ bc bs := by
  obtain ⟨i1, i2, i3, i4, i5⟩ := id hI
  obtain ⟨nr, nb, q1, q2, q3, q4, q5⟩ := id i1
  obtain ⟨⟨n1, n2, n3⟩, -⟩ := id q5
  obtain ⟨sz, n, hC, hM⟩ := i5.both q1 q2 q3 q4 q5
  refine k_ribbon (by omega) hC (fun c => l_mRibbon (by omega) hM (fun _ => ⟨rfl, v, rfl, hI, rfl, rfl⟩) (fun k hk e μ' hF => ⟨?_, v, rfl, hI.keep LRel_eq (keep_fr hF pN_Lo), rfl, rfl⟩)) (fun k hk e c2 μ1 hF => ?_)
  · subst e
    have c2 : ¬ (0 ≤ w ∧ w ≤ 8) := fun z => c ⟨⟨nI_pos' (by omega), nI_lt hk (by omega)⟩, z⟩
    simp only [i_le, show (0 : Int32).toInt = 0 from rfl, show (8 : Int32).toInt = 8 from rfl] at c2
    unfold rbF
    rw [if_neg (by omega), if_neg (by omega), if_neg (by omega), if_neg (by omega), if_neg (by omega), if_neg (by omega), if_neg (by omega), if_neg (by omega), if_neg (by omega)]
  · subst e
    have hM1 : WM μ1 nr nb sz n := hM.fr hF pQ_SfM
    refine l_mRibbon (by omega) hM1 (fun z => absurd ⟨nI_pos' (by omega), nI_lt hk (by omega)⟩ z) (fun k' hk' e μ2 hF2 => ⟨?_, v, rfl, hI.keep LRel_eq ((keep_fr hF pQ_Lo).trans (keep_fr hF2 pN_Lo)), rfl, rfl⟩)
    have ek : k' = k := ((nI_eq (by omega) (by omega)).mp e).symm
    subst ek
    have s := fun f h5 hf => q5.2.2.2.2.2 f h5 hf k' hk
    have f : ∀ a j, 144 ≤ a → gi μ1 a j = gi μ a j := fun a j h => hF.1 a j (by unfold pQ pL; omega)
    have e9 : ∀ g, hvA (lawV (fun f => gi μ1 (30 + f)) sz n) (fun f => gi μ1 (146 + f)) (gi μ1 144 4) k' g = hvA (lawV (fun f => gi μ (30 + f)) sz n) (fun f => gi μ (4 + f)) (gi μ 3 14) k' g := fun g => by
      rw [lawV_fr (frM_W hF pQ_SfM), f 144 4 (by omega), ← i2.1.1, hvA_same n2 q5.2.2.2.2 (q5.2.2.1 k' hk) hk]
      unfold hvA
      rw [FA_fr (frM_B hF pQ_SfM)]
      dsimp only
      rw [f _ _ (by omega), f _ _ (by omega), f _ _ (by omega)]
    rw [e9 true, e9 false, f _ _ (by omega), f _ _ (by omega), f _ _ (by omega), f _ _ (by omega), f _ _ (by omega), f _ _ (by omega), f _ _ (by omega)]
    have s5 := s 5 (by omega) (by omega)
    have s6 := s 6 (by omega) (by omega)
    have s7 := s 7 (by omega) (by omega)
    have s8 := s 8 (by omega) (by omega)
    have s9 := s 9 (by omega) (by omega)
    have s10 := s 10 (by omega) (by omega)
    have s11 := s 11 (by omega) (by omega)
    simp only [Nat.reduceAdd] at s5 s6 s7 s8 s9 s10 s11
    rw [← s5, ← s6, ← s7, ← s8, ← s9, ← s10, ← s11]
end
section
variable {G : Gx} {d v : Nat} {μ : Mem} {bc bs : Nat} {Q : Option Value → List Sh → Mem → Nat → Nat → Prop}
theorem l_mRing {w : Int32} {nr nb : Nat} (hd : 3 ≤ d) (hb : (gi μ 144 3) = nI nb) (hn : nb ≤ 40) (hR : ∀ i, i < nb → RibOK (fun f => gi μ (146 + f)) nr i) (h0 : ¬ (-1 ≤ w ∧ w ≤ 8) → Q (some (.int (-1))) (LAY v) μ bc bs) (h1 : (-1 ≤ w ∧ w ≤ 8) → ∀ μ', Fr pFr μ μ' → Q (some (.int (rgF w (rgB (dbS (fun f => gi μ (146 + f)) nb) 8)))) (LAY v) μ' bc bs) : KD G d mX11_ring [.ref 144, .int w] (LAY v) μ bc bs Q := ⟨⟨_, rfl⟩, k_mRing (w := w) (nr := nr) (nb := nb) hd hb hn hR h0 h1⟩
end
section
variable {G : Gx} {d v : Nat} {μ : Mem} {bc bs : Nat} {Q : Option Value → List Sh → Mem → Nat → Nat → Prop}
theorem bot_ring (hd : 12 ≤ d) {w : Int32} (hI : Inv LRel μ) : Bot G d LRel mX10_ring mX11_ring [.int w] v μ bc bs := by
  obtain ⟨i1, i2, i3, i4, i5⟩ := id hI
  obtain ⟨nr, nb, q1, q2, q3, q4, q5⟩ := id i1
  obtain ⟨⟨n1, n2, n3⟩, q6, q7, q8, s⟩ := id q5
  have eD : ∀ {μ1}, Fr pFb μ μ1 → dbS (fun f => gi μ1 (146 + f)) nb = dbS (fun f => gi μ (4 + f)) nb := fun {μ1} hF => funext fun a => funext fun b => by
    refine dbS_cong (fun f h7 h12 i hi => ?_)
    show gi μ1 (146 + f) i = gi μ (4 + f) i
    rw [hF.1 _ _ (by unfold pFb; omega)]
    exact (s.2 f (by omega) h12 i hi).symm
  refine k_ring (by omega) q3 n3 q7 (fun c => ?_) (fun c μ1 hF => ?_)
  · refine l_mRing (by omega) q4 n3 (fun i hi => RibOK.of2 q5 hi) (fun _ => ⟨rfl, v, rfl, hI, rfl, rfl⟩) (fun c' => absurd c' c)
  · have g4 : gi μ1 144 3 = nI nb := (hF.1 _ _ (by unfold pFb; omega)).trans q4
    refine l_mRing (by omega) g4 n3 (fun i hi => (RibOK.of2 q5 hi).cong (fun f hf => hF.1 _ _ (by unfold pFb; omega))) (fun c' => absurd c c') (fun _ μ2 hF2 => ⟨?_, v, rfl, ?_, rfl, rfl⟩)
    · rw [eD hF]
    · exact hI.keep LRel_eq ((keep_fr hF pFb_Lo).trans (keep_fr hF2 pFr_Lo))
end
section
variable {G : Gx} {d v : Nat} {μ : Mem} {bc bs : Nat} {Q : Option Value → List Sh → Mem → Nat → Nat → Prop}
theorem l_mRod {on arm : Int32} {nr : Nat} (hd : 2 ≤ d) (hr : (gi μ 144 2) = nI nr) (hr1 : 1 ≤ nr) (hn : nr ≤ 10) (h1 : 0 ≤ on ∧ on < nI nr → -9 ≤ arm ∧ arm ≤ 9 → nr < 10 → Q (some (.int (nI nr))) (LAY v) (nAddRod μ nr on arm) bc bs) (h0 : ¬ ((0 ≤ on ∧ on < nI nr) ∧ (-9 ≤ arm ∧ arm ≤ 9) ∧ nr < 10) → Q (some (.int (-1))) (LAY v) μ bc bs) : KD G d mX11_rod [.ref 144, .int on, .int arm] (LAY v) μ bc bs Q := ⟨⟨_, rfl⟩, k_mRod (on := on) (arm := arm) (nr := nr) hd hr hr1 hn h1 h0⟩
end
section
variable {G : Gx} {d v : Nat} {μ : Mem} {bc bs : Nat} {LR : Mem → Prop}
theorem bot_rod (hLR : ∀ μ μ', LawEq μ μ' → LR μ → LR μ') (hd : 3 ≤ d) {on arm : Int32} (hI : Inv LR μ) : Bot G d LR mX10_rod mX11_rod [.int on, .int arm] v μ bc bs := by
  obtain ⟨i1, i2, i3, i4, i5⟩ := id hI
  obtain ⟨nr, nb, q1, q2, q3, q4, q5⟩ := id i1
  obtain ⟨⟨n1, n2, n3⟩, -⟩ := id q5
  refine k_rod (by omega) q1 n2 (fun c c2 c3 => l_mRod (by omega) (by unfold mAddRod; simp (disch := omega) only [gi_si_a]; exact q2) n1 n2 (fun _ _ _ => ⟨rfl, v, rfl, ?_, rfl, rfl⟩) (fun q => absurd ⟨c, c2, c3⟩ q)) (fun c => l_mRod (by omega) q2 n1 n2 (fun a b e => absurd ⟨a, b, e⟩ c) (fun _ => ⟨rfl, v, rfl, hI, rfl, rfl⟩))
  unfold nAddRod mAddRod
  refine ⟨⟨nr + 1, nb, ?_, ?_, ?_, ?_, q5.rodU (k := nr) (by omega) (Or.inr ⟨rfl, rfl, c3⟩) ?_ ?_ ?_ ?_ ?_⟩, i2.cong ?_ ?_ ?_ ?_, i3.cong ?_ ?_ ?_ ?_, i4.cong ?_ ?_ ?_ ?_ ?_, hLR _ _ ⟨?_, ?_, ?_, ?_, ?_⟩ i5⟩
  case refine_5 => intro f hf j h; rcases h with h | h <;> simp (disch := omega) only [gi_si_a, gi_si_k]
  case refine_6 => intro f hf j h; rcases h with h | h <;> simp (disch := omega) only [gi_si_a, gi_si_k]
  case refine_7 =>
    unfold RodOK
    simp (disch := omega) only [Nat.reduceAdd, gi_si, gi_si_a, gi_si_k]
    simp only [i_le] at c2
    obtain ⟨k, hk, rfl⟩ := ofN c.1
    exact ⟨fun q => absurd q (by omega), fun _ => ⟨k, (nI_ltI (by omega) (by omega)).mp c.2, rfl⟩, c2, by decide⟩
  case refine_8 =>
    simp (disch := omega) only [Nat.reduceAdd, gi_si, gi_si_a, gi_si_k]
    exact ⟨Or.inr trivial, Or.inl trivial⟩
  case refine_9 =>
    intro f hf
    obtain rfl | rfl | rfl | rfl | rfl : f = 0 ∨ f = 1 ∨ f = 2 ∨ f = 3 ∨ f = 4 := by omega
    all_goals simp (disch := omega) only [Nat.reduceAdd, gi_si, gi_si_a, gi_si_k]
  all_goals intros
  all_goals (simp (disch := omega) only [gi_si, gi_si_a, gi_si_k]; try assumption)
end
section
variable {G : Gx} {d v : Nat} {μ : Mem} {bc bs : Nat} {Q : Option Value → List Sh → Mem → Nat → Nat → Prop} {LR : Mem → Prop}
theorem l_mRodIs {w : Int32} {r : Int32} {nr nb sz n : Nat} (hd : 6 ≤ d) (hW : WM μ nr nb sz n) (h0 : ¬ (0 ≤ r ∧ r < nI nr) → Q (some (.int (-1000000000))) (LAY v) μ bc bs) (h1 : ∀ k, k < nr → r = nI k → ∀ μ', Fr pK μ μ' → Q (some (.int (rdF w ((WGM μ nr nb sz n (gi μ 144 4)).1 k) ((WGM μ nr nb sz n (gi μ 144 4)).2 k) (lnV ((WGM μ nr nb sz n (gi μ 144 4)).2 k) (gi μ 148 (k))) (gi μ 146 (k)) (gi μ 147 (k)) (gi μ 148 (k)) (if (gi μ 149 (k)) = 0 then 0 else 1) (if (gi μ 150 (k)) = 0 then 0 else 1)))) (LAY v) μ' bc bs) : KD G d mX11_rodIs [.ref 144, .int r, .int w] (LAY v) μ bc bs Q := ⟨⟨_, rfl⟩, k_mRodIs (w := w) (r := r) (nr := nr) (nb := nb) (sz := sz) (n := n) hd hW h0 h1⟩
end
section
variable {G : Gx} {d v : Nat} {μ : Mem} {bc bs : Nat} {Q : Option Value → List Sh → Mem → Nat → Nat → Prop} {LR : Mem → Prop}
theorem bot_rodIs (hd : 7 ≤ d) {r w : Int32} (hI : Inv LRel μ) : Bot G d LRel mX10_rodIs mX11_rodIs [.int r, .int w] v μ bc bs := by
  obtain ⟨i1, i2, i3, i4, i5⟩ := id hI
  obtain ⟨nr, nb, q1, q2, q3, q4, q5⟩ := id i1
  obtain ⟨⟨n1, n2, n3⟩, -⟩ := id q5
  obtain ⟨sz, n, hC, hM⟩ := i5.both q1 q2 q3 q4 q5
  refine k_rodIs (by omega) hC (fun c => l_mRodIs (by omega) hM (fun _ => ⟨rfl, v, rfl, hI, rfl, rfl⟩) (fun k hk e μ' hF => ⟨?_, v, rfl, hI.keep LRel_eq (keep_fr hF pK_Lo), rfl, rfl⟩)) (fun k hk e c2 μ1 hF => ?_)
  · subst e
    have c2 : ¬ (0 ≤ w ∧ w ≤ 7) := fun z => c ⟨⟨nI_pos' (by omega), nI_lt hk (by omega)⟩, z⟩
    simp only [i_le, show (0 : Int32).toInt = 0 from rfl, show (7 : Int32).toInt = 7 from rfl] at c2
    unfold rdF
    rw [if_neg (by omega), if_neg (by omega), if_neg (by omega), if_neg (by omega), if_neg (by omega), if_neg (by omega), if_neg (by omega), if_neg (by omega)]
  · subst e
    have hM1 : WM μ1 nr nb sz n := hM.fr hF (pS_SfM (Or.inl rfl))
    refine l_mRodIs (by omega) hM1 (fun z => absurd ⟨nI_pos' (by omega), nI_lt hk (by omega)⟩ z) (fun k' hk' e μ2 hF2 => ⟨?_, v, rfl, hI.keep LRel_eq ((keep_fr hF (pS_Lo (Or.inl rfl))).trans (keep_fr hF2 pK_Lo)), rfl, rfl⟩)
    have ek : k' = k := ((nI_eq (by omega) (by omega)).mp e).symm
    subst ek
    have s := q5.2.2.2.2.1
    have f : ∀ a j, 144 ≤ a → gi μ1 a j = gi μ a j := fun a j h => hF.1 a j (by unfold pS pL; omega)
    rw [WGM_fr hF (pS_SfM (Or.inl rfl)), f _ _ (by omega), f _ _ (by omega), f _ _ (by omega), f _ _ (by omega), f _ _ (by omega), f _ _ (by omega), ← i2.1.1]
    have e9 : WGM μ nr nb sz n (gi μ 3 14) = WGC μ nr nb sz n (gi μ 3 14) := (WG_same q5).symm
    rw [e9]
    have s0 := s 0 (by omega) k' hk
    have s1 := s 1 (by omega) k' hk
    have s2 := s 2 (by omega) k' hk
    have s3 := s 3 (by omega) k' hk
    have s4 := s 4 (by omega) k' hk
    simp only [Nat.reduceAdd] at s0 s1 s2 s3 s4
    rw [← s0, ← s1, ← s2, ← s3, ← s4]
    rfl
end
section
variable {G : Gx} {d v : Nat} {μ : Mem} {bc bs : Nat} {Q : Option Value → List Sh → Mem → Nat → Nat → Prop} {nr nb sz n : Nat}
theorem l_mRun {a lim w : Int32} {ts : Nat} {fb : Nat → Nat} (hd : 8 ≤ d) (hW : WM μ nr nb sz n) (h01 : ∀ i, i < nb → gi μ 157 i = 0 ∨ gi μ 157 i = 1) (hs : (gi μ 144 1) = nI ts) (hts : ts ≤ 220) (hb : ∀ j, j < ts → fb j < 256 ∧ gu μ j = nI (fb j))
    (h0 : ¬ rnC a lim w ts → Q (some (.int (-1))) (LAY v) μ bc bs)
    (h1 : rnC a lim w ts → ∀ m, 1 ≤ m → m ≤ 8 → a = nI m → rdS fb m = none → ∀ μ', Fr pRm μ μ' → gi μ' 144 1 = 0 → Q (some (.int (-2))) (LAY v) μ' bc bs)
    (h2 : rnC a lim w ts → ∀ m, 1 ≤ m → m ≤ 8 → a = nI m → ∀ b, rdS fb m = some b → ∀ μ', Fr pRm μ μ' → gi μ' 144 1 = 0 → Q (some (.int (if w = 0 then (rnS (tpB (lawV (fun f => gi μ (30 + f)) sz n) (fun f => gi μ (146 + f)) nr nb (gi μ 144 4) lim) (wlI (fun f => gi μ (146 + f)) nb) fb m).1 else (rnS (tpB (lawV (fun f => gi μ (30 + f)) sz n) (fun f => gi μ (146 + f)) nr nb (gi μ 144 4) lim) (wlI (fun f => gi μ (146 + f)) nb) fb m).2.1))) (LAY v) μ' bc bs) : KD G d mX11_run [.ref 144, .int a, .int lim, .int w] (LAY v) μ bc bs Q := ⟨⟨_, rfl⟩, k_mRun (a := a) (lim := lim) (w := w) (ts := ts) (fb := fb) hd hW h01 hs hts hb h0 h1 h2⟩
end
section
variable {G : Gx} {d v : Nat} {μ : Mem} {bc bs : Nat} {Q : Option Value → List Sh → Mem → Nat → Nat → Prop} {nr nb sz n : Nat}
theorem bot_run (hd : 9 ≤ d) {a lim w : Int32} (hI : Inv LRel μ) : Bot G d LRel mX10_run mX11_run [.int a, .int lim, .int w] v μ bc bs := by
  obtain ⟨i1, i2, i3, i4, i5⟩ := id hI
  obtain ⟨nr, nb, q1, q2, q3, q4, q5⟩ := id i1
  obtain ⟨⟨n1, n2, n3⟩, -, -, qb, s⟩ := id q5
  obtain ⟨ts, t1, t2, t3, t4⟩ := id i3
  obtain ⟨sz, n, hC, hM⟩ := i5.both q1 q2 q3 q4 q5
  have hw := i2.1.1
  obtain ⟨fb, hfb⟩ : ∃ fb : Nat → Nat, fb = fun j => (gi μ 2 j).toNatClampNeg := ⟨_, rfl⟩
  have tb : ∀ j, j < ts → fb j < 256 ∧ gi μ 2 j = nI (fb j) := fun j hj => by
    obtain ⟨b, h1, h2, -⟩ := t4 j hj
    rw [hfb]; dsimp only; rw [h2, nI_clamp (by omega)]; exact ⟨h1, rfl⟩
  have tm : ∀ {μ1}, Fr pRn μ μ1 → ∀ j, j < ts → fb j < 256 ∧ gu μ1 j = nI (fb j) := fun {μ1} hF j hj => by
    obtain ⟨b, h1, h2, h3⟩ := t4 j hj
    refine ⟨(tb j hj).1, ?_⟩
    rw [← (tb j hj).2, h2]
    unfold gu
    rw [hF.1 145 j (by unfold pRn pHp pWp pS pL; omega)]; exact h3
  have h01 : ∀ {μ1}, Fr pRn μ μ1 → ∀ i, i < nb → gi μ1 157 i = 0 ∨ gi μ1 157 i = 1 := fun {μ1} hF i hi => by
    rw [hF.1 157 i (by unfold pRn pHp pWp pS pL; omega), ← show gi μ 15 i = gi μ 157 i from s.2 11 (by omega) (by omega) i hi]
    exact qb.2 i (by omega)
  have t3' : ∀ {μ1}, Fr pRn μ μ1 → gi μ1 144 1 = nI ts := fun hF => (hF.1 _ _ (by unfold pRn pHp pWp pS pL; omega)).trans t3
  refine k_run (by omega) hC t2 t1 tb (fun c => ?_) (fun c m m1 m8 e x μ1 hF z1 => ?_) (fun c m m1 m8 e b x μ1 hF z1 => ?_)
  · refine l_mRun (fb := fb) (by omega) hM (h01 Fr.rf) t3 t1 (tm Fr.rf) (fun _ => ⟨rfl, v, rfl, hI, rfl, rfl⟩) (fun c' => absurd c' c) (fun c' => absurd c' c)
  · refine l_mRun (fb := fb) (by omega) (hM.fr2 hF pRn_Lo) (h01 hF) (t3' hF) t1 (tm hF) (fun c' => absurd c c') (fun _ m' m1' m8' e' x' μ2 hF2 z2 => ⟨rfl, v, rfl, run_inv hI hF z1 hF2 z2, rfl, rfl⟩) (fun _ m' m1' m8' e' b' x' => ?_)
    have em : m' = m := (nI_eq (by omega) (by omega)).mp (e'.symm.trans e)
    subst em
    rw [x] at x'; exact absurd x' (by simp)
  · refine l_mRun (fb := fb) (by omega) (hM.fr2 hF pRn_Lo) (h01 hF) (t3' hF) t1 (tm hF) (fun c' => absurd c c') (fun _ m' m1' m8' e' x' => ?_) (fun _ m' m1' m8' e' b' x' μ2 hF2 z2 => ⟨?_, v, rfl, run_inv hI hF z1 hF2 z2, rfl, rfl⟩)
    · have em : m' = m := (nI_eq (by omega) (by omega)).mp (e'.symm.trans e)
      subst em
      rw [x] at x'; exact absurd x' (by simp)
    · have em : m' = m := (nI_eq (by omega) (by omega)).mp (e'.symm.trans e)
      subst em
      have cB : ∀ f, f < 12 → gi μ1 (146 + f) = gi μ (146 + f) := fun f hf => funext fun j => hF.1 _ _ (by unfold pRn pHp pWp pS pL; omega)
      rw [rnS_cong (tip' := tpB (lawV (fun f => gi μ1 (30 + f)) sz n) (fun f => gi μ1 (146 + f)) nr nb (gi μ1 144 4) lim) (wl' := wlI (fun f => gi μ1 (146 + f)) nb) (fun g => ?_) (fun p _ => ?_) (fun j hj => ⟨rfl, rdS_7 x j hj⟩)]
      · rw [tpB_fr (A := fun f => gi μ (146 + f)) cB, tpB_same q5, lawV_fr (A := fun f => gi μ (30 + f)) (fun f hf => funext fun j => hF.1 _ _ (by unfold pRn pHp pWp pS pL; omega)), hF.1 144 4 (by unfold pRn pHp pWp pS pL; omega), hw]
      · rw [wlI_fr cB, wlI_same q5]
end
section
variable {G : Gx} {d v : Nat} {μ : Mem} {bc bs : Nat} {Q : Option Value → List Sh → Mem → Nat → Nat → Prop}
theorem l_mSeed {a : Int32} (hd : 1 ≤ d) (h1 : 0 ≤ a ∧ a ≤ 65535 → Q (some (.int 1)) (LAY v) (si μ 144 5 a) bc bs) (h0 : ¬ (0 ≤ a ∧ a ≤ 65535) → Q (some (.int 0)) (LAY v) μ bc bs) : KD G d mX11_seed [.ref 144, .int a] (LAY v) μ bc bs Q := ⟨⟨_, rfl⟩, k_mSeed (a := a) hd h1 h0⟩
end
section
variable {G : Gx} {d v : Nat} {μ : Mem} {bc bs : Nat} {LR : Mem → Prop}
theorem bot_seed (hLR : ∀ μ μ', LawEq μ μ' → LR μ → LR μ') (hd : 3 ≤ d) {a : Int32} (hI : Inv LR μ) : Bot G d LR mX10_seed mX11_seed [.int a] v μ bc bs := by
  refine k_seed (by omega) (fun c => l_mSeed (by omega) (fun _ => ⟨rfl, v, rfl, ?_, rfl, rfl⟩) (fun q => absurd c q)) (fun c => l_mSeed (by omega) (fun q => absurd q c) (fun _ => ⟨rfl, v, rfl, hI, rfl, rfl⟩))
  obtain ⟨i1, i2, i3, i4, i5⟩ := hI
  refine ⟨i1.cong ?_ ?_ ?_ ?_ ?_ ?_, ?_, i3.cong ?_ ?_ ?_ ?_, i4.cong ?_ ?_ ?_ ?_ ?_, hLR _ _ ⟨?_, ?_, ?_, ?_, ?_⟩ i5⟩
  case refine_7 =>
    obtain ⟨⟨q1, q2, q3⟩, q4, q5, q6⟩ := i2
    unfold NumI
    simp (disch := omega) only [gi_si, gi_si_a, gi_si_k]
    exact ⟨⟨q1, q2, q3⟩, trivial, c⟩
  all_goals intros
  all_goals (simp (disch := omega) only [gi_si, gi_si_a, gi_si_k])
end
section
variable {G : Gx} {d v : Nat} {μ : Mem} {bc bs : Nat} {Q : Option Value → List Sh → Mem → Nat → Nat → Prop}
theorem l_mSeen {r n : Int32} {nr : Nat} (hd : 2 ≤ d) (hn01 : n = 0 ∨ n = 1) (hr : (gi μ 144 2) = nI nr) (hr1 : 1 ≤ nr) (hn : nr ≤ 10) (h1 : 0 ≤ r ∧ r < nI nr → ¬ (gi μ 149 (r.toNatClampNeg)) = n → Q (some (.int 1)) (LAY v) (si μ 149 r.toNatClampNeg n) bc bs) (h0 : ¬ ((0 ≤ r ∧ r < nI nr) ∧ ¬ (gi μ 149 (r.toNatClampNeg)) = n) → Q (some (.int 0)) (LAY v) μ bc bs) : KD G d mX11_seen [.ref 144, .int r, .int n] (LAY v) μ bc bs Q := ⟨⟨_, rfl⟩, k_mSeen (r := r) (n := n) (nr := nr) hd hn01 hr hr1 hn h1 h0⟩
end
section
variable {G : Gx} {d v : Nat} {μ : Mem} {bc bs : Nat} {LR : Mem → Prop}
theorem bot_seen (hLR : ∀ μ μ', LawEq μ μ' → LR μ → LR μ') (hd : 3 ≤ d) {r n : Int32} (hn01 : n = 0 ∨ n = 1) (hI : Inv LR μ) : Bot G d LR mX10_seen mX11_seen [.int r, .int n] v μ bc bs := by
  obtain ⟨i1, i2, i3, i4, i5⟩ := id hI
  obtain ⟨nr, nb, q1, q2, q3, q4, q5⟩ := id i1
  obtain ⟨⟨n1, n2, n3⟩, -⟩ := id q5
  have hsame : 0 ≤ r ∧ r < nI nr → gi μ 149 r.toNatClampNeg = gi μ 7 r.toNatClampNeg := fun c => by
    obtain ⟨k, hk, rfl⟩ := ofN c.1
    have hkn : k < nr := (nI_ltI (by omega) (by omega)).mp c.2
    rw [nI_clamp (by omega)]
    exact (q5.2.2.2.2.1 3 (by omega) k hkn).symm
  refine k_seen (by omega) hn01 q1 n2 (fun c c2 => l_mSeen (by omega) hn01 (by simp (disch := omega) only [gi_si_a]; exact q2) n1 n2 (fun _ _ => ⟨rfl, v, rfl, ?_, rfl, rfl⟩) (fun q => absurd ⟨c, by simp (disch := omega) only [gi_si_a]; rw [hsame c]; exact c2⟩ q)) (fun c => l_mSeen (by omega) hn01 q2 n1 n2 (fun a b => absurd ⟨a, by rw [← hsame a]; exact b⟩ c) (fun _ => ⟨rfl, v, rfl, hI, rfl, rfl⟩))
  obtain ⟨k, hk, rfl⟩ := ofN c.1
  have hkn : k < nr := (nI_ltI (by omega) (by omega)).mp c.2
  rw [nI_clamp (by omega)]
  refine ⟨⟨nr, nb, ?_, ?_, ?_, ?_, q5.rodU hkn (Or.inl rfl) (k := k) ?_ ?_ ?_ ?_ ?_⟩, i2.cong ?_ ?_ ?_ ?_, i3.cong ?_ ?_ ?_ ?_, i4.cong ?_ ?_ ?_ ?_ ?_, hLR _ _ ⟨?_, ?_, ?_, ?_, ?_⟩ i5⟩
  case refine_5 => intro f hf j h; rcases h with h | h <;> simp (disch := omega) only [gi_si_a, gi_si_k]
  case refine_6 => intro f hf j h; rcases h with h | h <;> simp (disch := omega) only [gi_si_a, gi_si_k]
  case refine_7 =>
    have h9 := q5.2.1 k hkn
    unfold RodOK at h9 ⊢
    simp (disch := omega) only [Nat.reduceAdd, gi_si, gi_si_a, gi_si_k] at h9 ⊢
    exact h9
  case refine_8 =>
    have h9 := q5.2.2.2.1.1 k (by omega)
    simp (disch := omega) only [Nat.reduceAdd, gi_si, gi_si_a, gi_si_k] at h9 ⊢
    exact ⟨hn01, h9.2⟩
  case refine_9 =>
    intro f hf
    have h9 := q5.2.2.2.2.1 f hf k hkn
    by_cases e : f = 3
    · subst e
      simp (disch := omega) only [Nat.reduceAdd, gi_si, gi_si_a, gi_si_k]
    · simp (disch := omega) only [gi_si, gi_si_a, gi_si_k]
      exact h9
  all_goals intros
  all_goals (simp (disch := omega) only [gi_si, gi_si_a, gi_si_k]; try assumption)
end
section
variable {G : Gx} {d v : Nat} {μ : Mem} {bc bs : Nat} {Q : Option Value → List Sh → Mem → Nat → Nat → Prop}
theorem l_mStiff {r n : Int32} {nr : Nat} (hd : 2 ≤ d) (hr : (gi μ 144 2) = nI nr) (hr1 : 1 ≤ nr) (hn : nr ≤ 10) (h1 : 0 ≤ r ∧ r < nI nr → 1 ≤ n ∧ n ≤ 999 → Q (some (.int 1)) (LAY v) (si μ 148 r.toNatClampNeg n) bc bs) (h0 : ¬ ((0 ≤ r ∧ r < nI nr) ∧ 1 ≤ n ∧ n ≤ 999) → Q (some (.int 0)) (LAY v) μ bc bs) : KD G d mX11_stiff [.ref 144, .int r, .int n] (LAY v) μ bc bs Q := ⟨⟨_, rfl⟩, k_mStiff (r := r) (n := n) (nr := nr) hd hr hr1 hn h1 h0⟩
end
section
variable {G : Gx} {d v : Nat} {μ : Mem} {bc bs : Nat} {LR : Mem → Prop}
theorem bot_stiff (hLR : ∀ μ μ', LawEq μ μ' → LR μ → LR μ') (hd : 3 ≤ d) {r n : Int32} (hI : Inv LR μ) : Bot G d LR mX10_stiff mX11_stiff [.int r, .int n] v μ bc bs := by
  obtain ⟨i1, i2, i3, i4, i5⟩ := id hI
  obtain ⟨nr, nb, q1, q2, q3, q4, q5⟩ := id i1
  obtain ⟨⟨n1, n2, n3⟩, -⟩ := id q5
  refine k_stiff (by omega) q1 n2 (fun c c2 => l_mStiff (by omega) (by simp (disch := omega) only [gi_si_a]; exact q2) n1 n2 (fun _ _ => ⟨rfl, v, rfl, ?_, rfl, rfl⟩) (fun q => absurd ⟨c, c2⟩ q)) (fun c => l_mStiff (by omega) q2 n1 n2 (fun a b => absurd ⟨a, b⟩ c) (fun _ => ⟨rfl, v, rfl, hI, rfl, rfl⟩))
  obtain ⟨k, hk, rfl⟩ := ofN c.1
  have hkn : k < nr := (nI_ltI (by omega) (by omega)).mp c.2
  rw [nI_clamp (by omega)]
  refine ⟨⟨nr, nb, ?_, ?_, ?_, ?_, q5.rodU hkn (Or.inl rfl) (k := k) ?_ ?_ ?_ ?_ ?_⟩, i2.cong ?_ ?_ ?_ ?_, i3.cong ?_ ?_ ?_ ?_, i4.cong ?_ ?_ ?_ ?_ ?_, hLR _ _ ⟨?_, ?_, ?_, ?_, ?_⟩ i5⟩
  case refine_5 => intro f hf j h; rcases h with h | h <;> simp (disch := omega) only [gi_si_a, gi_si_k]
  case refine_6 => intro f hf j h; rcases h with h | h <;> simp (disch := omega) only [gi_si_a, gi_si_k]
  case refine_7 =>
    have h9 := q5.2.1 k hkn
    unfold RodOK at h9 ⊢
    simp (disch := omega) only [Nat.reduceAdd, gi_si, gi_si_a, gi_si_k] at h9 ⊢
    simp only [i_le] at c2
    exact ⟨h9.1, h9.2.1, h9.2.2.1, c2⟩
  case refine_8 =>
    have h9 := q5.2.2.2.1.1 k (by omega)
    simp (disch := omega) only [Nat.reduceAdd, gi_si, gi_si_a, gi_si_k] at h9 ⊢
    exact h9
  case refine_9 =>
    intro f hf
    have h9 := q5.2.2.2.2.1 f hf k hkn
    by_cases e : f = 2
    · subst e
      simp (disch := omega) only [Nat.reduceAdd, gi_si, gi_si_a, gi_si_k]
    · simp (disch := omega) only [gi_si, gi_si_a, gi_si_k]
      exact h9
  all_goals intros
  all_goals (simp (disch := omega) only [gi_si, gi_si_a, gi_si_k]; try assumption)
end
section
variable {G : Gx} {d v : Nat} {μ : Mem} {bc bs : Nat} {Q : Option Value → List Sh → Mem → Nat → Nat → Prop} {nr nb sz n : Nat}
theorem l_mSuspects {ts : Nat} (hd : 9 ≤ d) (hW : WM μ nr nb sz n) (hs : (gi μ 144 1) = nI ts) (hts : ts ≤ 220) (hn0 : anB (guB μ) (plc (fun f => gi μ (146 + f)) nr) = false → ¬ tpL (gu μ) (plc (fun f => gi μ (146 + f)) nr) < 0)
    (h0 : ¬ (nI (plc (fun f => gi μ (146 + f)) nr) ≤ nI ts) → Q (some (.long (-1))) (LAY v) μ bc bs)
    (h1 : plc (fun f => gi μ (146 + f)) nr ≤ ts → anB (guB μ) (plc (fun f => gi μ (146 + f)) nr) = true → ∀ μ', Fi pCm μ μ' → gi μ' 144 1 = 0 → Q (some (.long (-2))) (LAY v) μ' bc bs)
    (h2 : plc (fun f => gi μ (146 + f)) nr ≤ ts → anB (guB μ) (plc (fun f => gi μ (146 + f)) nr) = false → ∀ μ', Fi pCm μ μ' → gi μ' 144 1 = 0 → Q (some (.long (susF (fun i => anB (fun k => lbM μ nr nb sz n (tpL (gu μ) (plc (fun f => gi μ (146 + f)) nr)) i (nI (k + 1))) 99) nb))) (LAY v) μ' bc bs) : KD G d mX11_suspects [.ref 144] (LAY v) μ bc bs Q := ⟨⟨_, rfl⟩, k_mSuspects (ts := ts) hd hW hs hts hn0 h0 h1 h2⟩
end
section
variable {G : Gx} {d v : Nat} {μ : Mem} {bc bs : Nat}
theorem bot_suspects (hd : 10 ≤ d) (hI : Inv LRel μ) : Bot G d LRel mX10_suspects mX11_suspects [] v μ bc bs := by
  obtain ⟨i1, i2, i3, i4, i5⟩ := id hI
  obtain ⟨nr, nb, q1, q2, q3, q4, q5⟩ := id i1
  obtain ⟨⟨n1, n2, n3⟩, -, -, -, s⟩ := id q5
  obtain ⟨ts, t1, t2, t3, t4⟩ := id i3
  obtain ⟨sz, n, hC, hM⟩ := i5.both q1 q2 q3 q4 q5
  have hw := i2.1.1
  have tb : ∀ j, j < ts → ∃ b, b < 256 ∧ gi μ 2 j = nI b := fun j hj => by obtain ⟨b, h1, h2, -⟩ := t4 j hj; exact ⟨b, h1, h2⟩
  have t3' : ∀ {μ1}, Fi pWt μ μ1 → gi μ1 144 1 = nI ts := fun hF => (hF _ _ (by unfold pWt pS pL; omega)).trans t3
  have pl10 := plc_le (A := fun f => gi μ (4 + f)) (r := nr)
  have eP := plc_same s (Nat.le_refl nr)
  refine k_suspects (by omega) hC t2 t1 tb (fun c => ?_) (fun hp x μ1 hF z1 => ?_) (fun hp x μ1 hF z1 => ?_)
  · refine l_mSuspects (by omega) hM t3 t1 (hn0_of n2) (fun _ => ⟨rfl, v, rfl, hI, rfl, rfl⟩) (fun hp' => ?_) (fun hp' => ?_)
    · rw [← eP] at hp'; exact absurd ((nI_leI (by omega) (by omega)).mpr hp') c
    · rw [← eP] at hp'; exact absurd ((nI_leI (by omega) (by omega)).mpr hp') c
  · obtain ⟨p1, p2, p3, p4⟩ := wat_pre hF hM q5 hw t4 hp
    refine l_mSuspects (by omega) p1 (t3' hF) t1 (hn0_of n2) (fun z => ?_) (fun hp' x' μ2 hF2 z2 => ⟨rfl, v, rfl, wat_inv hI hF z1 hF2 z2, rfl, rfl⟩) (fun hp' x' => ?_)
    · rw [p2] at z; exact absurd ((nI_leI (by omega) (by omega)).mpr hp) z
    · rw [p2, p3, x] at x'; exact absurd x' (by decide)
  · obtain ⟨p1, p2, p3, p4⟩ := wat_pre hF hM q5 hw t4 hp
    refine l_mSuspects (by omega) p1 (t3' hF) t1 (hn0_of n2) (fun z => ?_) (fun hp' x' => ?_) (fun hp' x' μ2 hF2 z2 => ⟨?_, v, rfl, wat_inv hI hF z1 hF2 z2, rfl, rfl⟩)
    · rw [p2] at z; exact absurd ((nI_leI (by omega) (by omega)).mpr hp) z
    · rw [p2, p3, x] at x'; exact absurd x' (by decide)
    · refine congrArg (fun x => some (Value.long x)) ?_
      refine susF_cong (fun i hi => anB_cong (fun j hj => ?_))
      rw [p2, (p4 x).2 i (j + 1) hi (by omega) (by omega)]
end
section
variable {G : Gx} {d v : Nat} {μ : Mem} {bc bs : Nat} {Q : Option Value → List Sh → Mem → Nat → Nat → Prop} {LR : Mem → Prop}
theorem l_mUndo (h1 : ¬ (gi μ 144 68) = 0 → ∀ μ1 μ', μ1 = si (si (si (si μ 144 2 (gi μ 144 69)) 144 3 (gi μ 144 70)) 144 4 (gi μ 144 71)) 144 5 (gi μ 144 72) → KR kM (fun f => 146 + f) 146 157 μ1 μ' 10 40 → Q (some (.int 1)) (LAY v) μ' bc bs) (h0 : (gi μ 144 68) = 0 → Q (some (.int 0)) (LAY v) μ bc bs) : KD G d mX11_undo [.ref 144] (LAY v) μ bc bs Q := ⟨⟨_, rfl⟩, k_mUndo h1 h0⟩
end
section
variable {G : Gx} {d v : Nat} {μ : Mem} {bc bs : Nat} {Q : Option Value → List Sh → Mem → Nat → Nat → Prop} {LR : Mem → Prop}
theorem bot_undo (hLR : ∀ μ μ', LawEq μ μ' → LR μ → LR μ') (hd : 3 ≤ d) (hI : Inv LR μ) : Bot G d LR mX10_undo mX11_undo [] v μ bc bs := by
  obtain ⟨i1, i2, i3, i4, i5⟩ := id hI
  rcases id i4 with ⟨k1, k2⟩ | ⟨k1, k2, nr, nb', r1, r2, r3, r4, r5, r6⟩
  · exact k_undo (by omega) (fun z => absurd k1 z) (fun z => absurd k1 z) (fun _ => l_mUndo (fun z => absurd k2 z) (fun _ => ⟨rfl, v, rfl, hI, rfl, rfl⟩))
  have z1 : ¬ (1 : Int32) = 0 := by decide
  refine k_undo (by omega) (fun _ => r5.2.2.2.1) (fun _ μ1 hC => l_mUndo (fun _ μ2 μ3 e2 hK => ⟨rfl, v, rfl, ?_, rfl, rfl⟩) (fun z => absurd z (by rw [hC.1 144 (by omega), k2]; exact z1))) (fun z => absurd z (by rw [k1]; exact z1))
  have o : ∀ a, a ≠ 144 → ¬ (146 ≤ a ∧ a ≤ 157) → ¬ (3 ≤ a ∧ a ≤ 15) → ∀ j, gi μ3 a j = gi μ a j := fun a h1 h2 h3 j => by
    rw [hK.1 a h2, e2]
    simp (disch := omega) only [gi_si_a]
    exact hC.1 a (by omega) j
  have o144 : ∀ k, ¬ (2 ≤ k ∧ k ≤ 5) → gi μ3 144 k = gi μ 144 k := fun k hk => by
    rw [hK.1 144 (by omega), e2]
    simp (disch := omega) only [gi_si_k, gi_si_a]
    exact hC.1 144 (by omega) k
  have o16 : ∀ a, 3 ≤ a → a ≤ 15 → ∀ j, gi μ3 a j = gi μ1 a j := fun a h1 h2 j => by
    rw [hK.1 a (by omega), e2]
    simp (disch := omega) only [gi_si_a]
  have kMr : ∀ f, f < 12 → 194 ≤ kM f ∧ kM f ≤ 205 := fun f hf => by
    have e : f = 0 ∨ f = 1 ∨ f = 2 ∨ f = 3 ∨ f = 4 ∨ f = 5 ∨ f = 6 ∨ f = 7 ∨ f = 8 ∨ f = 9 ∨ f = 10 ∨ f = 11 := by omega
    rcases e with rfl | rfl | rfl | rfl | rfl | rfl | rfl | rfl | rfl | rfl | rfl | rfl <;> decide
  refine ⟨⟨nr, nb', ?_, ?_, ?_, ?_, r5.copy ?_ ?_ ?_ ?_⟩, ?_, i3.cong ?_ ?_ ?_ ?_, i4.cong ?_ ?_ ?_ ?_ ?_, hLR _ _ ⟨?_, ?_, ?_, ?_, ?_⟩ i5⟩
  case refine_1 => rw [o16 3 (by omega) (by omega), hC.2.2.2 12 (by omega) (by omega)]; exact r1
  case refine_2 =>
    rw [hK.1 144 (by omega), e2]
    simp (disch := omega) only [gi_si_k, gi_si, gi_si_a]
    rw [hC.1 144 (by omega)]; exact r2
  case refine_3 => rw [o16 3 (by omega) (by omega), hC.2.2.2 13 (by omega) (by omega)]; exact r3
  case refine_4 =>
    rw [hK.1 144 (by omega), e2]
    simp (disch := omega) only [gi_si_k, gi_si, gi_si_a]
    rw [hC.1 144 (by omega)]; exact r4
  case refine_5 => intro f hf j hj; rw [o16 (4 + f) (by omega) (by omega)]; exact hC.2.1 f hf j hj
  case refine_6 => intro f h5 hf j hj; rw [o16 (4 + f) (by omega) (by omega)]; exact hC.2.2.1 f h5 hf j hj
  case refine_7 =>
    intro f hf j hj
    have := kMr f (by omega)
    rw [hK.2.1 f hf j hj, e2]
    simp (disch := omega) only [gi_si_a]
    rw [hC.1 (kM f) (by omega)]
  case refine_8 =>
    intro f h5 hf j hj
    have := kMr f (by omega)
    rw [hK.2.2 f h5 hf j hj, e2]
    simp (disch := omega) only [gi_si_a]
    rw [hC.1 (kM f) (by omega)]
  case refine_9 =>
    unfold NumI
    rw [o16 3 (by omega) (by omega), o16 3 (by omega) (by omega), hC.2.2.2 14 (by omega) (by omega), hC.2.2.2 15 (by omega) (by omega), hK.1 144 (by omega), hK.1 144 (by omega), e2]
    simp (disch := omega) only [gi_si_k, gi_si, gi_si_a]
    rw [hC.1 144 (by omega), hC.1 144 (by omega)]
    exact r6
  all_goals intros
  all_goals first | exact o _ (by omega) (by omega) (by omega) _ | exact o144 _ (by omega)
end
section
variable {G : Gx} {d v : Nat} {μ : Mem} {bc bs : Nat} {Q : Option Value → List Sh → Mem → Nat → Nat → Prop}
theorem l_mWet {r n : Int32} {nr : Nat} (hd : 2 ≤ d) (hn01 : n = 0 ∨ n = 1) (hr : (gi μ 144 2) = nI nr) (hr1 : 1 ≤ nr) (hn : nr ≤ 10) (h1 : 0 ≤ r ∧ r < nI nr → ¬ (gi μ 150 (r.toNatClampNeg)) = n → Q (some (.int 1)) (LAY v) (si μ 150 r.toNatClampNeg n) bc bs) (h0 : ¬ ((0 ≤ r ∧ r < nI nr) ∧ ¬ (gi μ 150 (r.toNatClampNeg)) = n) → Q (some (.int 0)) (LAY v) μ bc bs) : KD G d mX11_wet [.ref 144, .int r, .int n] (LAY v) μ bc bs Q := ⟨⟨_, rfl⟩, k_mWet (r := r) (n := n) (nr := nr) hd hn01 hr hr1 hn h1 h0⟩
end
section
variable {G : Gx} {d v : Nat} {μ : Mem} {bc bs : Nat} {LR : Mem → Prop}
theorem bot_wet (hLR : ∀ μ μ', LawEq μ μ' → LR μ → LR μ') (hd : 3 ≤ d) {r n : Int32} (hn01 : n = 0 ∨ n = 1) (hI : Inv LR μ) : Bot G d LR mX10_wet mX11_wet [.int r, .int n] v μ bc bs := by
  obtain ⟨i1, i2, i3, i4, i5⟩ := id hI
  obtain ⟨nr, nb, q1, q2, q3, q4, q5⟩ := id i1
  obtain ⟨⟨n1, n2, n3⟩, -⟩ := id q5
  have hsame : 0 ≤ r ∧ r < nI nr → gi μ 150 r.toNatClampNeg = gi μ 8 r.toNatClampNeg := fun c => by
    obtain ⟨k, hk, rfl⟩ := ofN c.1
    have hkn : k < nr := (nI_ltI (by omega) (by omega)).mp c.2
    rw [nI_clamp (by omega)]
    exact (q5.2.2.2.2.1 4 (by omega) k hkn).symm
  refine k_wet (by omega) hn01 q1 n2 (fun c c2 => l_mWet (by omega) hn01 (by simp (disch := omega) only [gi_si_a]; exact q2) n1 n2 (fun _ _ => ⟨rfl, v, rfl, ?_, rfl, rfl⟩) (fun q => absurd ⟨c, by simp (disch := omega) only [gi_si_a]; rw [hsame c]; exact c2⟩ q)) (fun c => l_mWet (by omega) hn01 q2 n1 n2 (fun a b => absurd ⟨a, by rw [← hsame a]; exact b⟩ c) (fun _ => ⟨rfl, v, rfl, hI, rfl, rfl⟩))
  obtain ⟨k, hk, rfl⟩ := ofN c.1
  have hkn : k < nr := (nI_ltI (by omega) (by omega)).mp c.2
  rw [nI_clamp (by omega)]
  refine ⟨⟨nr, nb, ?_, ?_, ?_, ?_, q5.rodU hkn (Or.inl rfl) (k := k) ?_ ?_ ?_ ?_ ?_⟩, i2.cong ?_ ?_ ?_ ?_, i3.cong ?_ ?_ ?_ ?_, i4.cong ?_ ?_ ?_ ?_ ?_, hLR _ _ ⟨?_, ?_, ?_, ?_, ?_⟩ i5⟩
  case refine_5 => intro f hf j h; rcases h with h | h <;> simp (disch := omega) only [gi_si_a, gi_si_k]
  case refine_6 => intro f hf j h; rcases h with h | h <;> simp (disch := omega) only [gi_si_a, gi_si_k]
  case refine_7 =>
    have h9 := q5.2.1 k hkn
    unfold RodOK at h9 ⊢
    simp (disch := omega) only [Nat.reduceAdd, gi_si, gi_si_a, gi_si_k] at h9 ⊢
    exact h9
  case refine_8 =>
    have h9 := q5.2.2.2.1.1 k (by omega)
    simp (disch := omega) only [Nat.reduceAdd, gi_si, gi_si_a, gi_si_k] at h9 ⊢
    exact ⟨h9.1, hn01⟩
  case refine_9 =>
    intro f hf
    have h9 := q5.2.2.2.2.1 f hf k hkn
    by_cases e : f = 4
    · subst e
      simp (disch := omega) only [Nat.reduceAdd, gi_si, gi_si_a, gi_si_k]
    · simp (disch := omega) only [gi_si, gi_si_a, gi_si_k]
      exact h9
  all_goals intros
  all_goals (simp (disch := omega) only [gi_si, gi_si_a, gi_si_k]; try assumption)
end
section
variable {G : Gx} {d v : Nat} {μ : Mem} {bc bs : Nat} {Q : Option Value → List Sh → Mem → Nat → Nat → Prop}
theorem l_mWhite {r a l o : Int32} {nr nb : Nat} (hd : 3 ≤ d) (hr : (gi μ 144 2) = nI nr) (hr1 : 1 ≤ nr) (hrn : nr ≤ 10) (hb : (gi μ 144 3) = nI nb) (hn : nb ≤ 40) (h1 : (0 ≤ r ∧ r < nI nr) ∧ (-9 ≤ a ∧ a ≤ 9) ∧ (1 ≤ l ∧ l ≤ 99) ∧ (0 ≤ o ∧ o ≤ 7) ∧ nb < 40 → Q (some (.int (nI nb))) (LAY v) (nAddRib μ nb r a l 0 o (-1)) bc bs) (h0 : ¬ ((0 ≤ r ∧ r < nI nr) ∧ (-9 ≤ a ∧ a ≤ 9) ∧ (1 ≤ l ∧ l ≤ 99) ∧ (0 ≤ o ∧ o ≤ 7) ∧ nb < 40) → Q (some (.int (-1))) (LAY v) μ bc bs) : KD G d mX11_white [.ref 144, .int r, .int a, .int l, .int o] (LAY v) μ bc bs Q := ⟨⟨_, rfl⟩, k_mWhite (r := r) (a := a) (l := l) (o := o) (nr := nr) (nb := nb) hd hr hr1 hrn hb hn h1 h0⟩
end
section
variable {G : Gx} {d v : Nat} {μ : Mem} {bc bs : Nat} {LR : Mem → Prop}
theorem bot_white (hLR : ∀ μ μ', LawEq μ μ' → LR μ → LR μ') (hd : 4 ≤ d) {r a l o : Int32} (hI : Inv LR μ) : Bot G d LR mX10_white mX11_white [.int r, .int a, .int l, .int o] v μ bc bs := by
  obtain ⟨i1, i2, i3, i4, i5⟩ := id hI
  obtain ⟨nr, nb, q1, q2, q3, q4, q5⟩ := id i1
  obtain ⟨⟨n1, n2, n3⟩, -⟩ := id q5
  refine k_white (by omega) q1 q3 n3 (fun c => l_mWhite (by omega) (by unfold mAddRib; simp (disch := omega) only [gi_si_a]; exact q2) n1 n2 (by unfold mAddRib; simp (disch := omega) only [gi_si_a]; exact q4) n3 (fun _ => ⟨rfl, v, rfl, ?_, rfl, rfl⟩) (fun q => absurd c q)) (fun c => l_mWhite (by omega) q2 n1 n2 q4 n3 (fun q => absurd q c) (fun _ => ⟨rfl, v, rfl, hI, rfl, rfl⟩))
  unfold nAddRib mAddRib
  refine ⟨⟨nr, nb + 1, ?_, ?_, ?_, ?_, q5.ribU (k := nb) (by omega) (Or.inr ⟨rfl, rfl, c.2.2.2.2⟩) ?_ ?_ ?_ ?_ ?_⟩, i2.cong ?_ ?_ ?_ ?_, i3.cong ?_ ?_ ?_ ?_, i4.cong ?_ ?_ ?_ ?_ ?_, hLR _ _ ⟨?_, ?_, ?_, ?_, ?_⟩ i5⟩
  case refine_5 => intro f hf j h; rcases h with h | h <;> simp (disch := omega) only [gi_si_a, gi_si_k]
  case refine_6 => intro f hf j h; rcases h with h | h <;> simp (disch := omega) only [gi_si_a, gi_si_k]
  case refine_7 =>
    unfold RibOK
    simp (disch := omega) only [Nat.reduceAdd, gi_si, gi_si_a, gi_si_k]
    obtain ⟨c1, c2, c3, c4, c5⟩ := c
    obtain ⟨k, hk, rfl⟩ := ofN c1.1
    obtain ⟨l', hl', rfl⟩ := ofN (r := l) (by simp only [i_le] at *; have e : (0 : Int32).toInt = 0 := rfl; have e1 : (1 : Int32).toInt = 1 := rfl; omega)
    obtain ⟨o', ho', rfl⟩ := ofN c4.1
    have hl1 : 1 ≤ l' := (nI_leI (a := 1) (by omega) (by omega)).mp c3.1
    have hl2 : l' ≤ 99 := (nI_leI (b := 99) (by omega) (by omega)).mp c3.2
    have ho1 : o' ≤ 7 := (nI_leI (b := 7) (by omega) (by omega)).mp c4.2
    simp only [i_le] at c2
    exact ⟨⟨k, (nI_ltI (by omega) (by omega)).mp c1.2, rfl⟩, c2, ⟨l', hl2, rfl, fun _ => hl1⟩, ⟨o', by omega, rfl⟩, Or.inl ⟨trivial, trivial⟩⟩
  case refine_8 =>
    simp (disch := omega) only [Nat.reduceAdd, gi_si, gi_si_a, gi_si_k]
    exact Or.inr trivial
  case refine_9 =>
    intro f h5 hf
    obtain rfl | rfl | rfl | rfl | rfl | rfl | rfl : f = 5 ∨ f = 6 ∨ f = 7 ∨ f = 8 ∨ f = 9 ∨ f = 10 ∨ f = 11 := by omega
    all_goals simp (disch := omega) only [Nat.reduceAdd, gi_si, gi_si_a, gi_si_k]
  all_goals intros
  all_goals (simp (disch := omega) only [gi_si, gi_si_a, gi_si_k]; try assumption)
end
section
variable {G : Gx} {d v : Nat} {μ : Mem} {bc bs : Nat} {Q : Option Value → List Sh → Mem → Nat → Nat → Prop}
theorem l_mWind {a : Int32} (hd : 1 ≤ d) (h1 : -9 ≤ a ∧ a ≤ 9 → Q (some (.int 1)) (LAY v) (si μ 144 4 a) bc bs) (h0 : ¬ (-9 ≤ a ∧ a ≤ 9) → Q (some (.int 0)) (LAY v) μ bc bs) : KD G d mX11_wind [.ref 144, .int a] (LAY v) μ bc bs Q := ⟨⟨_, rfl⟩, k_mWind (a := a) hd h1 h0⟩
end
section
variable {G : Gx} {d v : Nat} {μ : Mem} {bc bs : Nat} {LR : Mem → Prop}
theorem bot_wind (hLR : ∀ μ μ', LawEq μ μ' → LR μ → LR μ') (hd : 3 ≤ d) {a : Int32} (hI : Inv LR μ) : Bot G d LR mX10_wind mX11_wind [.int a] v μ bc bs := by
  refine k_wind (by omega) (fun c => l_mWind (by omega) (fun _ => ⟨rfl, v, rfl, ?_, rfl, rfl⟩) (fun q => absurd c q)) (fun c => l_mWind (by omega) (fun q => absurd q c) (fun _ => ⟨rfl, v, rfl, hI, rfl, rfl⟩))
  obtain ⟨i1, i2, i3, i4, i5⟩ := hI
  refine ⟨i1.cong ?_ ?_ ?_ ?_ ?_ ?_, ?_, i3.cong ?_ ?_ ?_ ?_, i4.cong ?_ ?_ ?_ ?_ ?_, hLR _ _ ⟨?_, ?_, ?_, ?_, ?_⟩ i5⟩
  case refine_7 =>
    obtain ⟨⟨q1, q2, q3⟩, q4, q5, q6⟩ := i2
    unfold NumI
    simp (disch := omega) only [gi_si, gi_si_a, gi_si_k]
    exact ⟨⟨trivial, c⟩, q4, q5, q6⟩
  all_goals intros
  all_goals (simp (disch := omega) only [gi_si, gi_si_a, gi_si_k])
end
