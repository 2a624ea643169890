section GU3
variable {G : Gx} {d v : Nat} {μ : Mem} {bc bs : Nat} {nr nb sz n : Nat}
/-- as Both, where rows may be made -/
def BothG (G : Gx) (d : Nat) (LR : Mem → Prop) (N N' : MI) (as : List Value) (v : Nat) (μ : Mem) (bc bs : Nat) : Prop :=
  KC G d N (.ref 0 :: as) (LAY v) μ bc bs (fun r lay1 μ1 bc1 bs1 => KC G d N' (.ref 144 :: as) lay1 μ1 bc1 bs1 (fun r2 lay2 μ2 bc2 bs2 => r = r2 ∧ ∃ v2, v2 ≤ 2 ∧ lay2 = LAY v2 ∧ Inv LR μ2 ∧ bc2 = bc - 2 ∧ bs2 = bs - 7840))
theorem gB_cong {M M' : Nat → Nat} : ∀ {m : Nat}, (∀ k, k < m → M k = M' k) → gB M m = gB M' m
  | 0, _ => rfl
  | m + 1, h => by
    have ih := gB_cong (M := M) (M' := M') (m := m) (fun k hk => h k (by omega))
    rw [gB, gB, ih, h m (by omega)]
    by_cases c : m = 0
    · subst c; rw [show gB M' 0 = 0 from rfl, h 0 (by omega)]
    · rw [h (gB M' m) (by have := gB_lt (M := M') (k := m) (by omega); omega)]
theorem pc_eq {i l : Nat} {w : Int32} (hM : WM μ nr nb sz n) (q5 : LedOK (fun f => gi μ (4 + f)) (fun f => gi μ (146 + f)) nr nb) (hi : i < nb) (h1 : 1 ≤ l) (h2 : l ≤ 99) (c : ¬ gi μ 157 i = 0) : picM (si μ 153 i (nI l)) nr nb sz n w = pcM μ nr nb sz n w (i, l) := by
  obtain ⟨⟨n1, n2, n3⟩, q2, q3, q4, s⟩ := id q5
  unfold picM pcM pcL
  refine picL_cong (fun r hr => ?_) (fun r hr _ => ?_)
  · show (!decide (gi (si μ 153 i (nI l)) 149 r = 0)) = !decide (gi μ 7 r = 0)
    rw [gi_si_a (by omega), show gi μ 7 r = gi μ 149 r from s.1 3 (by omega) r hr]
  · have eLV : lawV (fun f => gi (si μ 153 i (nI l)) (30 + f)) sz n = lawV (fun f => gi μ (30 + f)) sz n := lawV_fr (fun f hf => funext (fun x => gi_si_a (by omega)))
    have x : (WGM (si μ 153 i (nI l)) nr nb sz n w).2 r = mo0 (lawV (fun f => gi μ (30 + f)) sz n) (fun f => gi μ (4 + f)) nr nb w r + cL (lawV (fun f => gi μ (30 + f)) sz n) (fun f => gi μ (4 + f)) w i (nI l) r := by
      rw [cL_same q5 hi]
      unfold mo0
      rw [WG_same q5]
      unfold WGM
      rw [eLV, WG_one (A := fun f => gi μ (146 + f)) (i := i) (WFd.of2 q5) (hM.ln h1 h2).2.2.1 (fun f hf h7 => funext (fun x => gi_si_a (by omega))) hi (fun x hx z => gi_si_k z) c]
      rw [show gi (si μ 153 i (nI l)) (146 + 7) i = nI l from gi_si]
      rfl
    show lnV ((WGM (si μ 153 i (nI l)) nr nb sz n w).2 r) (gi (si μ 153 i (nI l)) 148 r) = _
    rw [x, gi_si_a (by omega), show gi μ 148 r = gi μ 6 r from (s.1 2 (by omega) r hr).symm]
theorem gus_pre {μ1 : Mem} {ts : Nat} (hF : Fi pGt μ μ1) (hM : WM μ nr nb sz n) (q5 : LedOK (fun f => gi μ (4 + f)) (fun f => gi μ (146 + f)) nr nb) (hw : (gi μ 3 14) = (gi μ 144 4)) (t4 : ∀ j, j < ts → ∃ b, b < 256 ∧ gi μ 2 j = nI b ∧ gi μ 145 j &&& 255 = nI b) (hp : plc (fun f => gi μ (4 + f)) nr ≤ ts) : WM μ1 nr nb sz n ∧ plc (fun f => gi μ1 (146 + f)) nr = plc (fun f => gi μ (4 + f)) nr ∧ (∀ j, j < ts → gu μ1 j = gi μ 2 j) ∧ anB (guB μ1) (plc (fun f => gi μ (4 + f)) nr) = anB (tdB μ) (plc (fun f => gi μ (4 + f)) nr) ∧ (anB (tdB μ) (plc (fun f => gi μ (4 + f)) nr) = false → mlL μ1 nr nb sz n (tpL (gu μ1) (plc (fun f => gi μ (4 + f)) nr)) = gsL μ nr nb sz n) := by
  obtain ⟨⟨n1, n2, n3⟩, -, -, -, s⟩ := id q5
  have eP : plc (fun f => gi μ1 (146 + f)) nr = plc (fun f => gi μ (4 + f)) nr := by
    have e : ∀ r, plc (fun f => gi μ1 (146 + f)) r = plc (fun f => gi μ (146 + f)) r := by
      intro r
      induction r with
      | zero => rfl
      | succ r ih =>
        have x : snB (fun f => gi μ1 (146 + f)) r = snB (fun f => gi μ (146 + f)) r := by
          show (!decide (gi μ1 149 r = 0)) = !decide (gi μ 149 r = 0)
          rw [hF 149 r (by unfold pGt pS pL; omega)]
        rw [plc, plc, ih, x]
    rw [e, plc_same s (Nat.le_refl _)]
  have eg : gu μ1 = gu μ := funext (fun x => by unfold gu; rw [hF 145 x (by unfold pGt pS pL; omega)])
  have eG : ∀ j, j < ts → gu μ1 j = gi μ 2 j := fun j hj => by
    obtain ⟨b, x1, x2, x3⟩ := t4 j hj
    rw [eg, show gu μ j = nI b from x3, x2]
  have eB : anB (guB μ1) (plc (fun f => gi μ (4 + f)) nr) = anB (tdB μ) (plc (fun f => gi μ (4 + f)) nr) := anB_cong (fun k hk => by
    unfold guB tdB
    rw [eG k (by omega)])
  refine ⟨hM.fi hF pGt_Lo, eP, eG, eB, fun c => ?_⟩
  have hg : ∀ k, k < plc (fun f => gi μ (4 + f)) nr → ∃ b, b ≤ 18 ∧ gi μ 2 k = nI b ∧ gu μ k = nI b := fun k hk => by
    obtain ⟨b, x1, x2, x3⟩ := t4 k (by omega)
    refine ⟨b, ?_, x2, x3⟩
    refine Decidable.byContradiction (fun z => ?_)
    have := anB_t (p := tdB μ) hk (by unfold tdB; rw [x2, decide_eq_false (p := nI b ≤ 18) (fun y => z ((nI_leI (b := 18) (by omega) (by omega)).mp y))]; rfl)
    rw [c] at this; exact absurd this (by decide)
  unfold mlL gsL
  refine clA_cong (fun i j hi hj => ?_)
  have := lb_eq hM q5 hw hi (l := j + 1) (by omega) (by omega) hg
  rw [← plc_same s (Nat.le_refl _)] at this
  rw [eg, ← this]
  exact lbM_f3 hF (fun a j z => by unfold pGt pS pL at z; unfold Lo; omega)
theorem gus_inv {μ1 μ2 : Mem} (hI : Inv LRel μ) (hF : Fi pGt μ μ1) (z1 : gi μ1 1 1 = 0) (hF2 : Fi pGm μ1 μ2) (z2 : gi μ2 144 1 = 0) : Inv LRel μ2 := by
  obtain ⟨i1, i2, i3, i4, i5⟩ := id hI
  have c : ∀ a j, ¬ pGt a j → ¬ pGm a j → gi μ2 a j = gi μ a j := fun a j x y => (hF2 a j y).trans (hF a j x)
  refine hI.fi ((hF.mono pGt_Lo).trans (hF2.mono pGm_Lo)) (fun _ _ z => z) (i2.cong ?_ ?_ ?_ ?_) ⟨0, by omega, (hF2 1 1 (by unfold pGm pMf pK pN; omega)).trans z1, z2, fun j hj => absurd hj (by omega)⟩
  all_goals exact c _ _ (by unfold pGt pS pL; omega) (by unfold pGm pMf pK pN; omega)
theorem both_gust (hd : 10 ≤ d) (hv : v ≤ 2) (hbc : 2 ≤ bc) (hbs : 7840 ≤ bs) {a w : Int32} (hI : Inv LRel μ) : BothG G d LRel mX10_gust mX11_gust [.int a, .int w] v μ bc bs := by
  obtain ⟨i1, i2, i3, i4, i5⟩ := id hI
  obtain ⟨nr, nb, q1, q2, q3, q4, q5⟩ := id i1
  obtain ⟨⟨n1, n2, n3⟩, -, -, -, s⟩ := id q5
  obtain ⟨ts, t1, t2, t3, t4⟩ := id i3
  obtain ⟨sz, n, hC, hM⟩ := i5.both q1 q2 q3 q4 q5
  have hw := i2.1.1
  have tb : ∀ j, j < ts → ∃ b, b < 256 ∧ gi μ 2 j = nI b := fun j hj => by obtain ⟨b, h1, h2, -⟩ := t4 j hj; exact ⟨b, h1, h2⟩
  have t3' : ∀ {μ1}, Fi pGt μ μ1 → gi μ1 144 1 = nI ts := fun hF => (hF _ _ (by unfold pGt pS pL; omega)).trans t3
  have pl10 := plc_le (A := fun f => gi μ (4 + f)) (r := nr)
  have eP := plc_same s (Nat.le_refl nr)
  obtain ⟨pl, hpl⟩ : ∃ pl, pl = plc (fun f => gi μ (4 + f)) nr := ⟨_, rfl⟩
  have cond : ∀ m, 1 ≤ m → m ≤ 6 → a = nI m → (0 ≤ w ∧ w ≤ 1) → pl + m ≤ ts → (1 ≤ a ∧ a ≤ 6) ∧ (0 ≤ w ∧ w ≤ 1) ∧ nI pl + a ≤ nI ts := fun m x1 x2 e cw x3 => by
    subst e
    refine ⟨⟨nI_le (a := 1) x1 (by omega), nI_le (b := 6) x2 (by omega)⟩, cw, ?_⟩
    rw [nI_add]; exact nI_le x3 (by omega)
  have wnE : ∀ {μ1 : Mem} {m : Nat}, (∀ j, j < ts → gu μ1 j = gi μ 2 j) → pl + m ≤ ts → anB (fun j => guB μ1 (pl + j)) m = anB (wnB μ pl) m := fun {μ1 m} e hm => anB_cong (fun j hj => by unfold guB wnB; rw [e _ (by omega)])
  unfold BothG
  refine k_gust (by omega) hv hbc hbs hC t2 t1 tb (fun c => ?_) (fun m x1 x2 e cw x3 x μ1 hF z1 => ?_) (fun m x1 x2 e cw x3 x L0 μ1 hF z1 => ?_) (fun m x1 x2 e cw x3 x L0 μ1 hF z1 => ?_)
  · rw [← hpl] at c
    refine k_mGust (by omega) hM t3 t1 (hn0_of n2) (fun _ => ⟨rfl, v, hv, rfl, hI, rfl, rfl⟩) (fun m x1 x2 e cw x3 => ?_) (fun m x1 x2 e cw x3 => ?_) (fun m x1 x2 e cw x3 => ?_)
    all_goals (rw [← eP, ← hpl] at x3; exact absurd (cond m x1 x2 e cw x3) c)
  · rw [← hpl] at x3 x
    obtain ⟨p1, p2, p3, p4, p5⟩ := gus_pre hF hM q5 hw t4 (by rw [← hpl]; omega)
    rw [← hpl] at p2 p4 p5
    refine k_mGust (by omega) p1 (t3' hF) t1 (hn0_of n2) (fun z => ?_) (fun m' y1 y2 e' cw' y3 y μ2 hF2 z2 => ⟨rfl, v, hv, rfl, gus_inv hI hF z1 hF2 z2, rfl, rfl⟩) (fun m' y1 y2 e' cw' y3 y => ?_) (fun m' y1 y2 e' cw' y3 y => ?_)
    · rw [p2] at z; exact absurd (cond m x1 x2 e cw x3) z
    all_goals
      have em : m' = m := (nI_eq (by omega) (by omega)).mp (e'.symm.trans e)
      subst em
      rw [p2, p4, wnE p3 x3, x] at y; exact absurd y (by decide)
  · rw [← hpl] at x3 x
    obtain ⟨p1, p2, p3, p4, p5⟩ := gus_pre hF hM q5 hw t4 (by rw [← hpl]; omega)
    rw [← hpl] at p2 p4 p5
    have xt := (Bool.or_eq_false_iff.mp x).1
    refine k_mGust (by omega) p1 (t3' hF) t1 (hn0_of n2) (fun z => ?_) (fun m' y1 y2 e' cw' y3 y => ?_) (fun m' y1 y2 e' cw' y3 y _ μ2 hF2 z2 => ⟨rfl, max v 1, by omega, rfl, gus_inv hI hF z1 hF2 z2, rfl, rfl⟩) (fun m' y1 y2 e' cw' y3 y L eL hL => ?_)
    · rw [p2] at z; exact absurd (cond m x1 x2 e cw x3) z
    · have em : m' = m := (nI_eq (by omega) (by omega)).mp (e'.symm.trans e)
      subst em
      rw [p2, p4, wnE p3 x3, x] at y; exact absurd y (by decide)
    · rw [p2, p5 xt] at eL
      rw [eL, L0] at hL
      exact absurd hL (by omega)
  · rw [← hpl] at x3 x
    obtain ⟨p1, p2, p3, p4, p5⟩ := gus_pre hF hM q5 hw t4 (by rw [← hpl]; omega)
    rw [← hpl] at p2 p4 p5 ⊢
    have xt := (Bool.or_eq_false_iff.mp x).1
    refine k_mGust (by omega) p1 (t3' hF) t1 (hn0_of n2) (fun z => ?_) (fun m' y1 y2 e' cw' y3 y => ?_) (fun m' y1 y2 e' cw' y3 y yL => ?_) (fun m' y1 y2 e' cw' y3 y L eL hL μ2 hF2 z2 => ⟨?_, 2, by omega, rfl, gus_inv hI hF z1 hF2 z2, rfl, rfl⟩)
    · rw [p2] at z; exact absurd (cond m x1 x2 e cw x3) z
    · have em : m' = m := (nI_eq (by omega) (by omega)).mp (e'.symm.trans e)
      subst em
      rw [p2, p4, wnE p3 x3, x] at y; exact absurd y (by decide)
    · rw [p2, p5 xt] at yL
      rw [yL] at L0
      exact absurd L0 (by omega)
    · have em : m' = m := (nI_eq (by omega) (by omega)).mp (e'.symm.trans e)
      subst em
      rw [p2, p5 xt] at eL
      rw [p2, ← eL]
      have eM : ∀ k, k < m' → crM μ nr nb sz n L pl k = crW μ1 nr nb sz n L pl k := fun k hk => by
        unfold crM crW
        refine mstA_cong (fun j hj => ?_)
        rw [p3 _ (by omega), picM_fi (si153 hF) pGt_Lo]
        rw [eL] at hj ⊢
        obtain ⟨i, jj, u1, u2, u3, u4⟩ := clA_mem (cg_mem hj)
        rw [show cg (gsL μ nr nb sz n) j = (i, jj + 1) from u4]
        refine (pc_eq hM q5 u1 (by omega) (by omega) (fun z => ?_)).symm
        unfold fB at u3
        rw [decide_eq_true (show (fun f => gi μ (4 + f)) 11 i = 0 from (s.2 11 (by omega) (by omega) i u1).trans z), Bool.not_true, Bool.false_and, Bool.false_and] at u3
        exact absurd u3 (by decide)
      have eG := gB_cong eM
      have lt := gB_lt (M := crW μ1 nr nb sz n L pl) (k := m') (by omega)
      rw [eG, eM _ lt, p3 _ (by omega)]
end GU3
