/-- one length changes -/
theorem WG_one {LV : (Nat → Int32) → Bool → Int32} {A A' : Nat → Nat → Int32} {nr nb i r : Nat} {wd : Int32} (hW : WFd A nr nb) (hW' : WFd A' nr nb) (h : ∀ f, f < 12 → f ≠ 7 → A' f = A f) (hi : i < nb) (h7 : ∀ k, k < nb → k ≠ i → A' 7 k = A 7 k) (ci : ¬ A 11 i = 0) : (WG A' (hvA LV A' wd) nr nb).2 r = (WG A (hvA LV A wd) nr nb).2 r + ctr A (A 5 i).toNatClampNeg (A 6 i) (hvL LV A wd i (A' 7 i) true - hvA LV A wd i true) (hvL LV A wd i (A' 7 i) false - hvA LV A wd i false) r := by
  rw [WG_sum hW' (Nat.le_refl _), WG_sum hW (Nat.le_refl _), ctr_sub]
  have e1 := sm_upd (f := cR A (hvA LV A wd) r) (g := cR A' (hvA LV A' wd) r) (i := i) (n := nb) hi (fun k hk hki => by rw [cR_len h, h7 k hk hki]; rfl)
  rw [e1, cR_len h, if_neg ci]
  unfold cR
  rw [if_neg ci]
section FAL2
variable {G : Gx} {d v : Nat} {μ : Mem} {bc bs : Nat} {Q : Option Value → List Sh → Mem → Nat → Nat → Prop} {nr nb sz n : Nat}
theorem plc_same {A B : Nat → Nat → Int32} (h : Same A B nr nb) : ∀ {r : Nat}, r ≤ nr → plc A r = plc B r
  | 0, _ => rfl
  | r + 1, hr => by
    have e : snB A r = snB B r := by unfold snB; rw [h.1 3 (by omega) r (by omega)]
    rw [plc, plc, plc_same h (by omega), e]
theorem cL_same {LV : (Nat → Int32) → Bool → Int32} {A B : Nat → Nat → Int32} {i x : Nat} {w l : Int32} (h : LedOK A B nr nb) (hi : i < nb) : cL LV A w i l x = cL LV B w i l x := by
  obtain ⟨⟨n1, n2, n3⟩, q2, q3, q4, q5⟩ := id h
  have hr := q3 i hi
  obtain ⟨⟨r, hr0, er⟩, -⟩ := id hr
  unfold cL
  rw [hvL_same n2 q5 hr hi, hvL_same n2 q5 hr hi, hvA_same n2 q5 hr hi, hvA_same n2 q5 hr hi, ← q5.2 5 (by omega) (by omega) i hi, ← q5.2 6 (by omega) (by omega) i hi, er, nI_clamp (by omega)]
  exact (ctr_A (WFd.of h).on n2 (fun j hj => (q5.1 0 (by omega) j hj).symm) (fun j hj => (q5.1 1 (by omega) j hj).symm) hr0).symm
theorem lb_eq {i l : Nat} (hM : WM μ nr nb sz n) (q5 : LedOK (fun f => gi μ (4 + f)) (fun f => gi μ (146 + f)) nr nb) (hw : (gi μ 3 14) = (gi μ 144 4)) (hi : i < nb) (h1 : 1 ≤ l) (h2 : l ≤ 99) (hg : ∀ k, k < plc (fun f => gi μ (4 + f)) nr → ∃ b, b ≤ 18 ∧ gi μ 2 k = nI b ∧ gu μ k = nI b) : lbM μ nr nb sz n (tpL (gu μ) (plc (fun f => gi μ (146 + f)) nr)) i (nI l) = fB (lawV (fun f => gi μ (30 + f)) sz n) (fun f => gi μ (4 + f)) nr nb (gi μ 3 14) (tdT μ) i (nI l) := by
  obtain ⟨⟨n1, n2, n3⟩, q2, q3, q4, s⟩ := id q5
  have s11 : gi μ 15 i = gi μ 157 i := s.2 11 (by omega) (by omega) i hi
  have s7 : gi μ 11 i = gi μ 153 i := s.2 7 (by omega) (by omega) i hi
  unfold lbM cbM fB
  by_cases c : gi μ 157 i = 0
  · rw [decide_eq_true c, decide_eq_true (show (fun f => gi μ (4 + f)) 11 i = 0 from s11.trans c)]; rfl
  · rw [decide_eq_false c, decide_eq_false (show ¬ (fun f => gi μ (4 + f)) 11 i = 0 from fun z => c (s11.symm.trans z))]
    have el : decide (nI l = gi μ 153 i) = decide ((fun f => gi μ (4 + f)) 7 i = nI l) := by
      show decide (nI l = gi μ 153 i) = decide (gi μ 11 i = nI l)
      rw [s7]
      by_cases z : nI l = gi μ 153 i
      · rw [decide_eq_true z, decide_eq_true z.symm]
      · rw [decide_eq_false z, decide_eq_false (fun y => z y.symm)]
    rw [el]
    obtain ⟨-, t2, t3⟩ := tp_lo (A := fun f => gi μ (4 + f)) (f := gu μ) (r := nr) n2 (fun k hk => by obtain ⟨b, x1, x2, x3⟩ := hg k hk; exact ⟨b, x1, x3⟩)
    rw [← plc_same s (Nat.le_refl _), t2, ← hw]
    have e1 : picM (si μ 153 i (nI l)) nr nb sz n (gi μ 3 14) = picL (snB (fun f => gi μ (4 + f))) (fun r => lnV (mo0 (lawV (fun f => gi μ (30 + f)) sz n) (fun f => gi μ (4 + f)) nr nb (gi μ 3 14) r + cL (lawV (fun f => gi μ (30 + f)) sz n) (fun f => gi μ (4 + f)) (gi μ 3 14) i (nI l) r) (gi μ 6 r)) nr := by
      unfold picM
      refine picL_cong (fun r hr => ?_) (fun r hr _ => ?_)
      · show (!decide (gi (si μ 153 i (nI l)) 149 r = 0)) = !decide (gi μ 7 r = 0)
        rw [gi_si_a (by omega), show gi μ 7 r = gi μ 149 r from s.1 3 (by omega) r hr]
      · have eLV : lawV (fun f => gi (si μ 153 i (nI l)) (30 + f)) sz n = lawV (fun f => gi μ (30 + f)) sz n := lawV_fr (fun f hf => funext (fun x => gi_si_a (by omega)))
        have x : (WGM (si μ 153 i (nI l)) nr nb sz n (gi μ 3 14)).2 r = mo0 (lawV (fun f => gi μ (30 + f)) sz n) (fun f => gi μ (4 + f)) nr nb (gi μ 3 14) r + cL (lawV (fun f => gi μ (30 + f)) sz n) (fun f => gi μ (4 + f)) (gi μ 3 14) i (nI l) r := by
          rw [cL_same q5 hi]
          unfold mo0
          rw [WG_same q5]
          unfold WGM
          rw [eLV, WG_one (A := fun f => gi μ (146 + f)) (i := i) (WFd.of2 q5) (hM.ln h1 h2).2.2.1 (fun f hf h7 => funext (fun x => gi_si_a (by omega))) hi (fun x hx z => gi_si_k z) c]
          rw [show gi (si μ 153 i (nI l)) (146 + 7) i = nI l from gi_si]
          rfl
        rw [x, gi_si_a (by omega), show gi μ 6 r = gi μ 148 r from s.1 2 (by omega) r hr]
    rw [e1]
    have q := picL_eq (sn := snB (fun f => gi μ (4 + f))) (ln := fun r => lnV (mo0 (lawV (fun f => gi μ (30 + f)) sz n) (fun f => gi μ (4 + f)) nr nb (gi μ 3 14) r + cL (lawV (fun f => gi μ (30 + f)) sz n) (fun f => gi μ (4 + f)) (gi μ 3 14) i (nI l) r) (gi μ 6 r)) (ln' := fun x => if snB (fun f => gi μ (4 + f)) x = true then gu μ (plc (fun f => gi μ (4 + f)) x) - 9 else 0) (n := nr) n2 (fun r _ => lnV_b) t3
    have q' := anB_dec q
    have e2 : anB (fun r => snB (fun f => gi μ (4 + f)) r && !decide (lnV (mo0 (lawV (fun f => gi μ (30 + f)) sz n) (fun f => gi μ (4 + f)) nr nb (gi μ 3 14) r + cL (lawV (fun f => gi μ (30 + f)) sz n) (fun f => gi μ (4 + f)) (gi μ 3 14) i (nI l) r) (gi μ 6 r) = if snB (fun f => gi μ (4 + f)) r = true then gu μ (plc (fun f => gi μ (4 + f)) r) - 9 else 0)) nr = anB (fun r => snB (fun f => gi μ (4 + f)) r && !decide (lnV (mo0 (lawV (fun f => gi μ (30 + f)) sz n) (fun f => gi μ (4 + f)) nr nb (gi μ 3 14) r + cL (lawV (fun f => gi μ (30 + f)) sz n) (fun f => gi μ (4 + f)) (gi μ 3 14) i (nI l) r) (gi μ 6 r) = tdT μ r)) nr := by
      refine anB_cong (fun r hr => ?_)
      cases z : snB (fun f => gi μ (4 + f)) r with
      | false => rfl
      | true =>
        have p1 := plc_mono (A := fun f => gi μ (4 + f)) (show r + 1 ≤ nr by omega)
        rw [plc, if_pos z] at p1
        obtain ⟨b, x1, x2, x3⟩ := hg (plc (fun f => gi μ (4 + f)) r) (by omega)
        rw [if_pos rfl]
        unfold tdT
        rw [x2, x3]
    rw [e2] at q'
    have q2 : ∀ {x y : Bool}, (!x) = y → x = !y := fun {x y} => by cases x <;> cases y <;> decide
    rw [q2 q']
    cases decide ((fun f => gi μ (4 + f)) 7 i = nI l) with
    | true => rw [Bool.not_true, Bool.and_false]; rfl
    | false => rw [Bool.not_false, Bool.and_true]; rfl
end FAL2
