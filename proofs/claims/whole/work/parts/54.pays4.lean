/-- what the change of ribbon i by a payment of n gives to rod x -/
def chD (LV : (Nat → Int32) → Bool → Int32) (A : Nat → Nat → Int32) (wd p n : Int32) (i x : Nat) : Int32 := ctr A (A 5 i).toNatClampNeg (A 6 i) (hvL LV A wd i (lnC A p n i) true - hvA LV A wd i true) (hvL LV A wd i (lnC A p n i) false - hvA LV A wd i false) x
def othA (LV : (Nat → Int32) → Bool → Int32) (A : Nat → Nat → Int32) (nr nb : Nat) (wd p n : Int32) (i j : Nat) : Int32 := cnB (fun r => !decide (lnV ((WG A (hvA LV A wd) nr nb).2 r + chD LV A wd p n i r + chD LV A wd p n j r) (A 2 r) = lnV ((WG A (hvA LV A wd) nr nb).2 r) (A 2 r))) nr
def payS (LV : (Nat → Int32) → Bool → Int32) (A : Nat → Nat → Int32) (nr nb : Nat) (wd a b n : Int32) : Int32 × Int32 × Int32 → Int32 × Int32 × Int32 := pyO (fun i => cutB A i a n) (fun j => knB A j b n) (othA LV A nr nb wd a n) nb nb
theorem hvA_fr {LV : (Nat → Int32) → Bool → Int32} {A A' : Nat → Nat → Int32} {wd : Int32} (h : ∀ f, f < 12 → A' f = A f) : hvA LV A' wd = hvA LV A wd := by
  funext i g; unfold hvA; rw [FA_fr h, h 5 (by omega), h 6 (by omega), h 7 (by omega)]
theorem hvL_fr {LV : (Nat → Int32) → Bool → Int32} {A A' : Nat → Nat → Int32} {wd len : Int32} {i : Nat} {g : Bool} (h : ∀ f, f < 12 → A' f = A f) : hvL LV A' wd i len g = hvL LV A wd i len g := by
  unfold hvL; rw [FA_fr h, h 5 (by omega), h 6 (by omega)]
section PAY4
variable {G : Gx} {d v : Nat} {μ : Mem} {bc bs : Nat} {Q : Option Value → List Sh → Mem → Nat → Nat → Prop}
set_option maxRecDepth 100000 in
set_option maxHeartbeats 1000000 in
theorem k_findPayment {nr nb sz n : Nat} {a b m : Int32} (hd : 6 ≤ d) (hW : WC μ nr nb sz n) (h : ∀ μ', Fr pP μ μ' → PySt μ' (payS (lawV (fun f => gi μ (30 + f)) sz n) (fun f => gi μ (4 + f)) nr nb (gi μ 3 14) a b m (11, (gi μ 51 9), (gi μ 51 10))) → Q (some (.int (bI ((payS (lawV (fun f => gi μ (30 + f)) sz n) (fun f => gi μ (4 + f)) nr nb (gi μ 3 14) a b m (11, (gi μ 51 9), (gi μ 51 10))).1 ≤ 10)))) (LAY v) μ' bc bs) : KC G d mX5_findPayment [.ref 51, .int a, .int b, .int m] (LAY v) μ bc bs Q := by
  obtain ⟨w1, w2, ⟨⟨w3, w4, w5⟩, w6, w7⟩, w8, w9, w10⟩ := id hW
  refine KC_intro 0 0 kX5_findPayment (by decide) (by decide) (Nat.zero_le _) (Nat.zero_le _) (Nat.le_of_ble_eq_true rfl) (fun Z hZ => ?_)
  show Z 0 [some (.ref 51), some (.int a), some (.int b), some (.int m), none] [] (LAY v) μ 0 0
  refine hZ 400 [22, 28, 37, 56, 67, 74, 82] _ _ _ _ _ _ _ ?_
  simp -implicitDefEqProofs (disch := omega) only [wp_step xX5_findPayment_0, wp_step xX5_findPayment_1, wp_step xX5_findPayment_2, wp_step xX5_findPayment_5, wp_step xX5_findPayment_6, wp_step xX5_findPayment_7, wp_step xX5_findPayment_10, wp_step xX5_findPayment_11, wp_step xX5_findPayment_12, wp_step xX5_findPayment_13, wp_step xX5_findPayment_16, wp_step xX5_findPayment_19, ↓e_putf iX5_findPayment f5_43, ↓e_putf iX5_findPayment f5_47, ↓e_getf iX5_findPayment f5_32, ↓e_getf iX5_findPayment f5_50, ↓e_virt iX5_findPayment l5_55 iX5_startDay, ↓e_virt iX5_findPayment l5_59 iX5_weighChanges, ↓e_putf iX5_findPayment f5_62, ↓e_getf iX5_findPayment f5_65, ↓e_virt iX5_findPayment l5_68 iX5_canCut, ↓e_virt iX5_findPayment l5_72 iX5_shift, ↓e_virt iX5_findPayment l5_76 iX5_tryKnots, ↓e_getf iX5_findPayment f5_62, iX5_findPayment, exec1, ↓p1_e, ↓p2_e, ↓q1_e, ↓q2_e, ↓qi_e, ↓pr_e, ↓pa_e, ↓pa_f, ↓pst_e, ↓qst_e, ↓rst_e, ↓pac_e, ↓pargs_0, ↓pargs_s, ↓gfld_0, ↓gfld_1, ↓gfld_2, ↓gfld_3, ↓pfld_i, ↓pfld_l, ↓pfld_r, ↓sfld_i, ↓sfld_l, ↓sfld_r, brI, pushv, rcv, lget, lset, lset2, isL, rok, szs, List.elem_nil, List.elem_cons, cond_true, cond_false, Option.map_some, beq_self_eq_true, Bool.true_and, Bool.and_true, Bool.false_and, Bool.and_false, Bool.or_false, Bool.false_or, Bool.or_true, Bool.true_or, Nat.reduceAdd, Nat.reduceSub, Nat.reduceMul, Nat.reduceBEq, Nat.reduceEqDiff, Nat.reduceLeDiff, Nat.sub_zero, true_and, and_true, false_and, and_false, true_or, or_true, false_or, or_false, reduceCtorEq, ↓reduceIte, List.getD_cons_zero, List.getD_cons_succ, List.length_cons, List.length_nil, ct_i, ct_r, ct_l, ct_f, ct_n, false_implies, true_implies, y3, y4, y5, y6, y7, y8, y9, y10, y11, y12, y13, y14, y15, y51, y52, y53, y54, gi_si_a]
  have hF0 : Fr pP μ (si (si μ 51 7 a) 51 8 b) := (Fr.rf.si (by unfold pP; omega)).si (by unfold pP; omega)
  have hW0 : WC (si (si μ 51 7 a) 51 8 b) nr nb sz n := hW.fr hF0 pP_Sf
  refine ⟨by omega, k_startDay (e := 0) (by omega) (by omega) hW0 (fun μ1 hF1 h53 hG hl => ?_)⟩
  have hG1 : Fr pP μ μ1 := hF0.trans (hF1.mono (pDay_pP (by omega)))
  have hW1 : WC μ1 nr nb sz n := hW.fr hG1 pP_Sf
  refine hZ 400 [22, 28, 37, 56, 67, 74, 82] _ _ _ _ _ _ _ ?_
  simp -implicitDefEqProofs (disch := omega) only [wp_step xX5_findPayment_22, wp_step xX5_findPayment_23, wp_step xX5_findPayment_24, wp_step xX5_findPayment_25, ↓e_putf iX5_findPayment f5_43, ↓e_putf iX5_findPayment f5_47, ↓e_getf iX5_findPayment f5_32, ↓e_getf iX5_findPayment f5_50, ↓e_virt iX5_findPayment l5_55 iX5_startDay, ↓e_virt iX5_findPayment l5_59 iX5_weighChanges, ↓e_putf iX5_findPayment f5_62, ↓e_getf iX5_findPayment f5_65, ↓e_virt iX5_findPayment l5_68 iX5_canCut, ↓e_virt iX5_findPayment l5_72 iX5_shift, ↓e_virt iX5_findPayment l5_76 iX5_tryKnots, ↓e_getf iX5_findPayment f5_62, iX5_findPayment, exec1, ↓p1_e, ↓p2_e, ↓q1_e, ↓q2_e, ↓qi_e, ↓pr_e, ↓pa_e, ↓pa_f, ↓pst_e, ↓qst_e, ↓rst_e, ↓pac_e, ↓pargs_0, ↓pargs_s, ↓gfld_0, ↓gfld_1, ↓gfld_2, ↓gfld_3, ↓pfld_i, ↓pfld_l, ↓pfld_r, ↓sfld_i, ↓sfld_l, ↓sfld_r, brI, pushv, rcv, lget, lset, lset2, isL, rok, szs, List.elem_nil, List.elem_cons, cond_true, cond_false, Option.map_some, beq_self_eq_true, Bool.true_and, Bool.and_true, Bool.false_and, Bool.and_false, Bool.or_false, Bool.false_or, Bool.or_true, Bool.true_or, Nat.reduceAdd, Nat.reduceSub, Nat.reduceMul, Nat.reduceBEq, Nat.reduceEqDiff, Nat.reduceLeDiff, Nat.sub_zero, true_and, and_true, false_and, and_false, true_or, or_true, false_or, or_false, reduceCtorEq, ↓reduceIte, List.getD_cons_zero, List.getD_cons_succ, List.length_cons, List.length_nil, ct_i, ct_r, ct_l, ct_f, ct_n, false_implies, true_implies, y51, y52, y53, y54]
  refine ⟨by omega, k_weighChanges (e := 0) (by omega) (by omega) hW1 (fun μ2 hF2 hc => ?_)⟩
  have hG2 : Fr pP μ μ2 := hG1.trans (hF2.mono (pChg_pP (by omega)))
  generalize hA : (fun f => gi μ (4 + f)) = A at h
  generalize hLV : lawV (fun f => gi μ (30 + f)) sz n = LV at h
  generalize hwd : gi μ 3 14 = wd at h
  have gA : ∀ f j, gi μ (4 + f) j = A f j := fun f j => by rw [← hA]
  have aA : ∀ {μ'}, Fr pP μ μ' → ∀ f, f < 12 → gi μ' (4 + f) = A f := fun hF f hf => by rw [fr_A hF pP_Sf f hf, ← hA]
  have eLV : ∀ {μ'}, Fr pP μ μ' → lawV (fun f => gi μ' (30 + f)) sz n = LV := fun hF => by rw [lawV_fr (fr_W hF pP_Sf), hLV]
  have e7 : gi μ1 51 7 = a := by rw [hF1.1 51 7 (by unfold pDay pS pL; omega), gi_si_k (by omega), gi_si]
  have e8 : gi μ1 51 8 = b := by rw [hF1.1 51 8 (by unfold pDay pS pL; omega), gi_si]
  have e7' : gi μ2 51 7 = a := by rw [hF2.1 51 7 (by unfold pChg pL; omega), e7]
  have e8' : gi μ2 51 8 = b := by rw [hF2.1 51 8 (by unfold pChg pL; omega), e8]
  have e9 : gi μ2 51 9 = gi μ 51 9 := by rw [hF2.1 51 9 (by unfold pChg pL; omega), hF1.1 51 9 (by unfold pDay pS pL; omega), gi_si_k (by omega), gi_si_k (by omega)]
  have e10 : gi μ2 51 10 = gi μ 51 10 := by rw [hF2.1 51 10 (by unfold pChg pL; omega), hF1.1 51 10 (by unfold pDay pS pL; omega), gi_si_k (by omega), gi_si_k (by omega)]
  have eW : WGC (si (si μ 51 7 a) 51 8 b) nr nb sz n wd = WG A (hvA LV A wd) nr nb := by
    rw [WGC_fr hF0 pP_Sf, ← hA, ← hLV]; rfl
  rw [hwd] at h53 hG hl
  rw [eW] at hG hl
  obtain ⟨g1, g2, g3⟩ := hG
  have hm2 : ∀ x, x < nr → gi μ2 79 x = (WG A (hvA LV A wd) nr nb).2 x := fun x hx => by
    rw [hF2.1 79 x (by unfold pChg pL; omega)]; exact g2 x hx
  have hl2 : ∀ x, x < nr → gi μ2 55 x = lnV ((WG A (hvA LV A wd) nr nb).2 x) (gi μ2 6 x) := fun x hx => by
    rw [hF2.1 55 x (by unfold pChg pL; omega), hG2.1 6 x (by unfold pP pL; omega)]
    have := hl x hx
    rw [hF0.1 6 x (by unfold pP pL; omega)] at this
    exact this
  have dl2 : ∀ i, i < nb → (cutB A i a m || knB A i b m) = true → ∀ x, dlt μ2 0 i x = chD LV A wd a m i x := fun i hi ci x => by
    have := hc i hi (by rw [e7, e8, cutB_fr (aA hG1), knB_fr (aA hG1)]; exact ci)
    obtain ⟨z1, z2⟩ := g3 i hi
    have hh : ¬ A 11 i = 0 := by
      rcases Bool.or_eq_true_iff.mp ci with y | y
      · unfold cutB at y; exact (whB_i (Bool.and_eq_true_iff.mp y).1).1
      · unfold knB at y; exact (whB_i (Bool.and_eq_true_iff.mp y).1).1
    have q : (fun f => gi (si (si μ 51 7 a) 51 8 b) (4 + f)) 11 i = A 11 i := by
      show gi (si (si μ 51 7 a) 51 8 b) (4 + 11) i = A 11 i
      rw [aA hF0 11 (by omega)]
    rw [if_neg (by rw [q]; exact hh)] at z1 z2
    have hh1 : hvA (lawV (fun f => gi (si (si μ 51 7 a) 51 8 b) (30 + f)) sz n) (fun f => gi (si (si μ 51 7 a) 51 8 b) (4 + f)) wd = hvA LV A wd := by rw [eLV hF0, hvA_fr (aA hF0)]
    rw [hh1] at z1 z2
    obtain ⟨t1, t2⟩ := this
    rw [eLV hG1, hvL_fr (aA hG1), lnC_fr (aA hG1), h53, e7] at t1 t2
    rw [z1] at t1
    rw [z2] at t2
    have a5 : gi μ2 9 i = A 5 i := congrFun (aA hG2 5 (by omega)) i
    have a6 : gi μ2 10 i = A 6 i := congrFun (aA hG2 6 (by omega)) i
    unfold dlt chD
    rw [ctr_fr (aA hG2), a5, a6, t1, t2]
  refine hZ 400 [22, 28, 37, 56, 67, 74, 82] _ _ _ _ _ _ _ ?_
  simp -implicitDefEqProofs (disch := omega) only [wp_step xX5_findPayment_28, wp_step xX5_findPayment_29, wp_step xX5_findPayment_31, wp_step xX5_findPayment_34, wp_step xX5_findPayment_35, ↓e_putf iX5_findPayment f5_43, ↓e_putf iX5_findPayment f5_47, ↓e_getf iX5_findPayment f5_32, ↓e_getf iX5_findPayment f5_50, ↓e_virt iX5_findPayment l5_55 iX5_startDay, ↓e_virt iX5_findPayment l5_59 iX5_weighChanges, ↓e_putf iX5_findPayment f5_62, ↓e_getf iX5_findPayment f5_65, ↓e_virt iX5_findPayment l5_68 iX5_canCut, ↓e_virt iX5_findPayment l5_72 iX5_shift, ↓e_virt iX5_findPayment l5_76 iX5_tryKnots, ↓e_getf iX5_findPayment f5_62, iX5_findPayment, exec1, ↓p1_e, ↓p2_e, ↓q1_e, ↓q2_e, ↓qi_e, ↓pr_e, ↓pa_e, ↓pa_f, ↓pst_e, ↓qst_e, ↓rst_e, ↓pac_e, ↓pargs_0, ↓pargs_s, ↓gfld_0, ↓gfld_1, ↓gfld_2, ↓gfld_3, ↓pfld_i, ↓pfld_l, ↓pfld_r, ↓sfld_i, ↓sfld_l, ↓sfld_r, brI, pushv, rcv, lget, lset, lset2, isL, rok, szs, List.elem_nil, List.elem_cons, cond_true, cond_false, Option.map_some, beq_self_eq_true, Bool.true_and, Bool.and_true, Bool.false_and, Bool.and_false, Bool.or_false, Bool.false_or, Bool.or_true, Bool.true_or, Nat.reduceAdd, Nat.reduceSub, Nat.reduceMul, Nat.reduceBEq, Nat.reduceEqDiff, Nat.reduceLeDiff, Nat.sub_zero, true_and, and_true, false_and, and_false, true_or, or_true, false_or, or_false, reduceCtorEq, ↓reduceIte, List.getD_cons_zero, List.getD_cons_succ, List.length_cons, List.length_nil, ct_i, ct_r, ct_l, ct_f, ct_n, false_implies, true_implies, y51, y52, y53, y54]
  have hF3 : Fr pTry μ2 (si μ2 51 11 11) := Fr.rf.si (by unfold pTry; omega)
  have hP : ∀ a j, pTry a j → Sf a j := fun a j z => pP_Sf a j (pTry_pP a j z)
  have hW2 : WC μ2 nr nb sz n := hW.fr hG2 pP_Sf
  have loop : ∀ i, i ≤ nb → (∀ μ1, Fr pTry μ2 μ1 → (∀ x, x < nr → gi μ1 79 x = (WG A (hvA LV A wd) nr nb).2 x) → PySt μ1 (pyO (fun i => cutB A i a m) (fun j => knB A j b m) (othC μ2 nr (WG A (hvA LV A wd) nr nb).2) nb i (11, gi μ 51 9, gi μ 51 10)) → Z 37 [some (.ref 51), some (.int a), some (.int b), some (.int m), some (.int (nI i))] [] (LAY v) μ1 0 0) := by
    refine loopN nb (fun μ3 hF hm3 hs3 => ?_) (fun i hi ih μ3 hF hm3 hs3 => ?_)
    · have hG3 : Fr pP μ μ3 := hG2.trans (hF.mono pTry_pP)
      have f13 : gi μ3 3 13 = nI nb := (hG3.1 _ _ (by unfold pP pL; omega)).trans w2
      have eP : pyO (fun i => cutB A i a m) (fun j => knB A j b m) (othC μ2 nr (WG A (hvA LV A wd) nr nb).2) nb nb (11, gi μ 51 9, gi μ 51 10) = payS LV A nr nb wd a b m (11, gi μ 51 9, gi μ 51 10) := by
        unfold payS
        refine pyO_cong (fun _ _ => rfl) (fun _ _ => rfl) (fun k hk ck j hj cj => ?_)
        unfold othC othA cnB
        refine sm_cong (fun r hr => ?_)
        dsimp only
        rw [dl2 k hk (by rw [ck]; rfl), dl2 j hj (by rw [cj, Bool.or_true]), show gi μ2 6 r = A 2 r from congrFun (aA hG2 2 (by omega)) r]
      rw [eP] at hs3
      refine hZ 400 [22, 28, 37, 56, 67, 74, 82] _ _ _ _ _ _ _ ?_
      simp -implicitDefEqProofs (disch := omega) only [wp_step xX5_findPayment_37, wp_step xX5_findPayment_39, wp_step xX5_findPayment_40, wp_step xX5_findPayment_43, wp_step xX5_findPayment_46, ↓e_putf iX5_findPayment f5_43, ↓e_putf iX5_findPayment f5_47, ↓e_getf iX5_findPayment f5_32, ↓e_getf iX5_findPayment f5_50, ↓e_virt iX5_findPayment l5_55 iX5_startDay, ↓e_virt iX5_findPayment l5_59 iX5_weighChanges, ↓e_putf iX5_findPayment f5_62, ↓e_getf iX5_findPayment f5_65, ↓e_virt iX5_findPayment l5_68 iX5_canCut, ↓e_virt iX5_findPayment l5_72 iX5_shift, ↓e_virt iX5_findPayment l5_76 iX5_tryKnots, ↓e_getf iX5_findPayment f5_62, iX5_findPayment, wp_step xX5_findPayment_88, wp_step xX5_findPayment_89, wp_step xX5_findPayment_92, wp_step xX5_findPayment_94, wp_step xX5_findPayment_97, wp_step xX5_findPayment_98, wp_step xX5_findPayment_101, wp_step xX5_findPayment_102, ↓e_putf iX5_findPayment f5_43, ↓e_putf iX5_findPayment f5_47, ↓e_getf iX5_findPayment f5_32, ↓e_getf iX5_findPayment f5_50, ↓e_virt iX5_findPayment l5_55 iX5_startDay, ↓e_virt iX5_findPayment l5_59 iX5_weighChanges, ↓e_putf iX5_findPayment f5_62, ↓e_getf iX5_findPayment f5_65, ↓e_virt iX5_findPayment l5_68 iX5_canCut, ↓e_virt iX5_findPayment l5_72 iX5_shift, ↓e_virt iX5_findPayment l5_76 iX5_tryKnots, ↓e_getf iX5_findPayment f5_62, iX5_findPayment, exec1, ↓p1_e, ↓p2_e, ↓q1_e, ↓q2_e, ↓qi_e, ↓pr_e, ↓pa_e, ↓pa_f, ↓pst_e, ↓qst_e, ↓rst_e, ↓pac_e, ↓pargs_0, ↓pargs_s, ↓gfld_0, ↓gfld_1, ↓gfld_2, ↓gfld_3, ↓pfld_i, ↓pfld_l, ↓pfld_r, ↓sfld_i, ↓sfld_l, ↓sfld_r, brI, pushv, rcv, lget, lset, lset2, isL, rok, szs, List.elem_nil, List.elem_cons, cond_true, cond_false, Option.map_some, beq_self_eq_true, Bool.true_and, Bool.and_true, Bool.false_and, Bool.and_false, Bool.or_false, Bool.false_or, Bool.or_true, Bool.true_or, Nat.reduceAdd, Nat.reduceSub, Nat.reduceMul, Nat.reduceBEq, Nat.reduceEqDiff, Nat.reduceLeDiff, Nat.sub_zero, true_and, and_true, false_and, and_false, true_or, or_true, false_or, or_false, reduceCtorEq, ↓reduceIte, List.getD_cons_zero, List.getD_cons_succ, List.length_cons, List.length_nil, ct_i, ct_r, ct_l, ct_f, ct_n, false_implies, true_implies, y3, y4, y5, y6, y7, y8, y9, y10, y11, y12, y13, y14, y15, y51, y52, y53, y54, f13, nle_t (show nb < 2 ^ 31 by omega), not_false_eq_true, true_implies, false_implies, and_true, true_and, not_true_eq_false, hs3.1]
      have fin := h μ3 hG3 hs3
      refine ⟨fun z => ?_, fun z => ?_⟩
      · rw [bI_f (fun y => lef y z)] at fin; exact fin
      · rw [bI_t (by simp only [i_le, i_lt] at *; omega)] at fin; exact fin
    · have hG3 : Fr pP μ μ3 := hG2.trans (hF.mono pTry_pP)
      have hW3 : WC μ3 nr nb sz n := hW.fr hG3 pP_Sf
      obtain ⟨u1, u2, ⟨⟨u3, u4, u5⟩, u6, u7⟩, u8, u9, u10⟩ := id hW3
      have f7 : gi μ3 51 7 = a := (hF.1 _ _ (by unfold pTry; omega)).trans e7'
      have f8 : gi μ3 51 8 = b := (hF.1 _ _ (by unfold pTry; omega)).trans e8'
      rw [pyO] at ih
      generalize hst1 : pyO (fun i => cutB A i a m) (fun j => knB A j b m) (othC μ2 nr (WG A (hvA LV A wd) nr nb).2) nb i (11, gi μ 51 9, gi μ 51 10) = st1 at ih hs3
      refine hZ 400 [22, 28, 37, 56, 67, 74, 82] _ _ _ _ _ _ _ ?_
      simp -implicitDefEqProofs (disch := omega) only [wp_step xX5_findPayment_37, wp_step xX5_findPayment_39, wp_step xX5_findPayment_40, wp_step xX5_findPayment_43, wp_step xX5_findPayment_46, wp_step xX5_findPayment_49, wp_step xX5_findPayment_50, wp_step xX5_findPayment_52, wp_step xX5_findPayment_53, ↓e_putf iX5_findPayment f5_43, ↓e_putf iX5_findPayment f5_47, ↓e_getf iX5_findPayment f5_32, ↓e_getf iX5_findPayment f5_50, ↓e_virt iX5_findPayment l5_55 iX5_startDay, ↓e_virt iX5_findPayment l5_59 iX5_weighChanges, ↓e_putf iX5_findPayment f5_62, ↓e_getf iX5_findPayment f5_65, ↓e_virt iX5_findPayment l5_68 iX5_canCut, ↓e_virt iX5_findPayment l5_72 iX5_shift, ↓e_virt iX5_findPayment l5_76 iX5_tryKnots, ↓e_getf iX5_findPayment f5_62, iX5_findPayment, exec1, ↓p1_e, ↓p2_e, ↓q1_e, ↓q2_e, ↓qi_e, ↓pr_e, ↓pa_e, ↓pa_f, ↓pst_e, ↓qst_e, ↓rst_e, ↓pac_e, ↓pargs_0, ↓pargs_s, ↓gfld_0, ↓gfld_1, ↓gfld_2, ↓gfld_3, ↓pfld_i, ↓pfld_l, ↓pfld_r, ↓sfld_i, ↓sfld_l, ↓sfld_r, brI, pushv, rcv, lget, lset, lset2, isL, rok, szs, List.elem_nil, List.elem_cons, cond_true, cond_false, Option.map_some, beq_self_eq_true, Bool.true_and, Bool.and_true, Bool.false_and, Bool.and_false, Bool.or_false, Bool.false_or, Bool.or_true, Bool.true_or, Nat.reduceAdd, Nat.reduceSub, Nat.reduceMul, Nat.reduceBEq, Nat.reduceEqDiff, Nat.reduceLeDiff, Nat.sub_zero, true_and, and_true, false_and, and_false, true_or, or_true, false_or, or_false, reduceCtorEq, ↓reduceIte, List.getD_cons_zero, List.getD_cons_succ, List.length_cons, List.length_nil, ct_i, ct_r, ct_l, ct_f, ct_n, false_implies, true_implies, y3, y4, y5, y6, y7, y8, y9, y10, y11, y12, y13, y14, y15, y51, y52, y53, y54, u2, nle_f hi (show nb < 2 ^ 31 by omega), not_false_eq_true, true_implies, false_implies, and_true, true_and, not_true_eq_false]
      refine ⟨by omega, k_canCut (by omega) u2 u5 hi ?_⟩
      rw [cutB_fr (aA hG3), f7]
      refine hZ 400 [22, 28, 37, 56, 67, 74, 82] _ _ _ _ _ _ _ ?_
      simp -implicitDefEqProofs (disch := omega) only [wp_step xX5_findPayment_56, wp_step xX5_findPayment_59, wp_step xX5_findPayment_60, wp_step xX5_findPayment_61, wp_step xX5_findPayment_63, wp_step xX5_findPayment_64, ↓e_putf iX5_findPayment f5_43, ↓e_putf iX5_findPayment f5_47, ↓e_getf iX5_findPayment f5_32, ↓e_getf iX5_findPayment f5_50, ↓e_virt iX5_findPayment l5_55 iX5_startDay, ↓e_virt iX5_findPayment l5_59 iX5_weighChanges, ↓e_putf iX5_findPayment f5_62, ↓e_getf iX5_findPayment f5_65, ↓e_virt iX5_findPayment l5_68 iX5_canCut, ↓e_virt iX5_findPayment l5_72 iX5_shift, ↓e_virt iX5_findPayment l5_76 iX5_tryKnots, ↓e_getf iX5_findPayment f5_62, iX5_findPayment, wp_step xX5_findPayment_82, wp_step xX5_findPayment_85, ↓e_putf iX5_findPayment f5_43, ↓e_putf iX5_findPayment f5_47, ↓e_getf iX5_findPayment f5_32, ↓e_getf iX5_findPayment f5_50, ↓e_virt iX5_findPayment l5_55 iX5_startDay, ↓e_virt iX5_findPayment l5_59 iX5_weighChanges, ↓e_putf iX5_findPayment f5_62, ↓e_getf iX5_findPayment f5_65, ↓e_virt iX5_findPayment l5_68 iX5_canCut, ↓e_virt iX5_findPayment l5_72 iX5_shift, ↓e_virt iX5_findPayment l5_76 iX5_tryKnots, ↓e_getf iX5_findPayment f5_62, iX5_findPayment, exec1, ↓p1_e, ↓p2_e, ↓q1_e, ↓q2_e, ↓qi_e, ↓pr_e, ↓pa_e, ↓pa_f, ↓pst_e, ↓qst_e, ↓rst_e, ↓pac_e, ↓pargs_0, ↓pargs_s, ↓gfld_0, ↓gfld_1, ↓gfld_2, ↓gfld_3, ↓pfld_i, ↓pfld_l, ↓pfld_r, ↓sfld_i, ↓sfld_l, ↓sfld_r, brI, pushv, rcv, lget, lset, lset2, isL, rok, szs, List.elem_nil, List.elem_cons, cond_true, cond_false, Option.map_some, beq_self_eq_true, Bool.true_and, Bool.and_true, Bool.false_and, Bool.and_false, Bool.or_false, Bool.false_or, Bool.or_true, Bool.true_or, Nat.reduceAdd, Nat.reduceSub, Nat.reduceMul, Nat.reduceBEq, Nat.reduceEqDiff, Nat.reduceLeDiff, Nat.sub_zero, true_and, and_true, false_and, and_false, true_or, or_true, false_or, or_false, reduceCtorEq, ↓reduceIte, List.getD_cons_zero, List.getD_cons_succ, List.length_cons, List.length_nil, ct_i, ct_r, ct_l, ct_f, ct_n, false_implies, true_implies, y51, y52, y53, y54, bN_0, nI_1]
      have skip : cutB A i a m = false → Z 82 [some (.ref 51), some (.int a), some (.int b), some (.int m), some (.int (nI i))] [] (LAY v) μ3 0 0 := fun c => by
        refine hZ 400 [22, 28, 37, 56, 67, 74, 82] _ _ _ _ _ _ _ ?_
        simp -implicitDefEqProofs (disch := omega) only [wp_step xX5_findPayment_82, wp_step xX5_findPayment_85, ↓e_putf iX5_findPayment f5_43, ↓e_putf iX5_findPayment f5_47, ↓e_getf iX5_findPayment f5_32, ↓e_getf iX5_findPayment f5_50, ↓e_virt iX5_findPayment l5_55 iX5_startDay, ↓e_virt iX5_findPayment l5_59 iX5_weighChanges, ↓e_putf iX5_findPayment f5_62, ↓e_getf iX5_findPayment f5_65, ↓e_virt iX5_findPayment l5_68 iX5_canCut, ↓e_virt iX5_findPayment l5_72 iX5_shift, ↓e_virt iX5_findPayment l5_76 iX5_tryKnots, ↓e_getf iX5_findPayment f5_62, iX5_findPayment, exec1, ↓p1_e, ↓p2_e, ↓q1_e, ↓q2_e, ↓qi_e, ↓pr_e, ↓pa_e, ↓pa_f, ↓pst_e, ↓qst_e, ↓rst_e, ↓pac_e, ↓pargs_0, ↓pargs_s, ↓gfld_0, ↓gfld_1, ↓gfld_2, ↓gfld_3, ↓pfld_i, ↓pfld_l, ↓pfld_r, ↓sfld_i, ↓sfld_l, ↓sfld_r, brI, pushv, rcv, lget, lset, lset2, isL, rok, szs, List.elem_nil, List.elem_cons, cond_true, cond_false, Option.map_some, beq_self_eq_true, Bool.true_and, Bool.and_true, Bool.false_and, Bool.and_false, Bool.or_false, Bool.false_or, Bool.or_true, Bool.true_or, Nat.reduceAdd, Nat.reduceSub, Nat.reduceMul, Nat.reduceBEq, Nat.reduceEqDiff, Nat.reduceLeDiff, Nat.sub_zero, true_and, and_true, false_and, and_false, true_or, or_true, false_or, or_false, reduceCtorEq, ↓reduceIte, List.getD_cons_zero, List.getD_cons_succ, List.length_cons, List.length_nil, ct_i, ct_r, ct_l, ct_f, ct_n, false_implies, true_implies, nI_1]
        exact ih μ3 hF hm3 (by rw [if_neg (by rw [c]; decide)]; exact hs3)
      refine ⟨skip, fun c => ⟨by omega, k_pshift (e := 0) (by omega) (by omega) hW3 hi (fun μ4 hF4 hm4 => ?_)⟩⟩
      have dl : ∀ μ', Fr pTry μ2 μ' → ∀ k x, dlt μ' 0 k x = dlt μ2 0 k x := fun μ' hF' k x => by
        unfold dlt
        rw [ctr_fr (fr_A hF' hP), hF'.1 9 _ (by unfold pTry; omega), hF'.1 10 _ (by unfold pTry; omega), hF'.1 62 _ (by unfold pTry; omega), hF'.1 69 _ (by unfold pTry; omega)]
      have hF24 : Fr pTry μ2 μ4 := hF.trans (hF4.mono (fun a j z => Or.inl z))
      have hG4 : Fr pP μ μ4 := hG2.trans (hF24.mono pTry_pP)
      have hm4' : ∀ x, x < nr → gi μ4 79 x = (WG A (hvA LV A wd) nr nb).2 x + dlt μ4 0 i x := fun x hx => by
        have := hm4 x hx
        rw [dl μ3 hF] at this
        rw [dl μ4 hF24, show gi μ4 79 x = gi μ3 79 x + 1 * dlt μ2 0 i x from this, hm3 x hx]; grind
      have hl4 : ∀ x, x < nr → gi μ4 55 x = lnV ((WG A (hvA LV A wd) nr nb).2 x) (gi μ4 6 x) := fun x hx => by
        rw [hF24.1 55 _ (by unfold pTry; omega), hF24.1 6 _ (by unfold pTry; omega)]; exact hl2 x hx
      have hs4 : PySt μ4 st1 := by
        unfold PySt at hs3 ⊢
        rw [hF4.1 51 _ (by unfold pM4; omega), hF4.1 51 _ (by unfold pM4; omega), hF4.1 51 _ (by unfold pM4; omega)]
        exact hs3
      refine hZ 400 [22, 28, 37, 56, 67, 74, 82] _ _ _ _ _ _ _ ?_
      simp -implicitDefEqProofs (disch := omega) only [wp_step xX5_findPayment_67, wp_step xX5_findPayment_68, wp_step xX5_findPayment_70, wp_step xX5_findPayment_71, ↓e_putf iX5_findPayment f5_43, ↓e_putf iX5_findPayment f5_47, ↓e_getf iX5_findPayment f5_32, ↓e_getf iX5_findPayment f5_50, ↓e_virt iX5_findPayment l5_55 iX5_startDay, ↓e_virt iX5_findPayment l5_59 iX5_weighChanges, ↓e_putf iX5_findPayment f5_62, ↓e_getf iX5_findPayment f5_65, ↓e_virt iX5_findPayment l5_68 iX5_canCut, ↓e_virt iX5_findPayment l5_72 iX5_shift, ↓e_virt iX5_findPayment l5_76 iX5_tryKnots, ↓e_getf iX5_findPayment f5_62, iX5_findPayment, exec1, ↓p1_e, ↓p2_e, ↓q1_e, ↓q2_e, ↓qi_e, ↓pr_e, ↓pa_e, ↓pa_f, ↓pst_e, ↓qst_e, ↓rst_e, ↓pac_e, ↓pargs_0, ↓pargs_s, ↓gfld_0, ↓gfld_1, ↓gfld_2, ↓gfld_3, ↓pfld_i, ↓pfld_l, ↓pfld_r, ↓sfld_i, ↓sfld_l, ↓sfld_r, brI, pushv, rcv, lget, lset, lset2, isL, rok, szs, List.elem_nil, List.elem_cons, cond_true, cond_false, Option.map_some, beq_self_eq_true, Bool.true_and, Bool.and_true, Bool.false_and, Bool.and_false, Bool.or_false, Bool.false_or, Bool.or_true, Bool.true_or, Nat.reduceAdd, Nat.reduceSub, Nat.reduceMul, Nat.reduceBEq, Nat.reduceEqDiff, Nat.reduceLeDiff, Nat.sub_zero, true_and, and_true, false_and, and_false, true_or, or_true, false_or, or_false, reduceCtorEq, ↓reduceIte, List.getD_cons_zero, List.getD_cons_succ, List.length_cons, List.length_nil, ct_i, ct_r, ct_l, ct_f, ct_n, false_implies, true_implies, y51, y52, y53, y54]
      refine ⟨by omega, k_tryKnots (by omega) (hW.fr hG4 pP_Sf) hm4' hl4 hs4 (fun μ5 hF5 hm5 hs5 => ?_)⟩
      have hF25 : Fr pTry μ2 μ5 := hF24.trans hF5
      have hG5 : Fr pP μ μ5 := hG2.trans (hF25.mono pTry_pP)
      refine hZ 400 [22, 28, 37, 56, 67, 74, 82] _ _ _ _ _ _ _ ?_
      simp -implicitDefEqProofs (disch := omega) only [wp_step xX5_findPayment_74, wp_step xX5_findPayment_75, wp_step xX5_findPayment_76, wp_step xX5_findPayment_78, wp_step xX5_findPayment_79, ↓e_putf iX5_findPayment f5_43, ↓e_putf iX5_findPayment f5_47, ↓e_getf iX5_findPayment f5_32, ↓e_getf iX5_findPayment f5_50, ↓e_virt iX5_findPayment l5_55 iX5_startDay, ↓e_virt iX5_findPayment l5_59 iX5_weighChanges, ↓e_putf iX5_findPayment f5_62, ↓e_getf iX5_findPayment f5_65, ↓e_virt iX5_findPayment l5_68 iX5_canCut, ↓e_virt iX5_findPayment l5_72 iX5_shift, ↓e_virt iX5_findPayment l5_76 iX5_tryKnots, ↓e_getf iX5_findPayment f5_62, iX5_findPayment, exec1, ↓p1_e, ↓p2_e, ↓q1_e, ↓q2_e, ↓qi_e, ↓pr_e, ↓pa_e, ↓pa_f, ↓pst_e, ↓qst_e, ↓rst_e, ↓pac_e, ↓pargs_0, ↓pargs_s, ↓gfld_0, ↓gfld_1, ↓gfld_2, ↓gfld_3, ↓pfld_i, ↓pfld_l, ↓pfld_r, ↓sfld_i, ↓sfld_l, ↓sfld_r, brI, pushv, rcv, lget, lset, lset2, isL, rok, szs, List.elem_nil, List.elem_cons, cond_true, cond_false, Option.map_some, beq_self_eq_true, Bool.true_and, Bool.and_true, Bool.false_and, Bool.and_false, Bool.or_false, Bool.false_or, Bool.or_true, Bool.true_or, Nat.reduceAdd, Nat.reduceSub, Nat.reduceMul, Nat.reduceBEq, Nat.reduceEqDiff, Nat.reduceLeDiff, Nat.sub_zero, true_and, and_true, false_and, and_false, true_or, or_true, false_or, or_false, reduceCtorEq, ↓reduceIte, List.getD_cons_zero, List.getD_cons_succ, List.length_cons, List.length_nil, ct_i, ct_r, ct_l, ct_f, ct_n, false_implies, true_implies, y51, y52, y53, y54]
      refine ⟨by omega, k_pshift (e := 0) (by omega) (by omega) (hW.fr hG5 pP_Sf) hi (fun μ6 hF6 hm6 => ?_)⟩
      have hF26 : Fr pTry μ2 μ6 := hF25.trans (hF6.mono (fun a j z => Or.inl z))
      refine hZ 400 [22, 28, 37, 56, 67, 74, 82] _ _ _ _ _ _ _ ?_
      simp -implicitDefEqProofs (disch := omega) only [wp_step xX5_findPayment_82, wp_step xX5_findPayment_85, ↓e_putf iX5_findPayment f5_43, ↓e_putf iX5_findPayment f5_47, ↓e_getf iX5_findPayment f5_32, ↓e_getf iX5_findPayment f5_50, ↓e_virt iX5_findPayment l5_55 iX5_startDay, ↓e_virt iX5_findPayment l5_59 iX5_weighChanges, ↓e_putf iX5_findPayment f5_62, ↓e_getf iX5_findPayment f5_65, ↓e_virt iX5_findPayment l5_68 iX5_canCut, ↓e_virt iX5_findPayment l5_72 iX5_shift, ↓e_virt iX5_findPayment l5_76 iX5_tryKnots, ↓e_getf iX5_findPayment f5_62, iX5_findPayment, exec1, ↓p1_e, ↓p2_e, ↓q1_e, ↓q2_e, ↓qi_e, ↓pr_e, ↓pa_e, ↓pa_f, ↓pst_e, ↓qst_e, ↓rst_e, ↓pac_e, ↓pargs_0, ↓pargs_s, ↓gfld_0, ↓gfld_1, ↓gfld_2, ↓gfld_3, ↓pfld_i, ↓pfld_l, ↓pfld_r, ↓sfld_i, ↓sfld_l, ↓sfld_r, brI, pushv, rcv, lget, lset, lset2, isL, rok, szs, List.elem_nil, List.elem_cons, cond_true, cond_false, Option.map_some, beq_self_eq_true, Bool.true_and, Bool.and_true, Bool.false_and, Bool.and_false, Bool.or_false, Bool.false_or, Bool.or_true, Bool.true_or, Nat.reduceAdd, Nat.reduceSub, Nat.reduceMul, Nat.reduceBEq, Nat.reduceEqDiff, Nat.reduceLeDiff, Nat.sub_zero, true_and, and_true, false_and, and_false, true_or, or_true, false_or, or_false, reduceCtorEq, ↓reduceIte, List.getD_cons_zero, List.getD_cons_succ, List.length_cons, List.length_nil, ct_i, ct_r, ct_l, ct_f, ct_n, false_implies, true_implies, nI_1]
      refine ih μ6 hF26 (fun x hx => ?_) ?_
      · have := hm6 x hx
        rw [dl μ5 hF25] at this
        have h5 := hm5 x hx
        rw [dl μ4 hF24] at h5
        rw [show gi μ6 79 x = gi μ5 79 x + -1 * dlt μ2 0 i x from this, h5]; grind
      · rw [if_pos (btr c)]
        have eI : pyI (fun j => knB (fun f => gi μ4 (4 + f)) j (gi μ4 51 8) m) (othC μ4 nr (WG A (hvA LV A wd) nr nb).2 i) i nb st1 = pyI (fun j => knB A j b m) (othC μ2 nr (WG A (hvA LV A wd) nr nb).2 i) i nb st1 := by
          refine pyI_cong (fun k hk => ?_) (fun k hk _ => ?_)
          · rw [knB_fr (aA hG4), hF24.1 51 8 (by unfold pTry; omega), e8']
          · unfold othC cnB
            refine sm_cong (fun r hr => ?_)
            dsimp only
            rw [dl μ4 hF24, dl μ4 hF24, hF24.1 6 _ (by unfold pTry; omega)]
        rw [eI] at hs5
        unfold PySt at hs5 ⊢
        rw [hF6.1 51 _ (by unfold pM4; omega), hF6.1 51 _ (by unfold pM4; omega), hF6.1 51 _ (by unfold pM4; omega)]
        exact hs5
  refine loop 0 (by omega) _ hF3 (fun x hx => ?_) ?_
  · rw [gi_si_a (by omega)]; exact hm2 x hx
  · unfold PySt
    rw [gi_si, gi_si_k (by omega), gi_si_k (by omega), e9, e10]
    exact ⟨rfl, rfl, rfl⟩
end PAY4
