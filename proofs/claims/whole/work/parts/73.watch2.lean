theorem sl_sl {μ : Mem} {a k : Nat} {x y : Int64} : sl (sl μ a k x) a k y = sl μ a k y := by
  unfold sl
  dsimp only
  congr 1
  funext b
  by_cases e : b = a
  · subst e
    simp only [if_true]
    unfold vp_updL
    funext j
    by_cases e2 : j = k
    · simp only [e2, if_true]
    · simp only [e2, if_false]
  · simp only [e, if_false]
theorem onC_fr {A A' : Nat → Nat → Int32} {r : Nat} (h : ∀ q, A' 0 q = A 0 q) : ∀ {f q : Nat}, onC A' f q r = onC A f q r
  | 0, _ => rfl
  | f + 1, q => by rw [onC, onC, h q, onC_fr h]
section WAT2
variable {G : Gx} {d v : Nat} {μ : Mem} {bc bs : Nat} {Q : Option Value → List Sh → Mem → Nat → Nat → Prop}
/-- longs alike but for the bits of the ribbons in question -/
def Gw (μ μ' : Mem) : Prop := ∀ a j, ¬ (a = 125 ∧ j = 7) → gl μ' a j = gl μ a j
set_option maxRecDepth 100000 in
set_option maxHeartbeats 1000000 in
theorem k_startWatch {nr nb sz n : Nat} (hd : 5 ≤ d) (hW : WC μ nr nb sz n) (h : ∀ μ', Fi (pS 46) μ μ' → Gw μ μ' → WSt μ' (fun f => gi μ (4 + f)) (lawV (fun f => gi μ (30 + f)) sz n) nr nb sz n (gi μ 3 14) (gi μ 126) → Q none (LAY v) μ' bc bs) : KC G d mX9_startWatch [.ref 125] (LAY v) μ bc bs Q := by
  obtain ⟨w1, w2, hWf, w8, w9, w10⟩ := id hW
  obtain ⟨⟨w3, w4, w5⟩, w6, w7⟩ := id hWf
  refine KC_intro 0 0 kX9_startWatch (by decide) (by decide) (Nat.zero_le _) (Nat.zero_le _) (Nat.le_of_ble_eq_true rfl) (fun Z hZ => ?_)
  show Z 0 [some (.ref 125), none] [] (LAY v) μ 0 0
  refine hZ 400 [14, 21, 56] _ _ _ _ _ _ _ ?_
  simp -implicitDefEqProofs (disch := omega) only [wp_step xX9_startWatch_0, wp_step xX9_startWatch_1, wp_step xX9_startWatch_4, wp_step xX9_startWatch_5, wp_step xX9_startWatch_8, wp_step xX9_startWatch_11, ↓e_getf iX9_startWatch f9_23, ↓e_getf iX9_startWatch f9_15, ↓e_getf iX9_startWatch f9_47, ↓e_virt iX9_startWatch l9_50 iX7_weigh, ↓e_putf iX9_startWatch f9_56, ↓e_getf iX9_startWatch f9_60, ↓e_getf iX9_startWatch f9_63, ↓e_getf iX9_startWatch f9_9, ↓e_virt iX9_startWatch l9_66 iX7_leanBeside, ↓e_getf iX9_startWatch f9_56, iX9_startWatch, exec1, ↓p1_e, ↓p2_e, ↓q1_e, ↓q2_e, ↓qi_e, ↓pr_e, ↓pa_e, ↓pa_f, ↓pst_e, ↓qst_e, ↓rst_e, ↓pac_e, ↓pargs_0, ↓pargs_s, ↓gfld_0, ↓gfld_1, ↓gfld_2, ↓gfld_3, ↓pfld_i, ↓pfld_l, ↓pfld_r, ↓sfld_i, ↓sfld_l, ↓sfld_r, brI, pushv, rcv, lget, lset, lset2, isL, rok, szs, List.elem_nil, List.elem_cons, cond_true, cond_false, Option.map_some, beq_self_eq_true, Bool.true_and, Bool.and_true, Bool.false_and, Bool.and_false, Bool.or_false, Bool.false_or, Bool.or_true, Bool.true_or, Nat.reduceAdd, Nat.reduceSub, Nat.reduceMul, Nat.reduceBEq, Nat.reduceEqDiff, Nat.reduceLeDiff, Nat.sub_zero, true_and, and_true, false_and, and_false, true_or, or_true, false_or, or_false, reduceCtorEq, ↓reduceIte, List.getD_cons_zero, List.getD_cons_succ, List.length_cons, List.length_nil, ct_i, ct_r, ct_l, ct_f, ct_n, false_implies, true_implies, yW, y3, y4, y5, y6, y7, y8, y9, y10, y11, y12, y13, y14, y15, y46, y47, y48, y49, y50]
  refine ⟨by omega, k_weigh (by omega) ScAt.main hW (fun μ1 hF hG => ?_)⟩
  obtain ⟨g1, g2, g3⟩ := hG
  obtain ⟨A, hA⟩ : ∃ A, A = fun f => gi μ (4 + f) := ⟨_, rfl⟩
  obtain ⟨LV, hLV⟩ : ∃ LV, LV = lawV (fun f => gi μ (30 + f)) sz n := ⟨_, rfl⟩
  rw [← hA, ← hLV] at h g1 g2 g3
  rw [← hA] at hWf w7
  have cA : ∀ f, f < 12 → gi μ1 (4 + f) = A f := fun f hf => by rw [fr_A hF (pS_Sf (Or.inl rfl)) f hf, hA]
  have loop : ∀ i, i ≤ nb → (∀ L, (∀ k, k < nb → bl L k = (decide (k < i) && qB LV A nr nb (gi μ 3 14) (gi μ 126) k)) → Z 21 [some (.ref 125), some (.int (nI i))] [] (LAY v) (sl μ1 125 7 L) 0 0) := by
    have f13 : gi μ1 3 13 = nI nb := (hF.1 _ _ (by unfold pS pL; omega)).trans w2
    have f12 : gi μ1 3 12 = nI nr := (hF.1 _ _ (by unfold pS pL; omega)).trans w1
    refine loopN nb (fun L hL => ?_) (fun i hi ih L hL => ?_)
    · refine hZ 400 [14, 21, 56] _ _ _ _ _ _ _ ?_
      simp -implicitDefEqProofs (disch := omega) only [wp_step xX9_startWatch_21, wp_step xX9_startWatch_22, wp_step xX9_startWatch_23, wp_step xX9_startWatch_26, wp_step xX9_startWatch_29, ↓e_getf iX9_startWatch f9_23, ↓e_getf iX9_startWatch f9_15, ↓e_getf iX9_startWatch f9_47, ↓e_virt iX9_startWatch l9_50 iX7_weigh, ↓e_putf iX9_startWatch f9_56, ↓e_getf iX9_startWatch f9_60, ↓e_getf iX9_startWatch f9_63, ↓e_getf iX9_startWatch f9_9, ↓e_virt iX9_startWatch l9_66 iX7_leanBeside, ↓e_getf iX9_startWatch f9_56, iX9_startWatch, wp_step xX9_startWatch_77, ↓e_getf iX9_startWatch f9_23, ↓e_getf iX9_startWatch f9_15, ↓e_getf iX9_startWatch f9_47, ↓e_virt iX9_startWatch l9_50 iX7_weigh, ↓e_putf iX9_startWatch f9_56, ↓e_getf iX9_startWatch f9_60, ↓e_getf iX9_startWatch f9_63, ↓e_getf iX9_startWatch f9_9, ↓e_virt iX9_startWatch l9_66 iX7_leanBeside, ↓e_getf iX9_startWatch f9_56, iX9_startWatch, exec1, ↓p1_e, ↓p2_e, ↓q1_e, ↓q2_e, ↓qi_e, ↓pr_e, ↓pa_e, ↓pa_f, ↓pst_e, ↓qst_e, ↓rst_e, ↓pac_e, ↓pargs_0, ↓pargs_s, ↓gfld_0, ↓gfld_1, ↓gfld_2, ↓gfld_3, ↓pfld_i, ↓pfld_l, ↓pfld_r, ↓sfld_i, ↓sfld_l, ↓sfld_r, brI, pushv, rcv, lget, lset, lset2, isL, rok, szs, List.elem_nil, List.elem_cons, cond_true, cond_false, Option.map_some, beq_self_eq_true, Bool.true_and, Bool.and_true, Bool.false_and, Bool.and_false, Bool.or_false, Bool.false_or, Bool.or_true, Bool.true_or, Nat.reduceAdd, Nat.reduceSub, Nat.reduceMul, Nat.reduceBEq, Nat.reduceEqDiff, Nat.reduceLeDiff, Nat.sub_zero, true_and, and_true, false_and, and_false, true_or, or_true, false_or, or_false, reduceCtorEq, ↓reduceIte, List.getD_cons_zero, List.getD_cons_succ, List.length_cons, List.length_nil, ct_i, ct_r, ct_l, ct_f, ct_n, false_implies, true_implies, yW, y3, y4, y5, y6, y7, y8, y9, y10, y11, y12, y13, y14, y15, gi_sl, f13, nle_t (show nb < 2 ^ 31 by omega), not_false_eq_true, true_implies, false_implies, and_true, true_and, not_true_eq_false]
      refine h _ (Fi.of hF).sl (fun a j z => ?_) ⟨?_, fun f hf => cA f hf, ?_, (hF.1 _ _ (by unfold pS pL; omega)), fun x hx => g2 x hx, fun j hj c => ?_, fun r => hF.1 _ _ (by unfold pS pL; omega), fun k hk => ?_⟩
      · by_cases y : a = 125
        · rw [gl_sl_k (by omega)]; exact hF.2 a j
        · rw [gl_sl_a y]; exact hF.2 a j
      · have := hW.fr hF (pS_Sf (Or.inl rfl)); exact this
      · show lawV (fun f => gi μ1 (30 + f)) sz n = LV
        rw [hLV]; exact lawV_fr (fr_W hF (pS_Sf (Or.inl rfl)))
      · have := g3 j hj
        rw [if_neg c, if_neg c] at this
        exact this
      · rw [gl_sl, hL k hk, decide_eq_true hk, Bool.true_and]
    · have vi : vp_in (nI i) 40 := vin (by omega) (by omega)
      obtain ⟨⟨q, hq, eq⟩, -⟩ := w7 i hi
      have f15 : gi μ1 15 i = A 11 i := congrFun (cA 11 (by omega)) i
      have f9 : gi μ1 9 i = nI q := (congrFun (cA 5 (by omega)) i).trans eq
      have skip : qB LV A nr nb (gi μ 3 14) (gi μ 126) i = false → Z 71 [some (.ref 125), some (.int (nI i))] [] (LAY v) (sl μ1 125 7 L) 0 0 := fun z => by
        refine hZ 400 [14, 21, 56] _ _ _ _ _ _ _ ?_
        simp -implicitDefEqProofs (disch := omega) only [wp_step xX9_startWatch_71, wp_step xX9_startWatch_74, ↓e_getf iX9_startWatch f9_23, ↓e_getf iX9_startWatch f9_15, ↓e_getf iX9_startWatch f9_47, ↓e_virt iX9_startWatch l9_50 iX7_weigh, ↓e_putf iX9_startWatch f9_56, ↓e_getf iX9_startWatch f9_60, ↓e_getf iX9_startWatch f9_63, ↓e_getf iX9_startWatch f9_9, ↓e_virt iX9_startWatch l9_66 iX7_leanBeside, ↓e_getf iX9_startWatch f9_56, iX9_startWatch, exec1, ↓p1_e, ↓p2_e, ↓q1_e, ↓q2_e, ↓qi_e, ↓pr_e, ↓pa_e, ↓pa_f, ↓pst_e, ↓qst_e, ↓rst_e, ↓pac_e, ↓pargs_0, ↓pargs_s, ↓gfld_0, ↓gfld_1, ↓gfld_2, ↓gfld_3, ↓pfld_i, ↓pfld_l, ↓pfld_r, ↓sfld_i, ↓sfld_l, ↓sfld_r, brI, pushv, rcv, lget, lset, lset2, isL, rok, szs, List.elem_nil, List.elem_cons, cond_true, cond_false, Option.map_some, beq_self_eq_true, Bool.true_and, Bool.and_true, Bool.false_and, Bool.and_false, Bool.or_false, Bool.false_or, Bool.or_true, Bool.true_or, Nat.reduceAdd, Nat.reduceSub, Nat.reduceMul, Nat.reduceBEq, Nat.reduceEqDiff, Nat.reduceLeDiff, Nat.sub_zero, true_and, and_true, false_and, and_false, true_or, or_true, false_or, or_false, reduceCtorEq, ↓reduceIte, List.getD_cons_zero, List.getD_cons_succ, List.length_cons, List.length_nil, ct_i, ct_r, ct_l, ct_f, ct_n, false_implies, true_implies, nI_1]
        refine ih L (fun k hk => ?_)
        rw [hL k hk]
        by_cases y : k = i
        · subst y; rw [z, Bool.and_false, Bool.and_false]
        · rw [show decide (k < i + 1) = decide (k < i) by by_cases u : k < i; rw [decide_eq_true u, decide_eq_true (by omega)]; rw [decide_eq_false u, decide_eq_false (by omega)]]
      refine hZ 400 [71, 56] _ _ _ _ _ _ _ ?_
      simp -implicitDefEqProofs (disch := omega) only [wp_step xX9_startWatch_21, wp_step xX9_startWatch_22, wp_step xX9_startWatch_23, wp_step xX9_startWatch_26, wp_step xX9_startWatch_29, wp_step xX9_startWatch_32, wp_step xX9_startWatch_33, wp_step xX9_startWatch_36, wp_step xX9_startWatch_39, wp_step xX9_startWatch_40, wp_step xX9_startWatch_41, wp_step xX9_startWatch_44, wp_step xX9_startWatch_45, wp_step xX9_startWatch_48, wp_step xX9_startWatch_49, wp_step xX9_startWatch_50, wp_step xX9_startWatch_53, ↓e_getf iX9_startWatch f9_23, ↓e_getf iX9_startWatch f9_15, ↓e_getf iX9_startWatch f9_47, ↓e_virt iX9_startWatch l9_50 iX7_weigh, ↓e_putf iX9_startWatch f9_56, ↓e_getf iX9_startWatch f9_60, ↓e_getf iX9_startWatch f9_63, ↓e_getf iX9_startWatch f9_9, ↓e_virt iX9_startWatch l9_66 iX7_leanBeside, ↓e_getf iX9_startWatch f9_56, iX9_startWatch, exec1, ↓p1_e, ↓p2_e, ↓q1_e, ↓q2_e, ↓qi_e, ↓pr_e, ↓pa_e, ↓pa_f, ↓pst_e, ↓qst_e, ↓rst_e, ↓pac_e, ↓pargs_0, ↓pargs_s, ↓gfld_0, ↓gfld_1, ↓gfld_2, ↓gfld_3, ↓pfld_i, ↓pfld_l, ↓pfld_r, ↓sfld_i, ↓sfld_l, ↓sfld_r, brI, pushv, rcv, lget, lset, lset2, isL, rok, szs, List.elem_nil, List.elem_cons, cond_true, cond_false, Option.map_some, beq_self_eq_true, Bool.true_and, Bool.and_true, Bool.false_and, Bool.and_false, Bool.or_false, Bool.false_or, Bool.or_true, Bool.true_or, Nat.reduceAdd, Nat.reduceSub, Nat.reduceMul, Nat.reduceBEq, Nat.reduceEqDiff, Nat.reduceLeDiff, Nat.sub_zero, true_and, and_true, false_and, and_false, true_or, or_true, false_or, or_false, reduceCtorEq, ↓reduceIte, List.getD_cons_zero, List.getD_cons_succ, List.length_cons, List.length_nil, ct_i, ct_r, ct_l, ct_f, ct_n, false_implies, true_implies, yW, y126, y3, y4, y5, y6, y7, y8, y9, y10, y11, y12, y13, y14, y15, y46, y47, y48, y49, y50, gi_sl, f13, f15, nle_f hi (show nb < 2 ^ 31 by omega), vi, nI_clamp, not_false_eq_true, true_implies, false_implies, and_true, true_and, not_true_eq_false]
      refine ⟨fun c => skip (by unfold qB; rw [decide_eq_true c]; rfl), fun c => ⟨by omega, k_leanBeside (q := q) (by omega) ScAt.main (y126 v) f12 f13 (hWf.cong (fun f hf => cA f hf)) hi hq f9 ?_⟩⟩
      have eb : anB (fun r => !onC (fun f => gi (sl μ1 125 7 L) (4 + f)) 10 q r && (!decide (gi (sl μ1 125 7 L) 7 r = 0) && !decide (lnV (gi (sl μ1 125 7 L) (46 + 4) r) (gi (sl μ1 125 7 L) 6 r) = gi (sl μ1 125 7 L) 126 r))) nr = anB (fun r => !onC A 10 (A 5 i).toNatClampNeg r && (snB A r && !decide (lnV (mo0 LV A nr nb (gi μ 3 14) r) (A 2 r) = gi μ 126 r))) nr := by
        refine anB_cong (fun r hr => ?_)
        have x1 : onC (fun f => gi (sl μ1 125 7 L) (4 + f)) 10 q r = onC A 10 q r := by
          exact onC_fr (fun q => congrFun (cA 0 (by omega)) q)
        have x2 : gi μ1 7 r = A 3 r := congrFun (cA 3 (by omega)) r
        have x3 : gi μ1 6 r = A 2 r := congrFun (cA 2 (by omega)) r
        have x4 : gi μ1 50 r = mo0 LV A nr nb (gi μ 3 14) r := g2 r hr
        have x5 : gi μ1 126 r = gi μ 126 r := hF.1 _ _ (by unfold pS pL; omega)
        rw [x1, eq, nI_clamp (by omega)]
        show (!onC A 10 q r && (!decide (gi μ1 7 r = 0) && !decide (lnV (gi μ1 50 r) (gi μ1 6 r) = gi μ1 126 r))) = (!onC A 10 q r && (!decide (A 3 r = 0) && !decide (lnV (mo0 LV A nr nb (gi μ 3 14) r) (A 2 r) = gi μ 126 r)))
        rw [x2, x3, x4, x5]
      rw [eb]
      have eq2 : qB LV A nr nb (gi μ 3 14) (gi μ 126) i = !anB (fun r => !onC A 10 (A 5 i).toNatClampNeg r && (snB A r && !decide (lnV (mo0 LV A nr nb (gi μ 3 14) r) (A 2 r) = gi μ 126 r))) nr := by
        unfold qB; rw [decide_eq_false c]; rfl
      rw [← eq2]
      refine hZ 400 [71] _ _ _ _ _ _ _ ?_
      simp -implicitDefEqProofs (disch := omega) only [wp_step xX9_startWatch_56, wp_step xX9_startWatch_59, wp_step xX9_startWatch_60, wp_step xX9_startWatch_61, wp_step xX9_startWatch_64, wp_step xX9_startWatch_65, wp_step xX9_startWatch_66, wp_step xX9_startWatch_67, wp_step xX9_startWatch_68, ↓e_getf iX9_startWatch f9_23, ↓e_getf iX9_startWatch f9_15, ↓e_getf iX9_startWatch f9_47, ↓e_virt iX9_startWatch l9_50 iX7_weigh, ↓e_putf iX9_startWatch f9_56, ↓e_getf iX9_startWatch f9_60, ↓e_getf iX9_startWatch f9_63, ↓e_getf iX9_startWatch f9_9, ↓e_virt iX9_startWatch l9_66 iX7_leanBeside, ↓e_getf iX9_startWatch f9_56, iX9_startWatch, exec1, ↓p1_e, ↓p2_e, ↓q1_e, ↓q2_e, ↓qi_e, ↓pr_e, ↓pa_e, ↓pa_f, ↓pst_e, ↓qst_e, ↓rst_e, ↓pac_e, ↓pargs_0, ↓pargs_s, ↓gfld_0, ↓gfld_1, ↓gfld_2, ↓gfld_3, ↓pfld_i, ↓pfld_l, ↓pfld_r, ↓sfld_i, ↓sfld_l, ↓sfld_r, brI, pushv, rcv, lget, lset, lset2, isL, rok, szs, List.elem_nil, List.elem_cons, cond_true, cond_false, Option.map_some, beq_self_eq_true, Bool.true_and, Bool.and_true, Bool.false_and, Bool.and_false, Bool.or_false, Bool.false_or, Bool.or_true, Bool.true_or, Nat.reduceAdd, Nat.reduceSub, Nat.reduceMul, Nat.reduceBEq, Nat.reduceEqDiff, Nat.reduceLeDiff, Nat.sub_zero, true_and, and_true, false_and, and_false, true_or, or_true, false_or, or_false, reduceCtorEq, ↓reduceIte, List.getD_cons_zero, List.getD_cons_succ, List.length_cons, List.length_nil, ct_i, ct_r, ct_l, ct_f, ct_n, false_implies, true_implies, yW, bN_0, gl_sl, lc1]
      refine ⟨skip, fun c2 => ?_⟩
      refine hZ 400 [14, 21, 56] _ _ _ _ _ _ _ ?_
      simp -implicitDefEqProofs (disch := omega) only [wp_step xX9_startWatch_71, wp_step xX9_startWatch_74, ↓e_getf iX9_startWatch f9_23, ↓e_getf iX9_startWatch f9_15, ↓e_getf iX9_startWatch f9_47, ↓e_virt iX9_startWatch l9_50 iX7_weigh, ↓e_putf iX9_startWatch f9_56, ↓e_getf iX9_startWatch f9_60, ↓e_getf iX9_startWatch f9_63, ↓e_getf iX9_startWatch f9_9, ↓e_virt iX9_startWatch l9_66 iX7_leanBeside, ↓e_getf iX9_startWatch f9_56, iX9_startWatch, exec1, ↓p1_e, ↓p2_e, ↓q1_e, ↓q2_e, ↓qi_e, ↓pr_e, ↓pa_e, ↓pa_f, ↓pst_e, ↓qst_e, ↓rst_e, ↓pac_e, ↓pargs_0, ↓pargs_s, ↓gfld_0, ↓gfld_1, ↓gfld_2, ↓gfld_3, ↓pfld_i, ↓pfld_l, ↓pfld_r, ↓sfld_i, ↓sfld_l, ↓sfld_r, brI, pushv, rcv, lget, lset, lset2, isL, rok, szs, List.elem_nil, List.elem_cons, cond_true, cond_false, Option.map_some, beq_self_eq_true, Bool.true_and, Bool.and_true, Bool.false_and, Bool.and_false, Bool.or_false, Bool.false_or, Bool.or_true, Bool.true_or, Nat.reduceAdd, Nat.reduceSub, Nat.reduceMul, Nat.reduceBEq, Nat.reduceEqDiff, Nat.reduceLeDiff, Nat.sub_zero, true_and, and_true, false_and, and_false, true_or, or_true, false_or, or_false, reduceCtorEq, ↓reduceIte, List.getD_cons_zero, List.getD_cons_succ, List.length_cons, List.length_nil, ct_i, ct_r, ct_l, ct_f, ct_n, false_implies, true_implies, nI_1]
      rw [sl_sl]
      refine ih _ (fun k hk => ?_)
      rw [bl_or (by omega), hL k hk]
      by_cases y : k = i
      · subst y; rw [btr c2, decide_eq_true (show k < k + 1 by omega), decide_eq_true rfl, Bool.or_true]; rfl
      · rw [decide_eq_false y, Bool.or_false, show decide (k < i + 1) = decide (k < i) by by_cases u : k < i; rw [decide_eq_true u, decide_eq_true (by omega)]; rw [decide_eq_false u, decide_eq_false (by omega)]]
  refine hZ 400 [14, 21, 56] _ _ _ _ _ _ _ ?_
  simp -implicitDefEqProofs (disch := omega) only [wp_step xX9_startWatch_14, wp_step xX9_startWatch_15, wp_step xX9_startWatch_16, wp_step xX9_startWatch_19, wp_step xX9_startWatch_20, ↓e_getf iX9_startWatch f9_23, ↓e_getf iX9_startWatch f9_15, ↓e_getf iX9_startWatch f9_47, ↓e_virt iX9_startWatch l9_50 iX7_weigh, ↓e_putf iX9_startWatch f9_56, ↓e_getf iX9_startWatch f9_60, ↓e_getf iX9_startWatch f9_63, ↓e_getf iX9_startWatch f9_9, ↓e_virt iX9_startWatch l9_66 iX7_leanBeside, ↓e_getf iX9_startWatch f9_56, iX9_startWatch, exec1, ↓p1_e, ↓p2_e, ↓q1_e, ↓q2_e, ↓qi_e, ↓pr_e, ↓pa_e, ↓pa_f, ↓pst_e, ↓qst_e, ↓rst_e, ↓pac_e, ↓pargs_0, ↓pargs_s, ↓gfld_0, ↓gfld_1, ↓gfld_2, ↓gfld_3, ↓pfld_i, ↓pfld_l, ↓pfld_r, ↓sfld_i, ↓sfld_l, ↓sfld_r, brI, pushv, rcv, lget, lset, lset2, isL, rok, szs, List.elem_nil, List.elem_cons, cond_true, cond_false, Option.map_some, beq_self_eq_true, Bool.true_and, Bool.and_true, Bool.false_and, Bool.and_false, Bool.or_false, Bool.false_or, Bool.or_true, Bool.true_or, Nat.reduceAdd, Nat.reduceSub, Nat.reduceMul, Nat.reduceBEq, Nat.reduceEqDiff, Nat.reduceLeDiff, Nat.sub_zero, true_and, and_true, false_and, and_false, true_or, or_true, false_or, or_false, reduceCtorEq, ↓reduceIte, List.getD_cons_zero, List.getD_cons_succ, List.length_cons, List.length_nil, ct_i, ct_r, ct_l, ct_f, ct_n, false_implies, true_implies, yW, lc0]
  exact loop 0 (by omega) 0 (fun k hk => by rw [bl_0, decide_eq_false (by omega)]; rfl)
end WAT2
