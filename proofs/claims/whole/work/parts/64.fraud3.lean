section FRD3
variable {G : Gx} {d v : Nat} {μ : Mem} {bc bs : Nat} {Q : Option Value → List Sh → Mem → Nat → Nat → Prop}
theorem max_n {a b : Nat} (ha : a < 1000) (hb : b < 1000) : (if nI a < nI b then nI b else nI a) = nI (max a b) := by
  by_cases c : a < b
  · rw [if_pos (nI_lt c (by omega)), Nat.max_eq_right (by omega)]
  · rw [if_neg (nI_nlt (by omega) (by omega)), Nat.max_eq_left (by omega)]
theorem min_n {a b : Nat} (ha : a < 1000) (hb : b < 1000) : (if nI b < nI a then nI b else nI a) = nI (min a b) := by
  by_cases c : b < a
  · rw [if_pos (nI_lt c (by omega)), Nat.min_eq_right (by omega)]
  · rw [if_neg (nI_nlt (by omega) (by omega)), Nat.min_eq_left (by omega)]
set_option maxRecDepth 100000 in
set_option maxHeartbeats 1000000 in
theorem k_mostPayable {nr nb sz n : Nat} {A : Nat → Nat → Int32} {LV : (Nat → Int32) → Bool → Int32} {a b : Int32} (hd : 2 ≤ d) (hC : Ctx μ A LV nr nb sz n a b) (hW : WFd A nr nb) (hab : a ≠ b) (h : ∀ V : Int32, V.toInt ≤ 98 → (∀ m : Nat, m ≤ 98 → V.toInt < m → ∀ i j, i < nb → j < nb → (cutB A i a (nI m) && knB A j b (nI m)) = false) → Q (some (.int V)) (LAY v) μ bc bs) : KC G d mX5_mostPayable [.ref 51] (LAY v) μ bc bs Q := by
  obtain ⟨⟨w1, w2, ⟨⟨w3, w4, w5⟩, w6, w7⟩, w8, w9, w10⟩, c2, c3, c4, c5⟩ := id hC
  refine KC_intro 0 0 kX5_mostPayable (by decide) (by decide) (Nat.zero_le _) (Nat.zero_le _) (Nat.le_of_ble_eq_true rfl) (fun Z hZ => ?_)
  show Z 0 [some (.ref 51), none, none, none] [] (LAY v) μ 0 0
  have loop : ∀ i, i ≤ nb → (∀ L S, L ≤ 99 → S ≤ 99 → (∀ k l, k < i → whB A k a = true → l ≤ 99 → A 7 k = nI l → l ≤ L) → (∀ k l, k < i → whB A k b = true → l ≤ 99 → A 7 k = nI l → S ≤ l) → Z 7 [some (.ref 51), some (.int (nI L)), some (.int (nI S)), some (.int (nI i))] [] (LAY v) μ 0 0) := by
    refine loopN nb (fun L S hL hS q1 q2 => ?_) (fun i hi ih L S hL hS q1 q2 => ?_)
    · refine hZ 400 [7, 30, 62] _ _ _ _ _ _ _ ?_
      simp -implicitDefEqProofs (disch := omega) only [wp_step xX5_mostPayable_7, wp_step xX5_mostPayable_8, wp_step xX5_mostPayable_9, wp_step xX5_mostPayable_12, wp_step xX5_mostPayable_15, ↓e_getf iX5_mostPayable f5_32, ↓e_getf iX5_mostPayable f5_65, ↓e_getf iX5_mostPayable f5_43, ↓e_virt iX5_mostPayable l5_112 iX3_isWhiteOf, ↓e_getf iX5_mostPayable f5_96, ↓e_max iX5_mostPayable j5_115, ↓e_getf iX5_mostPayable f5_47, ↓e_min iX5_mostPayable j5_121, iX5_mostPayable, wp_step xX5_mostPayable_85, wp_step xX5_mostPayable_86, wp_step xX5_mostPayable_87, wp_step xX5_mostPayable_88, wp_step xX5_mostPayable_90, wp_step xX5_mostPayable_91, wp_step xX5_mostPayable_92, wp_step xX5_mostPayable_95, ↓e_getf iX5_mostPayable f5_32, ↓e_getf iX5_mostPayable f5_65, ↓e_getf iX5_mostPayable f5_43, ↓e_virt iX5_mostPayable l5_112 iX3_isWhiteOf, ↓e_getf iX5_mostPayable f5_96, ↓e_max iX5_mostPayable j5_115, ↓e_getf iX5_mostPayable f5_47, ↓e_min iX5_mostPayable j5_121, iX5_mostPayable, exec1, ↓p1_e, ↓p2_e, ↓q1_e, ↓q2_e, ↓qi_e, ↓pr_e, ↓pa_e, ↓pa_f, ↓pst_e, ↓qst_e, ↓rst_e, ↓pac_e, ↓pargs_0, ↓pargs_s, ↓gfld_0, ↓gfld_1, ↓gfld_2, ↓gfld_3, ↓pfld_i, ↓pfld_l, ↓pfld_r, ↓sfld_i, ↓sfld_l, ↓sfld_r, brI, pushv, rcv, lget, lset, lset2, isL, rok, szs, List.elem_nil, List.elem_cons, cond_true, cond_false, Option.map_some, beq_self_eq_true, Bool.true_and, Bool.and_true, Bool.false_and, Bool.and_false, Bool.or_false, Bool.false_or, Bool.or_true, Bool.true_or, Nat.reduceAdd, Nat.reduceSub, Nat.reduceMul, Nat.reduceBEq, Nat.reduceEqDiff, Nat.reduceLeDiff, Nat.sub_zero, true_and, and_true, false_and, and_false, true_or, or_true, false_or, or_false, reduceCtorEq, ↓reduceIte, List.getD_cons_zero, List.getD_cons_succ, List.length_cons, List.length_nil, ct_i, ct_r, ct_l, ct_f, ct_n, false_implies, true_implies, y3, y4, y5, y6, y7, y8, y9, y10, y11, y12, y13, y14, y15, y51, y52, y53, y54, w2, nle_t (show nb < 2 ^ 31 by omega), not_false_eq_true, true_implies, false_implies, and_true, true_and, not_true_eq_false]
      have e1 : (nI L - 1).toInt = (L : Int) - 1 := by
        rw [Int32.toInt_sub, nI_toInt (by omega), show (1 : Int32).toInt = 1 from rfl, Int.bmod_eq_of_le (by omega) (by omega)]
      have e2 : (99 - nI S).toInt = 99 - (S : Int) := by
        rw [Int32.toInt_sub, nI_toInt (by omega), show (99 : Int32).toInt = 99 from rfl, Int.bmod_eq_of_le (by omega) (by omega)]
      have em : (if 99 - nI S < nI L - 1 then 99 - nI S else nI L - 1).toInt = min ((L : Int) - 1) (99 - S) := by
        by_cases c : 99 - nI S < nI L - 1
        · rw [if_pos c, e2]; rw [i_lt, e1, e2] at c; omega
        · rw [if_neg c, e1]; rw [i_lt, e1, e2] at c; omega
      refine ⟨by omega, h _ (by omega) (fun m hm z i j hi hj => ?_)⟩
      rw [em] at z
      cases e : (cutB A i a (nI m) && knB A j b (nI m)) with
      | false => rfl
      | true =>
        obtain ⟨x1, x2⟩ := Bool.and_eq_true_iff.mp e
        obtain ⟨-, -, ⟨li, hli, eli, -⟩, -⟩ := hW.2.2 i hi
        obtain ⟨-, -, ⟨lj, hlj, elj, -⟩, -⟩ := hW.2.2 j hj
        unfold cutB at x1
        unfold knB at x2
        obtain ⟨y1, y2⟩ := Bool.and_eq_true_iff.mp x1
        obtain ⟨y3, y4⟩ := Bool.and_eq_true_iff.mp x2
        have z1 := q1 i li hi y1 hli eli
        have z2 := q2 j lj hj y3 hlj elj
        rw [eli, ← sub_lt hli hm] at y2
        have z3 := (nI_ltI (by omega) (by omega)).mp (of_decide_eq_true y2)
        have z4 := of_decide_eq_true y4
        rw [elj, nI_add] at z4
        have z5 := (nI_leI (b := 99) (by omega) (by omega)).mp z4
        omega
    · have vi : vp_in (nI i) 40 := vin (by omega) (by omega)
      obtain ⟨-, -, ⟨li, hli, eli, -⟩, -⟩ := hW.2.2 i hi
      have e11 : gi μ 11 i = nI li := (congrFun (c2 7 (by omega)) i).trans eli
      refine hZ 400 [7, 30, 62] _ _ _ _ _ _ _ ?_
      simp -implicitDefEqProofs (disch := omega) only [wp_step xX5_mostPayable_7, wp_step xX5_mostPayable_8, wp_step xX5_mostPayable_9, wp_step xX5_mostPayable_12, wp_step xX5_mostPayable_15, wp_step xX5_mostPayable_18, wp_step xX5_mostPayable_19, wp_step xX5_mostPayable_22, wp_step xX5_mostPayable_23, wp_step xX5_mostPayable_24, wp_step xX5_mostPayable_27, ↓e_getf iX5_mostPayable f5_32, ↓e_getf iX5_mostPayable f5_65, ↓e_getf iX5_mostPayable f5_43, ↓e_virt iX5_mostPayable l5_112 iX3_isWhiteOf, ↓e_getf iX5_mostPayable f5_96, ↓e_max iX5_mostPayable j5_115, ↓e_getf iX5_mostPayable f5_47, ↓e_min iX5_mostPayable j5_121, iX5_mostPayable, exec1, ↓p1_e, ↓p2_e, ↓q1_e, ↓q2_e, ↓qi_e, ↓pr_e, ↓pa_e, ↓pa_f, ↓pst_e, ↓qst_e, ↓rst_e, ↓pac_e, ↓pargs_0, ↓pargs_s, ↓gfld_0, ↓gfld_1, ↓gfld_2, ↓gfld_3, ↓pfld_i, ↓pfld_l, ↓pfld_r, ↓sfld_i, ↓sfld_l, ↓sfld_r, brI, pushv, rcv, lget, lset, lset2, isL, rok, szs, List.elem_nil, List.elem_cons, cond_true, cond_false, Option.map_some, beq_self_eq_true, Bool.true_and, Bool.and_true, Bool.false_and, Bool.and_false, Bool.or_false, Bool.false_or, Bool.or_true, Bool.true_or, Nat.reduceAdd, Nat.reduceSub, Nat.reduceMul, Nat.reduceBEq, Nat.reduceEqDiff, Nat.reduceLeDiff, Nat.sub_zero, true_and, and_true, false_and, and_false, true_or, or_true, false_or, or_false, reduceCtorEq, ↓reduceIte, List.getD_cons_zero, List.getD_cons_succ, List.length_cons, List.length_nil, ct_i, ct_r, ct_l, ct_f, ct_n, false_implies, true_implies, y3, y4, y5, y6, y7, y8, y9, y10, y11, y12, y13, y14, y15, y51, y52, y53, y54, w2, nle_f hi (show nb < 2 ^ 31 by omega), not_false_eq_true, true_implies, false_implies, and_true, true_and, not_true_eq_false]
      refine ⟨by omega, k_isWhiteOf (by omega) w2 w5 hi ?_⟩
      rw [whB_fr c2, c4]
      have uniq : ∀ l, l ≤ 99 → A 7 i = nI l → l = li := fun l hl e => (nI_eq (by omega) (by omega)).mp (e.symm.trans eli)
      refine hZ 400 [7, 30, 62] _ _ _ _ _ _ _ ?_
      simp -implicitDefEqProofs (disch := omega) only [wp_step xX5_mostPayable_30, wp_step xX5_mostPayable_33, wp_step xX5_mostPayable_34, wp_step xX5_mostPayable_35, wp_step xX5_mostPayable_38, wp_step xX5_mostPayable_41, wp_step xX5_mostPayable_42, wp_step xX5_mostPayable_43, wp_step xX5_mostPayable_46, wp_step xX5_mostPayable_47, wp_step xX5_mostPayable_50, wp_step xX5_mostPayable_51, wp_step xX5_mostPayable_54, wp_step xX5_mostPayable_55, wp_step xX5_mostPayable_56, wp_step xX5_mostPayable_59, ↓e_getf iX5_mostPayable f5_32, ↓e_getf iX5_mostPayable f5_65, ↓e_getf iX5_mostPayable f5_43, ↓e_virt iX5_mostPayable l5_112 iX3_isWhiteOf, ↓e_getf iX5_mostPayable f5_96, ↓e_max iX5_mostPayable j5_115, ↓e_getf iX5_mostPayable f5_47, ↓e_min iX5_mostPayable j5_121, iX5_mostPayable, wp_step xX5_mostPayable_79, wp_step xX5_mostPayable_82, ↓e_getf iX5_mostPayable f5_32, ↓e_getf iX5_mostPayable f5_65, ↓e_getf iX5_mostPayable f5_43, ↓e_virt iX5_mostPayable l5_112 iX3_isWhiteOf, ↓e_getf iX5_mostPayable f5_96, ↓e_max iX5_mostPayable j5_115, ↓e_getf iX5_mostPayable f5_47, ↓e_min iX5_mostPayable j5_121, iX5_mostPayable, exec1, ↓p1_e, ↓p2_e, ↓q1_e, ↓q2_e, ↓qi_e, ↓pr_e, ↓pa_e, ↓pa_f, ↓pst_e, ↓qst_e, ↓rst_e, ↓pac_e, ↓pargs_0, ↓pargs_s, ↓gfld_0, ↓gfld_1, ↓gfld_2, ↓gfld_3, ↓pfld_i, ↓pfld_l, ↓pfld_r, ↓sfld_i, ↓sfld_l, ↓sfld_r, brI, pushv, rcv, lget, lset, lset2, isL, rok, szs, List.elem_nil, List.elem_cons, cond_true, cond_false, Option.map_some, beq_self_eq_true, Bool.true_and, Bool.and_true, Bool.false_and, Bool.and_false, Bool.or_false, Bool.false_or, Bool.or_true, Bool.true_or, Nat.reduceAdd, Nat.reduceSub, Nat.reduceMul, Nat.reduceBEq, Nat.reduceEqDiff, Nat.reduceLeDiff, Nat.sub_zero, true_and, and_true, false_and, and_false, true_or, or_true, false_or, or_false, reduceCtorEq, ↓reduceIte, List.getD_cons_zero, List.getD_cons_succ, List.length_cons, List.length_nil, ct_i, ct_r, ct_l, ct_f, ct_n, false_implies, true_implies, y3, y4, y5, y6, y7, y8, y9, y10, y11, y12, y13, y14, y15, y51, y52, y53, y54, bN_0, vi, nI_clamp, e11, max_n, nI_1]
      refine ⟨fun c => ⟨by omega, k_isWhiteOf (by omega) w2 w5 hi ?_⟩, fun c => ⟨by omega, ?_⟩⟩
      · rw [whB_fr c2, c5]
        refine hZ 400 [7, 30, 62] _ _ _ _ _ _ _ ?_
        simp -implicitDefEqProofs (disch := omega) only [wp_step xX5_mostPayable_62, wp_step xX5_mostPayable_65, wp_step xX5_mostPayable_66, wp_step xX5_mostPayable_67, wp_step xX5_mostPayable_70, wp_step xX5_mostPayable_73, wp_step xX5_mostPayable_74, wp_step xX5_mostPayable_75, wp_step xX5_mostPayable_78, wp_step xX5_mostPayable_79, wp_step xX5_mostPayable_82, ↓e_getf iX5_mostPayable f5_32, ↓e_getf iX5_mostPayable f5_65, ↓e_getf iX5_mostPayable f5_43, ↓e_virt iX5_mostPayable l5_112 iX3_isWhiteOf, ↓e_getf iX5_mostPayable f5_96, ↓e_max iX5_mostPayable j5_115, ↓e_getf iX5_mostPayable f5_47, ↓e_min iX5_mostPayable j5_121, iX5_mostPayable, exec1, ↓p1_e, ↓p2_e, ↓q1_e, ↓q2_e, ↓qi_e, ↓pr_e, ↓pa_e, ↓pa_f, ↓pst_e, ↓qst_e, ↓rst_e, ↓pac_e, ↓pargs_0, ↓pargs_s, ↓gfld_0, ↓gfld_1, ↓gfld_2, ↓gfld_3, ↓pfld_i, ↓pfld_l, ↓pfld_r, ↓sfld_i, ↓sfld_l, ↓sfld_r, brI, pushv, rcv, lget, lset, lset2, isL, rok, szs, List.elem_nil, List.elem_cons, cond_true, cond_false, Option.map_some, beq_self_eq_true, Bool.true_and, Bool.and_true, Bool.false_and, Bool.and_false, Bool.or_false, Bool.false_or, Bool.or_true, Bool.true_or, Nat.reduceAdd, Nat.reduceSub, Nat.reduceMul, Nat.reduceBEq, Nat.reduceEqDiff, Nat.reduceLeDiff, Nat.sub_zero, true_and, and_true, false_and, and_false, true_or, or_true, false_or, or_false, reduceCtorEq, ↓reduceIte, List.getD_cons_zero, List.getD_cons_succ, List.length_cons, List.length_nil, ct_i, ct_r, ct_l, ct_f, ct_n, false_implies, true_implies, y3, y4, y5, y6, y7, y8, y9, y10, y11, y12, y13, y14, y15, y51, y52, y53, y54, bN_0, vi, nI_clamp, e11, min_n, nI_1]
        refine ⟨fun c6 => ih L S hL hS (fun k l hk z hl el => ?_) (fun k l hk z hl el => ?_), fun c6 => ⟨by omega, ih L (min S li) hL (by omega) (fun k l hk z hl el => ?_) (fun k l hk z hl el => ?_)⟩⟩
        · by_cases y : k = i
          · subst y; rw [c] at z; exact absurd z (by decide)
          · exact q1 k l (by omega) z hl el
        · by_cases y : k = i
          · subst y; rw [c6] at z; exact absurd z (by decide)
          · exact q2 k l (by omega) z hl el
        · by_cases y : k = i
          · subst y; rw [c] at z; exact absurd z (by decide)
          · exact q1 k l (by omega) z hl el
        · by_cases y : k = i
          · subst y; rw [uniq l hl el]; omega
          · have := q2 k l (by omega) z hl el; omega
      · refine ih (max L li) S (by omega) hS (fun k l hk z hl el => ?_) (fun k l hk z hl el => ?_)
        · by_cases y : k = i
          · subst y; rw [uniq l hl el]; omega
          · have := q1 k l (by omega) z hl el; omega
        · by_cases y : k = i
          · subst y; exact absurd ((whB_i (btr c)).2.2.symm.trans (whB_i z).2.2) hab
          · exact q2 k l (by omega) z hl el
  refine hZ 400 [7, 30, 62] _ _ _ _ _ _ _ ?_
  simp -implicitDefEqProofs (disch := omega) only [wp_step xX5_mostPayable_0, wp_step xX5_mostPayable_1, wp_step xX5_mostPayable_2, wp_step xX5_mostPayable_4, wp_step xX5_mostPayable_5, wp_step xX5_mostPayable_6, ↓e_getf iX5_mostPayable f5_32, ↓e_getf iX5_mostPayable f5_65, ↓e_getf iX5_mostPayable f5_43, ↓e_virt iX5_mostPayable l5_112 iX3_isWhiteOf, ↓e_getf iX5_mostPayable f5_96, ↓e_max iX5_mostPayable j5_115, ↓e_getf iX5_mostPayable f5_47, ↓e_min iX5_mostPayable j5_121, iX5_mostPayable, exec1, ↓p1_e, ↓p2_e, ↓q1_e, ↓q2_e, ↓qi_e, ↓pr_e, ↓pa_e, ↓pa_f, ↓pst_e, ↓qst_e, ↓rst_e, ↓pac_e, ↓pargs_0, ↓pargs_s, ↓gfld_0, ↓gfld_1, ↓gfld_2, ↓gfld_3, ↓pfld_i, ↓pfld_l, ↓pfld_r, ↓sfld_i, ↓sfld_l, ↓sfld_r, brI, pushv, rcv, lget, lset, lset2, isL, rok, szs, List.elem_nil, List.elem_cons, cond_true, cond_false, Option.map_some, beq_self_eq_true, Bool.true_and, Bool.and_true, Bool.false_and, Bool.and_false, Bool.or_false, Bool.false_or, Bool.or_true, Bool.true_or, Nat.reduceAdd, Nat.reduceSub, Nat.reduceMul, Nat.reduceBEq, Nat.reduceEqDiff, Nat.reduceLeDiff, Nat.sub_zero, true_and, and_true, false_and, and_false, true_or, or_true, false_or, or_false, reduceCtorEq, ↓reduceIte, List.getD_cons_zero, List.getD_cons_succ, List.length_cons, List.length_nil, ct_i, ct_r, ct_l, ct_f, ct_n, false_implies, true_implies]
  exact loop 0 (by omega) 0 99 (by omega) (by omega) (fun k l hk => absurd hk (by omega)) (fun k l hk => absurd hk (by omega))
end FRD3
