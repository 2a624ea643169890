section RNG
variable {G : Gx} {d v : Nat} {μ : Mem} {bc bs : Nat} {Q : Option Value → List Sh → Mem → Nat → Nat → Prop}
set_option maxRecDepth 100000 in
set_option maxHeartbeats 1000000 in
theorem k_mRing {w : Int32} {nr nb : Nat} (hd : 3 ≤ d) (hb : (gi μ 144 3) = nI nb) (hn : nb ≤ 40) (hR : ∀ i, i < nb → RibOK (fun f => gi μ (146 + f)) nr i) (h0 : ¬ (-1 ≤ w ∧ w ≤ 8) → Q (some (.int (-1))) (LAY v) μ bc bs) (h1 : (-1 ≤ w ∧ w ≤ 8) → ∀ μ', Fr pFr μ μ' → Q (some (.int (rgF w (rgB (dbS (fun f => gi μ (146 + f)) nb) 8)))) (LAY v) μ' bc bs) : KC G d mX11_ring [.ref 144, .int w] (LAY v) μ bc bs Q := by
  have hS := dbS_ok hn hR
  refine KC_intro 0 0 kX11_ring (by decide) (by decide) (Nat.zero_le _) (Nat.zero_le _) (Nat.le_of_ble_eq_true rfl) (fun Z hZ => ?_)
  show Z 0 [some (.ref 144), some (.int w)] [] (LAY v) μ 0 0
  have go : (-1 ≤ w ∧ w ≤ 8) → Z 25 [some (.ref 144), some (.int w)] [] (LAY v) μ 0 0 := fun c => by
    refine hZ 400 [29] _ _ _ _ _ _ _ ?_
    simp -implicitDefEqProofs (disch := omega) only [wp_step xX11_ring_25, wp_step xX11_ring_26, q11_211, ↓e_static iX11_ring jn11_203 l11_203 iX11_lies, ↓e_virt iX11_ring l11_485 iX11_findsRing, ↓e_getf iX11_ring f11_476, ↓e_getf iX11_ring f11_473, ↓e_getf iX11_ring f11_158, iX11_ring, exec1, ↓p1_e, ↓p2_e, ↓q1_e, ↓q2_e, ↓qi_e, ↓pr_e, ↓pa_e, ↓pa_f, ↓pst_e, ↓qst_e, ↓rst_e, ↓pac_e, ↓pargs_0, ↓pargs_s, ↓gfld_0, ↓gfld_1, ↓gfld_2, ↓gfld_3, ↓pfld_i, ↓pfld_l, ↓pfld_r, ↓sfld_i, ↓sfld_l, ↓sfld_r, brI, pushv, rcv, lget, lset, lset2, isL, rok, szs, List.elem_nil, List.elem_cons, cond_true, cond_false, Option.map_some, beq_self_eq_true, Bool.true_and, Bool.and_true, Bool.false_and, Bool.and_false, Bool.or_false, Bool.false_or, Bool.or_true, Bool.true_or, Nat.reduceAdd, Nat.reduceSub, Nat.reduceMul, Nat.reduceBEq, Nat.reduceEqDiff, Nat.reduceLeDiff, Nat.sub_zero, true_and, and_true, false_and, and_false, true_or, or_true, false_or, or_false, reduceCtorEq, ↓reduceIte, List.getD_cons_zero, List.getD_cons_succ, List.length_cons, List.length_nil, ct_i, ct_r, ct_l, ct_f, ct_n, false_implies, true_implies, y144]
    refine ⟨by omega, k_mFindsRing (by omega) hb hn hR (fun μ1 hF hB => ?_)⟩
    have fin := h1 c μ1 hF
    have ok := rgB_ok hS (s := 8)
    obtain ⟨B, eB⟩ : ∃ B, B = rgB (dbS (fun f => gi μ (146 + f)) nb) 8 := ⟨_, rfl⟩
    rw [← eB] at hB fin ok
    obtain ⟨b1, b2, b3⟩ := hB
    have o2 := ok.2
    unfold rgF at fin
    by_cases c0 : B.2.1 = 0
    · rw [if_pos c0] at fin
      refine hZ 400 [] _ _ _ _ _ _ _ ?_
      simp -implicitDefEqProofs (disch := omega) only [wp_step xX11_ring_29, wp_step xX11_ring_30, wp_step xX11_ring_33, wp_step xX11_ring_36, wp_step xX11_ring_38, q11_211, ↓e_static iX11_ring jn11_203 l11_203 iX11_lies, ↓e_virt iX11_ring l11_485 iX11_findsRing, ↓e_getf iX11_ring f11_476, ↓e_getf iX11_ring f11_473, ↓e_getf iX11_ring f11_158, iX11_ring, exec1, ↓p1_e, ↓p2_e, ↓q1_e, ↓q2_e, ↓qi_e, ↓pr_e, ↓pa_e, ↓pa_f, ↓pst_e, ↓qst_e, ↓rst_e, ↓pac_e, ↓pargs_0, ↓pargs_s, ↓gfld_0, ↓gfld_1, ↓gfld_2, ↓gfld_3, ↓pfld_i, ↓pfld_l, ↓pfld_r, ↓sfld_i, ↓sfld_l, ↓sfld_r, brI, pushv, rcv, lget, lset, lset2, isL, rok, szs, List.elem_nil, List.elem_cons, cond_true, cond_false, Option.map_some, beq_self_eq_true, Bool.true_and, Bool.and_true, Bool.false_and, Bool.and_false, Bool.or_false, Bool.false_or, Bool.or_true, Bool.true_or, Nat.reduceAdd, Nat.reduceSub, Nat.reduceMul, Nat.reduceBEq, Nat.reduceEqDiff, Nat.reduceLeDiff, Nat.sub_zero, true_and, and_true, false_and, and_false, true_or, or_true, false_or, or_false, reduceCtorEq, ↓reduceIte, List.getD_cons_zero, List.getD_cons_succ, List.length_cons, List.length_nil, ct_i, ct_r, ct_l, ct_f, ct_n, false_implies, true_implies, y144, b2, c0, show (nI 0 = 0) = True from eq_true rfl, not_false_eq_true, true_implies, false_implies, and_true, true_and, not_true_eq_false]
      exact fin
    · rw [if_neg c0] at fin
      by_cases c1 : w = -1
      · rw [if_pos c1] at fin
        refine hZ 400 [] _ _ _ _ _ _ _ ?_
        simp -implicitDefEqProofs (disch := omega) only [wp_step xX11_ring_29, wp_step xX11_ring_30, wp_step xX11_ring_33, wp_step xX11_ring_36, wp_step xX11_ring_38, wp_step xX11_ring_39, wp_step xX11_ring_40, wp_step xX11_ring_41, wp_step xX11_ring_44, wp_step xX11_ring_45, wp_step xX11_ring_48, q11_211, ↓e_static iX11_ring jn11_203 l11_203 iX11_lies, ↓e_virt iX11_ring l11_485 iX11_findsRing, ↓e_getf iX11_ring f11_476, ↓e_getf iX11_ring f11_473, ↓e_getf iX11_ring f11_158, iX11_ring, exec1, ↓p1_e, ↓p2_e, ↓q1_e, ↓q2_e, ↓qi_e, ↓pr_e, ↓pa_e, ↓pa_f, ↓pst_e, ↓qst_e, ↓rst_e, ↓pac_e, ↓pargs_0, ↓pargs_s, ↓gfld_0, ↓gfld_1, ↓gfld_2, ↓gfld_3, ↓pfld_i, ↓pfld_l, ↓pfld_r, ↓sfld_i, ↓sfld_l, ↓sfld_r, brI, pushv, rcv, lget, lset, lset2, isL, rok, szs, List.elem_nil, List.elem_cons, cond_true, cond_false, Option.map_some, beq_self_eq_true, Bool.true_and, Bool.and_true, Bool.false_and, Bool.and_false, Bool.or_false, Bool.false_or, Bool.or_true, Bool.true_or, Nat.reduceAdd, Nat.reduceSub, Nat.reduceMul, Nat.reduceBEq, Nat.reduceEqDiff, Nat.reduceLeDiff, Nat.sub_zero, true_and, and_true, false_and, and_false, true_or, or_true, false_or, or_false, reduceCtorEq, ↓reduceIte, List.getD_cons_zero, List.getD_cons_succ, List.length_cons, List.length_nil, ct_i, ct_r, ct_l, ct_f, ct_n, false_implies, true_implies, y144, b1, b2, c1, show (nI B.2.1 = 0) = False from eq_false (nI_ne0 (by omega) (by omega)), not_false_eq_true, true_implies, false_implies, and_true, true_and, not_true_eq_false]
        exact fin
      · rw [if_neg c1] at fin
        by_cases c2 : w = 8
        · rw [if_pos c2] at fin
          refine hZ 400 [] _ _ _ _ _ _ _ ?_
          simp -implicitDefEqProofs (disch := omega) only [wp_step xX11_ring_29, wp_step xX11_ring_30, wp_step xX11_ring_33, wp_step xX11_ring_36, wp_step xX11_ring_38, wp_step xX11_ring_39, wp_step xX11_ring_40, wp_step xX11_ring_41, wp_step xX11_ring_44, wp_step xX11_ring_45, wp_step xX11_ring_48, wp_step xX11_ring_49, wp_step xX11_ring_50, wp_step xX11_ring_52, wp_step xX11_ring_55, wp_step xX11_ring_56, wp_step xX11_ring_59, wp_step xX11_ring_62, wp_step xX11_ring_63, wp_step xX11_ring_64, wp_step xX11_ring_67, wp_step xX11_ring_70, wp_step xX11_ring_71, wp_step xX11_ring_74, wp_step xX11_ring_75, wp_step xX11_ring_76, wp_step xX11_ring_79, wp_step xX11_ring_80, q11_211, ↓e_static iX11_ring jn11_203 l11_203 iX11_lies, ↓e_virt iX11_ring l11_485 iX11_findsRing, ↓e_getf iX11_ring f11_476, ↓e_getf iX11_ring f11_473, ↓e_getf iX11_ring f11_158, iX11_ring, exec1, ↓p1_e, ↓p2_e, ↓q1_e, ↓q2_e, ↓qi_e, ↓pr_e, ↓pa_e, ↓pa_f, ↓pst_e, ↓qst_e, ↓rst_e, ↓pac_e, ↓pargs_0, ↓pargs_s, ↓gfld_0, ↓gfld_1, ↓gfld_2, ↓gfld_3, ↓pfld_i, ↓pfld_l, ↓pfld_r, ↓sfld_i, ↓sfld_l, ↓sfld_r, brI, pushv, rcv, lget, lset, lset2, isL, rok, szs, List.elem_nil, List.elem_cons, cond_true, cond_false, Option.map_some, beq_self_eq_true, Bool.true_and, Bool.and_true, Bool.false_and, Bool.and_false, Bool.or_false, Bool.false_or, Bool.or_true, Bool.true_or, Nat.reduceAdd, Nat.reduceSub, Nat.reduceMul, Nat.reduceBEq, Nat.reduceEqDiff, Nat.reduceLeDiff, Nat.sub_zero, true_and, and_true, false_and, and_false, true_or, or_true, false_or, or_false, reduceCtorEq, ↓reduceIte, List.getD_cons_zero, List.getD_cons_succ, List.length_cons, List.length_nil, ct_i, ct_r, ct_l, ct_f, ct_n, false_implies, true_implies, y144, b1, b2, c2, show (nI B.2.1 = 0) = False from eq_false (nI_ne0 (by omega) (by omega)), show ¬ (8 : Int32) = -1 by decide, not_false_eq_true, true_implies, false_implies, and_true, true_and, not_true_eq_false]
          exact fin
        · rw [if_neg c2] at fin
          obtain ⟨k, hk0, ek⟩ := ofN (r := w) (by
            rw [i_le, show (0 : Int32).toInt = 0 from rfl]
            have x1 := i_le.mp c.1
            rw [show (-1 : Int32).toInt = -1 from rfl] at x1
            have x2 : ¬ w.toInt = -1 := fun z => c1 (i_eq.mpr z)
            omega)
          subst ek
          rw [nI_clamp hk0] at fin
          by_cases c3 : k < B.2.1
          · rw [if_pos c3] at fin
            have vk : vp_in (nI k) 9 := vin (by omega) (by omega)
            refine hZ 400 [] _ _ _ _ _ _ _ ?_
            simp -implicitDefEqProofs (disch := omega) only [wp_step xX11_ring_29, wp_step xX11_ring_30, wp_step xX11_ring_33, wp_step xX11_ring_36, wp_step xX11_ring_38, wp_step xX11_ring_39, wp_step xX11_ring_40, wp_step xX11_ring_41, wp_step xX11_ring_44, wp_step xX11_ring_45, wp_step xX11_ring_48, wp_step xX11_ring_49, wp_step xX11_ring_50, wp_step xX11_ring_52, wp_step xX11_ring_55, wp_step xX11_ring_56, wp_step xX11_ring_59, wp_step xX11_ring_62, wp_step xX11_ring_63, wp_step xX11_ring_64, wp_step xX11_ring_67, wp_step xX11_ring_70, wp_step xX11_ring_71, wp_step xX11_ring_74, wp_step xX11_ring_75, wp_step xX11_ring_76, wp_step xX11_ring_79, wp_step xX11_ring_80, q11_211, ↓e_static iX11_ring jn11_203 l11_203 iX11_lies, ↓e_virt iX11_ring l11_485 iX11_findsRing, ↓e_getf iX11_ring f11_476, ↓e_getf iX11_ring f11_473, ↓e_getf iX11_ring f11_158, iX11_ring, exec1, ↓p1_e, ↓p2_e, ↓q1_e, ↓q2_e, ↓qi_e, ↓pr_e, ↓pa_e, ↓pa_f, ↓pst_e, ↓qst_e, ↓rst_e, ↓pac_e, ↓pargs_0, ↓pargs_s, ↓gfld_0, ↓gfld_1, ↓gfld_2, ↓gfld_3, ↓pfld_i, ↓pfld_l, ↓pfld_r, ↓sfld_i, ↓sfld_l, ↓sfld_r, brI, pushv, rcv, lget, lset, lset2, isL, rok, szs, List.elem_nil, List.elem_cons, cond_true, cond_false, Option.map_some, beq_self_eq_true, Bool.true_and, Bool.and_true, Bool.false_and, Bool.and_false, Bool.or_false, Bool.false_or, Bool.or_true, Bool.true_or, Nat.reduceAdd, Nat.reduceSub, Nat.reduceMul, Nat.reduceBEq, Nat.reduceEqDiff, Nat.reduceLeDiff, Nat.sub_zero, true_and, and_true, false_and, and_false, true_or, or_true, false_or, or_false, reduceCtorEq, ↓reduceIte, List.getD_cons_zero, List.getD_cons_succ, List.length_cons, List.length_nil, ct_i, ct_r, ct_l, ct_f, ct_n, false_implies, true_implies, y144, y191, b2, c1, c2, show (nI B.2.1 = 0) = False from eq_false (nI_ne0 (by omega) (by omega)), show (nI B.2.1 ≤ nI k) = False from eq_false (nI_ge c3 (by omega)), vk, nI_clamp, b3 k c3, not_false_eq_true, true_implies, false_implies, and_true, true_and, not_true_eq_false]
            exact fin
          · rw [if_neg c3] at fin
            refine hZ 400 [] _ _ _ _ _ _ _ ?_
            simp -implicitDefEqProofs (disch := omega) only [wp_step xX11_ring_29, wp_step xX11_ring_30, wp_step xX11_ring_33, wp_step xX11_ring_36, wp_step xX11_ring_38, wp_step xX11_ring_39, wp_step xX11_ring_40, wp_step xX11_ring_41, wp_step xX11_ring_44, wp_step xX11_ring_45, wp_step xX11_ring_48, wp_step xX11_ring_49, wp_step xX11_ring_50, wp_step xX11_ring_52, wp_step xX11_ring_55, wp_step xX11_ring_56, wp_step xX11_ring_59, wp_step xX11_ring_62, wp_step xX11_ring_63, wp_step xX11_ring_64, wp_step xX11_ring_67, wp_step xX11_ring_70, wp_step xX11_ring_71, wp_step xX11_ring_74, wp_step xX11_ring_75, wp_step xX11_ring_76, wp_step xX11_ring_79, wp_step xX11_ring_80, q11_211, ↓e_static iX11_ring jn11_203 l11_203 iX11_lies, ↓e_virt iX11_ring l11_485 iX11_findsRing, ↓e_getf iX11_ring f11_476, ↓e_getf iX11_ring f11_473, ↓e_getf iX11_ring f11_158, iX11_ring, exec1, ↓p1_e, ↓p2_e, ↓q1_e, ↓q2_e, ↓qi_e, ↓pr_e, ↓pa_e, ↓pa_f, ↓pst_e, ↓qst_e, ↓rst_e, ↓pac_e, ↓pargs_0, ↓pargs_s, ↓gfld_0, ↓gfld_1, ↓gfld_2, ↓gfld_3, ↓pfld_i, ↓pfld_l, ↓pfld_r, ↓sfld_i, ↓sfld_l, ↓sfld_r, brI, pushv, rcv, lget, lset, lset2, isL, rok, szs, List.elem_nil, List.elem_cons, cond_true, cond_false, Option.map_some, beq_self_eq_true, Bool.true_and, Bool.and_true, Bool.false_and, Bool.and_false, Bool.or_false, Bool.false_or, Bool.or_true, Bool.true_or, Nat.reduceAdd, Nat.reduceSub, Nat.reduceMul, Nat.reduceBEq, Nat.reduceEqDiff, Nat.reduceLeDiff, Nat.sub_zero, true_and, and_true, false_and, and_false, true_or, or_true, false_or, or_false, reduceCtorEq, ↓reduceIte, List.getD_cons_zero, List.getD_cons_succ, List.length_cons, List.length_nil, ct_i, ct_r, ct_l, ct_f, ct_n, false_implies, true_implies, y144, y191, b2, c1, c2, show (nI B.2.1 = 0) = False from eq_false (nI_ne0 (by omega) (by omega)), show (nI B.2.1 ≤ nI k) = True from eq_true (nI_le (by omega) (by omega)), not_false_eq_true, true_implies, false_implies, and_true, true_and, not_true_eq_false]
            exact fin
  by_cases c1 : w = -1
  · refine hZ 400 [25] _ _ _ _ _ _ _ ?_
    simp -implicitDefEqProofs (disch := omega) only [wp_step xX11_ring_0, wp_step xX11_ring_1, wp_step xX11_ring_2, q11_211, ↓e_static iX11_ring jn11_203 l11_203 iX11_lies, ↓e_virt iX11_ring l11_485 iX11_findsRing, ↓e_getf iX11_ring f11_476, ↓e_getf iX11_ring f11_473, ↓e_getf iX11_ring f11_158, iX11_ring, exec1, ↓p1_e, ↓p2_e, ↓q1_e, ↓q2_e, ↓qi_e, ↓pr_e, ↓pa_e, ↓pa_f, ↓pst_e, ↓qst_e, ↓rst_e, ↓pac_e, ↓pargs_0, ↓pargs_s, ↓gfld_0, ↓gfld_1, ↓gfld_2, ↓gfld_3, ↓pfld_i, ↓pfld_l, ↓pfld_r, ↓sfld_i, ↓sfld_l, ↓sfld_r, brI, pushv, rcv, lget, lset, lset2, isL, rok, szs, List.elem_nil, List.elem_cons, cond_true, cond_false, Option.map_some, beq_self_eq_true, Bool.true_and, Bool.and_true, Bool.false_and, Bool.and_false, Bool.or_false, Bool.false_or, Bool.or_true, Bool.true_or, Nat.reduceAdd, Nat.reduceSub, Nat.reduceMul, Nat.reduceBEq, Nat.reduceEqDiff, Nat.reduceLeDiff, Nat.sub_zero, true_and, and_true, false_and, and_false, true_or, or_true, false_or, or_false, reduceCtorEq, ↓reduceIte, List.getD_cons_zero, List.getD_cons_succ, List.length_cons, List.length_nil, ct_i, ct_r, ct_l, ct_f, ct_n, false_implies, true_implies, c1, not_false_eq_true, true_implies, false_implies, and_true, true_and, not_true_eq_false]
    subst c1
    exact go (by decide)
  · by_cases c2 : w = 8
    · refine hZ 400 [25] _ _ _ _ _ _ _ ?_
      simp -implicitDefEqProofs (disch := omega) only [wp_step xX11_ring_0, wp_step xX11_ring_1, wp_step xX11_ring_2, wp_step xX11_ring_5, wp_step xX11_ring_6, wp_step xX11_ring_8, q11_211, ↓e_static iX11_ring jn11_203 l11_203 iX11_lies, ↓e_virt iX11_ring l11_485 iX11_findsRing, ↓e_getf iX11_ring f11_476, ↓e_getf iX11_ring f11_473, ↓e_getf iX11_ring f11_158, iX11_ring, exec1, ↓p1_e, ↓p2_e, ↓q1_e, ↓q2_e, ↓qi_e, ↓pr_e, ↓pa_e, ↓pa_f, ↓pst_e, ↓qst_e, ↓rst_e, ↓pac_e, ↓pargs_0, ↓pargs_s, ↓gfld_0, ↓gfld_1, ↓gfld_2, ↓gfld_3, ↓pfld_i, ↓pfld_l, ↓pfld_r, ↓sfld_i, ↓sfld_l, ↓sfld_r, brI, pushv, rcv, lget, lset, lset2, isL, rok, szs, List.elem_nil, List.elem_cons, cond_true, cond_false, Option.map_some, beq_self_eq_true, Bool.true_and, Bool.and_true, Bool.false_and, Bool.and_false, Bool.or_false, Bool.false_or, Bool.or_true, Bool.true_or, Nat.reduceAdd, Nat.reduceSub, Nat.reduceMul, Nat.reduceBEq, Nat.reduceEqDiff, Nat.reduceLeDiff, Nat.sub_zero, true_and, and_true, false_and, and_false, true_or, or_true, false_or, or_false, reduceCtorEq, ↓reduceIte, List.getD_cons_zero, List.getD_cons_succ, List.length_cons, List.length_nil, ct_i, ct_r, ct_l, ct_f, ct_n, false_implies, true_implies, c2, show ¬ (8 : Int32) = -1 by decide, not_false_eq_true, true_implies, false_implies, and_true, true_and, not_true_eq_false]
      subst c2
      exact go (by decide)
    · refine hZ 400 [20] _ _ _ _ _ _ _ ?_
      simp -implicitDefEqProofs (disch := omega) only [wp_step xX11_ring_0, wp_step xX11_ring_1, wp_step xX11_ring_2, wp_step xX11_ring_5, wp_step xX11_ring_6, wp_step xX11_ring_8, wp_step xX11_ring_11, wp_step xX11_ring_12, wp_step xX11_ring_13, wp_step xX11_ring_14, wp_step xX11_ring_17, q11_211, ↓e_static iX11_ring jn11_203 l11_203 iX11_lies, ↓e_virt iX11_ring l11_485 iX11_findsRing, ↓e_getf iX11_ring f11_476, ↓e_getf iX11_ring f11_473, ↓e_getf iX11_ring f11_158, iX11_ring, exec1, ↓p1_e, ↓p2_e, ↓q1_e, ↓q2_e, ↓qi_e, ↓pr_e, ↓pa_e, ↓pa_f, ↓pst_e, ↓qst_e, ↓rst_e, ↓pac_e, ↓pargs_0, ↓pargs_s, ↓gfld_0, ↓gfld_1, ↓gfld_2, ↓gfld_3, ↓pfld_i, ↓pfld_l, ↓pfld_r, ↓sfld_i, ↓sfld_l, ↓sfld_r, brI, pushv, rcv, lget, lset, lset2, isL, rok, szs, List.elem_nil, List.elem_cons, cond_true, cond_false, Option.map_some, beq_self_eq_true, Bool.true_and, Bool.and_true, Bool.false_and, Bool.and_false, Bool.or_false, Bool.false_or, Bool.or_true, Bool.true_or, Nat.reduceAdd, Nat.reduceSub, Nat.reduceMul, Nat.reduceBEq, Nat.reduceEqDiff, Nat.reduceLeDiff, Nat.sub_zero, true_and, and_true, false_and, and_false, true_or, or_true, false_or, or_false, reduceCtorEq, ↓reduceIte, List.getD_cons_zero, List.getD_cons_succ, List.length_cons, List.length_nil, ct_i, ct_r, ct_l, ct_f, ct_n, false_implies, true_implies, c1, c2, lc0, not_false_eq_true, true_implies, false_implies, and_true, true_and, not_true_eq_false]
      refine ⟨by omega, k_lies ?_⟩
      simp only [w_lo (c := 0) (c' := 0) (by decide +kernel), w_hi (c := 7) (c' := 7) (by decide +kernel)]
      refine hZ 400 [25] _ _ _ _ _ _ _ ?_
      simp -implicitDefEqProofs (disch := omega) only [wp_step xX11_ring_20, wp_step xX11_ring_23, wp_step xX11_ring_24, q11_211, ↓e_static iX11_ring jn11_203 l11_203 iX11_lies, ↓e_virt iX11_ring l11_485 iX11_findsRing, ↓e_getf iX11_ring f11_476, ↓e_getf iX11_ring f11_473, ↓e_getf iX11_ring f11_158, iX11_ring, exec1, ↓p1_e, ↓p2_e, ↓q1_e, ↓q2_e, ↓qi_e, ↓pr_e, ↓pa_e, ↓pa_f, ↓pst_e, ↓qst_e, ↓rst_e, ↓pac_e, ↓pargs_0, ↓pargs_s, ↓gfld_0, ↓gfld_1, ↓gfld_2, ↓gfld_3, ↓pfld_i, ↓pfld_l, ↓pfld_r, ↓sfld_i, ↓sfld_l, ↓sfld_r, brI, pushv, rcv, lget, lset, lset2, isL, rok, szs, List.elem_nil, List.elem_cons, cond_true, cond_false, Option.map_some, beq_self_eq_true, Bool.true_and, Bool.and_true, Bool.false_and, Bool.and_false, Bool.or_false, Bool.false_or, Bool.or_true, Bool.true_or, Nat.reduceAdd, Nat.reduceSub, Nat.reduceMul, Nat.reduceBEq, Nat.reduceEqDiff, Nat.reduceLeDiff, Nat.sub_zero, true_and, and_true, false_and, and_false, true_or, or_true, false_or, or_false, reduceCtorEq, ↓reduceIte, List.getD_cons_zero, List.getD_cons_succ, List.length_cons, List.length_nil, ct_i, ct_r, ct_l, ct_f, ct_n, false_implies, true_implies, bI_0, Decidable.not_not]
      refine ⟨fun c => go ?_, fun c => h0 (fun z => c ?_)⟩
      · simp only [i_le] at c ⊢
        rw [show (0 : Int32).toInt = 0 from rfl, show (7 : Int32).toInt = 7 from rfl] at c
        rw [show (-1 : Int32).toInt = -1 from rfl, show (8 : Int32).toInt = 8 from rfl]
        omega
      · simp only [i_le] at z ⊢
        rw [show (-1 : Int32).toInt = -1 from rfl, show (8 : Int32).toInt = 8 from rfl] at z
        rw [show (0 : Int32).toInt = 0 from rfl, show (7 : Int32).toInt = 7 from rfl]
        rw [i_eq, show (-1 : Int32).toInt = -1 from rfl] at c1
        rw [i_eq, show (8 : Int32).toInt = 8 from rfl] at c2
        omega
theorem RibOK.of2 {A B : Nat → Nat → Int32} {nr nb i : Nat} (h : LedOK A B nr nb) (hi : i < nb) : RibOK B nr i := (WFd.of2 h).2.2 i hi
theorem both_ring (hd : 12 ≤ d) {w : Int32} (hI : Inv LRel μ) : Both G d LRel mX10_ring mX11_ring [.int w] v μ bc bs := by
  obtain ⟨i1, i2, i3, i4, i5⟩ := id hI
  obtain ⟨nr, nb, q1, q2, q3, q4, q5⟩ := id i1
  obtain ⟨⟨n1, n2, n3⟩, q6, q7, q8, s⟩ := id q5
  have eD : ∀ {μ1}, Fr pFb μ μ1 → dbS (fun f => gi μ1 (146 + f)) nb = dbS (fun f => gi μ (4 + f)) nb := fun {μ1} hF => funext fun a => funext fun b => by
    refine dbS_cong (fun f h7 h12 i hi => ?_)
    show gi μ1 (146 + f) i = gi μ (4 + f) i
    rw [hF.1 _ _ (by unfold pFb; omega)]
    exact (s.2 f (by omega) h12 i hi).symm
  refine k_ring (by omega) q3 n3 q7 (fun c => ?_) (fun c μ1 hF => ?_)
  · refine k_mRing (by omega) q4 n3 (fun i hi => RibOK.of2 q5 hi) (fun _ => ⟨rfl, v, rfl, hI, rfl, rfl⟩) (fun c' => absurd c' c)
  · have g4 : gi μ1 144 3 = nI nb := (hF.1 _ _ (by unfold pFb; omega)).trans q4
    refine k_mRing (by omega) g4 n3 (fun i hi => (RibOK.of2 q5 hi).cong (fun f hf => hF.1 _ _ (by unfold pFb; omega))) (fun c' => absurd c c') (fun _ μ2 hF2 => ⟨?_, v, rfl, ?_, rfl, rfl⟩)
    · rw [eD hF]
    · exact hI.keep LRel_eq ((keep_fr hF pFb_Lo).trans (keep_fr hF2 pFr_Lo))
end RNG
