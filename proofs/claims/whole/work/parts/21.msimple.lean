theorem lgc_lt {x y : Int64} : (lg_cmp x y < 0) = (x < y) := by
  unfold lg_cmp
  by_cases h : x > y
  · rw [if_pos h]
    refine propext ⟨fun q => absurd q (by decide), fun q => absurd q (Int64.not_lt.mpr (Int64.le_of_lt h))⟩
  · rw [if_neg h]
    by_cases h2 : x = y
    · rw [if_pos h2]
      exact propext ⟨fun q => absurd q (by decide), fun q => absurd (h2 ▸ q : x < x) (Int64.lt_irrefl)⟩
    · rw [if_neg h2]
      exact propext ⟨fun _ => Int64.lt_of_le_of_ne (Int64.not_lt.mp h) h2, fun _ => by decide⟩
theorem lgc_gt {x y : Int64} : (0 < lg_cmp x y) = (y < x) := by
  unfold lg_cmp
  by_cases h : x > y
  · rw [if_pos h]
    exact propext ⟨fun _ => h, fun _ => by decide⟩
  · rw [if_neg h]
    by_cases h2 : x = y
    · rw [if_pos h2]
      exact propext ⟨fun q => absurd q (by decide), fun q => absurd q h⟩
    · rw [if_neg h2]
      exact propext ⟨fun q => absurd q (by decide), fun q => absurd q h⟩
theorem lgc_eq {x y : Int64} : (lg_cmp x y = 0) = (x = y) := by
  unfold lg_cmp
  by_cases h : x > y
  · rw [if_pos h]
    exact propext ⟨fun q => absurd q (by decide), fun q => absurd (q ▸ h : x > x) (Int64.lt_irrefl)⟩
  · rw [if_neg h]
    by_cases h2 : x = y
    · rw [if_pos h2]
      exact propext ⟨fun _ => h2, fun _ => rfl⟩
    · rw [if_neg h2]
      exact propext ⟨fun q => absurd q (by decide), fun q => absurd q h2⟩
theorem lgc_le {x y : Int64} : (lg_cmp x y ≤ 0) = (x ≤ y) := by
  rw [← Int32.not_lt, lgc_gt, Int64.not_lt]
theorem lgc_ge {x y : Int64} : (0 ≤ lg_cmp x y) = (y ≤ x) := by
  rw [← Int32.not_lt, lgc_lt, Int64.not_lt]
section MSM
variable {G : Gx} {d v : Nat} {μ : Mem} {bc bs : Nat} {Q : Option Value → List Sh → Mem → Nat → Nat → Prop}
set_option maxRecDepth 100000 in
set_option maxHeartbeats 1000000 in
theorem k_lies {a b c : Int64} {lay : List Sh} (h : Q (some (.int (bI (b ≤ a ∧ a ≤ c)))) lay μ bc bs) : KC G d mX11_lies [.long a, .long b, .long c] lay μ bc bs Q := by
  refine KC_intro 0 0 kX11_lies (by decide) (by decide) (Nat.zero_le _) (Nat.zero_le _) (Nat.le_of_ble_eq_true rfl) (fun Z hZ => ?_)
  show Z 0 [some (.long a), none, some (.long b), none, some (.long c), none] [] lay μ 0 0
  refine hZ 400 [] _ _ _ _ _ _ _ ?_
  simp -implicitDefEqProofs only [wp_step xX11_lies_0, wp_step xX11_lies_1, wp_step xX11_lies_2, wp_step xX11_lies_3, wp_step xX11_lies_6, wp_step xX11_lies_7, wp_step xX11_lies_9, wp_step xX11_lies_10, wp_step xX11_lies_13, wp_step xX11_lies_14, wp_step xX11_lies_17, wp_step xX11_lies_18, iX11_lies, exec1, ↓p1_e, ↓p2_e, ↓q1_e, ↓q2_e, ↓qi_e, ↓pr_e, ↓pa_e, ↓pa_f, ↓pst_e, ↓qst_e, ↓rst_e, ↓pac_e, ↓pargs_0, ↓pargs_s, ↓gfld_0, ↓gfld_1, ↓gfld_2, ↓gfld_3, ↓pfld_i, ↓pfld_l, ↓pfld_r, ↓sfld_i, ↓sfld_l, ↓sfld_r, brI, pushv, rcv, lget, lset, lset2, isL, rok, szs, List.elem_nil, List.elem_cons, cond_true, cond_false, Option.map_some, beq_self_eq_true, Bool.true_and, Bool.and_true, Bool.false_and, Bool.and_false, Bool.or_false, Bool.false_or, Bool.or_true, Bool.true_or, Nat.reduceAdd, Nat.reduceSub, Nat.reduceMul, Nat.reduceBEq, Nat.reduceEqDiff, Nat.reduceLeDiff, Nat.sub_zero, true_and, and_true, false_and, and_false, true_or, or_true, false_or, or_false, reduceCtorEq, ↓reduceIte, List.getD_cons_zero, List.getD_cons_succ, List.length_cons, List.length_nil, ct_i, ct_r, ct_l, ct_f, ct_n, false_implies, true_implies, lgc_lt, lgc_gt, lgc_le, lgc_ge]
  refine ⟨fun h1 => ?_, fun h1 => ⟨fun h2 => ?_, fun h2 => ?_⟩⟩
  · exact b0 (P := fun x => Q (some (.int x)) lay μ bc bs) (by simp only [Int64.le_iff_toInt_le, Int64.lt_iff_toInt_lt] at *; omega) h
  · exact b0 (P := fun x => Q (some (.int x)) lay μ bc bs) (by simp only [Int64.le_iff_toInt_le, Int64.lt_iff_toInt_lt] at *; omega) h
  · exact b1 (P := fun x => Q (some (.int x)) lay μ bc bs) (by simp only [Int64.le_iff_toInt_le, Int64.lt_iff_toInt_lt] at *; omega) h
theorem bI_iff {c c' : Prop} [Decidable c] [Decidable c'] (h : c ↔ c') : bI c = bI c' := by
  unfold bI
  by_cases q : c
  · rw [if_pos q, if_pos (h.mp q)]
  · rw [if_neg q, if_neg (fun z => q (h.mpr z))]
theorem w_lo {c : Int64} {c' r : Int32} (h : c.toInt = c'.toInt) : (c ≤ r.toInt64) = (c' ≤ r) := by
  rw [Int64.le_iff_toInt_le, Int32.toInt_toInt64, i_le, h]
theorem w_hi {c : Int64} {c' r : Int32} (h : c.toInt = c'.toInt) : (r.toInt64 ≤ c) = (r ≤ c') := by
  rw [Int64.le_iff_toInt_le, Int32.toInt_toInt64, i_le, h]
theorem lc0 : (if (0 : Fin 2) = 0 then (0 : Int64) else 1) = 0 := rfl
theorem lc1 : (if (1 : Fin 2) = 0 then (0 : Int64) else 1) = 1 := rfl
set_option maxRecDepth 100000 in
set_option maxHeartbeats 1000000 in
theorem k_mIsRod {r : Int32} {nr : Nat} (hd : 1 ≤ d) (hr : (gi μ 144 2) = nI nr) (h1 : 1 ≤ nr) (hn : nr ≤ 10) (h : Q (some (.int (bI (0 ≤ r ∧ r < nI nr)))) (LAY v) μ bc bs) : KC G d mX11_isRod [.ref 144, .int r] (LAY v) μ bc bs Q := by
  refine KC_intro 0 0 kX11_isRod (by decide) (by decide) (Nat.zero_le _) (Nat.zero_le _) (Nat.le_of_ble_eq_true rfl) (fun Z hZ => ?_)
  show Z 0 [some (.ref 144), some (.int r)] [] (LAY v) μ 0 0
  refine hZ 400 [13] _ _ _ _ _ _ _ ?_
  simp -implicitDefEqProofs only [wp_step xX11_isRod_0, wp_step xX11_isRod_1, wp_step xX11_isRod_2, wp_step xX11_isRod_3, wp_step xX11_isRod_4, wp_step xX11_isRod_7, wp_step xX11_isRod_8, wp_step xX11_isRod_9, wp_step xX11_isRod_10, wp_step xX11_isRod_13, ↓e_getf iX11_isRod f11_13, ↓e_static iX11_isRod jn11_203 l11_203 iX11_lies, iX11_isRod, exec1, ↓p1_e, ↓p2_e, ↓q1_e, ↓q2_e, ↓qi_e, ↓pr_e, ↓pa_e, ↓pa_f, ↓pst_e, ↓qst_e, ↓rst_e, ↓pac_e, ↓pargs_0, ↓pargs_s, ↓gfld_0, ↓gfld_1, ↓gfld_2, ↓gfld_3, ↓pfld_i, ↓pfld_l, ↓pfld_r, ↓sfld_i, ↓sfld_l, ↓sfld_r, brI, pushv, rcv, lget, lset, lset2, isL, rok, szs, List.elem_nil, List.elem_cons, cond_true, cond_false, Option.map_some, beq_self_eq_true, Bool.true_and, Bool.and_true, Bool.false_and, Bool.and_false, Bool.or_false, Bool.false_or, Bool.or_true, Bool.true_or, Nat.reduceAdd, Nat.reduceSub, Nat.reduceMul, Nat.reduceBEq, Nat.reduceEqDiff, Nat.reduceLeDiff, Nat.sub_zero, true_and, and_true, false_and, and_false, true_or, or_true, false_or, or_false, reduceCtorEq, ↓reduceIte, List.getD_cons_zero, List.getD_cons_succ, List.length_cons, List.length_nil, ct_i, ct_r, ct_l, ct_f, ct_n, false_implies, true_implies, y144, hr, lc0]
  refine ⟨by omega, k_lies ?_⟩
  refine hZ 400 [13] _ _ _ _ _ _ _ ?_
  simp -implicitDefEqProofs only [wp_step xX11_isRod_0, wp_step xX11_isRod_1, wp_step xX11_isRod_2, wp_step xX11_isRod_3, wp_step xX11_isRod_4, wp_step xX11_isRod_7, wp_step xX11_isRod_8, wp_step xX11_isRod_9, wp_step xX11_isRod_10, wp_step xX11_isRod_13, ↓e_getf iX11_isRod f11_13, ↓e_static iX11_isRod jn11_203 l11_203 iX11_lies, iX11_isRod, exec1, ↓p1_e, ↓p2_e, ↓q1_e, ↓q2_e, ↓qi_e, ↓pr_e, ↓pa_e, ↓pa_f, ↓pst_e, ↓qst_e, ↓rst_e, ↓pac_e, ↓pargs_0, ↓pargs_s, ↓gfld_0, ↓gfld_1, ↓gfld_2, ↓gfld_3, ↓pfld_i, ↓pfld_l, ↓pfld_r, ↓sfld_i, ↓sfld_l, ↓sfld_r, brI, pushv, rcv, lget, lset, lset2, isL, rok, szs, List.elem_nil, List.elem_cons, cond_true, cond_false, Option.map_some, beq_self_eq_true, Bool.true_and, Bool.and_true, Bool.false_and, Bool.and_false, Bool.or_false, Bool.false_or, Bool.or_true, Bool.true_or, Nat.reduceAdd, Nat.reduceSub, Nat.reduceMul, Nat.reduceBEq, Nat.reduceEqDiff, Nat.reduceLeDiff, Nat.sub_zero, true_and, and_true, false_and, and_false, true_or, or_true, false_or, or_false, reduceCtorEq, ↓reduceIte, List.getD_cons_zero, List.getD_cons_succ, List.length_cons, List.length_nil, ct_i, ct_r, ct_l, ct_f, ct_n, false_implies, true_implies, bI_c]
  have e : bI ((0 : Int64) ≤ r.toInt64 ∧ r.toInt64 ≤ (nI nr - 1).toInt64) = bI (0 ≤ r ∧ r < nI nr) := by
    apply bI_iff
    obtain ⟨k, rfl⟩ : ∃ k, nr = k + 1 := ⟨nr - 1, by omega⟩
    rw [nI_pred, Int64.le_iff_toInt_le, Int64.le_iff_toInt_le, Int32.toInt_toInt64, Int32.toInt_toInt64, i_le, i_lt, nI_toInt (by omega), nI_toInt (by omega)]
    have e1 : (0 : Int64).toInt = 0 := by decide +kernel
    have e2 : (0 : Int32).toInt = 0 := rfl
    rw [e1, e2]
    omega
  rw [e]
  exact h
set_option maxRecDepth 100000 in
set_option maxHeartbeats 1000000 in
theorem k_mIsRibbon {r : Int32} {nb : Nat} (hd : 1 ≤ d) (hr : (gi μ 144 3) = nI nb) (hn : nb ≤ 40) (h : Q (some (.int (bI (0 ≤ r ∧ r < nI nb)))) (LAY v) μ bc bs) : KC G d mX11_isRibbon [.ref 144, .int r] (LAY v) μ bc bs Q := by
  refine KC_intro 0 0 kX11_isRibbon (by decide) (by decide) (Nat.zero_le _) (Nat.zero_le _) (Nat.le_of_ble_eq_true rfl) (fun Z hZ => ?_)
  show Z 0 [some (.ref 144), some (.int r)] [] (LAY v) μ 0 0
  refine hZ 400 [13] _ _ _ _ _ _ _ ?_
  simp -implicitDefEqProofs only [wp_step xX11_isRibbon_0, wp_step xX11_isRibbon_1, wp_step xX11_isRibbon_2, wp_step xX11_isRibbon_3, wp_step xX11_isRibbon_4, wp_step xX11_isRibbon_7, wp_step xX11_isRibbon_8, wp_step xX11_isRibbon_9, wp_step xX11_isRibbon_10, wp_step xX11_isRibbon_13, ↓e_getf iX11_isRibbon f11_213, ↓e_static iX11_isRibbon jn11_203 l11_203 iX11_lies, iX11_isRibbon, exec1, ↓p1_e, ↓p2_e, ↓q1_e, ↓q2_e, ↓qi_e, ↓pr_e, ↓pa_e, ↓pa_f, ↓pst_e, ↓qst_e, ↓rst_e, ↓pac_e, ↓pargs_0, ↓pargs_s, ↓gfld_0, ↓gfld_1, ↓gfld_2, ↓gfld_3, ↓pfld_i, ↓pfld_l, ↓pfld_r, ↓sfld_i, ↓sfld_l, ↓sfld_r, brI, pushv, rcv, lget, lset, lset2, isL, rok, szs, List.elem_nil, List.elem_cons, cond_true, cond_false, Option.map_some, beq_self_eq_true, Bool.true_and, Bool.and_true, Bool.false_and, Bool.and_false, Bool.or_false, Bool.false_or, Bool.or_true, Bool.true_or, Nat.reduceAdd, Nat.reduceSub, Nat.reduceMul, Nat.reduceBEq, Nat.reduceEqDiff, Nat.reduceLeDiff, Nat.sub_zero, true_and, and_true, false_and, and_false, true_or, or_true, false_or, or_false, reduceCtorEq, ↓reduceIte, List.getD_cons_zero, List.getD_cons_succ, List.length_cons, List.length_nil, ct_i, ct_r, ct_l, ct_f, ct_n, false_implies, true_implies, y144, hr, lc0]
  refine ⟨by omega, k_lies ?_⟩
  refine hZ 400 [13] _ _ _ _ _ _ _ ?_
  simp -implicitDefEqProofs only [wp_step xX11_isRibbon_0, wp_step xX11_isRibbon_1, wp_step xX11_isRibbon_2, wp_step xX11_isRibbon_3, wp_step xX11_isRibbon_4, wp_step xX11_isRibbon_7, wp_step xX11_isRibbon_8, wp_step xX11_isRibbon_9, wp_step xX11_isRibbon_10, wp_step xX11_isRibbon_13, ↓e_getf iX11_isRibbon f11_213, ↓e_static iX11_isRibbon jn11_203 l11_203 iX11_lies, iX11_isRibbon, exec1, ↓p1_e, ↓p2_e, ↓q1_e, ↓q2_e, ↓qi_e, ↓pr_e, ↓pa_e, ↓pa_f, ↓pst_e, ↓qst_e, ↓rst_e, ↓pac_e, ↓pargs_0, ↓pargs_s, ↓gfld_0, ↓gfld_1, ↓gfld_2, ↓gfld_3, ↓pfld_i, ↓pfld_l, ↓pfld_r, ↓sfld_i, ↓sfld_l, ↓sfld_r, brI, pushv, rcv, lget, lset, lset2, isL, rok, szs, List.elem_nil, List.elem_cons, cond_true, cond_false, Option.map_some, beq_self_eq_true, Bool.true_and, Bool.and_true, Bool.false_and, Bool.and_false, Bool.or_false, Bool.false_or, Bool.or_true, Bool.true_or, Nat.reduceAdd, Nat.reduceSub, Nat.reduceMul, Nat.reduceBEq, Nat.reduceEqDiff, Nat.reduceLeDiff, Nat.sub_zero, true_and, and_true, false_and, and_false, true_or, or_true, false_or, or_false, reduceCtorEq, ↓reduceIte, List.getD_cons_zero, List.getD_cons_succ, List.length_cons, List.length_nil, ct_i, ct_r, ct_l, ct_f, ct_n, false_implies, true_implies, bI_c]
  have e : bI ((0 : Int64) ≤ r.toInt64 ∧ r.toInt64 ≤ (nI nb - 1).toInt64) = bI (0 ≤ r ∧ r < nI nb) := by
    apply bI_iff
    have e1 : (0 : Int64).toInt = 0 := by decide +kernel
    have e2 : (0 : Int32).toInt = 0 := rfl
    have e3 : (nI nb - 1).toInt = (nb : Int) - 1 := by
      cases nb with
      | zero => decide
      | succ k => rw [nI_pred, nI_toInt (by omega)]; omega
    rw [Int64.le_iff_toInt_le, Int64.le_iff_toInt_le, Int32.toInt_toInt64, Int32.toInt_toInt64, i_le, i_lt, nI_toInt (by omega), e1, e2, e3]
    omega
  rw [e]
  exact h
set_option maxRecDepth 100000 in
set_option maxHeartbeats 1000000 in
theorem k_mIsArm {r : Int32} {lay : List Sh} (hd : 1 ≤ d) (h : Q (some (.int (bI (-9 ≤ r ∧ r ≤ 9)))) lay μ bc bs) : KC G d mX11_isArm [.int r] lay μ bc bs Q := by
  refine KC_intro 0 0 kX11_isArm (by decide) (by decide) (Nat.zero_le _) (Nat.zero_le _) (Nat.le_of_ble_eq_true rfl) (fun Z hZ => ?_)
  show Z 0 [some (.int r)] [] lay μ 0 0
  refine hZ 400 [11] _ _ _ _ _ _ _ ?_
  simp -implicitDefEqProofs only [wp_step xX11_isArm_0, wp_step xX11_isArm_1, wp_step xX11_isArm_2, wp_step xX11_isArm_5, wp_step xX11_isArm_8, wp_step xX11_isArm_11, q11_207, q11_209, ↓e_static iX11_isArm jn11_203 l11_203 iX11_lies, iX11_isArm, exec1, ↓p1_e, ↓p2_e, ↓q1_e, ↓q2_e, ↓qi_e, ↓pr_e, ↓pa_e, ↓pa_f, ↓pst_e, ↓qst_e, ↓rst_e, ↓pac_e, ↓pargs_0, ↓pargs_s, ↓gfld_0, ↓gfld_1, ↓gfld_2, ↓gfld_3, ↓pfld_i, ↓pfld_l, ↓pfld_r, ↓sfld_i, ↓sfld_l, ↓sfld_r, brI, pushv, rcv, lget, lset, lset2, isL, rok, szs, List.elem_nil, List.elem_cons, cond_true, cond_false, Option.map_some, beq_self_eq_true, Bool.true_and, Bool.and_true, Bool.false_and, Bool.and_false, Bool.or_false, Bool.false_or, Bool.or_true, Bool.true_or, Nat.reduceAdd, Nat.reduceSub, Nat.reduceMul, Nat.reduceBEq, Nat.reduceEqDiff, Nat.reduceLeDiff, Nat.sub_zero, true_and, and_true, false_and, and_false, true_or, or_true, false_or, or_false, reduceCtorEq, ↓reduceIte, List.getD_cons_zero, List.getD_cons_succ, List.length_cons, List.length_nil, ct_i, ct_r, ct_l, ct_f, ct_n, false_implies, true_implies]
  refine ⟨by omega, k_lies ?_⟩
  simp only [w_lo (c := -9) (c' := -9) (by decide +kernel), w_hi (c := 9) (c' := 9) (by decide +kernel)]
  refine hZ 400 [11] _ _ _ _ _ _ _ ?_
  simp -implicitDefEqProofs only [wp_step xX11_isArm_0, wp_step xX11_isArm_1, wp_step xX11_isArm_2, wp_step xX11_isArm_5, wp_step xX11_isArm_8, wp_step xX11_isArm_11, q11_207, q11_209, ↓e_static iX11_isArm jn11_203 l11_203 iX11_lies, iX11_isArm, exec1, ↓p1_e, ↓p2_e, ↓q1_e, ↓q2_e, ↓qi_e, ↓pr_e, ↓pa_e, ↓pa_f, ↓pst_e, ↓qst_e, ↓rst_e, ↓pac_e, ↓pargs_0, ↓pargs_s, ↓gfld_0, ↓gfld_1, ↓gfld_2, ↓gfld_3, ↓pfld_i, ↓pfld_l, ↓pfld_r, ↓sfld_i, ↓sfld_l, ↓sfld_r, brI, pushv, rcv, lget, lset, lset2, isL, rok, szs, List.elem_nil, List.elem_cons, cond_true, cond_false, Option.map_some, beq_self_eq_true, Bool.true_and, Bool.and_true, Bool.false_and, Bool.and_false, Bool.or_false, Bool.false_or, Bool.or_true, Bool.true_or, Nat.reduceAdd, Nat.reduceSub, Nat.reduceMul, Nat.reduceBEq, Nat.reduceEqDiff, Nat.reduceLeDiff, Nat.sub_zero, true_and, and_true, false_and, and_false, true_or, or_true, false_or, or_false, reduceCtorEq, ↓reduceIte, List.getD_cons_zero, List.getD_cons_succ, List.length_cons, List.length_nil, ct_i, ct_r, ct_l, ct_f, ct_n, false_implies, true_implies, bI_c]
  exact h
set_option maxRecDepth 100000 in
set_option maxHeartbeats 1000000 in
theorem k_mIsPerson {r : Int32} {lay : List Sh} (hd : 1 ≤ d) (h : Q (some (.int (bI (0 ≤ r ∧ r ≤ 7)))) lay μ bc bs) : KC G d mX11_isPerson [.int r] lay μ bc bs Q := by
  refine KC_intro 0 0 kX11_isPerson (by decide) (by decide) (Nat.zero_le _) (Nat.zero_le _) (Nat.le_of_ble_eq_true rfl) (fun Z hZ => ?_)
  show Z 0 [some (.int r)] [] lay μ 0 0
  refine hZ 400 [9] _ _ _ _ _ _ _ ?_
  simp -implicitDefEqProofs only [wp_step xX11_isPerson_0, wp_step xX11_isPerson_1, wp_step xX11_isPerson_2, wp_step xX11_isPerson_3, wp_step xX11_isPerson_6, wp_step xX11_isPerson_9, q11_211, ↓e_static iX11_isPerson jn11_203 l11_203 iX11_lies, iX11_isPerson, exec1, ↓p1_e, ↓p2_e, ↓q1_e, ↓q2_e, ↓qi_e, ↓pr_e, ↓pa_e, ↓pa_f, ↓pst_e, ↓qst_e, ↓rst_e, ↓pac_e, ↓pargs_0, ↓pargs_s, ↓gfld_0, ↓gfld_1, ↓gfld_2, ↓gfld_3, ↓pfld_i, ↓pfld_l, ↓pfld_r, ↓sfld_i, ↓sfld_l, ↓sfld_r, brI, pushv, rcv, lget, lset, lset2, isL, rok, szs, List.elem_nil, List.elem_cons, cond_true, cond_false, Option.map_some, beq_self_eq_true, Bool.true_and, Bool.and_true, Bool.false_and, Bool.and_false, Bool.or_false, Bool.false_or, Bool.or_true, Bool.true_or, Nat.reduceAdd, Nat.reduceSub, Nat.reduceMul, Nat.reduceBEq, Nat.reduceEqDiff, Nat.reduceLeDiff, Nat.sub_zero, true_and, and_true, false_and, and_false, true_or, or_true, false_or, or_false, reduceCtorEq, ↓reduceIte, List.getD_cons_zero, List.getD_cons_succ, List.length_cons, List.length_nil, ct_i, ct_r, ct_l, ct_f, ct_n, false_implies, true_implies, lc0]
  refine ⟨by omega, k_lies ?_⟩
  simp only [w_lo (c := 0) (c' := 0) (by decide +kernel), w_hi (c := 7) (c' := 7) (by decide +kernel)]
  refine hZ 400 [9] _ _ _ _ _ _ _ ?_
  simp -implicitDefEqProofs only [wp_step xX11_isPerson_0, wp_step xX11_isPerson_1, wp_step xX11_isPerson_2, wp_step xX11_isPerson_3, wp_step xX11_isPerson_6, wp_step xX11_isPerson_9, q11_211, ↓e_static iX11_isPerson jn11_203 l11_203 iX11_lies, iX11_isPerson, exec1, ↓p1_e, ↓p2_e, ↓q1_e, ↓q2_e, ↓qi_e, ↓pr_e, ↓pa_e, ↓pa_f, ↓pst_e, ↓qst_e, ↓rst_e, ↓pac_e, ↓pargs_0, ↓pargs_s, ↓gfld_0, ↓gfld_1, ↓gfld_2, ↓gfld_3, ↓pfld_i, ↓pfld_l, ↓pfld_r, ↓sfld_i, ↓sfld_l, ↓sfld_r, brI, pushv, rcv, lget, lset, lset2, isL, rok, szs, List.elem_nil, List.elem_cons, cond_true, cond_false, Option.map_some, beq_self_eq_true, Bool.true_and, Bool.and_true, Bool.false_and, Bool.and_false, Bool.or_false, Bool.false_or, Bool.or_true, Bool.true_or, Nat.reduceAdd, Nat.reduceSub, Nat.reduceMul, Nat.reduceBEq, Nat.reduceEqDiff, Nat.reduceLeDiff, Nat.sub_zero, true_and, and_true, false_and, and_false, true_or, or_true, false_or, or_false, reduceCtorEq, ↓reduceIte, List.getD_cons_zero, List.getD_cons_succ, List.length_cons, List.length_nil, ct_i, ct_r, ct_l, ct_f, ct_n, false_implies, true_implies, bI_c]
  exact h
set_option maxRecDepth 100000 in
set_option maxHeartbeats 1000000 in
theorem k_mWind {a : Int32} (hd : 1 ≤ d) (h1 : -9 ≤ a ∧ a ≤ 9 → Q (some (.int 1)) (LAY v) (si μ 144 4 a) bc bs) (h0 : ¬ (-9 ≤ a ∧ a ≤ 9) → Q (some (.int 0)) (LAY v) μ bc bs) : KC G d mX11_wind [.ref 144, .int a] (LAY v) μ bc bs Q := by
  refine KC_intro 0 0 kX11_wind (by decide) (by decide) (Nat.zero_le _) (Nat.zero_le _) (Nat.le_of_ble_eq_true rfl) (fun Z hZ => ?_)
  show Z 0 [some (.ref 144), some (.int a)] [] (LAY v) μ 0 0
  refine hZ 400 [11] _ _ _ _ _ _ _ ?_
  simp -implicitDefEqProofs only [wp_step xX11_wind_0, wp_step xX11_wind_1, wp_step xX11_wind_2, wp_step xX11_wind_5, wp_step xX11_wind_8, wp_step xX11_wind_11, wp_step xX11_wind_14, wp_step xX11_wind_15, wp_step xX11_wind_16, wp_step xX11_wind_17, wp_step xX11_wind_18, wp_step xX11_wind_21, wp_step xX11_wind_22, q11_207, q11_209, ↓e_static iX11_wind jn11_203 l11_203 iX11_lies, ↓e_putf iX11_wind f11_234, iX11_wind, exec1, ↓p1_e, ↓p2_e, ↓q1_e, ↓q2_e, ↓qi_e, ↓pr_e, ↓pa_e, ↓pa_f, ↓pst_e, ↓qst_e, ↓rst_e, ↓pac_e, ↓pargs_0, ↓pargs_s, ↓gfld_0, ↓gfld_1, ↓gfld_2, ↓gfld_3, ↓pfld_i, ↓pfld_l, ↓pfld_r, ↓sfld_i, ↓sfld_l, ↓sfld_r, brI, pushv, rcv, lget, lset, lset2, isL, rok, szs, List.elem_nil, List.elem_cons, cond_true, cond_false, Option.map_some, beq_self_eq_true, Bool.true_and, Bool.and_true, Bool.false_and, Bool.and_false, Bool.or_false, Bool.false_or, Bool.or_true, Bool.true_or, Nat.reduceAdd, Nat.reduceSub, Nat.reduceMul, Nat.reduceBEq, Nat.reduceEqDiff, Nat.reduceLeDiff, Nat.sub_zero, true_and, and_true, false_and, and_false, true_or, or_true, false_or, or_false, reduceCtorEq, ↓reduceIte, List.getD_cons_zero, List.getD_cons_succ, List.length_cons, List.length_nil, ct_i, ct_r, ct_l, ct_f, ct_n, false_implies, true_implies, y144]
  refine ⟨by omega, k_lies ?_⟩
  simp only [w_lo (c := -9) (c' := -9) (by decide +kernel), w_hi (c := 9) (c' := 9) (by decide +kernel)]
  refine hZ 400 [11] _ _ _ _ _ _ _ ?_
  simp -implicitDefEqProofs only [wp_step xX11_wind_0, wp_step xX11_wind_1, wp_step xX11_wind_2, wp_step xX11_wind_5, wp_step xX11_wind_8, wp_step xX11_wind_11, wp_step xX11_wind_14, wp_step xX11_wind_15, wp_step xX11_wind_16, wp_step xX11_wind_17, wp_step xX11_wind_18, wp_step xX11_wind_21, wp_step xX11_wind_22, q11_207, q11_209, ↓e_static iX11_wind jn11_203 l11_203 iX11_lies, ↓e_putf iX11_wind f11_234, iX11_wind, exec1, ↓p1_e, ↓p2_e, ↓q1_e, ↓q2_e, ↓qi_e, ↓pr_e, ↓pa_e, ↓pa_f, ↓pst_e, ↓qst_e, ↓rst_e, ↓pac_e, ↓pargs_0, ↓pargs_s, ↓gfld_0, ↓gfld_1, ↓gfld_2, ↓gfld_3, ↓pfld_i, ↓pfld_l, ↓pfld_r, ↓sfld_i, ↓sfld_l, ↓sfld_r, brI, pushv, rcv, lget, lset, lset2, isL, rok, szs, List.elem_nil, List.elem_cons, cond_true, cond_false, Option.map_some, beq_self_eq_true, Bool.true_and, Bool.and_true, Bool.false_and, Bool.and_false, Bool.or_false, Bool.false_or, Bool.or_true, Bool.true_or, Nat.reduceAdd, Nat.reduceSub, Nat.reduceMul, Nat.reduceBEq, Nat.reduceEqDiff, Nat.reduceLeDiff, Nat.sub_zero, true_and, and_true, false_and, and_false, true_or, or_true, false_or, or_false, reduceCtorEq, ↓reduceIte, List.getD_cons_zero, List.getD_cons_succ, List.length_cons, List.length_nil, ct_i, ct_r, ct_l, ct_f, ct_n, false_implies, true_implies, y144, bI_0, Decidable.not_not]
  exact ⟨h1, h0⟩
end MSM
