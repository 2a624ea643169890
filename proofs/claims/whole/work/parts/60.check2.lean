def pC (a j : Nat) : Prop := pS 46 a j ∨ a = 1 ∧ j = 1
def pCm (a j : Nat) : Prop := pK a j ∨ a = 144 ∧ j = 1
theorem pC_Lo : ∀ a j, pC a j → Lo2 a j := fun a j z => by unfold pC pS pL at z; unfold Lo2 Lo; omega
theorem pCm_Lo : ∀ a j, pCm a j → Lo2 a j := fun a j z => by unfold pCm pK pN at z; unfold Lo2 Lo; omega
section CHK2
variable {G : Gx} {d v : Nat} {μ : Mem} {bc bs : Nat} {Q : Option Value → List Sh → Mem → Nat → Nat → Prop}
def chV (r k nr : Nat) : Int32 := if r = k ∧ k = nr then -1 else nI r
set_option maxRecDepth 100000 in
set_option maxHeartbeats 1000000 in
theorem k_check {a : Int32} {nr nb sz n ts : Nat} (hd : 5 ≤ d) (hW : WC μ nr nb sz n) (hs : (gi μ 1 1) = nI ts) (hts : ts ≤ 220) (h0 : ¬ (0 ≤ a ∧ a ≤ nI (ts / 4)) → Q (some (.int (-2))) (LAY v) μ bc bs) (h1 : ∀ k r, k ≤ ts / 4 → a = nI k → r ≤ k → r ≤ nr → (∀ j, j < r → nmF (gi μ 2) (4 * j) 4 = lnV ((WGC μ nr nb sz n (gi μ 3 14)).2 j) (gi μ 6 (j))) → (r < k → r < nr → ¬ nmF (gi μ 2) (4 * r) 4 = lnV ((WGC μ nr nb sz n (gi μ 3 14)).2 r) (gi μ 6 (r))) → ∀ μ', Fr pC μ μ' → gi μ' 1 1 = 0 → Q (some (.int (chV r k nr))) (LAY v) μ' bc bs) : KC G d mX10_check [.ref 0, .int a] (LAY v) μ bc bs Q := by
  obtain ⟨w1, w2, ⟨⟨w3, w4, w5⟩, w6, w7⟩, w8, w9, w10⟩ := id hW
  refine KC_intro 0 0 kX10_check (by decide) (by decide) (Nat.zero_le _) (Nat.zero_le _) (Nat.le_of_ble_eq_true rfl) (fun Z hZ => ?_)
  show Z 0 [some (.ref 0), some (.int a), none] [] (LAY v) μ 0 0
  refine hZ 400 [34, 36, 60, 68, 84] _ _ _ _ _ _ _ ?_
  simp -implicitDefEqProofs (disch := omega) only [wp_step xX10_check_0, wp_step xX10_check_1, wp_step xX10_check_4, wp_step xX10_check_5, wp_step xX10_check_6, wp_step xX10_check_9, wp_step xX10_check_12, wp_step xX10_check_13, wp_step xX10_check_14, wp_step xX10_check_17, wp_step xX10_check_19, wp_step xX10_check_20, wp_step xX10_check_21, wp_step xX10_check_24, wp_step xX10_check_25, wp_step xX10_check_28, wp_step xX10_check_31, ↓e_getf iX10_check f10_10, ↓e_getf iX10_check f10_148, ↓e_getf iX10_check f10_47, ↓e_getf iX10_check f10_19, ↓e_getf iX10_check f10_137, ↓e_virt iX10_check l10_169 iX7_weigh, ↓e_getf iX10_check f10_107, ↓e_virt iX10_check l10_351 iX8_numberAt, ↓e_virt iX10_check l10_178 iX7_lean, ↓e_virt iX10_check l10_155 iX8_empty, iX10_check, exec1, ↓p1_e, ↓p2_e, ↓q1_e, ↓q2_e, ↓qi_e, ↓pr_e, ↓pa_e, ↓pa_f, ↓pst_e, ↓qst_e, ↓rst_e, ↓pac_e, ↓pargs_0, ↓pargs_s, ↓gfld_0, ↓gfld_1, ↓gfld_2, ↓gfld_3, ↓pfld_i, ↓pfld_l, ↓pfld_r, ↓sfld_i, ↓sfld_l, ↓sfld_r, brI, pushv, rcv, lget, lset, lset2, isL, rok, szs, List.elem_nil, List.elem_cons, cond_true, cond_false, Option.map_some, beq_self_eq_true, Bool.true_and, Bool.and_true, Bool.false_and, Bool.and_false, Bool.or_false, Bool.false_or, Bool.or_true, Bool.true_or, Nat.reduceAdd, Nat.reduceSub, Nat.reduceMul, Nat.reduceBEq, Nat.reduceEqDiff, Nat.reduceLeDiff, Nat.sub_zero, true_and, and_true, false_and, and_false, true_or, or_true, false_or, or_false, reduceCtorEq, ↓reduceIte, List.getD_cons_zero, List.getD_cons_succ, List.length_cons, List.length_nil, ct_i, ct_r, ct_l, ct_f, ct_n, false_implies, true_implies, y0, y1, y2, y3, y4, y5, y6, y7, y8, y9, y10, y11, y12, y13, y14, y15, y46, y47, y48, y49, y50, hs, show (4 : Int32) = nI 4 from rfl, nI_div, show ¬ nI 4 = 0 by decide, not_false_eq_true, true_implies, false_implies, and_true, true_and, not_true_eq_false]
  have h4 : ts / 4 ≤ 55 := by omega
  refine ⟨fun z => h0 (fun y => by have := y.1; simp only [i_le, i_lt] at *; omega), fun c1 => ⟨fun c2 => ⟨by omega, k_weigh (by omega) ScAt.main hW (fun μ1 hF hG => ?_)⟩, fun z => h0 (fun y => z y.2)⟩⟩
  obtain ⟨k, hk0, rfl⟩ := nI_of c1
  have hk : k ≤ ts / 4 := (nI_leI (by omega) (by omega)).mp c2
  have f : ∀ a j, ¬ pS 46 a j → gi μ1 a j = gi μ a j := hF.1
  have g1 : gi μ1 3 12 = nI nr := (f _ _ (by unfold pS pL; omega)).trans w1
  have g2 : gi μ1 1 1 = nI ts := (f _ _ (by unfold pS pL; omega)).trans hs
  have g2f : gi μ1 2 = gi μ 2 := funext (fun x => f _ _ (by unfold pS pL; omega))
  -- the end
  have out : ∀ r, r ≤ k → r ≤ nr → (∀ j, j < r → nmF (gi μ 2) (4 * j) 4 = lnV ((WGC μ nr nb sz n (gi μ 3 14)).2 j) (gi μ 6 (j))) → (r < k → r < nr → ¬ nmF (gi μ 2) (4 * r) 4 = lnV ((WGC μ nr nb sz n (gi μ 3 14)).2 r) (gi μ 6 (r))) → Z 77 [some (.ref 0), some (.int (nI k)), some (.int (nI r))] [] (LAY v) μ1 0 0 := fun r h1' h2' h3' h4' => by
    have fin := h1 k r hk rfl h1' h2' h3' h4' (si μ1 1 1 0) ((hF.mono (fun a j z => Or.inl z)).si (Or.inr ⟨rfl, rfl⟩)) gi_si
    unfold chV at fin
    refine hZ 400 [34, 36, 60, 68, 84] _ _ _ _ _ _ _ ?_
    simp -implicitDefEqProofs (disch := omega) only [wp_step xX10_check_77, wp_step xX10_check_78, wp_step xX10_check_81, ↓e_getf iX10_check f10_10, ↓e_getf iX10_check f10_148, ↓e_getf iX10_check f10_47, ↓e_getf iX10_check f10_19, ↓e_getf iX10_check f10_137, ↓e_virt iX10_check l10_169 iX7_weigh, ↓e_getf iX10_check f10_107, ↓e_virt iX10_check l10_351 iX8_numberAt, ↓e_virt iX10_check l10_178 iX7_lean, ↓e_virt iX10_check l10_155 iX8_empty, iX10_check, exec1, ↓p1_e, ↓p2_e, ↓q1_e, ↓q2_e, ↓qi_e, ↓pr_e, ↓pa_e, ↓pa_f, ↓pst_e, ↓qst_e, ↓rst_e, ↓pac_e, ↓pargs_0, ↓pargs_s, ↓gfld_0, ↓gfld_1, ↓gfld_2, ↓gfld_3, ↓pfld_i, ↓pfld_l, ↓pfld_r, ↓sfld_i, ↓sfld_l, ↓sfld_r, brI, pushv, rcv, lget, lset, lset2, isL, rok, szs, List.elem_nil, List.elem_cons, cond_true, cond_false, Option.map_some, beq_self_eq_true, Bool.true_and, Bool.and_true, Bool.false_and, Bool.and_false, Bool.or_false, Bool.false_or, Bool.or_true, Bool.true_or, Nat.reduceAdd, Nat.reduceSub, Nat.reduceMul, Nat.reduceBEq, Nat.reduceEqDiff, Nat.reduceLeDiff, Nat.sub_zero, true_and, and_true, false_and, and_false, true_or, or_true, false_or, or_false, reduceCtorEq, ↓reduceIte, List.getD_cons_zero, List.getD_cons_succ, List.length_cons, List.length_nil, ct_i, ct_r, ct_l, ct_f, ct_n, false_implies, true_implies, y0, y1, y2, y3, y4, y5, y6, y7, y8, y9, y10, y11, y12, y13, y14, y15]
    refine ⟨by omega, k_empty ?_⟩
    refine hZ 400 [34, 36, 60, 68, 84] _ _ _ _ _ _ _ ?_
    simp -implicitDefEqProofs (disch := omega) only [wp_step xX10_check_84, wp_step xX10_check_85, wp_step xX10_check_86, wp_step xX10_check_89, wp_step xX10_check_90, wp_step xX10_check_91, wp_step xX10_check_94, wp_step xX10_check_97, wp_step xX10_check_100, wp_step xX10_check_101, wp_step xX10_check_104, wp_step xX10_check_105, ↓e_getf iX10_check f10_10, ↓e_getf iX10_check f10_148, ↓e_getf iX10_check f10_47, ↓e_getf iX10_check f10_19, ↓e_getf iX10_check f10_137, ↓e_virt iX10_check l10_169 iX7_weigh, ↓e_getf iX10_check f10_107, ↓e_virt iX10_check l10_351 iX8_numberAt, ↓e_virt iX10_check l10_178 iX7_lean, ↓e_virt iX10_check l10_155 iX8_empty, iX10_check, exec1, ↓p1_e, ↓p2_e, ↓q1_e, ↓q2_e, ↓qi_e, ↓pr_e, ↓pa_e, ↓pa_f, ↓pst_e, ↓qst_e, ↓rst_e, ↓pac_e, ↓pargs_0, ↓pargs_s, ↓gfld_0, ↓gfld_1, ↓gfld_2, ↓gfld_3, ↓pfld_i, ↓pfld_l, ↓pfld_r, ↓sfld_i, ↓sfld_l, ↓sfld_r, brI, pushv, rcv, lget, lset, lset2, isL, rok, szs, List.elem_nil, List.elem_cons, cond_true, cond_false, Option.map_some, beq_self_eq_true, Bool.true_and, Bool.and_true, Bool.false_and, Bool.and_false, Bool.or_false, Bool.false_or, Bool.or_true, Bool.true_or, Nat.reduceAdd, Nat.reduceSub, Nat.reduceMul, Nat.reduceBEq, Nat.reduceEqDiff, Nat.reduceLeDiff, Nat.sub_zero, true_and, and_true, false_and, and_false, true_or, or_true, false_or, or_false, reduceCtorEq, ↓reduceIte, List.getD_cons_zero, List.getD_cons_succ, List.length_cons, List.length_nil, ct_i, ct_r, ct_l, ct_f, ct_n, false_implies, true_implies, y0, y1, y2, y3, y4, y5, y6, y7, y8, y9, y10, y11, y12, y13, y14, y15, gi_si_a, g1, nI_eq]
    refine ⟨fun z => ?_, fun z => ⟨fun y => ?_, fun y => ?_⟩⟩
    · rw [if_neg (fun x => z x.1)] at fin; exact fin
    · rw [if_neg (fun x => y x.2)] at fin; exact fin
    · rw [if_pos ⟨z, y⟩] at fin; exact fin
  have loop : ∀ r, r ≤ min k nr → ((∀ j, j < r → nmF (gi μ 2) (4 * j) 4 = lnV ((WGC μ nr nb sz n (gi μ 3 14)).2 j) (gi μ 6 (j))) → Z 36 [some (.ref 0), some (.int (nI k)), some (.int (nI r))] [] (LAY v) μ1 0 0) := by
    refine loopN (min k nr) (fun q => ?_) (fun r hr ih q => ?_)
    · have fin := out (min k nr) (by omega) (by omega) q (fun _ _ => by omega)
      refine hZ 400 [77] _ _ _ _ _ _ _ ?_
      simp -implicitDefEqProofs (disch := omega) only [wp_step xX10_check_36, wp_step xX10_check_37, wp_step xX10_check_38, wp_step xX10_check_41, wp_step xX10_check_42, wp_step xX10_check_43, wp_step xX10_check_46, wp_step xX10_check_49, ↓e_getf iX10_check f10_10, ↓e_getf iX10_check f10_148, ↓e_getf iX10_check f10_47, ↓e_getf iX10_check f10_19, ↓e_getf iX10_check f10_137, ↓e_virt iX10_check l10_169 iX7_weigh, ↓e_getf iX10_check f10_107, ↓e_virt iX10_check l10_351 iX8_numberAt, ↓e_virt iX10_check l10_178 iX7_lean, ↓e_virt iX10_check l10_155 iX8_empty, iX10_check, exec1, ↓p1_e, ↓p2_e, ↓q1_e, ↓q2_e, ↓qi_e, ↓pr_e, ↓pa_e, ↓pa_f, ↓pst_e, ↓qst_e, ↓rst_e, ↓pac_e, ↓pargs_0, ↓pargs_s, ↓gfld_0, ↓gfld_1, ↓gfld_2, ↓gfld_3, ↓pfld_i, ↓pfld_l, ↓pfld_r, ↓sfld_i, ↓sfld_l, ↓sfld_r, brI, pushv, rcv, lget, lset, lset2, isL, rok, szs, List.elem_nil, List.elem_cons, cond_true, cond_false, Option.map_some, beq_self_eq_true, Bool.true_and, Bool.and_true, Bool.false_and, Bool.and_false, Bool.or_false, Bool.false_or, Bool.or_true, Bool.true_or, Nat.reduceAdd, Nat.reduceSub, Nat.reduceMul, Nat.reduceBEq, Nat.reduceEqDiff, Nat.reduceLeDiff, Nat.sub_zero, true_and, and_true, false_and, and_false, true_or, or_true, false_or, or_false, reduceCtorEq, ↓reduceIte, List.getD_cons_zero, List.getD_cons_succ, List.length_cons, List.length_nil, ct_i, ct_r, ct_l, ct_f, ct_n, false_implies, true_implies, y0, y1, y2, y3, y4, y5, y6, y7, y8, y9, y10, y11, y12, y13, y14, y15, g1, nI_leI]
      refine ⟨fun z => fin, fun z => ⟨fun y => fin, fun y => by omega⟩⟩
    · have rk : r < k := by omega
      have rn : r < nr := by omega
      refine hZ 400 [36, 60, 68, 77] _ _ _ _ _ _ _ ?_
      simp -implicitDefEqProofs (disch := omega) only [wp_step xX10_check_36, wp_step xX10_check_37, wp_step xX10_check_38, wp_step xX10_check_41, wp_step xX10_check_42, wp_step xX10_check_43, wp_step xX10_check_46, wp_step xX10_check_49, wp_step xX10_check_52, wp_step xX10_check_53, wp_step xX10_check_56, wp_step xX10_check_57, ↓e_getf iX10_check f10_10, ↓e_getf iX10_check f10_148, ↓e_getf iX10_check f10_47, ↓e_getf iX10_check f10_19, ↓e_getf iX10_check f10_137, ↓e_virt iX10_check l10_169 iX7_weigh, ↓e_getf iX10_check f10_107, ↓e_virt iX10_check l10_351 iX8_numberAt, ↓e_virt iX10_check l10_178 iX7_lean, ↓e_virt iX10_check l10_155 iX8_empty, iX10_check, exec1, ↓p1_e, ↓p2_e, ↓q1_e, ↓q2_e, ↓qi_e, ↓pr_e, ↓pa_e, ↓pa_f, ↓pst_e, ↓qst_e, ↓rst_e, ↓pac_e, ↓pargs_0, ↓pargs_s, ↓gfld_0, ↓gfld_1, ↓gfld_2, ↓gfld_3, ↓pfld_i, ↓pfld_l, ↓pfld_r, ↓sfld_i, ↓sfld_l, ↓sfld_r, brI, pushv, rcv, lget, lset, lset2, isL, rok, szs, List.elem_nil, List.elem_cons, cond_true, cond_false, Option.map_some, beq_self_eq_true, Bool.true_and, Bool.and_true, Bool.false_and, Bool.and_false, Bool.or_false, Bool.false_or, Bool.or_true, Bool.true_or, Nat.reduceAdd, Nat.reduceSub, Nat.reduceMul, Nat.reduceBEq, Nat.reduceEqDiff, Nat.reduceLeDiff, Nat.sub_zero, true_and, and_true, false_and, and_false, true_or, or_true, false_or, or_false, reduceCtorEq, ↓reduceIte, List.getD_cons_zero, List.getD_cons_succ, List.length_cons, List.length_nil, ct_i, ct_r, ct_l, ct_f, ct_n, false_implies, true_implies, y0, y1, y2, y3, y4, y5, y6, y7, y8, y9, y10, y11, y12, y13, y14, y15, g1, nle_f rk (show k < 2 ^ 31 by omega), nle_f rn (show nr < 2 ^ 31 by omega), not_false_eq_true, true_implies, false_implies, and_true, true_and, not_true_eq_false]
      refine ⟨by omega, k_numberAt (by omega) g2 hts (by omega) ?_⟩
      refine hZ 400 [36, 68, 77] _ _ _ _ _ _ _ ?_
      simp -implicitDefEqProofs (disch := omega) only [wp_step xX10_check_60, wp_step xX10_check_61, wp_step xX10_check_64, wp_step xX10_check_65, ↓e_getf iX10_check f10_10, ↓e_getf iX10_check f10_148, ↓e_getf iX10_check f10_47, ↓e_getf iX10_check f10_19, ↓e_getf iX10_check f10_137, ↓e_virt iX10_check l10_169 iX7_weigh, ↓e_getf iX10_check f10_107, ↓e_virt iX10_check l10_351 iX8_numberAt, ↓e_virt iX10_check l10_178 iX7_lean, ↓e_virt iX10_check l10_155 iX8_empty, iX10_check, exec1, ↓p1_e, ↓p2_e, ↓q1_e, ↓q2_e, ↓qi_e, ↓pr_e, ↓pa_e, ↓pa_f, ↓pst_e, ↓qst_e, ↓rst_e, ↓pac_e, ↓pargs_0, ↓pargs_s, ↓gfld_0, ↓gfld_1, ↓gfld_2, ↓gfld_3, ↓pfld_i, ↓pfld_l, ↓pfld_r, ↓sfld_i, ↓sfld_l, ↓sfld_r, brI, pushv, rcv, lget, lset, lset2, isL, rok, szs, List.elem_nil, List.elem_cons, cond_true, cond_false, Option.map_some, beq_self_eq_true, Bool.true_and, Bool.and_true, Bool.false_and, Bool.and_false, Bool.or_false, Bool.false_or, Bool.or_true, Bool.true_or, Nat.reduceAdd, Nat.reduceSub, Nat.reduceMul, Nat.reduceBEq, Nat.reduceEqDiff, Nat.reduceLeDiff, Nat.sub_zero, true_and, and_true, false_and, and_false, true_or, or_true, false_or, or_false, reduceCtorEq, ↓reduceIte, List.getD_cons_zero, List.getD_cons_succ, List.length_cons, List.length_nil, ct_i, ct_r, ct_l, ct_f, ct_n, false_implies, true_implies, y0, y1, y2, y3, y4, y5, y6, y7, y8, y9, y10, y11, y12, y13, y14, y15, y46, y47, y48, y49, y50]
      refine ⟨by omega, k_lean (by omega) ScAt.main g1 w4 rn ?_⟩
      rw [g2f, f 6 r (by unfold pS pL; omega), show gi μ1 (46 + 4) r = (WGC μ nr nb sz n (gi μ 3 14)).2 r from hG.2.1 r rn]
      refine hZ 400 [36, 77] _ _ _ _ _ _ _ ?_
      simp -implicitDefEqProofs (disch := omega) only [wp_step xX10_check_68, wp_step xX10_check_71, wp_step xX10_check_74, ↓e_getf iX10_check f10_10, ↓e_getf iX10_check f10_148, ↓e_getf iX10_check f10_47, ↓e_getf iX10_check f10_19, ↓e_getf iX10_check f10_137, ↓e_virt iX10_check l10_169 iX7_weigh, ↓e_getf iX10_check f10_107, ↓e_virt iX10_check l10_351 iX8_numberAt, ↓e_virt iX10_check l10_178 iX7_lean, ↓e_virt iX10_check l10_155 iX8_empty, iX10_check, exec1, ↓p1_e, ↓p2_e, ↓q1_e, ↓q2_e, ↓qi_e, ↓pr_e, ↓pa_e, ↓pa_f, ↓pst_e, ↓qst_e, ↓rst_e, ↓pac_e, ↓pargs_0, ↓pargs_s, ↓gfld_0, ↓gfld_1, ↓gfld_2, ↓gfld_3, ↓pfld_i, ↓pfld_l, ↓pfld_r, ↓sfld_i, ↓sfld_l, ↓sfld_r, brI, pushv, rcv, lget, lset, lset2, isL, rok, szs, List.elem_nil, List.elem_cons, cond_true, cond_false, Option.map_some, beq_self_eq_true, Bool.true_and, Bool.and_true, Bool.false_and, Bool.and_false, Bool.or_false, Bool.false_or, Bool.or_true, Bool.true_or, Nat.reduceAdd, Nat.reduceSub, Nat.reduceMul, Nat.reduceBEq, Nat.reduceEqDiff, Nat.reduceLeDiff, Nat.sub_zero, true_and, and_true, false_and, and_false, true_or, or_true, false_or, or_false, reduceCtorEq, ↓reduceIte, List.getD_cons_zero, List.getD_cons_succ, List.length_cons, List.length_nil, ct_i, ct_r, ct_l, ct_f, ct_n, false_implies, true_implies, nI_1]
      refine ⟨fun z => out r (by omega) (by omega) q (fun _ _ => z), fun z => ih (fun j hj => ?_)⟩
      by_cases y : j = r
      · subst y; exact z
      · exact q j (by omega)
  refine hZ 400 [34, 36, 60, 68, 84] _ _ _ _ _ _ _ ?_
  simp -implicitDefEqProofs (disch := omega) only [wp_step xX10_check_34, wp_step xX10_check_35, ↓e_getf iX10_check f10_10, ↓e_getf iX10_check f10_148, ↓e_getf iX10_check f10_47, ↓e_getf iX10_check f10_19, ↓e_getf iX10_check f10_137, ↓e_virt iX10_check l10_169 iX7_weigh, ↓e_getf iX10_check f10_107, ↓e_virt iX10_check l10_351 iX8_numberAt, ↓e_virt iX10_check l10_178 iX7_lean, ↓e_virt iX10_check l10_155 iX8_empty, iX10_check, exec1, ↓p1_e, ↓p2_e, ↓q1_e, ↓q2_e, ↓qi_e, ↓pr_e, ↓pa_e, ↓pa_f, ↓pst_e, ↓qst_e, ↓rst_e, ↓pac_e, ↓pargs_0, ↓pargs_s, ↓gfld_0, ↓gfld_1, ↓gfld_2, ↓gfld_3, ↓pfld_i, ↓pfld_l, ↓pfld_r, ↓sfld_i, ↓sfld_l, ↓sfld_r, brI, pushv, rcv, lget, lset, lset2, isL, rok, szs, List.elem_nil, List.elem_cons, cond_true, cond_false, Option.map_some, beq_self_eq_true, Bool.true_and, Bool.and_true, Bool.false_and, Bool.and_false, Bool.or_false, Bool.false_or, Bool.or_true, Bool.true_or, Nat.reduceAdd, Nat.reduceSub, Nat.reduceMul, Nat.reduceBEq, Nat.reduceEqDiff, Nat.reduceLeDiff, Nat.sub_zero, true_and, and_true, false_and, and_false, true_or, or_true, false_or, or_false, reduceCtorEq, ↓reduceIte, List.getD_cons_zero, List.getD_cons_succ, List.length_cons, List.length_nil, ct_i, ct_r, ct_l, ct_f, ct_n, false_implies, true_implies]
  exact loop 0 (by omega) (fun j hj => absurd hj (by omega))
set_option maxRecDepth 100000 in
set_option maxHeartbeats 1000000 in
theorem k_mCheck {a : Int32} {nr nb sz n ts : Nat} (hd : 6 ≤ d) (hW : WM μ nr nb sz n) (hs : (gi μ 144 1) = nI ts) (hts : ts ≤ 220) (h0 : ¬ (0 ≤ a ∧ a ≤ nI (ts / 4)) → Q (some (.int (-2))) (LAY v) μ bc bs) (h1 : ∀ k r, k ≤ ts / 4 → a = nI k → r ≤ k → r ≤ nr → (∀ j, j < r → nmF (gi μ 145) (4 * j) 4 = lnV ((WGM μ nr nb sz n (gi μ 144 4)).2 j) (gi μ 148 (j))) → (r < k → r < nr → ¬ nmF (gi μ 145) (4 * r) 4 = lnV ((WGM μ nr nb sz n (gi μ 144 4)).2 r) (gi μ 148 (r))) → ∀ μ', Fr pCm μ μ' → gi μ' 144 1 = 0 → Q (some (.int (chV r k nr))) (LAY v) μ' bc bs) : KC G d mX11_check [.ref 144, .int a] (LAY v) μ bc bs Q := by
  obtain ⟨w1, w2, ⟨⟨w3, w4, w5⟩, w6, w7⟩, w8, w9, w10⟩ := id hW
  refine KC_intro 0 0 kX11_check (by decide) (by decide) (Nat.zero_le _) (Nat.zero_le _) (Nat.le_of_ble_eq_true rfl) (fun Z hZ => ?_)
  show Z 0 [some (.ref 144), some (.int a), none] [] (LAY v) μ 0 0
  refine hZ 400 [26, 28, 48] _ _ _ _ _ _ _ ?_
  simp -implicitDefEqProofs (disch := omega) only [wp_step xX11_check_0, wp_step xX11_check_1, wp_step xX11_check_4, wp_step xX11_check_5, wp_step xX11_check_6, wp_step xX11_check_9, wp_step xX11_check_10, wp_step xX11_check_11, wp_step xX11_check_14, wp_step xX11_check_16, wp_step xX11_check_17, wp_step xX11_check_18, wp_step xX11_check_19, wp_step xX11_check_22, wp_step xX11_check_23, ↓e_getf iX11_check f11_237, ↓e_putf iX11_check f11_237, ↓e_virt iX11_check l11_381 iX11_laysLeans, ↓e_getf iX11_check f11_13, ↓e_virt iX11_check l11_537 iX11_numberAt, ↓e_getf iX11_check f11_109, iX11_check, exec1, ↓p1_e, ↓p2_e, ↓q1_e, ↓q2_e, ↓qi_e, ↓pr_e, ↓pa_e, ↓pa_f, ↓pst_e, ↓qst_e, ↓rst_e, ↓pac_e, ↓pargs_0, ↓pargs_s, ↓gfld_0, ↓gfld_1, ↓gfld_2, ↓gfld_3, ↓pfld_i, ↓pfld_l, ↓pfld_r, ↓sfld_i, ↓sfld_l, ↓sfld_r, brI, pushv, rcv, lget, lset, lset2, isL, rok, szs, List.elem_nil, List.elem_cons, cond_true, cond_false, Option.map_some, beq_self_eq_true, Bool.true_and, Bool.and_true, Bool.false_and, Bool.and_false, Bool.or_false, Bool.false_or, Bool.or_true, Bool.true_or, Nat.reduceAdd, Nat.reduceSub, Nat.reduceMul, Nat.reduceBEq, Nat.reduceEqDiff, Nat.reduceLeDiff, Nat.sub_zero, true_and, and_true, false_and, and_false, true_or, or_true, false_or, or_false, reduceCtorEq, ↓reduceIte, List.getD_cons_zero, List.getD_cons_succ, List.length_cons, List.length_nil, ct_i, ct_r, ct_l, ct_f, ct_n, false_implies, true_implies, y144, hs, show (4 : Int32) = nI 4 from rfl, nI_div, show ¬ nI 4 = 0 by decide, not_false_eq_true, true_implies, false_implies, and_true, true_and, not_true_eq_false]
  have h4 : ts / 4 ≤ 55 := by omega
  have hF0 : Fr pCm μ (si μ 144 1 0) := Fr.rf.si (Or.inr ⟨rfl, rfl⟩)
  refine ⟨fun z => h0 (fun y => by have := y.1; simp only [i_le, i_lt] at *; omega), fun c1 => ⟨fun c2 => ⟨by omega, k_laysLeans (by omega) (hW.fr2 hF0 pCm_Lo) (fun μ1 hF hG hl => ?_)⟩, fun z => h0 (fun y => z y.2)⟩⟩
  obtain ⟨k, hk0, rfl⟩ := nI_of c1
  have hk : k ≤ ts / 4 := (nI_leI (by omega) (by omega)).mp c2
  have hF1 : Fr pCm μ μ1 := hF0.trans (hF.mono (fun a j z => Or.inl z))
  have f : ∀ a j, ¬ pCm a j → gi μ1 a j = gi μ a j := hF1.1
  have g1 : gi μ1 144 2 = nI nr := (f _ _ (by unfold pCm pK pN; omega)).trans w1
  have g2f : gi μ1 145 = gi μ 145 := funext (fun x => f _ _ (by unfold pCm pK pN; omega))
  have g0 : gi μ1 144 1 = 0 := (hF.1 _ _ (by unfold pK pN; omega)).trans gi_si
  have ln : ∀ r, r < nr → gi μ1 175 r = lnV ((WGM μ nr nb sz n (gi μ 144 4)).2 r) (gi μ 148 (r)) := fun r hr => by
    have e := hl r hr
    have x1 : gi (si μ 144 1 0) 144 4 = gi μ 144 4 := gi_si_k (by omega)
    have x2 : gi (si μ 144 1 0) 148 r = gi μ 148 r := gi_si_a (by omega)
    rw [x1, x2] at e
    rw [e]
    have e2 : (WGM (si μ 144 1 0) nr nb sz n (gi μ 144 4)).2 r = (WGM μ nr nb sz n (gi μ 144 4)).2 r := by rw [WGM_fr2 hF0 pCm_Lo]
    exact congrArg (fun z => lnV z (gi μ 148 (r))) e2
  have loop : ∀ r, r ≤ nr → (r ≤ k → (∀ j, j < r → nmF (gi μ 145) (4 * j) 4 = lnV ((WGM μ nr nb sz n (gi μ 144 4)).2 j) (gi μ 148 (j))) → Z 28 [some (.ref 144), some (.int (nI k)), some (.int (nI r))] [] (LAY v) μ1 0 0) := by
    refine loopN nr (fun rk q => ?_) (fun r hr ih rk q => ?_)
    · have fin := h1 k nr hk rfl rk (Nat.le_refl _) q (fun _ z => absurd z (by omega)) μ1 hF1 g0
      unfold chV at fin
      refine hZ 400 [26, 28, 48] _ _ _ _ _ _ _ ?_
      simp -implicitDefEqProofs (disch := omega) only [wp_step xX11_check_28, wp_step xX11_check_29, wp_step xX11_check_30, wp_step xX11_check_33, ↓e_getf iX11_check f11_237, ↓e_putf iX11_check f11_237, ↓e_virt iX11_check l11_381 iX11_laysLeans, ↓e_getf iX11_check f11_13, ↓e_virt iX11_check l11_537 iX11_numberAt, ↓e_getf iX11_check f11_109, iX11_check, wp_step xX11_check_65, wp_step xX11_check_66, wp_step xX11_check_67, wp_step xX11_check_70, wp_step xX11_check_73, wp_step xX11_check_74, wp_step xX11_check_77, wp_step xX11_check_78, wp_step xX11_check_81, ↓e_getf iX11_check f11_237, ↓e_putf iX11_check f11_237, ↓e_virt iX11_check l11_381 iX11_laysLeans, ↓e_getf iX11_check f11_13, ↓e_virt iX11_check l11_537 iX11_numberAt, ↓e_getf iX11_check f11_109, iX11_check, exec1, ↓p1_e, ↓p2_e, ↓q1_e, ↓q2_e, ↓qi_e, ↓pr_e, ↓pa_e, ↓pa_f, ↓pst_e, ↓qst_e, ↓rst_e, ↓pac_e, ↓pargs_0, ↓pargs_s, ↓gfld_0, ↓gfld_1, ↓gfld_2, ↓gfld_3, ↓pfld_i, ↓pfld_l, ↓pfld_r, ↓sfld_i, ↓sfld_l, ↓sfld_r, brI, pushv, rcv, lget, lset, lset2, isL, rok, szs, List.elem_nil, List.elem_cons, cond_true, cond_false, Option.map_some, beq_self_eq_true, Bool.true_and, Bool.and_true, Bool.false_and, Bool.and_false, Bool.or_false, Bool.false_or, Bool.or_true, Bool.true_or, Nat.reduceAdd, Nat.reduceSub, Nat.reduceMul, Nat.reduceBEq, Nat.reduceEqDiff, Nat.reduceLeDiff, Nat.sub_zero, true_and, and_true, false_and, and_false, true_or, or_true, false_or, or_false, reduceCtorEq, ↓reduceIte, List.getD_cons_zero, List.getD_cons_succ, List.length_cons, List.length_nil, ct_i, ct_r, ct_l, ct_f, ct_n, false_implies, true_implies, y144, g1, nle_t (show nr < 2 ^ 31 by omega), nI_eq, not_false_eq_true, true_implies, false_implies, and_true, true_and, not_true_eq_false]
      refine ⟨fun z => ?_, fun z => ?_⟩
      · rw [if_neg (fun y => z y.2)] at fin; exact fin
      · rw [if_pos ⟨z.symm, z⟩] at fin; exact fin
    · have vr : vp_in (nI r) 10 := vin (by omega) (by omega)
      refine hZ 400 [26, 28, 48] _ _ _ _ _ _ _ ?_
      simp -implicitDefEqProofs (disch := omega) only [wp_step xX11_check_28, wp_step xX11_check_29, wp_step xX11_check_30, wp_step xX11_check_33, wp_step xX11_check_36, wp_step xX11_check_37, wp_step xX11_check_38, wp_step xX11_check_41, wp_step xX11_check_42, wp_step xX11_check_43, wp_step xX11_check_44, wp_step xX11_check_45, ↓e_getf iX11_check f11_237, ↓e_putf iX11_check f11_237, ↓e_virt iX11_check l11_381 iX11_laysLeans, ↓e_getf iX11_check f11_13, ↓e_virt iX11_check l11_537 iX11_numberAt, ↓e_getf iX11_check f11_109, iX11_check, exec1, ↓p1_e, ↓p2_e, ↓q1_e, ↓q2_e, ↓qi_e, ↓pr_e, ↓pa_e, ↓pa_f, ↓pst_e, ↓qst_e, ↓rst_e, ↓pac_e, ↓pargs_0, ↓pargs_s, ↓gfld_0, ↓gfld_1, ↓gfld_2, ↓gfld_3, ↓pfld_i, ↓pfld_l, ↓pfld_r, ↓sfld_i, ↓sfld_l, ↓sfld_r, brI, pushv, rcv, lget, lset, lset2, isL, rok, szs, List.elem_nil, List.elem_cons, cond_true, cond_false, Option.map_some, beq_self_eq_true, Bool.true_and, Bool.and_true, Bool.false_and, Bool.and_false, Bool.or_false, Bool.false_or, Bool.or_true, Bool.true_or, Nat.reduceAdd, Nat.reduceSub, Nat.reduceMul, Nat.reduceBEq, Nat.reduceEqDiff, Nat.reduceLeDiff, Nat.sub_zero, true_and, and_true, false_and, and_false, true_or, or_true, false_or, or_false, reduceCtorEq, ↓reduceIte, List.getD_cons_zero, List.getD_cons_succ, List.length_cons, List.length_nil, ct_i, ct_r, ct_l, ct_f, ct_n, false_implies, true_implies, y144, g1, nle_f hr (show nr < 2 ^ 31 by omega), nI_eq, not_false_eq_true, true_implies, false_implies, and_true, true_and, not_true_eq_false]
      refine ⟨fun z => ⟨by omega, k_mNumberAt (by omega) ?_⟩, fun z => ?_⟩
      · rw [g2f]
        refine hZ 400 [26, 28, 48] _ _ _ _ _ _ _ ?_
        simp -implicitDefEqProofs (disch := omega) only [wp_step xX11_check_48, wp_step xX11_check_49, wp_step xX11_check_52, wp_step xX11_check_53, wp_step xX11_check_54, wp_step xX11_check_57, wp_step xX11_check_58, wp_step xX11_check_59, wp_step xX11_check_62, ↓e_getf iX11_check f11_237, ↓e_putf iX11_check f11_237, ↓e_virt iX11_check l11_381 iX11_laysLeans, ↓e_getf iX11_check f11_13, ↓e_virt iX11_check l11_537 iX11_numberAt, ↓e_getf iX11_check f11_109, iX11_check, exec1, ↓p1_e, ↓p2_e, ↓q1_e, ↓q2_e, ↓qi_e, ↓pr_e, ↓pa_e, ↓pa_f, ↓pst_e, ↓qst_e, ↓rst_e, ↓pac_e, ↓pargs_0, ↓pargs_s, ↓gfld_0, ↓gfld_1, ↓gfld_2, ↓gfld_3, ↓pfld_i, ↓pfld_l, ↓pfld_r, ↓sfld_i, ↓sfld_l, ↓sfld_r, brI, pushv, rcv, lget, lset, lset2, isL, rok, szs, List.elem_nil, List.elem_cons, cond_true, cond_false, Option.map_some, beq_self_eq_true, Bool.true_and, Bool.and_true, Bool.false_and, Bool.and_false, Bool.or_false, Bool.false_or, Bool.or_true, Bool.true_or, Nat.reduceAdd, Nat.reduceSub, Nat.reduceMul, Nat.reduceBEq, Nat.reduceEqDiff, Nat.reduceLeDiff, Nat.sub_zero, true_and, and_true, false_and, and_false, true_or, or_true, false_or, or_false, reduceCtorEq, ↓reduceIte, List.getD_cons_zero, List.getD_cons_succ, List.length_cons, List.length_nil, ct_i, ct_r, ct_l, ct_f, ct_n, false_implies, true_implies, y144, y173, y174, y175, vr, nI_clamp, ln r hr, nI_1]
        refine ⟨fun y => ih (by omega) (fun j hj => ?_), fun y => ?_⟩
        · by_cases x : j = r
          · subst x; exact y
          · exact q j (by omega)
        · have fin := h1 k r hk rfl rk (by omega) q (fun _ _ => y) μ1 hF1 g0
          unfold chV at fin
          rw [if_neg (fun x => z x.1)] at fin; exact fin
      · have fin := h1 k r hk rfl rk (by omega) q (fun x _ => absurd x (by omega)) μ1 hF1 g0
        unfold chV at fin
        rw [if_neg (fun x => by omega)] at fin
        rw [← z]; exact fin
  refine hZ 400 [26, 28, 48] _ _ _ _ _ _ _ ?_
  simp -implicitDefEqProofs (disch := omega) only [wp_step xX11_check_26, wp_step xX11_check_27, ↓e_getf iX11_check f11_237, ↓e_putf iX11_check f11_237, ↓e_virt iX11_check l11_381 iX11_laysLeans, ↓e_getf iX11_check f11_13, ↓e_virt iX11_check l11_537 iX11_numberAt, ↓e_getf iX11_check f11_109, iX11_check, exec1, ↓p1_e, ↓p2_e, ↓q1_e, ↓q2_e, ↓qi_e, ↓pr_e, ↓pa_e, ↓pa_f, ↓pst_e, ↓qst_e, ↓rst_e, ↓pac_e, ↓pargs_0, ↓pargs_s, ↓gfld_0, ↓gfld_1, ↓gfld_2, ↓gfld_3, ↓pfld_i, ↓pfld_l, ↓pfld_r, ↓sfld_i, ↓sfld_l, ↓sfld_r, brI, pushv, rcv, lget, lset, lset2, isL, rok, szs, List.elem_nil, List.elem_cons, cond_true, cond_false, Option.map_some, beq_self_eq_true, Bool.true_and, Bool.and_true, Bool.false_and, Bool.and_false, Bool.or_false, Bool.false_or, Bool.or_true, Bool.true_or, Nat.reduceAdd, Nat.reduceSub, Nat.reduceMul, Nat.reduceBEq, Nat.reduceEqDiff, Nat.reduceLeDiff, Nat.sub_zero, true_and, and_true, false_and, and_false, true_or, or_true, false_or, or_false, reduceCtorEq, ↓reduceIte, List.getD_cons_zero, List.getD_cons_succ, List.length_cons, List.length_nil, ct_i, ct_r, ct_l, ct_f, ct_n, false_implies, true_implies]
  exact loop 0 (by omega) (by omega) (fun j hj => absurd hj (by omega))
theorem both_check (hd : 7 ≤ d) {a : Int32} (hI : Inv LRel μ) : Both G d LRel mX10_check mX11_check [.int a] v μ bc bs := by
  obtain ⟨i1, i2, i3, i4, i5⟩ := id hI
  obtain ⟨nr, nb, q1, q2, q3, q4, q5⟩ := id i1
  obtain ⟨⟨n1, n2, n3⟩, -, -, -, s⟩ := id q5
  obtain ⟨⟨e1, e2, e3⟩, e4, e5, e6⟩ := id i2
  obtain ⟨ts, t1, t2, t3, t4⟩ := id i3
  obtain ⟨sz, n, hC, hM⟩ := i5.both q1 q2 q3 q4 q5
  refine k_check (by omega) hC t2 t1 (fun c => k_mCheck (by omega) hM t3 t1 (fun _ => ⟨rfl, v, rfl, hI, rfl, rfl⟩) (fun k r hk e _ _ _ _ _ _ _ => absurd (by subst e; exact ⟨nI_pos' (by omega), (nI_leI (by omega) (by omega)).mpr hk⟩) c)) (fun k r hk e r1 r2 r3 r4 μ1 hF z1 => ?_)
  subst e
  have fM : ∀ a j, 144 ≤ a → gi μ1 a j = gi μ a j := fun a j h => hF.1 a j (by unfold pC pS pL; omega)
  refine k_mCheck (by omega) (hM.fr2 hF pC_Lo) ((fM _ _ (by omega)).trans t3) t1 (fun c => absurd ⟨nI_pos' (by omega), (nI_leI (by omega) (by omega)).mpr hk⟩ c) (fun k' r' hk' e' r1' r2' r3' r4' μ2 hF2 z2 => ⟨?_, v, rfl, ?_, rfl, rfl⟩)
  · have ek : k' = k := ((nI_eq (by omega) (by omega)).mp e').symm
    subst ek
    have cv : ∀ j, j < k' → j < nr → (nmF (gi μ1 145) (4 * j) 4 = lnV ((WGM μ1 nr nb sz n (gi μ1 144 4)).2 j) (gi μ1 148 j) ↔ nmF (gi μ 2) (4 * j) 4 = lnV ((WGC μ nr nb sz n (gi μ 3 14)).2 j) (gi μ 6 (j))) := fun j hj hn => by
      have x1 : nmF (gi μ1 145) (4 * j) 4 = nmF (gi μ 2) (4 * j) 4 := nmF_cong (fun x hx => by
        obtain ⟨b, hb, y1, y2⟩ := t4 (4 * j + x) (by omega)
        rw [fM _ _ (by omega), y2, y1, and255 hb])
      have x2 : gi μ 6 j = gi μ 148 j := s.1 2 (by omega) j hn
      rw [x1, fM 144 4 (by omega), fM 148 j (by omega), ← e1, WGM_fr2 hF pC_Lo, show WGM μ nr nb sz n (gi μ 3 14) = WGC μ nr nb sz n (gi μ 3 14) from (WG_same q5).symm, x2]
    have er : r' = r := by
      rcases Nat.lt_trichotomy r' r with x | x | x
      · exact absurd ((cv r' (by omega) (by omega)).mpr (r3 r' x)) (r4' (by omega) (by omega))
      · exact x
      · exact absurd ((cv r (by omega) (by omega)).mp (r3' r x)) (r4 (by omega) (by omega))
    subst er
    rfl
  · have hFF : Fr Lo2 μ μ2 := (hF.mono pC_Lo).trans (hF2.mono pCm_Lo)
    have c1 : gi μ2 3 14 = gi μ 3 14 := (hF2.1 _ _ (by unfold pCm pK pN; omega)).trans (hF.1 _ _ (by unfold pC pS pL; omega))
    have c2 : gi μ2 3 15 = gi μ 3 15 := (hF2.1 _ _ (by unfold pCm pK pN; omega)).trans (hF.1 _ _ (by unfold pC pS pL; omega))
    have c3 : gi μ2 144 4 = gi μ 144 4 := (hF2.1 _ _ (by unfold pCm pK pN; omega)).trans (hF.1 _ _ (by unfold pC pS pL; omega))
    have c4 : gi μ2 144 5 = gi μ 144 5 := (hF2.1 _ _ (by unfold pCm pK pN; omega)).trans (hF.1 _ _ (by unfold pC pS pL; omega))
    have c5 : gi μ2 1 1 = nI 0 := (hF2.1 _ _ (by unfold pCm pK pN; omega)).trans z1
    exact hI.fr hFF (fun _ _ z => z) (i2.cong c1 c2 c3 c4) ⟨0, by omega, c5, z2, fun j hj => absurd hj (by omega)⟩
end CHK2
