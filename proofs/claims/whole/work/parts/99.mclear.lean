section MCL
variable {G : Gx} {d v : Nat} {μ : Mem} {bc bs : Nat} {Q : Option Value → List Sh → Mem → Nat → Nat → Prop} {A : Nat → Nat → Int32}
def pCe (a _ : Nat) : Prop := a = 153 ∨ a = 157
set_option maxRecDepth 100000 in
set_option maxHeartbeats 1000000 in
theorem k_mCuts {a b m nr nb : Nat} (hb : (gi μ 144 3) = nI nb) (hn : nb ≤ 40) (hA : ∀ f, f < 12 → gi μ (146 + f) = A f) (hR : Rbs A nr nb) (hm : m < 100000) (h : ∀ μ', Fr pCe μ μ' → (∀ f, f < 12 → gi μ' (146 + f) = (ctA a b m A nb).1 f) → Q none (LAY v) μ' bc bs) : KC G d mX11_cuts [.ref 144, .int (nI a), .int (nI b), .int (nI m)] (LAY v) μ bc bs Q := by
  refine KC_intro 0 0 kX11_cuts (by decide) (by decide) (Nat.zero_le _) (Nat.zero_le _) (Nat.le_of_ble_eq_true rfl) (fun Z hZ => ?_)
  show Z 0 [some (.ref 144), some (.int (nI a)), some (.int (nI b)), some (.int (nI m)), none, none, none] [] (LAY v) μ 0 0
  have loop : ∀ i, i ≤ nb → (∀ μ1 w6, Fr pCe μ μ1 → (∀ f, f < 12 → gi μ1 (146 + f) = (ctA a b m A i).1 f) → Z 6 [some (.ref 144), some (.int (nI a)), some (.int (nI b)), some (.int (nI m)), some (.int (nI (ctA a b m A i).2)), some (.int (nI i)), w6] [] (LAY v) μ1 0 0) := by
    refine loopN nb (fun μ1 w6 hF hA1 => ?_) (fun i hi ih μ1 w6 hF hA1 => ?_)
    · have f13 : gi μ1 144 3 = nI nb := (hF.1 _ _ (by unfold pCe; omega)).trans hb
      refine hZ 400 [] _ _ _ _ _ _ _ ?_
      simp -implicitDefEqProofs (disch := omega) only [wp_step xX11_cuts_6, wp_step xX11_cuts_8, wp_step xX11_cuts_9, wp_step xX11_cuts_12, ↓e_getf iX11_cuts f11_213, ↓e_getf iX11_cuts f11_55, ↓e_getf iX11_cuts f11_46, ↓e_getf iX11_cuts f11_49, ↓e_getf iX11_cuts f11_52, ↓e_getf iX11_cuts f11_43, iX11_cuts, wp_step xX11_cuts_139, ↓e_getf iX11_cuts f11_213, ↓e_getf iX11_cuts f11_55, ↓e_getf iX11_cuts f11_46, ↓e_getf iX11_cuts f11_49, ↓e_getf iX11_cuts f11_52, ↓e_getf iX11_cuts f11_43, iX11_cuts, exec1, ↓p1_e, ↓p2_e, ↓q1_e, ↓q2_e, ↓qi_e, ↓pr_e, ↓pa_e, ↓pa_f, ↓pst_e, ↓qst_e, ↓rst_e, ↓pac_e, ↓pargs_0, ↓pargs_s, ↓gfld_0, ↓gfld_1, ↓gfld_2, ↓gfld_3, ↓pfld_i, ↓pfld_l, ↓pfld_r, ↓sfld_i, ↓sfld_l, ↓sfld_r, brI, pushv, rcv, lget, lset, lset2, isL, rok, szs, List.elem_nil, List.elem_cons, cond_true, cond_false, Option.map_some, beq_self_eq_true, Bool.true_and, Bool.and_true, Bool.false_and, Bool.and_false, Bool.or_false, Bool.false_or, Bool.or_true, Bool.true_or, Nat.reduceAdd, Nat.reduceSub, Nat.reduceMul, Nat.reduceBEq, Nat.reduceEqDiff, Nat.reduceLeDiff, Nat.sub_zero, true_and, and_true, false_and, and_false, true_or, or_true, false_or, or_false, reduceCtorEq, ↓reduceIte, List.getD_cons_zero, List.getD_cons_succ, List.length_cons, List.length_nil, ct_i, ct_r, ct_l, ct_f, ct_n, false_implies, true_implies, y144, f13, nle_t (show nb < 2 ^ 31 by omega), not_false_eq_true, true_implies, false_implies, and_true, true_and, not_true_eq_false]
      exact h μ1 hF hA1
    · have f13 : gi μ1 144 3 = nI nb := (hF.1 _ _ (by unfold pCe; omega)).trans hb
      have lm := ctA_m (a := a) (b := b) (m := m) (A := A) (i := i)
      by_cases z : (ctA a b m A i).2 = 0
      · refine hZ 400 [] _ _ _ _ _ _ _ ?_
        simp -implicitDefEqProofs (disch := omega) only [wp_step xX11_cuts_6, wp_step xX11_cuts_8, wp_step xX11_cuts_9, wp_step xX11_cuts_12, wp_step xX11_cuts_15, wp_step xX11_cuts_17, ↓e_getf iX11_cuts f11_213, ↓e_getf iX11_cuts f11_55, ↓e_getf iX11_cuts f11_46, ↓e_getf iX11_cuts f11_49, ↓e_getf iX11_cuts f11_52, ↓e_getf iX11_cuts f11_43, iX11_cuts, wp_step xX11_cuts_139, ↓e_getf iX11_cuts f11_213, ↓e_getf iX11_cuts f11_55, ↓e_getf iX11_cuts f11_46, ↓e_getf iX11_cuts f11_49, ↓e_getf iX11_cuts f11_52, ↓e_getf iX11_cuts f11_43, iX11_cuts, exec1, ↓p1_e, ↓p2_e, ↓q1_e, ↓q2_e, ↓qi_e, ↓pr_e, ↓pa_e, ↓pa_f, ↓pst_e, ↓qst_e, ↓rst_e, ↓pac_e, ↓pargs_0, ↓pargs_s, ↓gfld_0, ↓gfld_1, ↓gfld_2, ↓gfld_3, ↓pfld_i, ↓pfld_l, ↓pfld_r, ↓sfld_i, ↓sfld_l, ↓sfld_r, brI, pushv, rcv, lget, lset, lset2, isL, rok, szs, List.elem_nil, List.elem_cons, cond_true, cond_false, Option.map_some, beq_self_eq_true, Bool.true_and, Bool.and_true, Bool.false_and, Bool.and_false, Bool.or_false, Bool.false_or, Bool.or_true, Bool.true_or, Nat.reduceAdd, Nat.reduceSub, Nat.reduceMul, Nat.reduceBEq, Nat.reduceEqDiff, Nat.reduceLeDiff, Nat.sub_zero, true_and, and_true, false_and, and_false, true_or, or_true, false_or, or_false, reduceCtorEq, ↓reduceIte, List.getD_cons_zero, List.getD_cons_succ, List.length_cons, List.length_nil, ct_i, ct_r, ct_l, ct_f, ct_n, false_implies, true_implies, y144, f13, z, show (nI 0 ≤ 0) = True from eq_true (by decide), nle_f hi (show nb < 2 ^ 31 by omega), not_false_eq_true, true_implies, false_implies, and_true, true_and, not_true_eq_false]
        refine h μ1 hF ?_
        rw [ctA_0 z (j := nb) (by omega)]; exact hA1
      · have vi : vp_in (nI i) 40 := vin (by omega) (by omega)
        have ea : ∀ f, (ctA a b m A i).1 f i = A f i := fun f => ctA_ge (Nat.le_refl _)
        obtain ⟨-, -, ⟨l, hl, el, -⟩, -⟩ := hR.1 i hi
        generalize hq : ctA a b m A i = q at *
        have g : ∀ f, f < 12 → gi μ1 (146 + f) i = q.1 f i := fun f hf => congrFun (hA1 f hf) i
        have g7 : gi μ1 153 i = nI l := (g 7 (by omega)).trans ((ea 7).trans el)
        have g8 : gi μ1 154 i = q.1 8 i := g 8 (by omega)
        have g9 : gi μ1 155 i = q.1 9 i := g 9 (by omega)
        have g10 : gi μ1 156 i = q.1 10 i := g 10 (by omega)
        have g11 : gi μ1 157 i = q.1 11 i := g 11 (by omega)
        rw [ctA, hq] at ih
        have skip : dbB q.1 a b i = false → Z 133 [some (.ref 144), some (.int (nI a)), some (.int (nI b)), some (.int (nI m)), some (.int (nI q.2)), some (.int (nI i)), w6] [] (LAY v) μ1 0 0 := fun cb => by
          rw [show ctS a b q i = q by unfold ctS; rw [if_neg (by rw [cb]; exact fun x => absurd x.1 (by decide))]] at ih
          refine hZ 400 [6] _ _ _ _ _ _ _ ?_
          simp -implicitDefEqProofs (disch := omega) only [wp_step xX11_cuts_133, wp_step xX11_cuts_136, ↓e_getf iX11_cuts f11_213, ↓e_getf iX11_cuts f11_55, ↓e_getf iX11_cuts f11_46, ↓e_getf iX11_cuts f11_49, ↓e_getf iX11_cuts f11_52, ↓e_getf iX11_cuts f11_43, iX11_cuts, exec1, ↓p1_e, ↓p2_e, ↓q1_e, ↓q2_e, ↓qi_e, ↓pr_e, ↓pa_e, ↓pa_f, ↓pst_e, ↓qst_e, ↓rst_e, ↓pac_e, ↓pargs_0, ↓pargs_s, ↓gfld_0, ↓gfld_1, ↓gfld_2, ↓gfld_3, ↓pfld_i, ↓pfld_l, ↓pfld_r, ↓sfld_i, ↓sfld_l, ↓sfld_r, brI, pushv, rcv, lget, lset, lset2, isL, rok, szs, List.elem_nil, List.elem_cons, cond_true, cond_false, Option.map_some, beq_self_eq_true, Bool.true_and, Bool.and_true, Bool.false_and, Bool.and_false, Bool.or_false, Bool.false_or, Bool.or_true, Bool.true_or, Nat.reduceAdd, Nat.reduceSub, Nat.reduceMul, Nat.reduceBEq, Nat.reduceEqDiff, Nat.reduceLeDiff, Nat.sub_zero, true_and, and_true, false_and, and_false, true_or, or_true, false_or, or_false, reduceCtorEq, ↓reduceIte, List.getD_cons_zero, List.getD_cons_succ, List.length_cons, List.length_nil, ct_i, ct_r, ct_l, ct_f, ct_n, false_implies, true_implies, nI_1]
          exact ih μ1 w6 hF hA1
        have no : ¬ (¬ q.1 11 i = 0 ∧ q.1 8 i = 1 ∧ q.1 9 i = nI a ∧ q.1 10 i = nI b) → dbB q.1 a b i = false := fun x => by
          cases e : dbB q.1 a b i with
          | true => exact absurd (dbB_x e) x
          | false => rfl
        refine hZ 400 [133, 66] _ _ _ _ _ _ _ ?_
        simp -implicitDefEqProofs (disch := omega) only [wp_step xX11_cuts_6, wp_step xX11_cuts_8, wp_step xX11_cuts_9, wp_step xX11_cuts_12, wp_step xX11_cuts_15, wp_step xX11_cuts_17, wp_step xX11_cuts_20, wp_step xX11_cuts_21, wp_step xX11_cuts_24, wp_step xX11_cuts_26, wp_step xX11_cuts_27, wp_step xX11_cuts_30, wp_step xX11_cuts_31, wp_step xX11_cuts_34, wp_step xX11_cuts_36, wp_step xX11_cuts_37, wp_step xX11_cuts_38, wp_step xX11_cuts_41, wp_step xX11_cuts_42, wp_step xX11_cuts_45, wp_step xX11_cuts_47, wp_step xX11_cuts_48, wp_step xX11_cuts_49, wp_step xX11_cuts_52, wp_step xX11_cuts_53, wp_step xX11_cuts_56, wp_step xX11_cuts_58, wp_step xX11_cuts_59, wp_step xX11_cuts_60, wp_step xX11_cuts_63, ↓e_getf iX11_cuts f11_213, ↓e_getf iX11_cuts f11_55, ↓e_getf iX11_cuts f11_46, ↓e_getf iX11_cuts f11_49, ↓e_getf iX11_cuts f11_52, ↓e_getf iX11_cuts f11_43, iX11_cuts, exec1, ↓p1_e, ↓p2_e, ↓q1_e, ↓q2_e, ↓qi_e, ↓pr_e, ↓pa_e, ↓pa_f, ↓pst_e, ↓qst_e, ↓rst_e, ↓pac_e, ↓pargs_0, ↓pargs_s, ↓gfld_0, ↓gfld_1, ↓gfld_2, ↓gfld_3, ↓pfld_i, ↓pfld_l, ↓pfld_r, ↓sfld_i, ↓sfld_l, ↓sfld_r, brI, pushv, rcv, lget, lset, lset2, isL, rok, szs, List.elem_nil, List.elem_cons, cond_true, cond_false, Option.map_some, beq_self_eq_true, Bool.true_and, Bool.and_true, Bool.false_and, Bool.and_false, Bool.or_false, Bool.false_or, Bool.or_true, Bool.true_or, Nat.reduceAdd, Nat.reduceSub, Nat.reduceMul, Nat.reduceBEq, Nat.reduceEqDiff, Nat.reduceLeDiff, Nat.sub_zero, true_and, and_true, false_and, and_false, true_or, or_true, false_or, or_false, reduceCtorEq, ↓reduceIte, List.getD_cons_zero, List.getD_cons_succ, List.length_cons, List.length_nil, ct_i, ct_r, ct_l, ct_f, ct_n, false_implies, true_implies, y144, y145, y146, y147, y148, y149, y150, y151, y152, y153, y154, y155, y156, y157, f13, g8, g9, g10, g11, vi, nI_clamp, show (nI q.2 ≤ 0) = False from eq_false (nI_nle (by omega) (by omega)), nle_f hi (show nb < 2 ^ 31 by omega), not_false_eq_true, true_implies, false_implies, and_true, true_and, not_true_eq_false]
        refine ⟨fun c1 => skip (no (fun x => x.1 c1)), fun c1 => ⟨fun c2 => skip (no (fun x => c2 x.2.1)), fun c2 => ⟨fun c3 => skip (no (fun x => c3 x.2.2.1)), fun c3 => ⟨fun c4 => ?_, fun c4 => skip (no (fun x => c4 x.2.2.2))⟩⟩⟩⟩
        have cb := dbB_i (A := q.1) (a := a) (b := b) (i := i) ⟨c1, c2, c3, c4⟩
        have es : ctS a b q i = (u2 q.1 i (l - q.2), q.2 - l) := by unfold ctS; rw [if_pos ⟨cb, by omega⟩, ea 7, el, nI_clamp (by omega)]
        rw [es] at ih
        have rest : Z 90 [some (.ref 144), some (.int (nI a)), some (.int (nI b)), some (.int (nI m)), some (.int (nI q.2)), some (.int (nI i)), w6] [.int (nI (min q.2 l))] (LAY v) μ1 0 0 := by
          refine hZ 400 [6] _ _ _ _ _ _ _ ?_
          simp -implicitDefEqProofs (disch := omega) only [wp_step xX11_cuts_90, wp_step xX11_cuts_92, wp_step xX11_cuts_93, wp_step xX11_cuts_96, wp_step xX11_cuts_98, wp_step xX11_cuts_99, wp_step xX11_cuts_100, wp_step xX11_cuts_102, wp_step xX11_cuts_103, wp_step xX11_cuts_104, wp_step xX11_cuts_106, wp_step xX11_cuts_108, wp_step xX11_cuts_109, wp_step xX11_cuts_111, wp_step xX11_cuts_112, wp_step xX11_cuts_115, wp_step xX11_cuts_117, wp_step xX11_cuts_118, wp_step xX11_cuts_121, wp_step xX11_cuts_123, wp_step xX11_cuts_124, wp_step xX11_cuts_127, wp_step xX11_cuts_128, wp_step xX11_cuts_131, wp_step xX11_cuts_132, wp_step xX11_cuts_133, wp_step xX11_cuts_136, ↓e_getf iX11_cuts f11_213, ↓e_getf iX11_cuts f11_55, ↓e_getf iX11_cuts f11_46, ↓e_getf iX11_cuts f11_49, ↓e_getf iX11_cuts f11_52, ↓e_getf iX11_cuts f11_43, iX11_cuts, exec1, ↓p1_e, ↓p2_e, ↓q1_e, ↓q2_e, ↓qi_e, ↓pr_e, ↓pa_e, ↓pa_f, ↓pst_e, ↓qst_e, ↓rst_e, ↓pac_e, ↓pargs_0, ↓pargs_s, ↓gfld_0, ↓gfld_1, ↓gfld_2, ↓gfld_3, ↓pfld_i, ↓pfld_l, ↓pfld_r, ↓sfld_i, ↓sfld_l, ↓sfld_r, brI, pushv, rcv, lget, lset, lset2, isL, rok, szs, List.elem_nil, List.elem_cons, cond_true, cond_false, Option.map_some, beq_self_eq_true, Bool.true_and, Bool.and_true, Bool.false_and, Bool.and_false, Bool.or_false, Bool.false_or, Bool.or_true, Bool.true_or, Nat.reduceAdd, Nat.reduceSub, Nat.reduceMul, Nat.reduceBEq, Nat.reduceEqDiff, Nat.reduceLeDiff, Nat.sub_zero, true_and, and_true, false_and, and_false, true_or, or_true, false_or, or_false, reduceCtorEq, ↓reduceIte, List.getD_cons_zero, List.getD_cons_succ, List.length_cons, List.length_nil, ct_i, ct_r, ct_l, ct_f, ct_n, false_implies, true_implies, y144, y145, y146, y147, y148, y149, y150, y151, y152, y153, y154, y155, y156, y157, vi, nI_clamp, g7, nI_sub, gi_si, nI_1, nar0, nar1, show l - min q.2 l = l - q.2 by omega, show q.2 - min q.2 l = q.2 - l by omega, not_false_eq_true, true_implies, false_implies, and_true, true_and, not_true_eq_false]
          refine ⟨fun c => ?_, fun c => ?_⟩
          · have c' : ¬ 0 < l - q.2 := fun x => nI_nle x (by omega) c
            exact ih _ _ ((hF.si (Or.inl rfl)).si (Or.inr rfl)) (u2_mem (c := 146) hA1 (by rw [if_neg c']))
          · have c' : 0 < l - q.2 := Nat.pos_of_ne_zero (fun x => c (by rw [x]; decide))
            exact ih _ _ ((hF.si (Or.inl rfl)).si (Or.inr rfl)) (u2_mem (c := 146) hA1 (by rw [if_pos c']))
        refine hZ 400 [90] _ _ _ _ _ _ _ ?_
        simp -implicitDefEqProofs (disch := omega) only [wp_step xX11_cuts_66, wp_step xX11_cuts_67, wp_step xX11_cuts_70, wp_step xX11_cuts_72, wp_step xX11_cuts_73, wp_step xX11_cuts_75, wp_step xX11_cuts_78, wp_step xX11_cuts_79, wp_step xX11_cuts_82, wp_step xX11_cuts_84, wp_step xX11_cuts_85, wp_step xX11_cuts_88, ↓e_getf iX11_cuts f11_213, ↓e_getf iX11_cuts f11_55, ↓e_getf iX11_cuts f11_46, ↓e_getf iX11_cuts f11_49, ↓e_getf iX11_cuts f11_52, ↓e_getf iX11_cuts f11_43, iX11_cuts, exec1, ↓p1_e, ↓p2_e, ↓q1_e, ↓q2_e, ↓qi_e, ↓pr_e, ↓pa_e, ↓pa_f, ↓pst_e, ↓qst_e, ↓rst_e, ↓pac_e, ↓pargs_0, ↓pargs_s, ↓gfld_0, ↓gfld_1, ↓gfld_2, ↓gfld_3, ↓pfld_i, ↓pfld_l, ↓pfld_r, ↓sfld_i, ↓sfld_l, ↓sfld_r, brI, pushv, rcv, lget, lset, lset2, isL, rok, szs, List.elem_nil, List.elem_cons, cond_true, cond_false, Option.map_some, beq_self_eq_true, Bool.true_and, Bool.and_true, Bool.false_and, Bool.and_false, Bool.or_false, Bool.false_or, Bool.or_true, Bool.true_or, Nat.reduceAdd, Nat.reduceSub, Nat.reduceMul, Nat.reduceBEq, Nat.reduceEqDiff, Nat.reduceLeDiff, Nat.sub_zero, true_and, and_true, false_and, and_false, true_or, or_true, false_or, or_false, reduceCtorEq, ↓reduceIte, List.getD_cons_zero, List.getD_cons_succ, List.length_cons, List.length_nil, ct_i, ct_r, ct_l, ct_f, ct_n, false_implies, true_implies, y144, y145, y146, y147, y148, y149, y150, y151, y152, y153, y154, y155, y156, y157, vi, nI_clamp, g7]
        refine ⟨fun c => ?_, fun c => ?_⟩
        · have := (nI_leI (by omega) (by omega)).mp c
          rw [Nat.min_eq_left this] at rest; exact rest
        · have : ¬ q.2 ≤ l := fun x => c (nI_le x (by omega))
          rw [Nat.min_eq_right (by omega)] at rest; exact rest
  refine hZ 400 [6] _ _ _ _ _ _ _ ?_
  simp -implicitDefEqProofs (disch := omega) only [wp_step xX11_cuts_0, wp_step xX11_cuts_1, wp_step xX11_cuts_3, wp_step xX11_cuts_4, ↓e_getf iX11_cuts f11_213, ↓e_getf iX11_cuts f11_55, ↓e_getf iX11_cuts f11_46, ↓e_getf iX11_cuts f11_49, ↓e_getf iX11_cuts f11_52, ↓e_getf iX11_cuts f11_43, iX11_cuts, exec1, ↓p1_e, ↓p2_e, ↓q1_e, ↓q2_e, ↓qi_e, ↓pr_e, ↓pa_e, ↓pa_f, ↓pst_e, ↓qst_e, ↓rst_e, ↓pac_e, ↓pargs_0, ↓pargs_s, ↓gfld_0, ↓gfld_1, ↓gfld_2, ↓gfld_3, ↓pfld_i, ↓pfld_l, ↓pfld_r, ↓sfld_i, ↓sfld_l, ↓sfld_r, brI, pushv, rcv, lget, lset, lset2, isL, rok, szs, List.elem_nil, List.elem_cons, cond_true, cond_false, Option.map_some, beq_self_eq_true, Bool.true_and, Bool.and_true, Bool.false_and, Bool.and_false, Bool.or_false, Bool.false_or, Bool.or_true, Bool.true_or, Nat.reduceAdd, Nat.reduceSub, Nat.reduceMul, Nat.reduceBEq, Nat.reduceEqDiff, Nat.reduceLeDiff, Nat.sub_zero, true_and, and_true, false_and, and_false, true_or, or_true, false_or, or_false, reduceCtorEq, ↓reduceIte, List.getD_cons_zero, List.getD_cons_succ, List.length_cons, List.length_nil, ct_i, ct_r, ct_l, ct_f, ct_n, false_implies, true_implies]
  exact loop 0 (by omega) μ none Fr.rf hA
def pCm2 (a j : Nat) : Prop := pFr a j ∨ pCe a j
set_option maxRecDepth 100000 in
set_option maxHeartbeats 1000000 in
theorem k_mClear {nr nb : Nat} (hd : 3 ≤ d) (hb : (gi μ 144 3) = nI nb) (hn : nb ≤ 40) (hA : ∀ f, f < 12 → gi μ (146 + f) = A f) (hR : Rbs A nr nb) (h : ∀ μ', Fr pCm2 μ μ' → (∀ f, f < 12 → gi μ' (146 + f) = (clF nb 64 A 0).1 f) → Q (some (.int (nI (clF nb 64 A 0).2))) (LAY v) μ' bc bs) : KC G d mX11_clear [.ref 144] (LAY v) μ bc bs Q := by
  refine KC_intro 0 0 kX11_clear (by decide) (by decide) (Nat.zero_le _) (Nat.zero_le _) (Nat.le_of_ble_eq_true rfl) (fun Z hZ => ?_)
  show Z 0 [some (.ref 144), none, none] [] (LAY v) μ 0 0
  have ring : ∀ {μ1 : Mem} {A1 : Nat → Nat → Int32} {K : Option Value → List Sh → Mem → Nat → Nat → Prop} {b c : Nat}, Fr pCm2 μ μ1 → (∀ f, f < 12 → gi μ1 (146 + f) = A1 f) → Rbs A1 nr nb → (∀ μ2, Fr pCm2 μ μ2 → (∀ f, f < 12 → gi μ2 (146 + f) = A1 f) → BsR μ2 (rgB (dbS A1 nb) 8) → K none (LAY v) μ2 b c) → KC G (d - 1) mX11_findsRing [.ref 144] (LAY v) μ1 b c K := fun {μ1 A1 K b c} hF hA1 hR1 hK => by
    have f13 : gi μ1 144 3 = nI nb := (hF.1 _ _ (by unfold pCm2 pFr pCe; omega)).trans hb
    have hR1' : ∀ i, i < nb → RibOK (fun f => gi μ1 (146 + f)) nr i := fun i hi => (hR1.1 i hi).cong (fun f hf => congrFun (hA1 f hf) i)
    have eS : dbS (fun f => gi μ1 (146 + f)) nb = dbS A1 nb := funext fun a => funext fun b => dbS_cong (fun f _ hf i _ => congrFun (hA1 f hf) i)
    refine k_mFindsRing (by omega) f13 hn hR1' (fun μ2 hF2 hB => ?_)
    rw [eS] at hB
    exact hK μ2 (hF.trans (hF2.mono (fun a j z => Or.inl z))) (fun f hf => (funext fun j => hF2.1 _ _ (by unfold pFr; omega)).trans (hA1 f hf)) hB
  have loop : ∀ K A1 t μ1 w2, pNd (dbS A1 nb) ≤ K → Fr pCm2 μ μ1 → (∀ f, f < 12 → gi μ1 (146 + f) = A1 f) → Rbs A1 nr nb → BsR μ1 (rgB (dbS A1 nb) 8) → clF nb K A1 t = clF nb 64 A 0 → Z 6 [some (.ref 144), some (.int (nI t)), w2] [] (LAY v) μ1 0 0 := by
    intro K
    have out : ∀ (A1 : Nat → Nat → Int32) (t : Nat) μ1 w2 B, gi μ1 144 64 = nI B → B = 0 → (A1, t) = clF nb 64 A 0 → Fr pCm2 μ μ1 → (∀ f, f < 12 → gi μ1 (146 + f) = A1 f) → Z 6 [some (.ref 144), some (.int (nI t)), w2] [] (LAY v) μ1 0 0 := fun A1 t μ1 w2 B eB e0 e hF hA1 => by
      rw [← e] at h
      refine hZ 400 [] _ _ _ _ _ _ _ ?_
      simp -implicitDefEqProofs (disch := omega) only [wp_step xX11_clear_6, wp_step xX11_clear_7, wp_step xX11_clear_10, ↓e_virt iX11_clear l11_485 iX11_findsRing, ↓e_getf iX11_clear f11_476, ↓e_getf iX11_clear f11_473, ↓e_getf iX11_clear f11_158, ↓e_virt iX11_clear l11_488 iX11_cuts, iX11_clear, wp_step xX11_clear_75, wp_step xX11_clear_76, ↓e_virt iX11_clear l11_485 iX11_findsRing, ↓e_getf iX11_clear f11_476, ↓e_getf iX11_clear f11_473, ↓e_getf iX11_clear f11_158, ↓e_virt iX11_clear l11_488 iX11_cuts, iX11_clear, exec1, ↓p1_e, ↓p2_e, ↓q1_e, ↓q2_e, ↓qi_e, ↓pr_e, ↓pa_e, ↓pa_f, ↓pst_e, ↓qst_e, ↓rst_e, ↓pac_e, ↓pargs_0, ↓pargs_s, ↓gfld_0, ↓gfld_1, ↓gfld_2, ↓gfld_3, ↓pfld_i, ↓pfld_l, ↓pfld_r, ↓sfld_i, ↓sfld_l, ↓sfld_r, brI, pushv, rcv, lget, lset, lset2, isL, rok, szs, List.elem_nil, List.elem_cons, cond_true, cond_false, Option.map_some, beq_self_eq_true, Bool.true_and, Bool.and_true, Bool.false_and, Bool.and_false, Bool.or_false, Bool.false_or, Bool.or_true, Bool.true_or, Nat.reduceAdd, Nat.reduceSub, Nat.reduceMul, Nat.reduceBEq, Nat.reduceEqDiff, Nat.reduceLeDiff, Nat.sub_zero, true_and, and_true, false_and, and_false, true_or, or_true, false_or, or_false, reduceCtorEq, ↓reduceIte, List.getD_cons_zero, List.getD_cons_succ, List.length_cons, List.length_nil, ct_i, ct_r, ct_l, ct_f, ct_n, false_implies, true_implies, y144, eB, e0, show (nI 0 ≤ 0) = True from eq_true (by decide), not_false_eq_true, true_implies, false_implies, and_true, true_and, not_true_eq_false]
      exact h μ1 hF hA1
    induction K with
    | zero =>
      intro A1 t μ1 w2 hK hF hA1 hR1 hB e
      have z := pN_ring hn hR1 (by omega)
      rw [clF_no z] at e
      exact out A1 t μ1 w2 _ hB.2.1 z e hF hA1
    | succ K ih =>
      intro A1 t μ1 w2 hK hF hA1 hR1 hB e
      have hS := dbS_ok hn hR1.1
      have rg := rgB_rg hS (s := 8) (Nat.le_refl _)
      have ok := rgB_ok hS (s := 8)
      by_cases c : 0 < (rgB (dbS A1 nb) 8).2.1
      · have dec := rcA_pN hn hR1 rg c
        rw [clF, if_pos c] at e
        generalize hBB : rgB (dbS A1 nb) 8 = B at *
        obtain ⟨b1, b2, b3⟩ := id hB
        obtain ⟨o1, o2⟩ := id ok
        rcases rg with ⟨zz, -⟩ | ⟨⟨p2, p8⟩, p3, -⟩
        · omega
        · generalize hm : B.2.1 = m at *
          generalize hc : B.1 = cc at *
          generalize hP : B.2.2 = P at *
          have ec : cc / m ≤ cc := Nat.div_le_self _ _
          have cut : ∀ k, k ≤ m → (∀ μ2, Fr pCm2 μ μ2 → gi μ2 144 64 = nI m → gi μ2 144 65 = nI cc → (∀ k, k < m → gi μ2 191 k = nI (P k)) → (∀ f, f < 12 → gi μ2 (146 + f) = rcA nb m (cc / m) P A1 k f) → Z 22 [some (.ref 144), some (.int (nI (t + cc))), some (.int (nI k))] [] (LAY v) μ2 0 0) := by
            refine loopN m (fun μ2 hF2 a1 a2 a3 hA2 => ?_) (fun k hk ih2 μ2 hF2 a1 a2 a3 hA2 => ?_)
            · refine hZ 400 [72] _ _ _ _ _ _ _ ?_
              simp -implicitDefEqProofs (disch := omega) only [wp_step xX11_clear_22, wp_step xX11_clear_23, wp_step xX11_clear_24, wp_step xX11_clear_27, ↓e_virt iX11_clear l11_485 iX11_findsRing, ↓e_getf iX11_clear f11_476, ↓e_getf iX11_clear f11_473, ↓e_getf iX11_clear f11_158, ↓e_virt iX11_clear l11_488 iX11_cuts, iX11_clear, wp_step xX11_clear_68, wp_step xX11_clear_69, ↓e_virt iX11_clear l11_485 iX11_findsRing, ↓e_getf iX11_clear f11_476, ↓e_getf iX11_clear f11_473, ↓e_getf iX11_clear f11_158, ↓e_virt iX11_clear l11_488 iX11_cuts, iX11_clear, exec1, ↓p1_e, ↓p2_e, ↓q1_e, ↓q2_e, ↓qi_e, ↓pr_e, ↓pa_e, ↓pa_f, ↓pst_e, ↓qst_e, ↓rst_e, ↓pac_e, ↓pargs_0, ↓pargs_s, ↓gfld_0, ↓gfld_1, ↓gfld_2, ↓gfld_3, ↓pfld_i, ↓pfld_l, ↓pfld_r, ↓sfld_i, ↓sfld_l, ↓sfld_r, brI, pushv, rcv, lget, lset, lset2, isL, rok, szs, List.elem_nil, List.elem_cons, cond_true, cond_false, Option.map_some, beq_self_eq_true, Bool.true_and, Bool.and_true, Bool.false_and, Bool.and_false, Bool.or_false, Bool.false_or, Bool.or_true, Bool.true_or, Nat.reduceAdd, Nat.reduceSub, Nat.reduceMul, Nat.reduceBEq, Nat.reduceEqDiff, Nat.reduceLeDiff, Nat.sub_zero, true_and, and_true, false_and, and_false, true_or, or_true, false_or, or_false, reduceCtorEq, ↓reduceIte, List.getD_cons_zero, List.getD_cons_succ, List.length_cons, List.length_nil, ct_i, ct_r, ct_l, ct_f, ct_n, false_implies, true_implies, y144, a1, nle_t (show m < 2 ^ 31 by omega), not_false_eq_true, true_implies, false_implies, and_true, true_and, not_true_eq_false]
              refine ⟨by omega, ring hF2 hA2 (rcA_rb hR1) (fun μ3 hF3 hA3 hB3 => ?_)⟩
              refine hZ 400 [6] _ _ _ _ _ _ _ ?_
              simp -implicitDefEqProofs (disch := omega) only [wp_step xX11_clear_72, ↓e_virt iX11_clear l11_485 iX11_findsRing, ↓e_getf iX11_clear f11_476, ↓e_getf iX11_clear f11_473, ↓e_getf iX11_clear f11_158, ↓e_virt iX11_clear l11_488 iX11_cuts, iX11_clear, exec1, ↓p1_e, ↓p2_e, ↓q1_e, ↓q2_e, ↓qi_e, ↓pr_e, ↓pa_e, ↓pa_f, ↓pst_e, ↓qst_e, ↓rst_e, ↓pac_e, ↓pargs_0, ↓pargs_s, ↓gfld_0, ↓gfld_1, ↓gfld_2, ↓gfld_3, ↓pfld_i, ↓pfld_l, ↓pfld_r, ↓sfld_i, ↓sfld_l, ↓sfld_r, brI, pushv, rcv, lget, lset, lset2, isL, rok, szs, List.elem_nil, List.elem_cons, cond_true, cond_false, Option.map_some, beq_self_eq_true, Bool.true_and, Bool.and_true, Bool.false_and, Bool.and_false, Bool.or_false, Bool.false_or, Bool.or_true, Bool.true_or, Nat.reduceAdd, Nat.reduceSub, Nat.reduceMul, Nat.reduceBEq, Nat.reduceEqDiff, Nat.reduceLeDiff, Nat.sub_zero, true_and, and_true, false_and, and_false, true_or, or_true, false_or, or_false, reduceCtorEq, ↓reduceIte, List.getD_cons_zero, List.getD_cons_succ, List.length_cons, List.length_nil, ct_i, ct_r, ct_l, ct_f, ct_n, false_implies, true_implies]
              exact ih _ _ μ3 _ (by omega) hF3 hA3 (rcA_rb hR1) hB3 e
            · have hk2 : (k + 1) % m < m := Nat.mod_lt _ (by omega)
              have v1 : vp_in (nI k) 9 := vin (by omega) (by omega)
              have v2 : vp_in (nI ((k + 1) % m)) 9 := vin (by omega) (by omega)
              have rm : nI (k + 1) - nI ((k + 1) / m) * nI m = nI ((k + 1) % m) := by rw [← nI_div (by omega) (by omega), nI_rem (by omega) (by omega)]
              refine hZ 400 [62] _ _ _ _ _ _ _ ?_
              simp -implicitDefEqProofs (disch := omega) only [wp_step xX11_clear_22, wp_step xX11_clear_23, wp_step xX11_clear_24, wp_step xX11_clear_27, wp_step xX11_clear_30, wp_step xX11_clear_31, wp_step xX11_clear_32, wp_step xX11_clear_35, wp_step xX11_clear_36, wp_step xX11_clear_37, wp_step xX11_clear_38, wp_step xX11_clear_41, wp_step xX11_clear_42, wp_step xX11_clear_43, wp_step xX11_clear_44, wp_step xX11_clear_45, wp_step xX11_clear_48, wp_step xX11_clear_49, wp_step xX11_clear_50, wp_step xX11_clear_51, wp_step xX11_clear_54, wp_step xX11_clear_55, wp_step xX11_clear_58, wp_step xX11_clear_59, ↓e_virt iX11_clear l11_485 iX11_findsRing, ↓e_getf iX11_clear f11_476, ↓e_getf iX11_clear f11_473, ↓e_getf iX11_clear f11_158, ↓e_virt iX11_clear l11_488 iX11_cuts, iX11_clear, exec1, ↓p1_e, ↓p2_e, ↓q1_e, ↓q2_e, ↓qi_e, ↓pr_e, ↓pa_e, ↓pa_f, ↓pst_e, ↓qst_e, ↓rst_e, ↓pac_e, ↓pargs_0, ↓pargs_s, ↓gfld_0, ↓gfld_1, ↓gfld_2, ↓gfld_3, ↓pfld_i, ↓pfld_l, ↓pfld_r, ↓sfld_i, ↓sfld_l, ↓sfld_r, brI, pushv, rcv, lget, lset, lset2, isL, rok, szs, List.elem_nil, List.elem_cons, cond_true, cond_false, Option.map_some, beq_self_eq_true, Bool.true_and, Bool.and_true, Bool.false_and, Bool.and_false, Bool.or_false, Bool.false_or, Bool.or_true, Bool.true_or, Nat.reduceAdd, Nat.reduceSub, Nat.reduceMul, Nat.reduceBEq, Nat.reduceEqDiff, Nat.reduceLeDiff, Nat.sub_zero, true_and, and_true, false_and, and_false, true_or, or_true, false_or, or_false, reduceCtorEq, ↓reduceIte, List.getD_cons_zero, List.getD_cons_succ, List.length_cons, List.length_nil, ct_i, ct_r, ct_l, ct_f, ct_n, false_implies, true_implies, y144, y191, a1, a2, nle_f hk (show m < 2 ^ 31 by omega), nI_1, rm, nI_div, show (nI m = 0) = False from eq_false (nI_ne0 (by omega) (by omega)), v1, v2, nI_clamp, a3 k hk, a3 _ hk2, not_false_eq_true, true_implies, false_implies, and_true, true_and, not_true_eq_false]
              refine ⟨by omega, k_mCuts ((hF2.1 _ _ (by unfold pCm2 pFr pCe; omega)).trans hb) hn hA2 (rcA_rb hR1) (by omega) (fun μ3 hF3 hA3 => ?_)⟩
              refine hZ 400 [22] _ _ _ _ _ _ _ ?_
              simp -implicitDefEqProofs (disch := omega) only [wp_step xX11_clear_62, wp_step xX11_clear_65, ↓e_virt iX11_clear l11_485 iX11_findsRing, ↓e_getf iX11_clear f11_476, ↓e_getf iX11_clear f11_473, ↓e_getf iX11_clear f11_158, ↓e_virt iX11_clear l11_488 iX11_cuts, iX11_clear, exec1, ↓p1_e, ↓p2_e, ↓q1_e, ↓q2_e, ↓qi_e, ↓pr_e, ↓pa_e, ↓pa_f, ↓pst_e, ↓qst_e, ↓rst_e, ↓pac_e, ↓pargs_0, ↓pargs_s, ↓gfld_0, ↓gfld_1, ↓gfld_2, ↓gfld_3, ↓pfld_i, ↓pfld_l, ↓pfld_r, ↓sfld_i, ↓sfld_l, ↓sfld_r, brI, pushv, rcv, lget, lset, lset2, isL, rok, szs, List.elem_nil, List.elem_cons, cond_true, cond_false, Option.map_some, beq_self_eq_true, Bool.true_and, Bool.and_true, Bool.false_and, Bool.and_false, Bool.or_false, Bool.false_or, Bool.or_true, Bool.true_or, Nat.reduceAdd, Nat.reduceSub, Nat.reduceMul, Nat.reduceBEq, Nat.reduceEqDiff, Nat.reduceLeDiff, Nat.sub_zero, true_and, and_true, false_and, and_false, true_or, or_true, false_or, or_false, reduceCtorEq, ↓reduceIte, List.getD_cons_zero, List.getD_cons_succ, List.length_cons, List.length_nil, ct_i, ct_r, ct_l, ct_f, ct_n, false_implies, true_implies, nI_1]
              exact ih2 μ3 (hF2.trans (hF3.mono (fun a j z => Or.inr z))) ((hF3.1 _ _ (by unfold pCe; omega)).trans a1) ((hF3.1 _ _ (by unfold pCe; omega)).trans a2) (fun k hk => (hF3.1 _ _ (by unfold pCe; omega)).trans (a3 k hk)) hA3
          refine hZ 400 [22] _ _ _ _ _ _ _ ?_
          simp -implicitDefEqProofs (disch := omega) only [wp_step xX11_clear_6, wp_step xX11_clear_7, wp_step xX11_clear_10, wp_step xX11_clear_13, wp_step xX11_clear_14, wp_step xX11_clear_15, wp_step xX11_clear_18, wp_step xX11_clear_19, wp_step xX11_clear_20, wp_step xX11_clear_21, ↓e_virt iX11_clear l11_485 iX11_findsRing, ↓e_getf iX11_clear f11_476, ↓e_getf iX11_clear f11_473, ↓e_getf iX11_clear f11_158, ↓e_virt iX11_clear l11_488 iX11_cuts, iX11_clear, exec1, ↓p1_e, ↓p2_e, ↓q1_e, ↓q2_e, ↓qi_e, ↓pr_e, ↓pa_e, ↓pa_f, ↓pst_e, ↓qst_e, ↓rst_e, ↓pac_e, ↓pargs_0, ↓pargs_s, ↓gfld_0, ↓gfld_1, ↓gfld_2, ↓gfld_3, ↓pfld_i, ↓pfld_l, ↓pfld_r, ↓sfld_i, ↓sfld_l, ↓sfld_r, brI, pushv, rcv, lget, lset, lset2, isL, rok, szs, List.elem_nil, List.elem_cons, cond_true, cond_false, Option.map_some, beq_self_eq_true, Bool.true_and, Bool.and_true, Bool.false_and, Bool.and_false, Bool.or_false, Bool.false_or, Bool.or_true, Bool.true_or, Nat.reduceAdd, Nat.reduceSub, Nat.reduceMul, Nat.reduceBEq, Nat.reduceEqDiff, Nat.reduceLeDiff, Nat.sub_zero, true_and, and_true, false_and, and_false, true_or, or_true, false_or, or_false, reduceCtorEq, ↓reduceIte, List.getD_cons_zero, List.getD_cons_succ, List.length_cons, List.length_nil, ct_i, ct_r, ct_l, ct_f, ct_n, false_implies, true_implies, y144, b1, b2, show (nI m ≤ 0) = False from eq_false (nI_nle (by omega) (by omega)), nI_add, not_false_eq_true, true_implies, false_implies, and_true, true_and, not_true_eq_false]
          exact cut 0 (by omega) μ1 hF b2 b1 b3 hA1
      · rw [clF, if_neg c] at e
        exact out A1 t μ1 w2 _ hB.2.1 (by omega) e hF hA1
  refine hZ 400 [6] _ _ _ _ _ _ _ ?_
  simp -implicitDefEqProofs (disch := omega) only [wp_step xX11_clear_0, wp_step xX11_clear_1, wp_step xX11_clear_2, wp_step xX11_clear_3, ↓e_virt iX11_clear l11_485 iX11_findsRing, ↓e_getf iX11_clear f11_476, ↓e_getf iX11_clear f11_473, ↓e_getf iX11_clear f11_158, ↓e_virt iX11_clear l11_488 iX11_cuts, iX11_clear, exec1, ↓p1_e, ↓p2_e, ↓q1_e, ↓q2_e, ↓qi_e, ↓pr_e, ↓pa_e, ↓pa_f, ↓pst_e, ↓qst_e, ↓rst_e, ↓pac_e, ↓pargs_0, ↓pargs_s, ↓gfld_0, ↓gfld_1, ↓gfld_2, ↓gfld_3, ↓pfld_i, ↓pfld_l, ↓pfld_r, ↓sfld_i, ↓sfld_l, ↓sfld_r, brI, pushv, rcv, lget, lset, lset2, isL, rok, szs, List.elem_nil, List.elem_cons, cond_true, cond_false, Option.map_some, beq_self_eq_true, Bool.true_and, Bool.and_true, Bool.false_and, Bool.and_false, Bool.or_false, Bool.false_or, Bool.or_true, Bool.true_or, Nat.reduceAdd, Nat.reduceSub, Nat.reduceMul, Nat.reduceBEq, Nat.reduceEqDiff, Nat.reduceLeDiff, Nat.sub_zero, true_and, and_true, false_and, and_false, true_or, or_true, false_or, or_false, reduceCtorEq, ↓reduceIte, List.getD_cons_zero, List.getD_cons_succ, List.length_cons, List.length_nil, ct_i, ct_r, ct_l, ct_f, ct_n, false_implies, true_implies, y144]
  refine ⟨by omega, ring Fr.rf hA hR (fun μ1 hF hA1 hB => ?_)⟩
  exact loop 64 A 0 μ1 none pN_64 hF hA1 hR hB rfl
theorem LedOK.rbs {A B : Nat → Nat → Int32} {nr nb : Nat} (h : LedOK A B nr nb) : Rbs A nr nb := ⟨h.2.2.1, trivial⟩
theorem clF_led {A B : Nat → Nat → Int32} {nr nb : Nat} (h : LedOK A B nr nb) : LedOK (clF nb 64 A 0).1 (clF nb 64 B 0).1 nr nb ∧ (clF nb 64 A 0).2 = (clF nb 64 B 0).2 := by
  obtain ⟨q1, q2, q3, q4, q5⟩ := id h
  have eb : Ebk A B nb := fun f h5 h12 i hi => q5.2 f h5 h12 i hi
  obtain ⟨e1, e2⟩ := Ebk.cl (k := 64) (t := 0) eb
  have rb := clF_rb (k := 64) (t := 0) h.rbs
  have hb := clF_hb (nb := nb) (k := 64) (t := 0) (A := A) q4.2
  have ff : ∀ {A : Nat → Nat → Int32} {f j : Nat}, f < 5 → (clF nb 64 A 0).1 f j = A f j := fun hf => clF_f (by omega) (by omega)
  refine ⟨⟨q1, fun j hj => (q2 j hj).cong' (fun f hf => ff hf), rb.1, ⟨fun j hj => ?_, hb⟩, fun f hf j hj => ?_, e1⟩, e2⟩
  · rw [ff (by omega), ff (by omega)]; exact q4.1 j hj
  · rw [ff hf, ff hf]; exact q5.1 f hf j hj
/-- only the ledgers' rows have changed -/
theorem Inv.led {P : Nat → Nat → Prop} {μ μ' : Mem} (hI : Inv LRel μ) (h : Fi P μ μ') (hP : ∀ a j, P a j → Lo a j ∨ (4 ≤ a ∧ a ≤ 15) ∨ (146 ≤ a ∧ a ≤ 157)) (hL : LedI μ') : Inv LRel μ' := by
  obtain ⟨i1, i2, i3, i4, i5⟩ := hI
  have c : ∀ a j, ¬ (Lo a j ∨ (4 ≤ a ∧ a ≤ 15) ∨ (146 ≤ a ∧ a ≤ 157)) → gi μ' a j = gi μ a j := fun a j z => h a j (fun w => z (hP a j w))
  refine ⟨hL, i2.cong ?_ ?_ ?_ ?_, i3.cong ?_ ?_ ?_ ?_, i4.cong ?_ ?_ ?_ ?_ ?_, LRel_eq _ _ ⟨?_, ?_, ?_, ?_, ?_⟩ i5⟩
  all_goals intros
  all_goals exact c _ _ (by unfold Lo; omega)
theorem both_clear (hd : 14 ≤ d) (hI : Inv LRel μ) : Both G d LRel mX10_clear mX11_clear [] v μ bc bs := by
  obtain ⟨i1, i2, i3, i4, i5⟩ := id hI
  obtain ⟨nr, nb, q1, q2, q3, q4, q5⟩ := id i1
  obtain ⟨⟨n1, n2, n3⟩, q6, q7, q8, s⟩ := id q5
  obtain ⟨cl1, cl2⟩ := clF_led q5
  have hB : Rbs (fun f => gi μ (146 + f)) nr nb := ⟨(WFd.of2 q5).2.2, trivial⟩
  refine k_clear (by omega) q3 n3 (fun f hf => rfl) q5.rbs (fun μ1 hF hA1 => ?_)
  have g4 : gi μ1 144 3 = nI nb := (hF.1 _ _ (by unfold pCl pFb pCd; omega)).trans q4
  refine k_mClear (by omega) g4 n3 (A := fun f => gi μ (146 + f)) (fun f hf => funext fun j => hF.1 _ _ (by unfold pCl pFb pCd; omega)) hB (fun μ2 hF2 hA2 => ⟨?_, v, rfl, ?_, rfl, rfl⟩)
  · rw [cl2]
  · have c : ∀ a j, ¬ pCl a j → ¬ pCm2 a j → gi μ2 a j = gi μ a j := fun a j x y => (hF2.1 a j y).trans (hF.1 a j x)
    refine hI.led (P := fun a j => pCl a j ∨ pCm2 a j) (fun a j z => c a j (fun y => z (Or.inl y)) (fun y => z (Or.inr y))) (fun a j z => ?_) ⟨nr, nb, ?_, ?_, ?_, ?_, cl1.cong (fun f hf j => ?_) (fun f hf j => ?_)⟩
    · unfold pCl pFb pCd pCm2 pFr pCe at z; unfold Lo; omega
    · exact (c _ _ (by unfold pCl pFb pCd; omega) (by unfold pCm2 pFr pCe; omega)).trans q1
    · exact (c _ _ (by unfold pCl pFb pCd; omega) (by unfold pCm2 pFr pCe; omega)).trans q2
    · exact (c _ _ (by unfold pCl pFb pCd; omega) (by unfold pCm2 pFr pCe; omega)).trans q3
    · exact (c _ _ (by unfold pCl pFb pCd; omega) (by unfold pCm2 pFr pCe; omega)).trans q4
    · exact (hF2.1 _ _ (by unfold pCm2 pFr pCe; omega)).trans (congrFun (hA1 f hf) j)
    · exact congrFun (hA2 f hf) j
end MCL
