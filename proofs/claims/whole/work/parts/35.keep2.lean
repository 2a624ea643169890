section KE2
variable {G : Gx} {d v : Nat} {μ : Mem} {bc bs : Nat} {Q : Option Value → List Sh → Mem → Nat → Nat → Prop} {LR : Mem → Prop}
set_option maxRecDepth 100000 in
set_option maxHeartbeats 1000000 in
theorem k_keep {nb : Nat} (hd : 2 ≤ d) (hb : (gi μ 3 13) = nI nb) (hn : nb ≤ 40) (hB : BoolOK (fun f => gi μ (4 + f))) (h : ∀ μ', Copied 3 16 μ μ' → Q (some (.int (sm (fun i => if (gi μ 15 (i)) = 0 then 0 else 1) nb))) (LAY v) (si μ' 0 11 1) bc bs) : KC G d mX10_keep [.ref 0] (LAY v) μ bc bs Q := by
  refine KC_intro 0 0 kX10_keep (by decide) (by decide) (Nat.zero_le _) (Nat.zero_le _) (Nat.le_of_ble_eq_true rfl) (fun Z hZ => ?_)
  show Z 0 [some (.ref 0)] [] (LAY v) μ 0 0
  refine hZ 400 [11, 23] _ _ _ _ _ _ _ ?_
  simp -implicitDefEqProofs only [wp_step xX10_keep_0, wp_step xX10_keep_1, wp_step xX10_keep_4, wp_step xX10_keep_5, wp_step xX10_keep_8, wp_step xX10_keep_11, wp_step xX10_keep_12, wp_step xX10_keep_13, wp_step xX10_keep_16, wp_step xX10_keep_17, wp_step xX10_keep_20, wp_step xX10_keep_23, ↓e_getf iX10_keep f10_23, ↓e_getf iX10_keep f10_19, ↓e_virt iX10_keep l10_342 iX3_copyFrom, ↓e_putf iX10_keep f10_344, ↓e_virt iX10_keep l10_348 iX3_hanging, iX10_keep, exec1, ↓p1_e, ↓p2_e, ↓q1_e, ↓q2_e, ↓qi_e, ↓pr_e, ↓pa_e, ↓pa_f, ↓pst_e, ↓qst_e, ↓rst_e, ↓pac_e, ↓pargs_0, ↓pargs_s, ↓gfld_0, ↓gfld_1, ↓gfld_2, ↓gfld_3, ↓pfld_i, ↓pfld_l, ↓pfld_r, ↓sfld_i, ↓sfld_l, ↓sfld_r, brI, pushv, rcv, lget, lset, lset2, isL, rok, szs, List.elem_nil, List.elem_cons, cond_true, cond_false, Option.map_some, beq_self_eq_true, Bool.true_and, Bool.and_true, Bool.false_and, Bool.and_false, Bool.or_false, Bool.false_or, Bool.or_true, Bool.true_or, Nat.reduceAdd, Nat.reduceSub, Nat.reduceMul, Nat.reduceBEq, Nat.reduceEqDiff, Nat.reduceLeDiff, Nat.sub_zero, true_and, and_true, false_and, and_false, true_or, or_true, false_or, or_false, reduceCtorEq, ↓reduceIte, List.getD_cons_zero, List.getD_cons_succ, List.length_cons, List.length_nil, ct_i, ct_r, ct_l, ct_f, ct_n, false_implies, true_implies, y0, y1, y2, y3, y4, y5, y6, y7, y8, y9, y10, y11, y12, y13, y14, y15, y16]
  refine ⟨by omega, k_copyLK (by omega) hB (fun μ' hC => ?_)⟩
  refine hZ 400 [11, 23] _ _ _ _ _ _ _ ?_
  simp -implicitDefEqProofs only [wp_step xX10_keep_0, wp_step xX10_keep_1, wp_step xX10_keep_4, wp_step xX10_keep_5, wp_step xX10_keep_8, wp_step xX10_keep_11, wp_step xX10_keep_12, wp_step xX10_keep_13, wp_step xX10_keep_16, wp_step xX10_keep_17, wp_step xX10_keep_20, wp_step xX10_keep_23, ↓e_getf iX10_keep f10_23, ↓e_getf iX10_keep f10_19, ↓e_virt iX10_keep l10_342 iX3_copyFrom, ↓e_putf iX10_keep f10_344, ↓e_virt iX10_keep l10_348 iX3_hanging, iX10_keep, exec1, ↓p1_e, ↓p2_e, ↓q1_e, ↓q2_e, ↓qi_e, ↓pr_e, ↓pa_e, ↓pa_f, ↓pst_e, ↓qst_e, ↓rst_e, ↓pac_e, ↓pargs_0, ↓pargs_s, ↓gfld_0, ↓gfld_1, ↓gfld_2, ↓gfld_3, ↓pfld_i, ↓pfld_l, ↓pfld_r, ↓sfld_i, ↓sfld_l, ↓sfld_r, brI, pushv, rcv, lget, lset, lset2, isL, rok, szs, List.elem_nil, List.elem_cons, cond_true, cond_false, Option.map_some, beq_self_eq_true, Bool.true_and, Bool.and_true, Bool.false_and, Bool.and_false, Bool.or_false, Bool.false_or, Bool.or_true, Bool.true_or, Nat.reduceAdd, Nat.reduceSub, Nat.reduceMul, Nat.reduceBEq, Nat.reduceEqDiff, Nat.reduceLeDiff, Nat.sub_zero, true_and, and_true, false_and, and_false, true_or, or_true, false_or, or_false, reduceCtorEq, ↓reduceIte, List.getD_cons_zero, List.getD_cons_succ, List.length_cons, List.length_nil, ct_i, ct_r, ct_l, ct_f, ct_n, false_implies, true_implies, y0, y1, y2, y3, y4, y5, y6, y7, y8, y9, y10, y11, y12, y13, y14, y15, y16]
  refine ⟨by omega, k_hanging (nb := nb) (by rw [gi_si_a (by omega), hC.1 3 (by omega)]; exact hb) hn ?_⟩
  refine hZ 400 [11, 23] _ _ _ _ _ _ _ ?_
  simp -implicitDefEqProofs only [wp_step xX10_keep_0, wp_step xX10_keep_1, wp_step xX10_keep_4, wp_step xX10_keep_5, wp_step xX10_keep_8, wp_step xX10_keep_11, wp_step xX10_keep_12, wp_step xX10_keep_13, wp_step xX10_keep_16, wp_step xX10_keep_17, wp_step xX10_keep_20, wp_step xX10_keep_23, ↓e_getf iX10_keep f10_23, ↓e_getf iX10_keep f10_19, ↓e_virt iX10_keep l10_342 iX3_copyFrom, ↓e_putf iX10_keep f10_344, ↓e_virt iX10_keep l10_348 iX3_hanging, iX10_keep, exec1, ↓p1_e, ↓p2_e, ↓q1_e, ↓q2_e, ↓qi_e, ↓pr_e, ↓pa_e, ↓pa_f, ↓pst_e, ↓qst_e, ↓rst_e, ↓pac_e, ↓pargs_0, ↓pargs_s, ↓gfld_0, ↓gfld_1, ↓gfld_2, ↓gfld_3, ↓pfld_i, ↓pfld_l, ↓pfld_r, ↓sfld_i, ↓sfld_l, ↓sfld_r, brI, pushv, rcv, lget, lset, lset2, isL, rok, szs, List.elem_nil, List.elem_cons, cond_true, cond_false, Option.map_some, beq_self_eq_true, Bool.true_and, Bool.and_true, Bool.false_and, Bool.and_false, Bool.or_false, Bool.false_or, Bool.or_true, Bool.true_or, Nat.reduceAdd, Nat.reduceSub, Nat.reduceMul, Nat.reduceBEq, Nat.reduceEqDiff, Nat.reduceLeDiff, Nat.sub_zero, true_and, and_true, false_and, and_false, true_or, or_true, false_or, or_false, reduceCtorEq, ↓reduceIte, List.getD_cons_zero, List.getD_cons_succ, List.length_cons, List.length_nil, ct_i, ct_r, ct_l, ct_f, ct_n, false_implies, true_implies, y0, y1, y2, y3, y4, y5, y6, y7, y8, y9, y10, y11, y12, y13, y14, y15, y16]
  have e : (fun i => if gi (si μ' 0 11 1) 15 i = 0 then (0 : Int32) else 1) = (fun i => if gi μ 15 i = 0 then 0 else 1) := by
    funext i; rw [gi_si_a (by omega), hC.1 15 (by omega)]
  rw [e]
  exact h μ' hC
set_option maxRecDepth 100000 in
set_option maxHeartbeats 1000000 in
theorem k_undo (hd : 2 ≤ d) (hB : ¬ (gi μ 0 11) = 0 → BoolOK (fun f => gi μ (17 + f))) (h1 : ¬ (gi μ 0 11) = 0 → ∀ μ', Copied 16 3 μ μ' → Q (some (.int 1)) (LAY v) μ' bc bs) (h0 : (gi μ 0 11) = 0 → Q (some (.int 0)) (LAY v) μ bc bs) : KC G d mX10_undo [.ref 0] (LAY v) μ bc bs Q := by
  refine KC_intro 0 0 kX10_undo (by decide) (by decide) (Nat.zero_le _) (Nat.zero_le _) (Nat.le_of_ble_eq_true rfl) (fun Z hZ => ?_)
  show Z 0 [some (.ref 0)] [] (LAY v) μ 0 0
  refine hZ 400 [20] _ _ _ _ _ _ _ ?_
  simp -implicitDefEqProofs only [wp_step xX10_undo_0, wp_step xX10_undo_1, wp_step xX10_undo_4, wp_step xX10_undo_7, wp_step xX10_undo_8, wp_step xX10_undo_9, wp_step xX10_undo_10, wp_step xX10_undo_13, wp_step xX10_undo_14, wp_step xX10_undo_17, wp_step xX10_undo_20, wp_step xX10_undo_21, ↓e_getf iX10_undo f10_344, ↓e_getf iX10_undo f10_19, ↓e_getf iX10_undo f10_23, ↓e_virt iX10_undo l10_342 iX3_copyFrom, iX10_undo, exec1, ↓p1_e, ↓p2_e, ↓q1_e, ↓q2_e, ↓qi_e, ↓pr_e, ↓pa_e, ↓pa_f, ↓pst_e, ↓qst_e, ↓rst_e, ↓pac_e, ↓pargs_0, ↓pargs_s, ↓gfld_0, ↓gfld_1, ↓gfld_2, ↓gfld_3, ↓pfld_i, ↓pfld_l, ↓pfld_r, ↓sfld_i, ↓sfld_l, ↓sfld_r, brI, pushv, rcv, lget, lset, lset2, isL, rok, szs, List.elem_nil, List.elem_cons, cond_true, cond_false, Option.map_some, beq_self_eq_true, Bool.true_and, Bool.and_true, Bool.false_and, Bool.and_false, Bool.or_false, Bool.false_or, Bool.or_true, Bool.true_or, Nat.reduceAdd, Nat.reduceSub, Nat.reduceMul, Nat.reduceBEq, Nat.reduceEqDiff, Nat.reduceLeDiff, Nat.sub_zero, true_and, and_true, false_and, and_false, true_or, or_true, false_or, or_false, reduceCtorEq, ↓reduceIte, List.getD_cons_zero, List.getD_cons_succ, List.length_cons, List.length_nil, ct_i, ct_r, ct_l, ct_f, ct_n, false_implies, true_implies, y0, y1, y2, y3, y4, y5, y6, y7, y8, y9, y10, y11, y12, y13, y14, y15, y16]
  refine ⟨fun c => ⟨by omega, k_copyKL (by omega) (hB c) (fun μ' hC => ?_)⟩, h0⟩
  refine hZ 400 [20] _ _ _ _ _ _ _ ?_
  simp -implicitDefEqProofs only [wp_step xX10_undo_0, wp_step xX10_undo_1, wp_step xX10_undo_4, wp_step xX10_undo_7, wp_step xX10_undo_8, wp_step xX10_undo_9, wp_step xX10_undo_10, wp_step xX10_undo_13, wp_step xX10_undo_14, wp_step xX10_undo_17, wp_step xX10_undo_20, wp_step xX10_undo_21, ↓e_getf iX10_undo f10_344, ↓e_getf iX10_undo f10_19, ↓e_getf iX10_undo f10_23, ↓e_virt iX10_undo l10_342 iX3_copyFrom, iX10_undo, exec1, ↓p1_e, ↓p2_e, ↓q1_e, ↓q2_e, ↓qi_e, ↓pr_e, ↓pa_e, ↓pa_f, ↓pst_e, ↓qst_e, ↓rst_e, ↓pac_e, ↓pargs_0, ↓pargs_s, ↓gfld_0, ↓gfld_1, ↓gfld_2, ↓gfld_3, ↓pfld_i, ↓pfld_l, ↓pfld_r, ↓sfld_i, ↓sfld_l, ↓sfld_r, brI, pushv, rcv, lget, lset, lset2, isL, rok, szs, List.elem_nil, List.elem_cons, cond_true, cond_false, Option.map_some, beq_self_eq_true, Bool.true_and, Bool.and_true, Bool.false_and, Bool.and_false, Bool.or_false, Bool.false_or, Bool.or_true, Bool.true_or, Nat.reduceAdd, Nat.reduceSub, Nat.reduceMul, Nat.reduceBEq, Nat.reduceEqDiff, Nat.reduceLeDiff, Nat.sub_zero, true_and, and_true, false_and, and_false, true_or, or_true, false_or, or_false, reduceCtorEq, ↓reduceIte, List.getD_cons_zero, List.getD_cons_succ, List.length_cons, List.length_nil, ct_i, ct_r, ct_l, ct_f, ct_n, false_implies, true_implies, y0, y1, y2, y3, y4, y5, y6, y7, y8, y9, y10, y11, y12, y13, y14, y15, y16]
  exact h1 c μ' hC
theorem nb_i {f : Nat} {x : Int32} (h : (f = 3 ∨ f = 4 ∨ f = 11) → x = 0 ∨ x = 1) : nb f x = x := by
  unfold nb
  by_cases q : f = 3 ∨ f = 4 ∨ f = 11
  · rw [if_pos q, nar01 (h q)]
  · rw [if_neg q]
/-- a ledger's rows, copied on both sides -/
theorem LedOK.copy {A B A' B' : Nat → Nat → Int32} {nr nb' : Nat} (q : LedOK A B nr nb') (ha : ∀ f, f < 5 → ∀ j, j < 10 → A' f j = A f j) (ha2 : ∀ f, 5 ≤ f → f < 12 → ∀ j, j < 40 → A' f j = A f j) (hb : ∀ f, f < 5 → ∀ j, j < 10 → B' f j = nb f (B f j)) (hb2 : ∀ f, 5 ≤ f → f < 12 → ∀ j, j < 40 → B' f j = nb f (B f j)) : LedOK A' B' nr nb' := by
  obtain ⟨⟨n1, n2, n3⟩, q2, q3, q4, q5, q6⟩ := q
  refine ⟨⟨n1, n2, n3⟩, fun j hj => (q2 j hj).cong' (fun f hf => ha f hf j (by omega)), fun i hi => (q3 i hi).cong' (fun f h5 hf => ha2 f h5 hf i (by omega)), ⟨fun j hj => ?_, fun i hi => ?_⟩, fun f hf j hj => ?_, fun f h5 hf i hi => ?_⟩
  · rw [ha 3 (by omega) j hj, ha 4 (by omega) j hj]; exact q4.1 j hj
  · rw [ha2 11 (by omega) (by omega) i hi]; exact q4.2 i hi
  · rw [ha f hf j (by omega), hb f hf j (by omega), nb_i, q5 f hf j hj]
    intro c
    rw [← q5 f hf j hj]
    rcases c with rfl | rfl | rfl
    · exact (q4.1 j (by omega)).1
    · exact (q4.1 j (by omega)).2
    · omega
  · rw [ha2 f h5 hf i (by omega), hb2 f h5 hf i (by omega), nb_i, q6 f h5 hf i hi]
    intro c
    rw [← q6 f h5 hf i hi]
    rcases c with rfl | rfl | rfl
    · omega
    · omega
    · exact q4.2 i (by omega)
theorem both_keep (hLR : ∀ μ μ', LawEq μ μ' → LR μ → LR μ') (hd : 3 ≤ d) (hI : Inv LR μ) : Both G d LR mX10_keep mX11_keep [] v μ bc bs := by
  obtain ⟨i1, i2, i3, i4, i5⟩ := id hI
  obtain ⟨nr, nb', q1, q2, q3, q4, q5⟩ := id i1
  obtain ⟨⟨n1, n2, n3⟩, -⟩ := id q5
  refine k_keep (by omega) q3 n3 q5.2.2.2.1 (fun μ1 hC => k_mKeep (nb' := nb') (by omega) (by rw [gi_si_a (by omega), hC.1 144 (by omega)]; exact q4) n3 (fun μ2 μ3 e2 hK => ⟨?_, v, rfl, ?_, rfl, rfl⟩))
  · refine congrArg (fun z => some (Value.int z)) (sm_cong (fun i hi => ?_))
    rw [gi_si_a (by omega), hC.1 157 (by omega)]
    have h9 := q5.2.2.2.2.2 11 (by omega) (by omega) i hi
    simp only [Nat.reduceAdd] at h9
    rw [h9]
  · have o : ∀ a, a ≠ 144 → ¬ (194 ≤ a ∧ a ≤ 205) → ¬ (16 ≤ a ∧ a ≤ 28) → (a ≠ 0) → ∀ j, gi μ3 a j = gi μ a j := fun a h1 h2 h3 h4 j => by
      rw [hK.1 a h2, e2]
      simp (disch := omega) only [gi_si_a]
      exact hC.1 a (by omega) j
    have o144 : ∀ k, ¬ (68 ≤ k ∧ k ≤ 72) → gi μ3 144 k = gi μ 144 k := fun k hk => by
      rw [hK.1 144 (by omega), e2]
      simp (disch := omega) only [gi_si_k, gi_si_a]
      exact hC.1 144 (by omega) k
    have o16 : ∀ a, 16 ≤ a → a ≤ 28 → ∀ j, gi μ3 a j = gi μ1 a j := fun a h1 h2 j => by
      rw [hK.1 a (by omega), e2]
      simp (disch := omega) only [gi_si_a]
    refine ⟨i1.cong ?_ ?_ ?_ ?_ ?_ ?_, i2.cong ?_ ?_ ?_ ?_, i3.cong ?_ ?_ ?_ ?_, Or.inr ⟨?_, ?_, nr, nb', ?_, ?_, ?_, ?_, q5.copy ?_ ?_ ?_ ?_, ?_⟩, hLR _ _ ⟨?_, ?_, ?_, ?_, ?_⟩ i5⟩
    case refine_15 =>
      rw [hK.1 0 (by omega), e2]
      simp (disch := omega) only [gi_si_a, gi_si]
    case refine_16 =>
      rw [hK.1 144 (by omega), e2]
      simp (disch := omega) only [gi_si_k, gi_si]
    case refine_17 => rw [o16 16 (by omega) (by omega), hC.2.2.2 12 (by omega) (by omega)]; exact q1
    case refine_18 =>
      rw [hK.1 144 (by omega), e2]
      simp (disch := omega) only [gi_si_k, gi_si, gi_si_a]
      rw [hC.1 144 (by omega)]; exact q2
    case refine_19 => rw [o16 16 (by omega) (by omega), hC.2.2.2 13 (by omega) (by omega)]; exact q3
    case refine_20 =>
      rw [hK.1 144 (by omega), e2]
      simp (disch := omega) only [gi_si_k, gi_si, gi_si_a]
      rw [hC.1 144 (by omega)]; exact q4
    case refine_21 => intro f hf j hj; rw [o16 (17 + f) (by omega) (by omega)]; exact hC.2.1 f hf j hj
    case refine_22 => intro f h5 hf j hj; rw [o16 (17 + f) (by omega) (by omega)]; exact hC.2.2.1 f h5 hf j hj
    case refine_23 =>
      intro f hf j hj
      rw [hK.2.1 f hf j hj, e2]
      simp (disch := omega) only [gi_si_a]
      rw [hC.1 (146 + f) (by omega)]
    case refine_24 =>
      intro f h5 hf j hj
      rw [hK.2.2 f h5 hf j hj, e2]
      simp (disch := omega) only [gi_si_a]
      rw [hC.1 (146 + f) (by omega)]
    case refine_25 =>
      rw [o16 16 (by omega) (by omega), o16 16 (by omega) (by omega), hC.2.2.2 14 (by omega) (by omega), hC.2.2.2 15 (by omega) (by omega), hK.1 144 (by omega), hK.1 144 (by omega), e2]
      simp (disch := omega) only [gi_si_k, gi_si, gi_si_a]
      rw [hC.1 144 (by omega), hC.1 144 (by omega)]
      exact i2
    all_goals intros
    all_goals first | exact o _ (by omega) (by omega) (by omega) (by omega) _ | exact o144 _ (by omega)
theorem both_undo (hLR : ∀ μ μ', LawEq μ μ' → LR μ → LR μ') (hd : 3 ≤ d) (hI : Inv LR μ) : Both G d LR mX10_undo mX11_undo [] v μ bc bs := by
  obtain ⟨i1, i2, i3, i4, i5⟩ := id hI
  rcases id i4 with ⟨k1, k2⟩ | ⟨k1, k2, nr, nb', r1, r2, r3, r4, r5, r6⟩
  · exact k_undo (by omega) (fun z => absurd k1 z) (fun z => absurd k1 z) (fun _ => k_mUndo (fun z => absurd k2 z) (fun _ => ⟨rfl, v, rfl, hI, rfl, rfl⟩))
  have z1 : ¬ (1 : Int32) = 0 := by decide
  refine k_undo (by omega) (fun _ => r5.2.2.2.1) (fun _ μ1 hC => k_mUndo (fun _ μ2 μ3 e2 hK => ⟨rfl, v, rfl, ?_, rfl, rfl⟩) (fun z => absurd z (by rw [hC.1 144 (by omega), k2]; exact z1))) (fun z => absurd z (by rw [k1]; exact z1))
  have o : ∀ a, a ≠ 144 → ¬ (146 ≤ a ∧ a ≤ 157) → ¬ (3 ≤ a ∧ a ≤ 15) → ∀ j, gi μ3 a j = gi μ a j := fun a h1 h2 h3 j => by
    rw [hK.1 a h2, e2]
    simp (disch := omega) only [gi_si_a]
    exact hC.1 a (by omega) j
  have o144 : ∀ k, ¬ (2 ≤ k ∧ k ≤ 5) → gi μ3 144 k = gi μ 144 k := fun k hk => by
    rw [hK.1 144 (by omega), e2]
    simp (disch := omega) only [gi_si_k, gi_si_a]
    exact hC.1 144 (by omega) k
  have o16 : ∀ a, 3 ≤ a → a ≤ 15 → ∀ j, gi μ3 a j = gi μ1 a j := fun a h1 h2 j => by
    rw [hK.1 a (by omega), e2]
    simp (disch := omega) only [gi_si_a]
  have kMr : ∀ f, f < 12 → 194 ≤ kM f ∧ kM f ≤ 205 := fun f hf => by
    have e : f = 0 ∨ f = 1 ∨ f = 2 ∨ f = 3 ∨ f = 4 ∨ f = 5 ∨ f = 6 ∨ f = 7 ∨ f = 8 ∨ f = 9 ∨ f = 10 ∨ f = 11 := by omega
    rcases e with rfl | rfl | rfl | rfl | rfl | rfl | rfl | rfl | rfl | rfl | rfl | rfl <;> decide
  refine ⟨⟨nr, nb', ?_, ?_, ?_, ?_, r5.copy ?_ ?_ ?_ ?_⟩, ?_, i3.cong ?_ ?_ ?_ ?_, i4.cong ?_ ?_ ?_ ?_ ?_, hLR _ _ ⟨?_, ?_, ?_, ?_, ?_⟩ i5⟩
  case refine_1 => rw [o16 3 (by omega) (by omega), hC.2.2.2 12 (by omega) (by omega)]; exact r1
  case refine_2 =>
    rw [hK.1 144 (by omega), e2]
    simp (disch := omega) only [gi_si_k, gi_si, gi_si_a]
    rw [hC.1 144 (by omega)]; exact r2
  case refine_3 => rw [o16 3 (by omega) (by omega), hC.2.2.2 13 (by omega) (by omega)]; exact r3
  case refine_4 =>
    rw [hK.1 144 (by omega), e2]
    simp (disch := omega) only [gi_si_k, gi_si, gi_si_a]
    rw [hC.1 144 (by omega)]; exact r4
  case refine_5 => intro f hf j hj; rw [o16 (4 + f) (by omega) (by omega)]; exact hC.2.1 f hf j hj
  case refine_6 => intro f h5 hf j hj; rw [o16 (4 + f) (by omega) (by omega)]; exact hC.2.2.1 f h5 hf j hj
  case refine_7 =>
    intro f hf j hj
    have := kMr f (by omega)
    rw [hK.2.1 f hf j hj, e2]
    simp (disch := omega) only [gi_si_a]
    rw [hC.1 (kM f) (by omega)]
  case refine_8 =>
    intro f h5 hf j hj
    have := kMr f (by omega)
    rw [hK.2.2 f h5 hf j hj, e2]
    simp (disch := omega) only [gi_si_a]
    rw [hC.1 (kM f) (by omega)]
  case refine_9 =>
    unfold NumI
    rw [o16 3 (by omega) (by omega), o16 3 (by omega) (by omega), hC.2.2.2 14 (by omega) (by omega), hC.2.2.2 15 (by omega) (by omega), hK.1 144 (by omega), hK.1 144 (by omega), e2]
    simp (disch := omega) only [gi_si_k, gi_si, gi_si_a]
    rw [hC.1 144 (by omega), hC.1 144 (by omega)]
    exact r6
  all_goals intros
  all_goals first | exact o _ (by omega) (by omega) (by omega) _ | exact o144 _ (by omega)
end KE2
