def tpL (f : Nat → Int32) : Nat → Int64
  | 0 => 0
  | k + 1 => 19 * tpL f k + (f k).toInt64
theorem tpL_cong {f g : Nat → Int32} : ∀ {k : Nat}, (∀ j, j < k → f j = g j) → tpL f k = tpL g k
  | 0, _ => rfl
  | k + 1, h => by rw [tpL, tpL, tpL_cong (fun j hj => h j (by omega)), h k (by omega)]
theorem t9 : ∀ b, b < 256 → (nI b - 9).toInt64 + 9 = (nI b).toInt64 := by decide +kernel
theorem tp_pic {A : Nat → Nat → Int32} {f : Nat → Int32} : ∀ {r : Nat}, (∀ k, k < plc A r → ∃ b, b < 256 ∧ f k = nI b) → tpL f (plc A r) = picL (snB A) (fun r => f (plc A r) - 9) r
  | 0, _ => rfl
  | r + 1, h => by
    rw [picL, plc]
    have ih := tp_pic (A := A) (f := f) (r := r) (fun k hk => h k (by rw [plc]; omega))
    by_cases c : snB A r = true
    · rw [if_pos c, if_pos c, tpL, ih]
      obtain ⟨b, hb, e⟩ := h (plc A r) (by rw [plc, if_pos c]; omega)
      rw [e, ← t9 b hb]
      generalize 19 * picL (snB A) (fun r => f (plc A r) - 9) r = x
      generalize (nI b - 9).toInt64 = y
      rw [Int64.add_assoc]
    · rw [if_neg c, if_neg c]; exact ih
section MWA
variable {G : Gx} {d v : Nat} {μ : Mem} {bc bs : Nat} {Q : Option Value → List Sh → Mem → Nat → Nat → Prop} {nr nb sz n : Nat}
set_option maxRecDepth 100000 in
set_option maxHeartbeats 1000000 in
theorem k_mSeenMany (hW : WM μ nr nb sz n) (h : Q (some (.int (nI (plc (fun f => gi μ (146 + f)) nr)))) (LAY v) μ bc bs) : KC G d mX11_seenMany [.ref 144] (LAY v) μ bc bs Q := by
  have w1 := hW.1
  have w4 := hW.2.2.1.1.2.1
  refine KC_intro 0 0 kX11_seenMany (by decide) (by decide) (Nat.zero_le _) (Nat.zero_le _) (Nat.le_of_ble_eq_true rfl) (fun Z hZ => ?_)
  show Z 0 [some (.ref 144), none, none] [] (LAY v) μ 0 0
  have loop : ∀ r, r ≤ nr → Z 4 [some (.ref 144), some (.int (nI (plc (fun f => gi μ (146 + f)) r))), some (.int (nI r))] [] (LAY v) μ 0 0 := by
    refine loopN nr ?_ (fun r hrr ih => ?_)
    · refine hZ 400 [4] _ _ _ _ _ _ _ ?_
      simp -implicitDefEqProofs (disch := omega) only [wp_step xX11_seenMany_4, wp_step xX11_seenMany_5, wp_step xX11_seenMany_6, wp_step xX11_seenMany_9, wp_step xX11_seenMany_12, wp_step xX11_seenMany_13, wp_step xX11_seenMany_14, wp_step xX11_seenMany_17, wp_step xX11_seenMany_18, wp_step xX11_seenMany_19, wp_step xX11_seenMany_22, wp_step xX11_seenMany_23, wp_step xX11_seenMany_26, wp_step xX11_seenMany_27, wp_step xX11_seenMany_28, wp_step xX11_seenMany_29, wp_step xX11_seenMany_32, wp_step xX11_seenMany_35, wp_step xX11_seenMany_36, ↓e_getf iX11_seenMany f11_13, ↓e_getf iX11_seenMany f11_30, iX11_seenMany, exec1, ↓p1_e, ↓p2_e, ↓q1_e, ↓q2_e, ↓qi_e, ↓pr_e, ↓pa_e, ↓pa_f, ↓pst_e, ↓qst_e, ↓rst_e, ↓pac_e, ↓pargs_0, ↓pargs_s, ↓gfld_0, ↓gfld_1, ↓gfld_2, ↓gfld_3, ↓pfld_i, ↓pfld_l, ↓pfld_r, ↓sfld_i, ↓sfld_l, ↓sfld_r, brI, pushv, rcv, lget, lset, lset2, isL, rok, szs, List.elem_nil, List.elem_cons, cond_true, cond_false, Option.map_some, beq_self_eq_true, Bool.true_and, Bool.and_true, Bool.false_and, Bool.and_false, Bool.or_false, Bool.false_or, Bool.or_true, Bool.true_or, Nat.reduceAdd, Nat.reduceSub, Nat.reduceMul, Nat.reduceBEq, Nat.reduceEqDiff, Nat.reduceLeDiff, Nat.sub_zero, true_and, and_true, false_and, and_false, true_or, or_true, false_or, or_false, reduceCtorEq, ↓reduceIte, List.getD_cons_zero, List.getD_cons_succ, List.length_cons, List.length_nil, ct_i, ct_r, ct_l, ct_f, ct_n, false_implies, true_implies, y144, y145, y146, y147, y148, y149, y150, y151, y152, y153, y154, y155, y156, y157, w1, nle_t (show nr < 2 ^ 31 by omega), not_false_eq_true, true_implies, false_implies, and_true, true_and, not_true_eq_false]
      exact h
    · have vr : vp_in (nI r) 10 := vin (by omega) (by omega)
      rw [plc] at ih
      refine hZ 400 [4] _ _ _ _ _ _ _ ?_
      simp -implicitDefEqProofs (disch := omega) only [wp_step xX11_seenMany_4, wp_step xX11_seenMany_5, wp_step xX11_seenMany_6, wp_step xX11_seenMany_9, wp_step xX11_seenMany_12, wp_step xX11_seenMany_13, wp_step xX11_seenMany_14, wp_step xX11_seenMany_17, wp_step xX11_seenMany_18, wp_step xX11_seenMany_19, wp_step xX11_seenMany_22, wp_step xX11_seenMany_23, wp_step xX11_seenMany_26, wp_step xX11_seenMany_27, wp_step xX11_seenMany_28, wp_step xX11_seenMany_29, wp_step xX11_seenMany_32, wp_step xX11_seenMany_35, wp_step xX11_seenMany_36, ↓e_getf iX11_seenMany f11_13, ↓e_getf iX11_seenMany f11_30, iX11_seenMany, exec1, ↓p1_e, ↓p2_e, ↓q1_e, ↓q2_e, ↓qi_e, ↓pr_e, ↓pa_e, ↓pa_f, ↓pst_e, ↓qst_e, ↓rst_e, ↓pac_e, ↓pargs_0, ↓pargs_s, ↓gfld_0, ↓gfld_1, ↓gfld_2, ↓gfld_3, ↓pfld_i, ↓pfld_l, ↓pfld_r, ↓sfld_i, ↓sfld_l, ↓sfld_r, brI, pushv, rcv, lget, lset, lset2, isL, rok, szs, List.elem_nil, List.elem_cons, cond_true, cond_false, Option.map_some, beq_self_eq_true, Bool.true_and, Bool.and_true, Bool.false_and, Bool.and_false, Bool.or_false, Bool.false_or, Bool.or_true, Bool.true_or, Nat.reduceAdd, Nat.reduceSub, Nat.reduceMul, Nat.reduceBEq, Nat.reduceEqDiff, Nat.reduceLeDiff, Nat.sub_zero, true_and, and_true, false_and, and_false, true_or, or_true, false_or, or_false, reduceCtorEq, ↓reduceIte, List.getD_cons_zero, List.getD_cons_succ, List.length_cons, List.length_nil, ct_i, ct_r, ct_l, ct_f, ct_n, false_implies, true_implies, y144, y145, y146, y147, y148, y149, y150, y151, y152, y153, y154, y155, y156, y157, w1, nle_f hrr (show nr < 2 ^ 31 by omega), vr, nI_clamp, nI_1, not_false_eq_true, true_implies, false_implies, and_true, true_and, not_true_eq_false]
      refine ⟨fun c => ?_, fun c => ?_⟩
      · rw [if_neg (by rw [snB_f (A := fun f => gi μ (146 + f)) c]; decide)] at ih; rw [Int32.add_zero]; exact ih
      · rw [if_pos (snB_t (A := fun f => gi μ (146 + f)) c)] at ih; exact ih
  refine hZ 400 [4] _ _ _ _ _ _ _ ?_
  simp -implicitDefEqProofs (disch := omega) only [wp_step xX11_seenMany_0, wp_step xX11_seenMany_1, wp_step xX11_seenMany_2, wp_step xX11_seenMany_3, ↓e_getf iX11_seenMany f11_13, ↓e_getf iX11_seenMany f11_30, iX11_seenMany, exec1, ↓p1_e, ↓p2_e, ↓q1_e, ↓q2_e, ↓qi_e, ↓pr_e, ↓pa_e, ↓pa_f, ↓pst_e, ↓qst_e, ↓rst_e, ↓pac_e, ↓pargs_0, ↓pargs_s, ↓gfld_0, ↓gfld_1, ↓gfld_2, ↓gfld_3, ↓pfld_i, ↓pfld_l, ↓pfld_r, ↓sfld_i, ↓sfld_l, ↓sfld_r, brI, pushv, rcv, lget, lset, lset2, isL, rok, szs, List.elem_nil, List.elem_cons, cond_true, cond_false, Option.map_some, beq_self_eq_true, Bool.true_and, Bool.and_true, Bool.false_and, Bool.and_false, Bool.or_false, Bool.false_or, Bool.or_true, Bool.true_or, Nat.reduceAdd, Nat.reduceSub, Nat.reduceMul, Nat.reduceBEq, Nat.reduceEqDiff, Nat.reduceLeDiff, Nat.sub_zero, true_and, and_true, false_and, and_false, true_or, or_true, false_or, or_false, reduceCtorEq, ↓reduceIte, List.getD_cons_zero, List.getD_cons_succ, List.length_cons, List.length_nil, ct_i, ct_r, ct_l, ct_f, ct_n, false_implies, true_implies]
  exact loop 0 (by omega)
set_option maxRecDepth 100000 in
set_option maxHeartbeats 1000000 in
theorem k_mToldPicture {k : Nat} (hd : 1 ≤ d) (hk : k ≤ 10) (h0 : anB (fun j => !decide (gu μ j ≤ 18)) k = true → Q (some (.long (-1))) (LAY v) μ bc bs) (h1 : anB (fun j => !decide (gu μ j ≤ 18)) k = false → Q (some (.long (tpL (gu μ) k))) (LAY v) μ bc bs) : KC G d mX11_toldPicture [.ref 144, .int (nI k)] (LAY v) μ bc bs Q := by
  refine KC_intro 0 0 kX11_toldPicture (by decide) (by decide) (Nat.zero_le _) (Nat.zero_le _) (Nat.le_of_ble_eq_true rfl) (fun Z hZ => ?_)
  show Z 0 [some (.ref 144), some (.int (nI k)), none, none, none] [] (LAY v) μ 0 0
  have loop : ∀ i, i ≤ k → ((∀ j, j < i → (!decide (gu μ j ≤ 18)) = false) → Z 5 [some (.ref 144), some (.int (nI k)), some (.long (tpL (gu μ) i)), none, some (.int (nI i))] [] (LAY v) μ 0 0) := by
    refine loopN k (fun q => ?_) (fun i hi ih q => ?_)
    · refine hZ 400 [5, 17, 37] _ _ _ _ _ _ _ ?_
      simp -implicitDefEqProofs (disch := omega) only [wp_step xX11_toldPicture_5, wp_step xX11_toldPicture_7, wp_step xX11_toldPicture_8, ↓e_virt iX11_toldPicture l11_411 iX11_byteAt, q11_400, q11_384, iX11_toldPicture, wp_step xX11_toldPicture_46, wp_step xX11_toldPicture_47, ↓e_virt iX11_toldPicture l11_411 iX11_byteAt, q11_400, q11_384, iX11_toldPicture, exec1, ↓p1_e, ↓p2_e, ↓q1_e, ↓q2_e, ↓qi_e, ↓pr_e, ↓pa_e, ↓pa_f, ↓pst_e, ↓qst_e, ↓rst_e, ↓pac_e, ↓pargs_0, ↓pargs_s, ↓gfld_0, ↓gfld_1, ↓gfld_2, ↓gfld_3, ↓pfld_i, ↓pfld_l, ↓pfld_r, ↓sfld_i, ↓sfld_l, ↓sfld_r, brI, pushv, rcv, lget, lset, lset2, isL, rok, szs, List.elem_nil, List.elem_cons, cond_true, cond_false, Option.map_some, beq_self_eq_true, Bool.true_and, Bool.and_true, Bool.false_and, Bool.and_false, Bool.or_false, Bool.false_or, Bool.or_true, Bool.true_or, Nat.reduceAdd, Nat.reduceSub, Nat.reduceMul, Nat.reduceBEq, Nat.reduceEqDiff, Nat.reduceLeDiff, Nat.sub_zero, true_and, and_true, false_and, and_false, true_or, or_true, false_or, or_false, reduceCtorEq, ↓reduceIte, List.getD_cons_zero, List.getD_cons_succ, List.length_cons, List.length_nil, ct_i, ct_r, ct_l, ct_f, ct_n, false_implies, true_implies, nle_t (show k < 2 ^ 31 by omega), not_false_eq_true, true_implies, false_implies, and_true, true_and, not_true_eq_false]
      exact h1 (anB_f q)
    · rw [tpL] at ih
      refine hZ 400 [5, 17, 37] _ _ _ _ _ _ _ ?_
      simp -implicitDefEqProofs (disch := omega) only [wp_step xX11_toldPicture_5, wp_step xX11_toldPicture_7, wp_step xX11_toldPicture_8, wp_step xX11_toldPicture_11, wp_step xX11_toldPicture_12, wp_step xX11_toldPicture_14, ↓e_virt iX11_toldPicture l11_411 iX11_byteAt, q11_400, q11_384, iX11_toldPicture, exec1, ↓p1_e, ↓p2_e, ↓q1_e, ↓q2_e, ↓qi_e, ↓pr_e, ↓pa_e, ↓pa_f, ↓pst_e, ↓qst_e, ↓rst_e, ↓pac_e, ↓pargs_0, ↓pargs_s, ↓gfld_0, ↓gfld_1, ↓gfld_2, ↓gfld_3, ↓pfld_i, ↓pfld_l, ↓pfld_r, ↓sfld_i, ↓sfld_l, ↓sfld_r, brI, pushv, rcv, lget, lset, lset2, isL, rok, szs, List.elem_nil, List.elem_cons, cond_true, cond_false, Option.map_some, beq_self_eq_true, Bool.true_and, Bool.and_true, Bool.false_and, Bool.and_false, Bool.or_false, Bool.false_or, Bool.or_true, Bool.true_or, Nat.reduceAdd, Nat.reduceSub, Nat.reduceMul, Nat.reduceBEq, Nat.reduceEqDiff, Nat.reduceLeDiff, Nat.sub_zero, true_and, and_true, false_and, and_false, true_or, or_true, false_or, or_false, reduceCtorEq, ↓reduceIte, List.getD_cons_zero, List.getD_cons_succ, List.length_cons, List.length_nil, ct_i, ct_r, ct_l, ct_f, ct_n, false_implies, true_implies, y144, nle_f hi (show k < 2 ^ 31 by omega), not_false_eq_true, true_implies, false_implies, and_true, true_and, not_true_eq_false]
      refine ⟨by omega, k_mByteAt (by omega) ?_⟩
      rw [show gi μ 145 i &&& 255 = gu μ i from rfl]
      refine hZ 400 [5, 17, 37] _ _ _ _ _ _ _ ?_
      simp -implicitDefEqProofs (disch := omega) only [wp_step xX11_toldPicture_17, wp_step xX11_toldPicture_19, wp_step xX11_toldPicture_22, wp_step xX11_toldPicture_25, wp_step xX11_toldPicture_26, wp_step xX11_toldPicture_29, wp_step xX11_toldPicture_30, wp_step xX11_toldPicture_31, wp_step xX11_toldPicture_32, wp_step xX11_toldPicture_34, ↓e_virt iX11_toldPicture l11_411 iX11_byteAt, q11_400, q11_384, iX11_toldPicture, exec1, ↓p1_e, ↓p2_e, ↓q1_e, ↓q2_e, ↓qi_e, ↓pr_e, ↓pa_e, ↓pa_f, ↓pst_e, ↓qst_e, ↓rst_e, ↓pac_e, ↓pargs_0, ↓pargs_s, ↓gfld_0, ↓gfld_1, ↓gfld_2, ↓gfld_3, ↓pfld_i, ↓pfld_l, ↓pfld_r, ↓sfld_i, ↓sfld_l, ↓sfld_r, brI, pushv, rcv, lget, lset, lset2, isL, rok, szs, List.elem_nil, List.elem_cons, cond_true, cond_false, Option.map_some, beq_self_eq_true, Bool.true_and, Bool.and_true, Bool.false_and, Bool.and_false, Bool.or_false, Bool.false_or, Bool.or_true, Bool.true_or, Nat.reduceAdd, Nat.reduceSub, Nat.reduceMul, Nat.reduceBEq, Nat.reduceEqDiff, Nat.reduceLeDiff, Nat.sub_zero, true_and, and_true, false_and, and_false, true_or, or_true, false_or, or_false, reduceCtorEq, ↓reduceIte, List.getD_cons_zero, List.getD_cons_succ, List.length_cons, List.length_nil, ct_i, ct_r, ct_l, ct_f, ct_n, false_implies, true_implies, y144]
      refine ⟨fun c => ⟨by omega, k_mByteAt (by omega) ?_⟩, fun c => h0 (anB_t hi (by rw [decide_eq_false c]; rfl))⟩
      rw [show gi μ 145 i &&& 255 = gu μ i from rfl]
      refine hZ 400 [5, 17, 37] _ _ _ _ _ _ _ ?_
      simp -implicitDefEqProofs (disch := omega) only [wp_step xX11_toldPicture_37, wp_step xX11_toldPicture_38, wp_step xX11_toldPicture_39, wp_step xX11_toldPicture_40, wp_step xX11_toldPicture_43, ↓e_virt iX11_toldPicture l11_411 iX11_byteAt, q11_400, q11_384, iX11_toldPicture, exec1, ↓p1_e, ↓p2_e, ↓q1_e, ↓q2_e, ↓qi_e, ↓pr_e, ↓pa_e, ↓pa_f, ↓pst_e, ↓qst_e, ↓rst_e, ↓pac_e, ↓pargs_0, ↓pargs_s, ↓gfld_0, ↓gfld_1, ↓gfld_2, ↓gfld_3, ↓pfld_i, ↓pfld_l, ↓pfld_r, ↓sfld_i, ↓sfld_l, ↓sfld_r, brI, pushv, rcv, lget, lset, lset2, isL, rok, szs, List.elem_nil, List.elem_cons, cond_true, cond_false, Option.map_some, beq_self_eq_true, Bool.true_and, Bool.and_true, Bool.false_and, Bool.and_false, Bool.or_false, Bool.false_or, Bool.or_true, Bool.true_or, Nat.reduceAdd, Nat.reduceSub, Nat.reduceMul, Nat.reduceBEq, Nat.reduceEqDiff, Nat.reduceLeDiff, Nat.sub_zero, true_and, and_true, false_and, and_false, true_or, or_true, false_or, or_false, reduceCtorEq, ↓reduceIte, List.getD_cons_zero, List.getD_cons_succ, List.length_cons, List.length_nil, ct_i, ct_r, ct_l, ct_f, ct_n, false_implies, true_implies, nI_1]
      refine ih (fun j hj => ?_)
      by_cases y : j = i
      · subst y; rw [decide_eq_true c]; rfl
      · exact q j (by omega)
  refine hZ 400 [5, 17, 37] _ _ _ _ _ _ _ ?_
  simp -implicitDefEqProofs (disch := omega) only [wp_step xX11_toldPicture_0, wp_step xX11_toldPicture_1, wp_step xX11_toldPicture_2, wp_step xX11_toldPicture_3, ↓e_virt iX11_toldPicture l11_411 iX11_byteAt, q11_400, q11_384, iX11_toldPicture, exec1, ↓p1_e, ↓p2_e, ↓q1_e, ↓q2_e, ↓qi_e, ↓pr_e, ↓pa_e, ↓pa_f, ↓pst_e, ↓qst_e, ↓rst_e, ↓pac_e, ↓pargs_0, ↓pargs_s, ↓gfld_0, ↓gfld_1, ↓gfld_2, ↓gfld_3, ↓pfld_i, ↓pfld_l, ↓pfld_r, ↓sfld_i, ↓sfld_l, ↓sfld_r, brI, pushv, rcv, lget, lset, lset2, isL, rok, szs, List.elem_nil, List.elem_cons, cond_true, cond_false, Option.map_some, beq_self_eq_true, Bool.true_and, Bool.and_true, Bool.false_and, Bool.and_false, Bool.or_false, Bool.false_or, Bool.or_true, Bool.true_or, Nat.reduceAdd, Nat.reduceSub, Nat.reduceMul, Nat.reduceBEq, Nat.reduceEqDiff, Nat.reduceLeDiff, Nat.sub_zero, true_and, and_true, false_and, and_false, true_or, or_true, false_or, or_false, reduceCtorEq, ↓reduceIte, List.getD_cons_zero, List.getD_cons_succ, List.length_cons, List.length_nil, ct_i, ct_r, ct_l, ct_f, ct_n, false_implies, true_implies, lc0]
  exact loop 0 (by omega) (fun j h => absurd h (by omega))
theorem WM.ln {i l : Nat} (hW : WM μ nr nb sz n) (h1 : 1 ≤ l) (h2 : l ≤ 99) : WM (si μ 153 i (nI l)) nr nb sz n := by
  obtain ⟨w1, w2, w3, w8, w9, w10⟩ := id hW
  have o : ∀ a x, a ≠ 153 → gi (si μ 153 i (nI l)) a x = gi μ a x := fun a x z => gi_si_a z
  refine ⟨(o _ _ (by omega)).trans w1, (o _ _ (by omega)).trans w2, w3.len (fun f hf h7 => funext (fun x => o _ _ (by omega))) (fun x hx => ?_), (o _ _ (by omega)).trans w8, w9, fun q hq => (w10 q hq).cong (fun f hf => funext (fun x => o _ _ (by omega))) (fun f hf => funext (fun x => o _ _ (by omega)))⟩
  obtain ⟨-, -, ⟨lx, hlx, elx, hgx⟩, -⟩ := w3.2.2 x hx
  by_cases q : x = i
  · subst q; exact ⟨l, h2, gi_si, fun _ => h1⟩
  · exact ⟨lx, hlx, by rw [gi_si_k q]; exact elx, hgx⟩
def cbM (μ : Mem) (nr nb sz n : Nat) (t : Int64) (i : Nat) (l : Int32) : Bool := decide (picM (si μ 153 i l) nr nb sz n (gi μ 144 4) = t) && !decide (l = gi μ 153 i)
set_option maxRecDepth 100000 in
set_option maxHeartbeats 1000000 in
theorem k_mCanBe {i l : Nat} {t : Int64} (hd : 7 ≤ d) (hW : WM μ nr nb sz n) (hi : i < nb) (h1 : 1 ≤ l) (h2 : l ≤ 99) (h : ∀ μ', Fr pK μ μ' → Q (some (.int (bN (cbM μ nr nb sz n t i (nI l))))) (LAY v) μ' bc bs) : KC G d mX11_canBe [.ref 144, .int (nI i), .int (nI l), .long t] (LAY v) μ bc bs Q := by
  have w5 := hW.2.2.1.1.2.2
  have vi : vp_in (nI i) 40 := vin (by omega) (by omega)
  refine KC_intro 0 0 kX11_canBe (by decide) (by decide) (Nat.zero_le _) (Nat.zero_le _) (Nat.le_of_ble_eq_true rfl) (fun Z hZ => ?_)
  show Z 0 [some (.ref 144), some (.int (nI i)), some (.int (nI l)), some (.long t), none, none, none] [] (LAY v) μ 0 0
  refine hZ 400 [19] _ _ _ _ _ _ _ ?_
  simp -implicitDefEqProofs (disch := omega) only [wp_step xX11_canBe_0, wp_step xX11_canBe_1, wp_step xX11_canBe_4, wp_step xX11_canBe_5, wp_step xX11_canBe_6, wp_step xX11_canBe_8, wp_step xX11_canBe_9, wp_step xX11_canBe_12, wp_step xX11_canBe_13, wp_step xX11_canBe_14, wp_step xX11_canBe_15, wp_step xX11_canBe_16, ↓e_getf iX11_canBe f11_43, ↓e_virt iX11_canBe l11_432 iX11_picture, iX11_canBe, exec1, ↓p1_e, ↓p2_e, ↓q1_e, ↓q2_e, ↓qi_e, ↓pr_e, ↓pa_e, ↓pa_f, ↓pst_e, ↓qst_e, ↓rst_e, ↓pac_e, ↓pargs_0, ↓pargs_s, ↓gfld_0, ↓gfld_1, ↓gfld_2, ↓gfld_3, ↓pfld_i, ↓pfld_l, ↓pfld_r, ↓sfld_i, ↓sfld_l, ↓sfld_r, brI, pushv, rcv, lget, lset, lset2, isL, rok, szs, List.elem_nil, List.elem_cons, cond_true, cond_false, Option.map_some, beq_self_eq_true, Bool.true_and, Bool.and_true, Bool.false_and, Bool.and_false, Bool.or_false, Bool.false_or, Bool.or_true, Bool.true_or, Nat.reduceAdd, Nat.reduceSub, Nat.reduceMul, Nat.reduceBEq, Nat.reduceEqDiff, Nat.reduceLeDiff, Nat.sub_zero, true_and, and_true, false_and, and_false, true_or, or_true, false_or, or_false, reduceCtorEq, ↓reduceIte, List.getD_cons_zero, List.getD_cons_succ, List.length_cons, List.length_nil, ct_i, ct_r, ct_l, ct_f, ct_n, false_implies, true_implies, y144, y145, y146, y147, y148, y149, y150, y151, y152, y153, y154, y155, y156, y157, vi, nI_clamp]
  refine ⟨by omega, k_mPicture (by omega) (hW.ln h1 h2) (fun μ1 hF => ?_)⟩
  rw [show gi (si μ 153 i (nI l)) 144 4 = gi μ 144 4 from gi_si_a (by omega)]
  have hF1 : Fr pK μ (si μ1 153 i (gi μ 153 i)) := ⟨fun a x z => by
    by_cases q : a = 153
    · subst q
      by_cases q2 : x = i
      · subst q2; rw [gi_si]
      · rw [gi_si_k q2, hF.1 _ _ z, gi_si_k q2]
    · rw [gi_si_a q, hF.1 a x z, gi_si_a q], fun a x => by rw [gl_si, hF.2 a x, gl_si]⟩
  have fin := h _ hF1
  unfold cbM at fin
  refine hZ 400 [19] _ _ _ _ _ _ _ ?_
  simp -implicitDefEqProofs (disch := omega) only [wp_step xX11_canBe_19, wp_step xX11_canBe_20, wp_step xX11_canBe_21, wp_step xX11_canBe_24, wp_step xX11_canBe_25, wp_step xX11_canBe_28, wp_step xX11_canBe_29, wp_step xX11_canBe_31, wp_step xX11_canBe_32, wp_step xX11_canBe_35, wp_step xX11_canBe_36, wp_step xX11_canBe_38, wp_step xX11_canBe_39, wp_step xX11_canBe_41, wp_step xX11_canBe_44, wp_step xX11_canBe_45, wp_step xX11_canBe_47, wp_step xX11_canBe_50, wp_step xX11_canBe_51, wp_step xX11_canBe_54, wp_step xX11_canBe_55, ↓e_getf iX11_canBe f11_43, ↓e_virt iX11_canBe l11_432 iX11_picture, iX11_canBe, exec1, ↓p1_e, ↓p2_e, ↓q1_e, ↓q2_e, ↓qi_e, ↓pr_e, ↓pa_e, ↓pa_f, ↓pst_e, ↓qst_e, ↓rst_e, ↓pac_e, ↓pargs_0, ↓pargs_s, ↓gfld_0, ↓gfld_1, ↓gfld_2, ↓gfld_3, ↓pfld_i, ↓pfld_l, ↓pfld_r, ↓sfld_i, ↓sfld_l, ↓sfld_r, brI, pushv, rcv, lget, lset, lset2, isL, rok, szs, List.elem_nil, List.elem_cons, cond_true, cond_false, Option.map_some, beq_self_eq_true, Bool.true_and, Bool.and_true, Bool.false_and, Bool.and_false, Bool.or_false, Bool.false_or, Bool.or_true, Bool.true_or, Nat.reduceAdd, Nat.reduceSub, Nat.reduceMul, Nat.reduceBEq, Nat.reduceEqDiff, Nat.reduceLeDiff, Nat.sub_zero, true_and, and_true, false_and, and_false, true_or, or_true, false_or, or_false, reduceCtorEq, ↓reduceIte, List.getD_cons_zero, List.getD_cons_succ, List.length_cons, List.length_nil, ct_i, ct_r, ct_l, ct_f, ct_n, false_implies, true_implies, y144, y145, y146, y147, y148, y149, y150, y151, y152, y153, y154, y155, y156, y157, vi, nI_clamp, lgc_eq, show ¬ (1 : Int32) = 0 by decide, not_false_eq_true, true_implies, false_implies, and_true, true_and, not_true_eq_false]
  refine ⟨fun c => ?_, fun c => ⟨fun c2 => ?_, fun c2 => ?_⟩⟩
  · rw [decide_eq_false c] at fin; exact fin
  · rw [decide_eq_true c2, Bool.not_true, Bool.and_false] at fin; exact fin
  · rw [decide_eq_true c, decide_eq_false c2] at fin; exact fin
def lbM (μ : Mem) (nr nb sz n : Nat) (t : Int64) (i : Nat) (l : Int32) : Bool := !decide (gi μ 157 i = 0) && cbM μ nr nb sz n t i l
theorem lbM_fi {P : Nat → Nat → Prop} {μ1 : Mem} {t : Int64} {i : Nat} {l : Int32} (h : Fi P μ μ1) (hP : ∀ a j, P a j → Lo a j) : lbM μ1 nr nb sz n t i l = lbM μ nr nb sz n t i l := by
  have e : ∀ a j, ¬ Lo a j → gi μ1 a j = gi μ a j := fun a j z => h a j (fun w => z (hP a j w))
  have hF : Fi Lo2 (si μ 153 i l) (si μ1 153 i l) := fun a x z => by
    by_cases q : a = 153
    · subst q
      by_cases q2 : x = i
      · subst q2; rw [gi_si, gi_si]
      · rw [gi_si_k q2, gi_si_k q2]; exact e _ _ (fun y => z (Or.inl y))
    · rw [gi_si_a q, gi_si_a q]; exact e _ _ (fun y => z (Or.inl y))
  unfold lbM cbM
  rw [picM_fi hF (fun _ _ z => z), e 157 i (by unfold Lo; omega), e 153 i (by unfold Lo; omega), e 144 4 (by unfold Lo; omega)]
set_option maxRecDepth 100000 in
set_option maxHeartbeats 1000000 in
theorem k_mLengthsOf {i : Nat} {t : Int64} (hd : 8 ≤ d) (hW : WM μ nr nb sz n) (hi : i < nb) (h : ∀ μ', Fr pK μ μ' → Q (some (.int (cnB (fun k => lbM μ nr nb sz n t i (nI (k + 1))) 99))) (LAY v) μ' bc bs) : KC G d mX11_lengthsOf [.ref 144, .int (nI i), .long t] (LAY v) μ bc bs Q := by
  have w5 := hW.2.2.1.1.2.2
  have vi : vp_in (nI i) 40 := vin (by omega) (by omega)
  refine KC_intro 0 0 kX11_lengthsOf (by decide) (by decide) (Nat.zero_le _) (Nat.zero_le _) (Nat.le_of_ble_eq_true rfl) (fun Z hZ => ?_)
  show Z 0 [some (.ref 144), some (.int (nI i)), some (.long t), none, none, none] [] (LAY v) μ 0 0
  obtain ⟨p, hp⟩ : ∃ p : Nat → Bool, p = fun k => lbM μ nr nb sz n t i (nI (k + 1)) := ⟨_, rfl⟩
  rw [← hp] at h
  have pe : ∀ k, p k = lbM μ nr nb sz n t i (nI (k + 1)) := fun k => by rw [hp]
  have loop : ∀ k, k ≤ 99 → (∀ μ1, Fr pK μ μ1 → Z 6 [some (.ref 144), some (.int (nI i)), some (.long t), none, some (.int (cnB p k)), some (.int (nI (k + 1)))] [] (LAY v) μ1 0 0) := by
    refine loopN 99 (fun μ1 hF => ?_) (fun k hk ih μ1 hF => ?_)
    · refine hZ 400 [6, 32] _ _ _ _ _ _ _ ?_
      simp -implicitDefEqProofs (disch := omega) only [wp_step xX11_lengthsOf_6, wp_step xX11_lengthsOf_8, wp_step xX11_lengthsOf_10, ↓e_getf iX11_lengthsOf f11_55, ↓e_virt iX11_lengthsOf l11_436 iX11_canBe, iX11_lengthsOf, wp_step xX11_lengthsOf_49, wp_step xX11_lengthsOf_51, ↓e_getf iX11_lengthsOf f11_55, ↓e_virt iX11_lengthsOf l11_436 iX11_canBe, iX11_lengthsOf, exec1, ↓p1_e, ↓p2_e, ↓q1_e, ↓q2_e, ↓qi_e, ↓pr_e, ↓pa_e, ↓pa_f, ↓pst_e, ↓qst_e, ↓rst_e, ↓pac_e, ↓pargs_0, ↓pargs_s, ↓gfld_0, ↓gfld_1, ↓gfld_2, ↓gfld_3, ↓pfld_i, ↓pfld_l, ↓pfld_r, ↓sfld_i, ↓sfld_l, ↓sfld_r, brI, pushv, rcv, lget, lset, lset2, isL, rok, szs, List.elem_nil, List.elem_cons, cond_true, cond_false, Option.map_some, beq_self_eq_true, Bool.true_and, Bool.and_true, Bool.false_and, Bool.and_false, Bool.or_false, Bool.false_or, Bool.or_true, Bool.true_or, Nat.reduceAdd, Nat.reduceSub, Nat.reduceMul, Nat.reduceBEq, Nat.reduceEqDiff, Nat.reduceLeDiff, Nat.sub_zero, true_and, and_true, false_and, and_false, true_or, or_true, false_or, or_false, reduceCtorEq, ↓reduceIte, List.getD_cons_zero, List.getD_cons_succ, List.length_cons, List.length_nil, ct_i, ct_r, ct_l, ct_f, ct_n, false_implies, true_implies, show ((99 : Int32) < nI (99 + 1)) = True from eq_true (by decide), not_false_eq_true, true_implies, false_implies, and_true, true_and, not_true_eq_false]
      exact h μ1 hF
    · have f157 : gi μ1 157 i = gi μ 157 i := hF.1 _ _ (by unfold pK pN; omega)
      refine hZ 400 [6, 32] _ _ _ _ _ _ _ ?_
      simp -implicitDefEqProofs (disch := omega) only [wp_step xX11_lengthsOf_6, wp_step xX11_lengthsOf_8, wp_step xX11_lengthsOf_10, wp_step xX11_lengthsOf_13, wp_step xX11_lengthsOf_14, wp_step xX11_lengthsOf_17, wp_step xX11_lengthsOf_18, wp_step xX11_lengthsOf_19, wp_step xX11_lengthsOf_22, wp_step xX11_lengthsOf_24, wp_step xX11_lengthsOf_25, wp_step xX11_lengthsOf_26, wp_step xX11_lengthsOf_28, wp_step xX11_lengthsOf_29, ↓e_getf iX11_lengthsOf f11_55, ↓e_virt iX11_lengthsOf l11_436 iX11_canBe, iX11_lengthsOf, wp_step xX11_lengthsOf_49, wp_step xX11_lengthsOf_51, ↓e_getf iX11_lengthsOf f11_55, ↓e_virt iX11_lengthsOf l11_436 iX11_canBe, iX11_lengthsOf, exec1, ↓p1_e, ↓p2_e, ↓q1_e, ↓q2_e, ↓qi_e, ↓pr_e, ↓pa_e, ↓pa_f, ↓pst_e, ↓qst_e, ↓rst_e, ↓pac_e, ↓pargs_0, ↓pargs_s, ↓gfld_0, ↓gfld_1, ↓gfld_2, ↓gfld_3, ↓pfld_i, ↓pfld_l, ↓pfld_r, ↓sfld_i, ↓sfld_l, ↓sfld_r, brI, pushv, rcv, lget, lset, lset2, isL, rok, szs, List.elem_nil, List.elem_cons, cond_true, cond_false, Option.map_some, beq_self_eq_true, Bool.true_and, Bool.and_true, Bool.false_and, Bool.and_false, Bool.or_false, Bool.false_or, Bool.or_true, Bool.true_or, Nat.reduceAdd, Nat.reduceSub, Nat.reduceMul, Nat.reduceBEq, Nat.reduceEqDiff, Nat.reduceLeDiff, Nat.sub_zero, true_and, and_true, false_and, and_false, true_or, or_true, false_or, or_false, reduceCtorEq, ↓reduceIte, List.getD_cons_zero, List.getD_cons_succ, List.length_cons, List.length_nil, ct_i, ct_r, ct_l, ct_f, ct_n, false_implies, true_implies, y144, y145, y146, y147, y148, y149, y150, y151, y152, y153, y154, y155, y156, y157, vi, nI_clamp, f157, show ((99 : Int32) < nI (k + 1)) = False from eq_false (nI_nlt (a := 99) (by omega) (by omega)), not_false_eq_true, true_implies, false_implies, and_true, true_and, not_true_eq_false]
      refine ⟨fun c => ?_, fun c => ⟨by omega, k_mCanBe (by omega) (hW.fr hF pK_SfM) hi (by omega) (by omega) (fun μ2 hF2 => ?_)⟩⟩
      · have fin := h μ1 hF
        have z : ∀ j, p j = false := fun j => by rw [pe]; unfold lbM; rw [decide_eq_true c]; rfl
        rw [cnB_0 (fun j _ => z j)] at fin ⊢
        exact fin
      · have ec : cbM μ1 nr nb sz n t i (nI (k + 1)) = p k := by
          have := lbM_fi (nr := nr) (nb := nb) (sz := sz) (n := n) (t := t) (i := i) (l := nI (k + 1)) (Fi.of hF) pK_Lo
          rw [pe, ← this]
          unfold lbM
          rw [f157, decide_eq_false c]; rfl
        rw [ec]
        have fin := ih μ2 (hF.trans hF2)
        refine hZ 400 [6, 32] _ _ _ _ _ _ _ ?_
        simp -implicitDefEqProofs (disch := omega) only [wp_step xX11_lengthsOf_32, wp_step xX11_lengthsOf_35, wp_step xX11_lengthsOf_36, wp_step xX11_lengthsOf_39, wp_step xX11_lengthsOf_40, wp_step xX11_lengthsOf_41, wp_step xX11_lengthsOf_43, wp_step xX11_lengthsOf_46, ↓e_getf iX11_lengthsOf f11_55, ↓e_virt iX11_lengthsOf l11_436 iX11_canBe, iX11_lengthsOf, exec1, ↓p1_e, ↓p2_e, ↓q1_e, ↓q2_e, ↓qi_e, ↓pr_e, ↓pa_e, ↓pa_f, ↓pst_e, ↓qst_e, ↓rst_e, ↓pac_e, ↓pargs_0, ↓pargs_s, ↓gfld_0, ↓gfld_1, ↓gfld_2, ↓gfld_3, ↓pfld_i, ↓pfld_l, ↓pfld_r, ↓sfld_i, ↓sfld_l, ↓sfld_r, brI, pushv, rcv, lget, lset, lset2, isL, rok, szs, List.elem_nil, List.elem_cons, cond_true, cond_false, Option.map_some, beq_self_eq_true, Bool.true_and, Bool.and_true, Bool.false_and, Bool.and_false, Bool.or_false, Bool.false_or, Bool.or_true, Bool.true_or, Nat.reduceAdd, Nat.reduceSub, Nat.reduceMul, Nat.reduceBEq, Nat.reduceEqDiff, Nat.reduceLeDiff, Nat.sub_zero, true_and, and_true, false_and, and_false, true_or, or_true, false_or, or_false, reduceCtorEq, ↓reduceIte, List.getD_cons_zero, List.getD_cons_succ, List.length_cons, List.length_nil, ct_i, ct_r, ct_l, ct_f, ct_n, false_implies, true_implies, bN_0, nI_1]
        refine ⟨fun c2 => ?_, fun c2 => ?_⟩
        · rw [cnB_f c2] at fin; rw [Int32.add_zero]; exact fin
        · rw [cnB_t (btr c2)] at fin; exact fin
  refine hZ 400 [6, 32] _ _ _ _ _ _ _ ?_
  simp -implicitDefEqProofs (disch := omega) only [wp_step xX11_lengthsOf_0, wp_step xX11_lengthsOf_1, wp_step xX11_lengthsOf_3, wp_step xX11_lengthsOf_4, ↓e_getf iX11_lengthsOf f11_55, ↓e_virt iX11_lengthsOf l11_436 iX11_canBe, iX11_lengthsOf, exec1, ↓p1_e, ↓p2_e, ↓q1_e, ↓q2_e, ↓qi_e, ↓pr_e, ↓pa_e, ↓pa_f, ↓pst_e, ↓qst_e, ↓rst_e, ↓pac_e, ↓pargs_0, ↓pargs_s, ↓gfld_0, ↓gfld_1, ↓gfld_2, ↓gfld_3, ↓pfld_i, ↓pfld_l, ↓pfld_r, ↓sfld_i, ↓sfld_l, ↓sfld_r, brI, pushv, rcv, lget, lset, lset2, isL, rok, szs, List.elem_nil, List.elem_cons, cond_true, cond_false, Option.map_some, beq_self_eq_true, Bool.true_and, Bool.and_true, Bool.false_and, Bool.and_false, Bool.or_false, Bool.false_or, Bool.or_true, Bool.true_or, Nat.reduceAdd, Nat.reduceSub, Nat.reduceMul, Nat.reduceBEq, Nat.reduceEqDiff, Nat.reduceLeDiff, Nat.sub_zero, true_and, and_true, false_and, and_false, true_or, or_true, false_or, or_false, reduceCtorEq, ↓reduceIte, List.getD_cons_zero, List.getD_cons_succ, List.length_cons, List.length_nil, ct_i, ct_r, ct_l, ct_f, ct_n, false_implies, true_implies]
  exact loop 0 (by omega) μ Fr.rf
end MWA
