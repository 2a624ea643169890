/-- ints alone -/
def Fi (P : Nat → Nat → Prop) (μ μ' : Mem) : Prop := ∀ a j, ¬ P a j → gi μ' a j = gi μ a j
theorem Fi.rf {P : Nat → Nat → Prop} {μ : Mem} : Fi P μ μ := fun _ _ _ => rfl
theorem Fi.trans {P : Nat → Nat → Prop} {μ μ1 μ2 : Mem} (h : Fi P μ μ1) (q : Fi P μ1 μ2) : Fi P μ μ2 := fun a j n => (q a j n).trans (h a j n)
theorem Fi.mono {P P' : Nat → Nat → Prop} {μ μ' : Mem} (h : Fi P μ μ') (q : ∀ a j, P a j → P' a j) : Fi P' μ μ' := fun a j n => h a j (fun z => n (q a j z))
theorem Fi.of {P : Nat → Nat → Prop} {μ μ' : Mem} (h : Fr P μ μ') : Fi P μ μ' := h.1
theorem Fi.si {P : Nat → Nat → Prop} {μ μ' : Mem} {a k : Nat} {x : Int32} (h : Fi P μ μ') (q : P a k) : Fi P μ (si μ' a k x) := fun b j n => by
  by_cases e : b = a
  · subst e
    by_cases e2 : j = k
    · subst e2; exact absurd q n
    · rw [gi_si_k e2]; exact h b j n
  · rw [gi_si_a e]; exact h b j n
theorem Fi.sl {P : Nat → Nat → Prop} {μ μ' : Mem} {a k : Nat} {x : Int64} (h : Fi P μ μ') : Fi P μ (sl μ' a k x) := fun b j n => (gi_sl).trans (h b j n)
theorem Inv.fi {P : Nat → Nat → Prop} {μ μ' : Mem} (hI : Inv LRel μ) (h : Fi P μ μ') (hP : ∀ a j, P a j → Lo2 a j) (hN : NumI μ') (hT : TapeI μ') : Inv LRel μ' := by
  obtain ⟨i1, i2, i3, i4, i5⟩ := hI
  have e : ∀ a j, ¬ Lo2 a j → gi μ' a j = gi μ a j := fun a j z => h a j (fun w => z (hP a j w))
  refine ⟨i1.cong ?_ ?_ ?_ ?_ ?_ ?_, hN, hT, i4.cong ?_ ?_ ?_ ?_ ?_, LRel_eq _ _ ⟨?_, ?_, ?_, ?_, ?_⟩ i5⟩
  all_goals intros
  all_goals exact e _ _ (by unfold Lo2 Lo; omega)
theorem WM.fi {P : Nat → Nat → Prop} {nr nb sz n : Nat} {μ μ' : Mem} (h : Fi P μ μ') (hP : ∀ a j, P a j → Lo2 a j) (q : WM μ nr nb sz n) : WM μ' nr nb sz n := by
  have e : ∀ a j, ¬ Lo2 a j → gi μ' a j = gi μ a j := fun a j z => h a j (fun w => z (hP a j w))
  obtain ⟨q1, q2, q3, q4, q5, q6⟩ := q
  refine ⟨(e _ _ (by unfold Lo2 Lo; omega)).trans q1, (e _ _ (by unfold Lo2 Lo; omega)).trans q2, q3.cong (fun f hf => funext (fun j => e _ _ (by unfold Lo2 Lo; omega))), (e _ _ (by unfold Lo2 Lo; omega)).trans q4, q5, fun k hk => (q6 k hk).cong (fun f hf => funext (fun j => e _ _ (by unfold Lo2 Lo; omega))) (fun f hf => funext (fun j => e _ _ (by unfold Lo2 Lo; omega)))⟩
theorem WGM_fi {P : Nat → Nat → Prop} {μ μ' : Mem} {nr nb sz n : Nat} {w : Int32} (h : Fi P μ μ') (hP : ∀ a j, P a j → Lo2 a j) : WGM μ' nr nb sz n w = WGM μ nr nb sz n w := by
  have e : ∀ a j, ¬ Lo2 a j → gi μ' a j = gi μ a j := fun a j z => h a j (fun w => z (hP a j w))
  exact WG_fr (lawV_fr (fun f hf => funext (fun j => e _ _ (by unfold Lo2 Lo; omega)))) (fun f hf => funext (fun j => e _ _ (by unfold Lo2 Lo; omega)))
theorem picM_fi {P : Nat → Nat → Prop} {μ μ' : Mem} {nr nb sz n : Nat} {w : Int32} (h : Fi P μ μ') (hP : ∀ a j, P a j → Lo2 a j) : picM μ' nr nb sz n w = picM μ nr nb sz n w := by
  have e : ∀ a j, ¬ Lo2 a j → gi μ' a j = gi μ a j := fun a j z => h a j (fun w => z (hP a j w))
  unfold picM
  refine picL_cong (fun r hr => ?_) (fun r hr _ => ?_)
  · show (!decide (gi μ' 149 r = 0)) = !decide (gi μ 149 r = 0)
    rw [e 149 r (by unfold Lo2 Lo; omega)]
  · rw [WGM_fi h hP, e 148 r (by unfold Lo2 Lo; omega)]
theorem knM_fi {P : Nat → Nat → Prop} {μ μ1 : Mem} {i j : Nat} {m : Int32} (h : Fi P μ μ1) (hP : ∀ a j, P a j → Lo2 a j) (hij : i ≠ j) : Fi Lo2 (knM μ i j m) (knM μ1 i j m) := fun a x z => by
  have e : ∀ a j, ¬ Lo2 a j → gi μ1 a j = gi μ a j := fun a j z => h a j (fun w => z (hP a j w))
  by_cases q : a = 153
  · subst q
    rw [knM_7 hij, knM_7 hij, e 153 _ (by unfold Lo2 Lo; omega), e 153 _ (by unfold Lo2 Lo; omega), e 153 _ (by unfold Lo2 Lo; omega)]
  · rw [knM_o q, knM_o q]; exact e a x z
section MFR
variable {G : Gx} {d v : Nat} {μ : Mem} {bc bs : Nat} {Q : Option Value → List Sh → Mem → Nat → Nat → Prop}
theorem pK_Lo2 : ∀ a j, pK a j → Lo2 a j := fun a j z => Or.inl (pK_Lo a j z)
def pKw (a j : Nat) : Prop := pK a j ∨ a = 144 ∧ j = 4
theorem pKw_Lo2 : ∀ a j, pKw a j → Lo2 a j := fun a j z => by unfold pKw pK pN at z; unfold Lo2 Lo; omega
set_option maxRecDepth 100000 in
set_option maxHeartbeats 1000000 in
theorem k_mByteAt {k : Nat} (hk : k < 220) (h : Q (some (.int (gi μ 145 k &&& 255))) (LAY v) μ bc bs) : KC G d mX11_byteAt [.ref 144, .int (nI k)] (LAY v) μ bc bs Q := by
  have hv : vp_in (nI k) 220 := vin (by omega) (by omega)
  refine KC_intro 0 0 kX11_byteAt (by decide) (by decide) (Nat.zero_le _) (Nat.zero_le _) (Nat.le_of_ble_eq_true rfl) (fun Z hZ => ?_)
  show Z 0 [some (.ref 144), some (.int (nI k))] [] (LAY v) μ 0 0
  refine hZ 400 [] _ _ _ _ _ _ _ ?_
  simp -implicitDefEqProofs (disch := omega) only [wp_step xX11_byteAt_0, wp_step xX11_byteAt_1, wp_step xX11_byteAt_4, wp_step xX11_byteAt_5, wp_step xX11_byteAt_6, wp_step xX11_byteAt_9, wp_step xX11_byteAt_10, ↓e_getf iX11_byteAt f11_7, iX11_byteAt, exec1, ↓p1_e, ↓p2_e, ↓q1_e, ↓q2_e, ↓qi_e, ↓pr_e, ↓pa_e, ↓pa_f, ↓pst_e, ↓qst_e, ↓rst_e, ↓pac_e, ↓pargs_0, ↓pargs_s, ↓gfld_0, ↓gfld_1, ↓gfld_2, ↓gfld_3, ↓pfld_i, ↓pfld_l, ↓pfld_r, ↓sfld_i, ↓sfld_l, ↓sfld_r, brI, pushv, rcv, lget, lset, lset2, isL, rok, szs, List.elem_nil, List.elem_cons, cond_true, cond_false, Option.map_some, beq_self_eq_true, Bool.true_and, Bool.and_true, Bool.false_and, Bool.and_false, Bool.or_false, Bool.false_or, Bool.or_true, Bool.true_or, Nat.reduceAdd, Nat.reduceSub, Nat.reduceMul, Nat.reduceBEq, Nat.reduceEqDiff, Nat.reduceLeDiff, Nat.sub_zero, true_and, and_true, false_and, and_false, true_or, or_true, false_or, or_false, reduceCtorEq, ↓reduceIte, List.getD_cons_zero, List.getD_cons_succ, List.length_cons, List.length_nil, ct_i, ct_r, ct_l, ct_f, ct_n, false_implies, true_implies, y144, y145, hv, nI_clamp]
  exact h
set_option maxRecDepth 100000 in
set_option maxHeartbeats 1000000 in
theorem k_mIsUnseen {told nr nb sz n : Nat} (hd : 7 ≤ d) (hW : WM μ nr nb sz n) (ht : told ≤ 6) (h : ∀ μ', Fr pK μ μ' → Q (some (.int (bN (!anB (fun e => !decide (picM μ nr nb sz n (gi μ 187 e - 9) = gl μ 188 e)) told)))) (LAY v) μ' bc bs) : KC G d mX11_isUnseen [.ref 144, .int (nI told)] (LAY v) μ bc bs Q := by
  obtain ⟨p, hp⟩ : ∃ p : Nat → Bool, p = fun e => !decide (picM μ nr nb sz n (gi μ 187 e - 9) = gl μ 188 e) := ⟨_, rfl⟩
  rw [← hp] at h
  have pe : ∀ e, p e = !decide (picM μ nr nb sz n (gi μ 187 e - 9) = gl μ 188 e) := fun e => by rw [hp]
  refine KC_intro 0 0 kX11_isUnseen (by decide) (by decide) (Nat.zero_le _) (Nat.zero_le _) (Nat.le_of_ble_eq_true rfl) (fun Z hZ => ?_)
  show Z 0 [some (.ref 144), some (.int (nI told)), none, none, none] [] (LAY v) μ 0 0
  have out : ∀ μ1 e, e ≤ told → Fr pKw μ μ1 → (e = told ∨ anB p e = true) → Z 61 [some (.ref 144), some (.int (nI told)), some (.int (gi μ 144 4)), some (.int (bN (!anB p e))), some (.int (nI e))] [] (LAY v) μ1 0 0 := fun μ1 e he hF c => by
    refine hZ 400 [10, 38] _ _ _ _ _ _ _ ?_
    simp -implicitDefEqProofs (disch := omega) only [wp_step xX11_isUnseen_61, wp_step xX11_isUnseen_62, wp_step xX11_isUnseen_63, wp_step xX11_isUnseen_66, wp_step xX11_isUnseen_67, ↓e_getf iX11_isUnseen f11_234, ↓e_getf iX11_isUnseen f11_146, ↓e_putf iX11_isUnseen f11_234, ↓e_virt iX11_isUnseen l11_432 iX11_picture, ↓e_getf iX11_isUnseen f11_149, iX11_isUnseen, exec1, ↓p1_e, ↓p2_e, ↓q1_e, ↓q2_e, ↓qi_e, ↓pr_e, ↓pa_e, ↓pa_f, ↓pst_e, ↓qst_e, ↓rst_e, ↓pac_e, ↓pargs_0, ↓pargs_s, ↓gfld_0, ↓gfld_1, ↓gfld_2, ↓gfld_3, ↓pfld_i, ↓pfld_l, ↓pfld_r, ↓sfld_i, ↓sfld_l, ↓sfld_r, brI, pushv, rcv, lget, lset, lset2, isL, rok, szs, List.elem_nil, List.elem_cons, cond_true, cond_false, Option.map_some, beq_self_eq_true, Bool.true_and, Bool.and_true, Bool.false_and, Bool.and_false, Bool.or_false, Bool.false_or, Bool.or_true, Bool.true_or, Nat.reduceAdd, Nat.reduceSub, Nat.reduceMul, Nat.reduceBEq, Nat.reduceEqDiff, Nat.reduceLeDiff, Nat.sub_zero, true_and, and_true, false_and, and_false, true_or, or_true, false_or, or_false, reduceCtorEq, ↓reduceIte, List.getD_cons_zero, List.getD_cons_succ, List.length_cons, List.length_nil, ct_i, ct_r, ct_l, ct_f, ct_n, false_implies, true_implies, y144, bN_01]
    have e1 : anB p e = anB p told := by
      rcases c with c | c
      · rw [c]
      · rw [c, anB_mono he c]
    rw [e1]
    refine h _ ⟨fun a j z => ?_, fun a j => ?_⟩
    · by_cases q : a = 144 ∧ j = 4
      · obtain ⟨rfl, rfl⟩ := q; rw [gi_si]
      · have : ¬ pKw a j := fun y => by rcases y with y | y; exact z y; exact q y
        by_cases q1 : a = 144
        · rw [gi_si_k (by omega)]; exact hF.1 a j this
        · rw [gi_si_a q1]; exact hF.1 a j this
    · rw [gl_si]; exact hF.2 a j
  have loop : ∀ e, e ≤ told → (∀ μ1, Fr pKw μ μ1 → Z 10 [some (.ref 144), some (.int (nI told)), some (.int (gi μ 144 4)), some (.int (bN (!anB p e))), some (.int (nI e))] [] (LAY v) μ1 0 0) := by
    refine loopN told (fun μ1 hF => ?_) (fun e he ih μ1 hF => ?_)
    · refine hZ 400 [61] _ _ _ _ _ _ _ ?_
      simp -implicitDefEqProofs (disch := omega) only [wp_step xX11_isUnseen_10, wp_step xX11_isUnseen_12, wp_step xX11_isUnseen_13, ↓e_getf iX11_isUnseen f11_234, ↓e_getf iX11_isUnseen f11_146, ↓e_putf iX11_isUnseen f11_234, ↓e_virt iX11_isUnseen l11_432 iX11_picture, ↓e_getf iX11_isUnseen f11_149, iX11_isUnseen, exec1, ↓p1_e, ↓p2_e, ↓q1_e, ↓q2_e, ↓qi_e, ↓pr_e, ↓pa_e, ↓pa_f, ↓pst_e, ↓qst_e, ↓rst_e, ↓pac_e, ↓pargs_0, ↓pargs_s, ↓gfld_0, ↓gfld_1, ↓gfld_2, ↓gfld_3, ↓pfld_i, ↓pfld_l, ↓pfld_r, ↓sfld_i, ↓sfld_l, ↓sfld_r, brI, pushv, rcv, lget, lset, lset2, isL, rok, szs, List.elem_nil, List.elem_cons, cond_true, cond_false, Option.map_some, beq_self_eq_true, Bool.true_and, Bool.and_true, Bool.false_and, Bool.and_false, Bool.or_false, Bool.false_or, Bool.or_true, Bool.true_or, Nat.reduceAdd, Nat.reduceSub, Nat.reduceMul, Nat.reduceBEq, Nat.reduceEqDiff, Nat.reduceLeDiff, Nat.sub_zero, true_and, and_true, false_and, and_false, true_or, or_true, false_or, or_false, reduceCtorEq, ↓reduceIte, List.getD_cons_zero, List.getD_cons_succ, List.length_cons, List.length_nil, ct_i, ct_r, ct_l, ct_f, ct_n, false_implies, true_implies, nle_t (show told < 2 ^ 31 by omega), not_false_eq_true, true_implies, false_implies, and_true, true_and, not_true_eq_false]
      exact out μ1 told (Nat.le_refl _) hF (Or.inl rfl)
    · cases q : anB p e with
      | true =>
        have := out μ1 e (by omega) hF (Or.inr q)
        rw [q] at this
        refine hZ 400 [61] _ _ _ _ _ _ _ ?_
        simp -implicitDefEqProofs (disch := omega) only [wp_step xX11_isUnseen_10, wp_step xX11_isUnseen_12, wp_step xX11_isUnseen_13, wp_step xX11_isUnseen_16, wp_step xX11_isUnseen_17, ↓e_getf iX11_isUnseen f11_234, ↓e_getf iX11_isUnseen f11_146, ↓e_putf iX11_isUnseen f11_234, ↓e_virt iX11_isUnseen l11_432 iX11_picture, ↓e_getf iX11_isUnseen f11_149, iX11_isUnseen, exec1, ↓p1_e, ↓p2_e, ↓q1_e, ↓q2_e, ↓qi_e, ↓pr_e, ↓pa_e, ↓pa_f, ↓pst_e, ↓qst_e, ↓rst_e, ↓pac_e, ↓pargs_0, ↓pargs_s, ↓gfld_0, ↓gfld_1, ↓gfld_2, ↓gfld_3, ↓pfld_i, ↓pfld_l, ↓pfld_r, ↓sfld_i, ↓sfld_l, ↓sfld_r, brI, pushv, rcv, lget, lset, lset2, isL, rok, szs, List.elem_nil, List.elem_cons, cond_true, cond_false, Option.map_some, beq_self_eq_true, Bool.true_and, Bool.and_true, Bool.false_and, Bool.and_false, Bool.or_false, Bool.false_or, Bool.or_true, Bool.true_or, Nat.reduceAdd, Nat.reduceSub, Nat.reduceMul, Nat.reduceBEq, Nat.reduceEqDiff, Nat.reduceLeDiff, Nat.sub_zero, true_and, and_true, false_and, and_false, true_or, or_true, false_or, or_false, reduceCtorEq, ↓reduceIte, List.getD_cons_zero, List.getD_cons_succ, List.length_cons, List.length_nil, ct_i, ct_r, ct_l, ct_f, ct_n, false_implies, true_implies, nle_f he (show told < 2 ^ 31 by omega), bN_0, Bool.not_true, not_false_eq_true, true_implies, false_implies, and_true, true_and, not_true_eq_false]
        exact this
      | false =>
        have hv : vp_in (nI e) 6 := vin (by omega) (by omega)
        have g1 : gi μ1 187 e = gi μ 187 e := hF.1 _ _ (by unfold pKw pK pN; omega)
        have hF1 : Fr pKw μ (si μ1 144 4 (gi μ 187 e - 9)) := hF.si (Or.inr ⟨rfl, rfl⟩)
        refine hZ 400 [10, 38] _ _ _ _ _ _ _ ?_
        simp -implicitDefEqProofs (disch := omega) only [wp_step xX11_isUnseen_10, wp_step xX11_isUnseen_12, wp_step xX11_isUnseen_13, wp_step xX11_isUnseen_16, wp_step xX11_isUnseen_17, wp_step xX11_isUnseen_20, wp_step xX11_isUnseen_21, wp_step xX11_isUnseen_22, wp_step xX11_isUnseen_25, wp_step xX11_isUnseen_27, wp_step xX11_isUnseen_28, wp_step xX11_isUnseen_30, wp_step xX11_isUnseen_31, wp_step xX11_isUnseen_34, wp_step xX11_isUnseen_35, ↓e_getf iX11_isUnseen f11_234, ↓e_getf iX11_isUnseen f11_146, ↓e_putf iX11_isUnseen f11_234, ↓e_virt iX11_isUnseen l11_432 iX11_picture, ↓e_getf iX11_isUnseen f11_149, iX11_isUnseen, exec1, ↓p1_e, ↓p2_e, ↓q1_e, ↓q2_e, ↓qi_e, ↓pr_e, ↓pa_e, ↓pa_f, ↓pst_e, ↓qst_e, ↓rst_e, ↓pac_e, ↓pargs_0, ↓pargs_s, ↓gfld_0, ↓gfld_1, ↓gfld_2, ↓gfld_3, ↓pfld_i, ↓pfld_l, ↓pfld_r, ↓sfld_i, ↓sfld_l, ↓sfld_r, brI, pushv, rcv, lget, lset, lset2, isL, rok, szs, List.elem_nil, List.elem_cons, cond_true, cond_false, Option.map_some, beq_self_eq_true, Bool.true_and, Bool.and_true, Bool.false_and, Bool.and_false, Bool.or_false, Bool.false_or, Bool.or_true, Bool.true_or, Nat.reduceAdd, Nat.reduceSub, Nat.reduceMul, Nat.reduceBEq, Nat.reduceEqDiff, Nat.reduceLeDiff, Nat.sub_zero, true_and, and_true, false_and, and_false, true_or, or_true, false_or, or_false, reduceCtorEq, ↓reduceIte, List.getD_cons_zero, List.getD_cons_succ, List.length_cons, List.length_nil, ct_i, ct_r, ct_l, ct_f, ct_n, false_implies, true_implies, y144, y186, y187, y188, nle_f he (show told < 2 ^ 31 by omega), bN_0, Bool.not_false, show ¬ true = false by decide, hv, nI_clamp, g1, not_false_eq_true, true_implies, false_implies, and_true, true_and, not_true_eq_false]
        refine ⟨by omega, k_mPicture (by omega) (hW.fr2 hF1 pKw_Lo2) (fun μ2 hF2 => ?_)⟩
        have hG2 : Fr pKw μ μ2 := hF1.trans (hF2.mono (fun a j z => Or.inl z))
        have ep : picM (si μ1 144 4 (gi μ 187 e - 9)) nr nb sz n (gi (si μ1 144 4 (gi μ 187 e - 9)) 144 4) = picM μ nr nb sz n (gi μ 187 e - 9) := by rw [gi_si, picM_fi (Fi.of hF1) pKw_Lo2]
        rw [ep]
        have el : gl μ2 188 e = gl μ 188 e := hG2.2 _ _
        have fin := ih μ2 hG2
        rw [anB, q, Bool.false_or, pe] at fin
        refine hZ 400 [10, 38] _ _ _ _ _ _ _ ?_
        simp -implicitDefEqProofs (disch := omega) only [wp_step xX11_isUnseen_38, wp_step xX11_isUnseen_39, wp_step xX11_isUnseen_42, wp_step xX11_isUnseen_44, wp_step xX11_isUnseen_45, wp_step xX11_isUnseen_46, wp_step xX11_isUnseen_49, wp_step xX11_isUnseen_50, wp_step xX11_isUnseen_53, wp_step xX11_isUnseen_54, wp_step xX11_isUnseen_55, wp_step xX11_isUnseen_58, ↓e_getf iX11_isUnseen f11_234, ↓e_getf iX11_isUnseen f11_146, ↓e_putf iX11_isUnseen f11_234, ↓e_virt iX11_isUnseen l11_432 iX11_picture, ↓e_getf iX11_isUnseen f11_149, iX11_isUnseen, exec1, ↓p1_e, ↓p2_e, ↓q1_e, ↓q2_e, ↓qi_e, ↓pr_e, ↓pa_e, ↓pa_f, ↓pst_e, ↓qst_e, ↓rst_e, ↓pac_e, ↓pargs_0, ↓pargs_s, ↓gfld_0, ↓gfld_1, ↓gfld_2, ↓gfld_3, ↓pfld_i, ↓pfld_l, ↓pfld_r, ↓sfld_i, ↓sfld_l, ↓sfld_r, brI, pushv, rcv, lget, lset, lset2, isL, rok, szs, List.elem_nil, List.elem_cons, cond_true, cond_false, Option.map_some, beq_self_eq_true, Bool.true_and, Bool.and_true, Bool.false_and, Bool.and_false, Bool.or_false, Bool.false_or, Bool.or_true, Bool.true_or, Nat.reduceAdd, Nat.reduceSub, Nat.reduceMul, Nat.reduceBEq, Nat.reduceEqDiff, Nat.reduceLeDiff, Nat.sub_zero, true_and, and_true, false_and, and_false, true_or, or_true, false_or, or_false, reduceCtorEq, ↓reduceIte, List.getD_cons_zero, List.getD_cons_succ, List.length_cons, List.length_nil, ct_i, ct_r, ct_l, ct_f, ct_n, false_implies, true_implies, y144, y186, y187, y188, hv, nI_clamp, el, lgc_eq, nI_1]
        refine ⟨fun c => ?_, fun c => ?_⟩
        · rw [decide_eq_false c] at fin; exact fin
        · rw [decide_eq_true c] at fin; exact fin
  refine hZ 400 [10, 38] _ _ _ _ _ _ _ ?_
  simp -implicitDefEqProofs (disch := omega) only [wp_step xX11_isUnseen_0, wp_step xX11_isUnseen_1, wp_step xX11_isUnseen_4, wp_step xX11_isUnseen_5, wp_step xX11_isUnseen_6, wp_step xX11_isUnseen_7, wp_step xX11_isUnseen_8, ↓e_getf iX11_isUnseen f11_234, ↓e_getf iX11_isUnseen f11_146, ↓e_putf iX11_isUnseen f11_234, ↓e_virt iX11_isUnseen l11_432 iX11_picture, ↓e_getf iX11_isUnseen f11_149, iX11_isUnseen, exec1, ↓p1_e, ↓p2_e, ↓q1_e, ↓q2_e, ↓qi_e, ↓pr_e, ↓pa_e, ↓pa_f, ↓pst_e, ↓qst_e, ↓rst_e, ↓pac_e, ↓pargs_0, ↓pargs_s, ↓gfld_0, ↓gfld_1, ↓gfld_2, ↓gfld_3, ↓pfld_i, ↓pfld_l, ↓pfld_r, ↓sfld_i, ↓sfld_l, ↓sfld_r, brI, pushv, rcv, lget, lset, lset2, isL, rok, szs, List.elem_nil, List.elem_cons, cond_true, cond_false, Option.map_some, beq_self_eq_true, Bool.true_and, Bool.and_true, Bool.false_and, Bool.and_false, Bool.or_false, Bool.false_or, Bool.or_true, Bool.true_or, Nat.reduceAdd, Nat.reduceSub, Nat.reduceMul, Nat.reduceBEq, Nat.reduceEqDiff, Nat.reduceLeDiff, Nat.sub_zero, true_and, and_true, false_and, and_false, true_or, or_true, false_or, or_false, reduceCtorEq, ↓reduceIte, List.getD_cons_zero, List.getD_cons_succ, List.length_cons, List.length_nil, ct_i, ct_r, ct_l, ct_f, ct_n, false_implies, true_implies, y144]
  exact loop 0 (by omega) μ Fr.rf
set_option maxRecDepth 100000 in
set_option maxHeartbeats 1000000 in
theorem k_mIsFraud {i j k told nr nb sz n : Nat} {a b : Int32} (hd : 8 ≤ d) (hW : WM μ nr nb sz n) (ht : told ≤ 6) (hi : i < nb) (hj : j < nb) (hk : k ≤ 98) (hab : a ≠ b) (ci : cutB (fun f => gi μ (146 + f)) i a (nI k) = true) (cj : knB (fun f => gi μ (146 + f)) j b (nI k) = true) (h : ∀ μ', Fr pK μ μ' → Q (some (.int (bN (!anB (fun e => !decide (picM (knM μ i j (nI k)) nr nb sz n (gi μ 187 e - 9) = gl μ 188 e)) told)))) (LAY v) μ' bc bs) : KC G d mX11_isFraud [.ref 144, .int (nI i), .int (nI j), .int (nI k), .int (nI told)] (LAY v) μ bc bs Q := by
  have w5 := hW.2.2.1.1.2.2
  have hij := cut_ne hab ci cj
  refine KC_intro 0 0 kX11_isFraud (by decide) (by decide) (Nat.zero_le _) (Nat.zero_le _) (Nat.le_of_ble_eq_true rfl) (fun Z hZ => ?_)
  show Z 0 [some (.ref 144), some (.int (nI i)), some (.int (nI j)), some (.int (nI k)), some (.int (nI told)), none] [] (LAY v) μ 0 0
  refine hZ 400 [7, 13, 23] _ _ _ _ _ _ _ ?_
  simp -implicitDefEqProofs (disch := omega) only [wp_step xX11_isFraud_0, wp_step xX11_isFraud_1, wp_step xX11_isFraud_2, wp_step xX11_isFraud_3, wp_step xX11_isFraud_4, ↓e_virt iX11_isFraud l11_394 iX11_knots, ↓e_virt iX11_isFraud l11_463 iX11_isUnseen, iX11_isFraud, exec1, ↓p1_e, ↓p2_e, ↓q1_e, ↓q2_e, ↓qi_e, ↓pr_e, ↓pa_e, ↓pa_f, ↓pst_e, ↓qst_e, ↓rst_e, ↓pac_e, ↓pargs_0, ↓pargs_s, ↓gfld_0, ↓gfld_1, ↓gfld_2, ↓gfld_3, ↓pfld_i, ↓pfld_l, ↓pfld_r, ↓sfld_i, ↓sfld_l, ↓sfld_r, brI, pushv, rcv, lget, lset, lset2, isL, rok, szs, List.elem_nil, List.elem_cons, cond_true, cond_false, Option.map_some, beq_self_eq_true, Bool.true_and, Bool.and_true, Bool.false_and, Bool.and_false, Bool.or_false, Bool.false_or, Bool.or_true, Bool.true_or, Nat.reduceAdd, Nat.reduceSub, Nat.reduceMul, Nat.reduceBEq, Nat.reduceEqDiff, Nat.reduceLeDiff, Nat.sub_zero, true_and, and_true, false_and, and_false, true_or, or_true, false_or, or_false, reduceCtorEq, ↓reduceIte, List.getD_cons_zero, List.getD_cons_succ, List.length_cons, List.length_nil, ct_i, ct_r, ct_l, ct_f, ct_n, false_implies, true_implies, y144]
  refine ⟨by omega, k_mKnots (by omega) (by omega) hij ?_⟩
  refine hZ 400 [7, 13, 23] _ _ _ _ _ _ _ ?_
  simp -implicitDefEqProofs (disch := omega) only [wp_step xX11_isFraud_7, wp_step xX11_isFraud_8, wp_step xX11_isFraud_10, ↓e_virt iX11_isFraud l11_394 iX11_knots, ↓e_virt iX11_isFraud l11_463 iX11_isUnseen, iX11_isFraud, exec1, ↓p1_e, ↓p2_e, ↓q1_e, ↓q2_e, ↓qi_e, ↓pr_e, ↓pa_e, ↓pa_f, ↓pst_e, ↓qst_e, ↓rst_e, ↓pac_e, ↓pargs_0, ↓pargs_s, ↓gfld_0, ↓gfld_1, ↓gfld_2, ↓gfld_3, ↓pfld_i, ↓pfld_l, ↓pfld_r, ↓sfld_i, ↓sfld_l, ↓sfld_r, brI, pushv, rcv, lget, lset, lset2, isL, rok, szs, List.elem_nil, List.elem_cons, cond_true, cond_false, Option.map_some, beq_self_eq_true, Bool.true_and, Bool.and_true, Bool.false_and, Bool.and_false, Bool.or_false, Bool.false_or, Bool.or_true, Bool.true_or, Nat.reduceAdd, Nat.reduceSub, Nat.reduceMul, Nat.reduceBEq, Nat.reduceEqDiff, Nat.reduceLeDiff, Nat.sub_zero, true_and, and_true, false_and, and_false, true_or, or_true, false_or, or_false, reduceCtorEq, ↓reduceIte, List.getD_cons_zero, List.getD_cons_succ, List.length_cons, List.length_nil, ct_i, ct_r, ct_l, ct_f, ct_n, false_implies, true_implies, y144]
  refine ⟨by omega, k_mIsUnseen (by omega) (hW.kn hi hj hk hab ci cj) ht (fun μ1 hF => ?_)⟩
  have eA : (fun e => !decide (picM (knM μ i j (nI k)) nr nb sz n (gi (knM μ i j (nI k)) 187 e - 9) = gl (knM μ i j (nI k)) 188 e)) = fun e => !decide (picM (knM μ i j (nI k)) nr nb sz n (gi μ 187 e - 9) = gl μ 188 e) := by
    funext e
    rw [knM_o (by omega), (knM_F (μ := μ) (i := i) (j := j) (m := nI k)).2]
  rw [eA]
  refine hZ 400 [7, 13, 23] _ _ _ _ _ _ _ ?_
  simp -implicitDefEqProofs (disch := omega) only [wp_step xX11_isFraud_13, wp_step xX11_isFraud_15, wp_step xX11_isFraud_16, wp_step xX11_isFraud_17, wp_step xX11_isFraud_18, wp_step xX11_isFraud_19, wp_step xX11_isFraud_20, ↓e_virt iX11_isFraud l11_394 iX11_knots, ↓e_virt iX11_isFraud l11_463 iX11_isUnseen, iX11_isFraud, exec1, ↓p1_e, ↓p2_e, ↓q1_e, ↓q2_e, ↓qi_e, ↓pr_e, ↓pa_e, ↓pa_f, ↓pst_e, ↓qst_e, ↓rst_e, ↓pac_e, ↓pargs_0, ↓pargs_s, ↓gfld_0, ↓gfld_1, ↓gfld_2, ↓gfld_3, ↓pfld_i, ↓pfld_l, ↓pfld_r, ↓sfld_i, ↓sfld_l, ↓sfld_r, brI, pushv, rcv, lget, lset, lset2, isL, rok, szs, List.elem_nil, List.elem_cons, cond_true, cond_false, Option.map_some, beq_self_eq_true, Bool.true_and, Bool.and_true, Bool.false_and, Bool.and_false, Bool.or_false, Bool.false_or, Bool.or_true, Bool.true_or, Nat.reduceAdd, Nat.reduceSub, Nat.reduceMul, Nat.reduceBEq, Nat.reduceEqDiff, Nat.reduceLeDiff, Nat.sub_zero, true_and, and_true, false_and, and_false, true_or, or_true, false_or, or_false, reduceCtorEq, ↓reduceIte, List.getD_cons_zero, List.getD_cons_succ, List.length_cons, List.length_nil, ct_i, ct_r, ct_l, ct_f, ct_n, false_implies, true_implies, y144]
  refine ⟨by omega, k_mKnots (by omega) (by omega) hij ?_⟩
  refine hZ 400 [7, 13, 23] _ _ _ _ _ _ _ ?_
  simp -implicitDefEqProofs (disch := omega) only [wp_step xX11_isFraud_23, wp_step xX11_isFraud_25, ↓e_virt iX11_isFraud l11_394 iX11_knots, ↓e_virt iX11_isFraud l11_463 iX11_isUnseen, iX11_isFraud, exec1, ↓p1_e, ↓p2_e, ↓q1_e, ↓q2_e, ↓qi_e, ↓pr_e, ↓pa_e, ↓pa_f, ↓pst_e, ↓qst_e, ↓rst_e, ↓pac_e, ↓pargs_0, ↓pargs_s, ↓gfld_0, ↓gfld_1, ↓gfld_2, ↓gfld_3, ↓pfld_i, ↓pfld_l, ↓pfld_r, ↓sfld_i, ↓sfld_l, ↓sfld_r, brI, pushv, rcv, lget, lset, lset2, isL, rok, szs, List.elem_nil, List.elem_cons, cond_true, cond_false, Option.map_some, beq_self_eq_true, Bool.true_and, Bool.and_true, Bool.false_and, Bool.and_false, Bool.or_false, Bool.false_or, Bool.or_true, Bool.true_or, Nat.reduceAdd, Nat.reduceSub, Nat.reduceMul, Nat.reduceBEq, Nat.reduceEqDiff, Nat.reduceLeDiff, Nat.sub_zero, true_and, and_true, false_and, and_false, true_or, or_true, false_or, or_false, reduceCtorEq, ↓reduceIte, List.getD_cons_zero, List.getD_cons_succ, List.length_cons, List.length_nil, ct_i, ct_r, ct_l, ct_f, ct_n, false_implies, true_implies, bN_01]
  have g7 : ∀ k', gi μ1 153 k' = if k' = j then gi μ 153 j + nI k else if k' = i then gi μ 153 i - nI k else gi μ 153 k' := fun k' => (hF.1 153 k' (by unfold pK pN; omega)).trans (knM_7 hij)
  refine h _ ⟨fun a x z => ?_, fun a x => ?_⟩
  · by_cases q : a = 153
    · subst q
      rw [knM_7 hij, g7, g7, g7, if_pos rfl, if_neg hij, if_pos rfl]
      by_cases q1 : x = j
      · subst q1; rw [if_pos rfl]; grind
      · rw [if_neg q1]
        by_cases q2 : x = i
        · subst q2; rw [if_pos rfl]; grind
        · rw [if_neg q2, if_neg q1, if_neg q2]
    · rw [knM_o q]; exact (hF.1 a x z).trans (knM_o q)
  · rw [(knM_F (m := -nI k)).2 a x, hF.2 a x]; exact (knM_F (m := nI k)).2 a x
end MFR
