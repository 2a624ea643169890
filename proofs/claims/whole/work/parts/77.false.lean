section FAL
variable {G : Gx} {d v : Nat} {μ : Mem} {bc bs : Nat} {Q : Option Value → List Sh → Mem → Nat → Nat → Prop} {nr nb sz n : Nat}
def guB (μ : Mem) (k : Nat) : Bool := !decide (gu μ k ≤ 18)
theorem picL_lo {sn : Nat → Bool} {ln : Nat → Int32} {r : Nat} (hr : r ≤ 10) (h : ∀ x, x < r → -9 ≤ (ln x).toInt ∧ (ln x).toInt ≤ 9) : ¬ picL sn ln r < 0 := by
  rw [Int64.lt_iff_toInt_lt, picL_I hr h, show (0 : Int64).toInt = 0 from rfl]
  have := (picI_b (sn := sn) h).1
  omega
theorem tp_lo {A : Nat → Nat → Int32} {f : Nat → Int32} {r : Nat} (hr : r ≤ 10) (h : ∀ k, k < plc A r → ∃ b, b ≤ 18 ∧ f k = nI b) : ¬ tpL f (plc A r) < 0 ∧ tpL f (plc A r) = picL (snB A) (fun x => if snB A x = true then f (plc A x) - 9 else 0) r ∧ ∀ x, x < r → -9 ≤ (if snB A x = true then f (plc A x) - 9 else 0 : Int32).toInt ∧ (if snB A x = true then f (plc A x) - 9 else 0 : Int32).toInt ≤ 9 := by
  have b9 : ∀ b, b ≤ 18 → -9 ≤ (nI b - 9).toInt ∧ (nI b - 9).toInt ≤ 9 := fun b hb => by
    have e : (nI b - 9).toInt = (b : Int) - 9 := by
      rw [Int32.toInt_sub, nI_toInt (by omega), show (9 : Int32).toInt = 9 from rfl, Int.bmod_eq_of_le (by omega) (by omega)]
    rw [e]; omega
  have bd : ∀ x, x < r → -9 ≤ (if snB A x = true then f (plc A x) - 9 else 0 : Int32).toInt ∧ (if snB A x = true then f (plc A x) - 9 else 0 : Int32).toInt ≤ 9 := fun x hx => by
    by_cases c : snB A x = true
    · rw [if_pos c]
      have p1 := plc_mono (A := A) (show x + 1 ≤ r by omega)
      rw [plc, if_pos c] at p1
      obtain ⟨b, hb, e⟩ := h (plc A x) (by omega)
      rw [e]; exact b9 b hb
    · rw [if_neg c]; decide
  have e : tpL f (plc A r) = picL (snB A) (fun x => if snB A x = true then f (plc A x) - 9 else 0) r := by
    rw [tp_pic (fun k hk => by obtain ⟨b, hb, e⟩ := h k hk; exact ⟨b, by omega, e⟩)]
    exact picL_cong (fun _ _ => rfl) (fun x hx c => by rw [if_pos c])
  refine ⟨?_, e, bd⟩
  rw [e]
  exact picL_lo hr bd
theorem lbM_f3 {P : Nat → Nat → Prop} {μ1 : Mem} {t : Int64} {i : Nat} {l : Int32} (h : Fi P μ μ1) (hP : ∀ a j, P a j → Lo a j ∨ a = 144 ∧ j = 1 ∨ a = 1) : lbM μ1 nr nb sz n t i l = lbM μ nr nb sz n t i l := by
  have e : ∀ a j, ¬ (Lo a j ∨ a = 144 ∧ j = 1 ∨ a = 1) → gi μ1 a j = gi μ a j := fun a j z => h a j (fun w => z (hP a j w))
  have hF : Fi (fun a j => Lo2 a j ∨ a = 1) (si μ 153 i l) (si μ1 153 i l) := fun a x z => by
    have z' : ¬ (Lo a x ∨ a = 144 ∧ x = 1 ∨ a = 1) := fun y => z (by unfold Lo2; rcases y with y | y | y; exact Or.inl (Or.inl y); exact Or.inl (Or.inr (by omega)); exact Or.inr y)
    by_cases q : a = 153
    · subst q
      by_cases q2 : x = i
      · subst q2; rw [gi_si, gi_si]
      · rw [gi_si_k q2, gi_si_k q2]; exact e _ _ z'
    · rw [gi_si_a q, gi_si_a q]; exact e _ _ z'
  unfold lbM cbM
  have ep : picM (si μ1 153 i l) nr nb sz n (gi μ1 144 4) = picM (si μ 153 i l) nr nb sz n (gi μ1 144 4) := by
    unfold picM
    refine picL_cong (fun r hr => ?_) (fun r hr _ => ?_)
    · show (!decide (gi (si μ1 153 i l) 149 r = 0)) = !decide (gi (si μ 153 i l) 149 r = 0)
      rw [hF 149 r (by unfold Lo2 Lo; omega)]
    · have eW : WGM (si μ1 153 i l) nr nb sz n (gi μ1 144 4) = WGM (si μ 153 i l) nr nb sz n (gi μ1 144 4) := WG_fr (lawV_fr (fun f hf => funext (fun j => hF _ _ (by unfold Lo2 Lo; omega)))) (fun f hf => funext (fun j => hF _ _ (by unfold Lo2 Lo; omega)))
      rw [eW, hF 148 r (by unfold Lo2 Lo; omega)]
  rw [ep, e 157 i (by unfold Lo; omega), e 153 i (by unfold Lo; omega), e 144 4 (by unfold Lo; omega)]
set_option maxRecDepth 100000 in
set_option maxHeartbeats 1000000 in
theorem k_mFalseBy {i : Int32} {ts : Nat} (hd : 9 ≤ d) (hW : WM μ nr nb sz n) (hs : (gi μ 144 1) = nI ts) (hts : ts ≤ 220) (hn0 : anB (guB μ) (plc (fun f => gi μ (146 + f)) nr) = false → ¬ tpL (gu μ) (plc (fun f => gi μ (146 + f)) nr) < 0)
    (h0 : ¬ ((0 ≤ i ∧ i < nI nb) ∧ nI (plc (fun f => gi μ (146 + f)) nr) ≤ nI ts) → Q (some (.int (-1))) (LAY v) μ bc bs)
    (h1 : ∀ k, k < nb → i = nI k → plc (fun f => gi μ (146 + f)) nr ≤ ts → anB (guB μ) (plc (fun f => gi μ (146 + f)) nr) = true → ∀ μ', Fi pCm μ μ' → gi μ' 144 1 = 0 → Q (some (.int (-2))) (LAY v) μ' bc bs)
    (h2 : ∀ k, k < nb → i = nI k → plc (fun f => gi μ (146 + f)) nr ≤ ts → anB (guB μ) (plc (fun f => gi μ (146 + f)) nr) = false → ∀ μ', Fi pCm μ μ' → gi μ' 144 1 = 0 → Q (some (.int (cnB (fun j => lbM μ nr nb sz n (tpL (gu μ) (plc (fun f => gi μ (146 + f)) nr)) k (nI (j + 1))) 99))) (LAY v) μ' bc bs) : KC G d mX11_falseBy [.ref 144, .int i] (LAY v) μ bc bs Q := by
  obtain ⟨w1, w2, ⟨⟨w3, w4, w5⟩, w6, w7⟩, w8, w9, w10⟩ := id hW
  have pl10 := plc_le (A := fun f => gi μ (146 + f)) (r := nr)
  refine KC_intro 0 0 kX11_falseBy (by decide) (by decide) (Nat.zero_le _) (Nat.zero_le _) (Nat.le_of_ble_eq_true rfl) (fun Z hZ => ?_)
  show Z 0 [some (.ref 144), some (.int i), none, none, none] [] (LAY v) μ 0 0
  refine hZ 400 [4, 10, 33, 51] _ _ _ _ _ _ _ ?_
  simp -implicitDefEqProofs (disch := omega) only [wp_step xX11_falseBy_0, wp_step xX11_falseBy_1, ↓e_virt iX11_falseBy l11_440 iX11_seenMany, ↓e_virt iX11_falseBy l11_387 iX11_isRibbon, ↓e_getf iX11_falseBy f11_237, ↓e_putf iX11_falseBy f11_237, ↓e_virt iX11_falseBy l11_443 iX11_toldPicture, ↓e_virt iX11_falseBy l11_447 iX11_lengthsOf, iX11_falseBy, exec1, ↓p1_e, ↓p2_e, ↓q1_e, ↓q2_e, ↓qi_e, ↓pr_e, ↓pa_e, ↓pa_f, ↓pst_e, ↓qst_e, ↓rst_e, ↓pac_e, ↓pargs_0, ↓pargs_s, ↓gfld_0, ↓gfld_1, ↓gfld_2, ↓gfld_3, ↓pfld_i, ↓pfld_l, ↓pfld_r, ↓sfld_i, ↓sfld_l, ↓sfld_r, brI, pushv, rcv, lget, lset, lset2, isL, rok, szs, List.elem_nil, List.elem_cons, cond_true, cond_false, Option.map_some, beq_self_eq_true, Bool.true_and, Bool.and_true, Bool.false_and, Bool.and_false, Bool.or_false, Bool.false_or, Bool.or_true, Bool.true_or, Nat.reduceAdd, Nat.reduceSub, Nat.reduceMul, Nat.reduceBEq, Nat.reduceEqDiff, Nat.reduceLeDiff, Nat.sub_zero, true_and, and_true, false_and, and_false, true_or, or_true, false_or, or_false, reduceCtorEq, ↓reduceIte, List.getD_cons_zero, List.getD_cons_succ, List.length_cons, List.length_nil, ct_i, ct_r, ct_l, ct_f, ct_n, false_implies, true_implies, y144]
  refine ⟨by omega, k_mSeenMany hW ?_⟩
  obtain ⟨pl, hpl⟩ : ∃ pl, pl = plc (fun f => gi μ (146 + f)) nr := ⟨_, rfl⟩
  rw [← hpl] at hn0 h0 h1 h2 pl10 ⊢
  refine hZ 400 [4, 10, 33, 51] _ _ _ _ _ _ _ ?_
  simp -implicitDefEqProofs (disch := omega) only [wp_step xX11_falseBy_4, wp_step xX11_falseBy_5, wp_step xX11_falseBy_6, wp_step xX11_falseBy_7, ↓e_virt iX11_falseBy l11_440 iX11_seenMany, ↓e_virt iX11_falseBy l11_387 iX11_isRibbon, ↓e_getf iX11_falseBy f11_237, ↓e_putf iX11_falseBy f11_237, ↓e_virt iX11_falseBy l11_443 iX11_toldPicture, ↓e_virt iX11_falseBy l11_447 iX11_lengthsOf, iX11_falseBy, exec1, ↓p1_e, ↓p2_e, ↓q1_e, ↓q2_e, ↓qi_e, ↓pr_e, ↓pa_e, ↓pa_f, ↓pst_e, ↓qst_e, ↓rst_e, ↓pac_e, ↓pargs_0, ↓pargs_s, ↓gfld_0, ↓gfld_1, ↓gfld_2, ↓gfld_3, ↓pfld_i, ↓pfld_l, ↓pfld_r, ↓sfld_i, ↓sfld_l, ↓sfld_r, brI, pushv, rcv, lget, lset, lset2, isL, rok, szs, List.elem_nil, List.elem_cons, cond_true, cond_false, Option.map_some, beq_self_eq_true, Bool.true_and, Bool.and_true, Bool.false_and, Bool.and_false, Bool.or_false, Bool.false_or, Bool.or_true, Bool.true_or, Nat.reduceAdd, Nat.reduceSub, Nat.reduceMul, Nat.reduceBEq, Nat.reduceEqDiff, Nat.reduceLeDiff, Nat.sub_zero, true_and, and_true, false_and, and_false, true_or, or_true, false_or, or_false, reduceCtorEq, ↓reduceIte, List.getD_cons_zero, List.getD_cons_succ, List.length_cons, List.length_nil, ct_i, ct_r, ct_l, ct_f, ct_n, false_implies, true_implies, y144]
  refine ⟨by omega, k_mIsRibbon (by omega) w2 w5 ?_⟩
  refine hZ 400 [4, 10, 33, 51] _ _ _ _ _ _ _ ?_
  simp -implicitDefEqProofs (disch := omega) only [wp_step xX11_falseBy_10, wp_step xX11_falseBy_13, wp_step xX11_falseBy_14, wp_step xX11_falseBy_15, wp_step xX11_falseBy_18, wp_step xX11_falseBy_21, wp_step xX11_falseBy_22, wp_step xX11_falseBy_23, wp_step xX11_falseBy_24, wp_step xX11_falseBy_25, wp_step xX11_falseBy_28, wp_step xX11_falseBy_29, wp_step xX11_falseBy_30, ↓e_virt iX11_falseBy l11_440 iX11_seenMany, ↓e_virt iX11_falseBy l11_387 iX11_isRibbon, ↓e_getf iX11_falseBy f11_237, ↓e_putf iX11_falseBy f11_237, ↓e_virt iX11_falseBy l11_443 iX11_toldPicture, ↓e_virt iX11_falseBy l11_447 iX11_lengthsOf, iX11_falseBy, exec1, ↓p1_e, ↓p2_e, ↓q1_e, ↓q2_e, ↓qi_e, ↓pr_e, ↓pa_e, ↓pa_f, ↓pst_e, ↓qst_e, ↓rst_e, ↓pac_e, ↓pargs_0, ↓pargs_s, ↓gfld_0, ↓gfld_1, ↓gfld_2, ↓gfld_3, ↓pfld_i, ↓pfld_l, ↓pfld_r, ↓sfld_i, ↓sfld_l, ↓sfld_r, brI, pushv, rcv, lget, lset, lset2, isL, rok, szs, List.elem_nil, List.elem_cons, cond_true, cond_false, Option.map_some, beq_self_eq_true, Bool.true_and, Bool.and_true, Bool.false_and, Bool.and_false, Bool.or_false, Bool.false_or, Bool.or_true, Bool.true_or, Nat.reduceAdd, Nat.reduceSub, Nat.reduceMul, Nat.reduceBEq, Nat.reduceEqDiff, Nat.reduceLeDiff, Nat.sub_zero, true_and, and_true, false_and, and_false, true_or, or_true, false_or, or_false, reduceCtorEq, ↓reduceIte, List.getD_cons_zero, List.getD_cons_succ, List.length_cons, List.length_nil, ct_i, ct_r, ct_l, ct_f, ct_n, false_implies, true_implies, y144, bI_0, Decidable.not_not, hs]
  refine ⟨fun z => h0 (fun y => z y.1), fun c1 => ⟨fun c2 => ⟨by omega, ?_⟩, fun z => h0 (fun y => z y.2)⟩⟩
  obtain ⟨k, hk0, rfl⟩ := ofN c1.1
  have hk : k < nb := (nI_ltI (by omega) (by omega)).mp c1.2
  have hpt : pl ≤ ts := (nI_leI (by omega) (by omega)).mp c2
  have hF0 : Fr pCm μ (si μ 144 1 0) := Fr.rf.si (Or.inr ⟨rfl, rfl⟩)
  have eg : gu (si μ 144 1 0) = gu μ := funext (fun x => by unfold gu; rw [gi_si_a (by omega)])
  refine k_mToldPicture (by omega) (by omega) (fun c => ?_) (fun c => ?_)
  · rw [eg] at c
    refine hZ 400 [4, 10, 33, 51] _ _ _ _ _ _ _ ?_
    simp -implicitDefEqProofs (disch := omega) only [wp_step xX11_falseBy_33, wp_step xX11_falseBy_34, wp_step xX11_falseBy_35, wp_step xX11_falseBy_36, wp_step xX11_falseBy_37, wp_step xX11_falseBy_40, wp_step xX11_falseBy_42, ↓e_virt iX11_falseBy l11_440 iX11_seenMany, ↓e_virt iX11_falseBy l11_387 iX11_isRibbon, ↓e_getf iX11_falseBy f11_237, ↓e_putf iX11_falseBy f11_237, ↓e_virt iX11_falseBy l11_443 iX11_toldPicture, ↓e_virt iX11_falseBy l11_447 iX11_lengthsOf, iX11_falseBy, wp_step xX11_falseBy_51, ↓e_virt iX11_falseBy l11_440 iX11_seenMany, ↓e_virt iX11_falseBy l11_387 iX11_isRibbon, ↓e_getf iX11_falseBy f11_237, ↓e_putf iX11_falseBy f11_237, ↓e_virt iX11_falseBy l11_443 iX11_toldPicture, ↓e_virt iX11_falseBy l11_447 iX11_lengthsOf, iX11_falseBy, exec1, ↓p1_e, ↓p2_e, ↓q1_e, ↓q2_e, ↓qi_e, ↓pr_e, ↓pa_e, ↓pa_f, ↓pst_e, ↓qst_e, ↓rst_e, ↓pac_e, ↓pargs_0, ↓pargs_s, ↓gfld_0, ↓gfld_1, ↓gfld_2, ↓gfld_3, ↓pfld_i, ↓pfld_l, ↓pfld_r, ↓sfld_i, ↓sfld_l, ↓sfld_r, brI, pushv, rcv, lget, lset, lset2, isL, rok, szs, List.elem_nil, List.elem_cons, cond_true, cond_false, Option.map_some, beq_self_eq_true, Bool.true_and, Bool.and_true, Bool.false_and, Bool.and_false, Bool.or_false, Bool.false_or, Bool.or_true, Bool.true_or, Nat.reduceAdd, Nat.reduceSub, Nat.reduceMul, Nat.reduceBEq, Nat.reduceEqDiff, Nat.reduceLeDiff, Nat.sub_zero, true_and, and_true, false_and, and_false, true_or, or_true, false_or, or_false, reduceCtorEq, ↓reduceIte, List.getD_cons_zero, List.getD_cons_succ, List.length_cons, List.length_nil, ct_i, ct_r, ct_l, ct_f, ct_n, false_implies, true_implies, lc0, lgc_ge, lgc_lt, show ¬ (0 : Int64) ≤ -1 by decide, not_false_eq_true, true_implies, false_implies, and_true, true_and, not_true_eq_false]
    refine hZ 400 [4, 10, 33, 51] _ _ _ _ _ _ _ ?_
    simp -implicitDefEqProofs (disch := omega) only [wp_step xX11_falseBy_51, ↓e_virt iX11_falseBy l11_440 iX11_seenMany, ↓e_virt iX11_falseBy l11_387 iX11_isRibbon, ↓e_getf iX11_falseBy f11_237, ↓e_putf iX11_falseBy f11_237, ↓e_virt iX11_falseBy l11_443 iX11_toldPicture, ↓e_virt iX11_falseBy l11_447 iX11_lengthsOf, iX11_falseBy, exec1, ↓p1_e, ↓p2_e, ↓q1_e, ↓q2_e, ↓qi_e, ↓pr_e, ↓pa_e, ↓pa_f, ↓pst_e, ↓qst_e, ↓rst_e, ↓pac_e, ↓pargs_0, ↓pargs_s, ↓gfld_0, ↓gfld_1, ↓gfld_2, ↓gfld_3, ↓pfld_i, ↓pfld_l, ↓pfld_r, ↓sfld_i, ↓sfld_l, ↓sfld_r, brI, pushv, rcv, lget, lset, lset2, isL, rok, szs, List.elem_nil, List.elem_cons, cond_true, cond_false, Option.map_some, beq_self_eq_true, Bool.true_and, Bool.and_true, Bool.false_and, Bool.and_false, Bool.or_false, Bool.false_or, Bool.or_true, Bool.true_or, Nat.reduceAdd, Nat.reduceSub, Nat.reduceMul, Nat.reduceBEq, Nat.reduceEqDiff, Nat.reduceLeDiff, Nat.sub_zero, true_and, and_true, false_and, and_false, true_or, or_true, false_or, or_false, reduceCtorEq, ↓reduceIte, List.getD_cons_zero, List.getD_cons_succ, List.length_cons, List.length_nil, ct_i, ct_r, ct_l, ct_f, ct_n, false_implies, true_implies]
    exact h1 k hk rfl hpt c _ (Fi.of hF0) gi_si
  · rw [eg] at c ⊢
    have hle : (0 : Int64) ≤ tpL (gu μ) pl := by have := hn0 c; exact Int64.not_lt.mp this
    refine hZ 400 [4, 10, 33, 51] _ _ _ _ _ _ _ ?_
    simp -implicitDefEqProofs (disch := omega) only [wp_step xX11_falseBy_33, wp_step xX11_falseBy_34, wp_step xX11_falseBy_35, wp_step xX11_falseBy_36, wp_step xX11_falseBy_37, wp_step xX11_falseBy_40, wp_step xX11_falseBy_42, wp_step xX11_falseBy_45, wp_step xX11_falseBy_46, wp_step xX11_falseBy_47, wp_step xX11_falseBy_48, ↓e_virt iX11_falseBy l11_440 iX11_seenMany, ↓e_virt iX11_falseBy l11_387 iX11_isRibbon, ↓e_getf iX11_falseBy f11_237, ↓e_putf iX11_falseBy f11_237, ↓e_virt iX11_falseBy l11_443 iX11_toldPicture, ↓e_virt iX11_falseBy l11_447 iX11_lengthsOf, iX11_falseBy, exec1, ↓p1_e, ↓p2_e, ↓q1_e, ↓q2_e, ↓qi_e, ↓pr_e, ↓pa_e, ↓pa_f, ↓pst_e, ↓qst_e, ↓rst_e, ↓pac_e, ↓pargs_0, ↓pargs_s, ↓gfld_0, ↓gfld_1, ↓gfld_2, ↓gfld_3, ↓pfld_i, ↓pfld_l, ↓pfld_r, ↓sfld_i, ↓sfld_l, ↓sfld_r, brI, pushv, rcv, lget, lset, lset2, isL, rok, szs, List.elem_nil, List.elem_cons, cond_true, cond_false, Option.map_some, beq_self_eq_true, Bool.true_and, Bool.and_true, Bool.false_and, Bool.and_false, Bool.or_false, Bool.false_or, Bool.or_true, Bool.true_or, Nat.reduceAdd, Nat.reduceSub, Nat.reduceMul, Nat.reduceBEq, Nat.reduceEqDiff, Nat.reduceLeDiff, Nat.sub_zero, true_and, and_true, false_and, and_false, true_or, or_true, false_or, or_false, reduceCtorEq, ↓reduceIte, List.getD_cons_zero, List.getD_cons_succ, List.length_cons, List.length_nil, ct_i, ct_r, ct_l, ct_f, ct_n, false_implies, true_implies, y144, lc0, lgc_ge, hle, not_false_eq_true, true_implies, false_implies, and_true, true_and, not_true_eq_false]
    refine ⟨by omega, k_mLengthsOf (by omega) (hW.fr2 hF0 pCm_Lo) hk (fun μ1 hF => ?_)⟩
    refine hZ 400 [4, 10, 33, 51] _ _ _ _ _ _ _ ?_
    simp -implicitDefEqProofs (disch := omega) only [wp_step xX11_falseBy_51, ↓e_virt iX11_falseBy l11_440 iX11_seenMany, ↓e_virt iX11_falseBy l11_387 iX11_isRibbon, ↓e_getf iX11_falseBy f11_237, ↓e_putf iX11_falseBy f11_237, ↓e_virt iX11_falseBy l11_443 iX11_toldPicture, ↓e_virt iX11_falseBy l11_447 iX11_lengthsOf, iX11_falseBy, exec1, ↓p1_e, ↓p2_e, ↓q1_e, ↓q2_e, ↓qi_e, ↓pr_e, ↓pa_e, ↓pa_f, ↓pst_e, ↓qst_e, ↓rst_e, ↓pac_e, ↓pargs_0, ↓pargs_s, ↓gfld_0, ↓gfld_1, ↓gfld_2, ↓gfld_3, ↓pfld_i, ↓pfld_l, ↓pfld_r, ↓sfld_i, ↓sfld_l, ↓sfld_r, brI, pushv, rcv, lget, lset, lset2, isL, rok, szs, List.elem_nil, List.elem_cons, cond_true, cond_false, Option.map_some, beq_self_eq_true, Bool.true_and, Bool.and_true, Bool.false_and, Bool.and_false, Bool.or_false, Bool.false_or, Bool.or_true, Bool.true_or, Nat.reduceAdd, Nat.reduceSub, Nat.reduceMul, Nat.reduceBEq, Nat.reduceEqDiff, Nat.reduceLeDiff, Nat.sub_zero, true_and, and_true, false_and, and_false, true_or, or_true, false_or, or_false, reduceCtorEq, ↓reduceIte, List.getD_cons_zero, List.getD_cons_succ, List.length_cons, List.length_nil, ct_i, ct_r, ct_l, ct_f, ct_n, false_implies, true_implies]
    have ev : cnB (fun j => lbM (si μ 144 1 0) nr nb sz n (tpL (gu μ) pl) k (nI (j + 1))) 99 = cnB (fun j => lbM μ nr nb sz n (tpL (gu μ) pl) k (nI (j + 1))) 99 := by
      unfold cnB
      refine sm_cong (fun j hj => ?_)
      dsimp only
      rw [lbM_f3 (Fi.of hF0) (fun a j z => by rcases z with z | z; exact Or.inl (pK_Lo a j z); exact Or.inr (Or.inl z))]
    rw [ev]
    refine h2 k hk rfl hpt c μ1 ((Fi.of hF0).trans ((Fi.of hF).mono (fun a j z => Or.inl z))) ?_
    rw [hF.1 144 1 (by unfold pK pN; omega), gi_si]
set_option maxRecDepth 100000 in
set_option maxHeartbeats 1000000 in
theorem k_mSuspects {ts : Nat} (hd : 9 ≤ d) (hW : WM μ nr nb sz n) (hs : (gi μ 144 1) = nI ts) (hts : ts ≤ 220) (hn0 : anB (guB μ) (plc (fun f => gi μ (146 + f)) nr) = false → ¬ tpL (gu μ) (plc (fun f => gi μ (146 + f)) nr) < 0)
    (h0 : ¬ (nI (plc (fun f => gi μ (146 + f)) nr) ≤ nI ts) → Q (some (.long (-1))) (LAY v) μ bc bs)
    (h1 : plc (fun f => gi μ (146 + f)) nr ≤ ts → anB (guB μ) (plc (fun f => gi μ (146 + f)) nr) = true → ∀ μ', Fi pCm μ μ' → gi μ' 144 1 = 0 → Q (some (.long (-2))) (LAY v) μ' bc bs)
    (h2 : plc (fun f => gi μ (146 + f)) nr ≤ ts → anB (guB μ) (plc (fun f => gi μ (146 + f)) nr) = false → ∀ μ', Fi pCm μ μ' → gi μ' 144 1 = 0 → Q (some (.long (susF (fun i => anB (fun k => lbM μ nr nb sz n (tpL (gu μ) (plc (fun f => gi μ (146 + f)) nr)) i (nI (k + 1))) 99) nb))) (LAY v) μ' bc bs) : KC G d mX11_suspects [.ref 144] (LAY v) μ bc bs Q := by
  obtain ⟨w1, w2, ⟨⟨w3, w4, w5⟩, w6, w7⟩, w8, w9, w10⟩ := id hW
  have pl10 := plc_le (A := fun f => gi μ (146 + f)) (r := nr)
  refine KC_intro 0 0 kX11_suspects (by decide) (by decide) (Nat.zero_le _) (Nat.zero_le _) (Nat.le_of_ble_eq_true rfl) (fun Z hZ => ?_)
  show Z 0 [some (.ref 144), none, none, none, none, none, none] [] (LAY v) μ 0 0
  refine hZ 400 [4, 27, 44, 60] _ _ _ _ _ _ _ ?_
  simp -implicitDefEqProofs (disch := omega) only [wp_step xX11_suspects_0, wp_step xX11_suspects_1, ↓e_virt iX11_suspects l11_440 iX11_seenMany, ↓e_getf iX11_suspects f11_237, q11_400, ↓e_putf iX11_suspects f11_237, ↓e_virt iX11_suspects l11_443 iX11_toldPicture, q11_451, ↓e_getf iX11_suspects f11_213, ↓e_virt iX11_suspects l11_447 iX11_lengthsOf, iX11_suspects, exec1, ↓p1_e, ↓p2_e, ↓q1_e, ↓q2_e, ↓qi_e, ↓pr_e, ↓pa_e, ↓pa_f, ↓pst_e, ↓qst_e, ↓rst_e, ↓pac_e, ↓pargs_0, ↓pargs_s, ↓gfld_0, ↓gfld_1, ↓gfld_2, ↓gfld_3, ↓pfld_i, ↓pfld_l, ↓pfld_r, ↓sfld_i, ↓sfld_l, ↓sfld_r, brI, pushv, rcv, lget, lset, lset2, isL, rok, szs, List.elem_nil, List.elem_cons, cond_true, cond_false, Option.map_some, beq_self_eq_true, Bool.true_and, Bool.and_true, Bool.false_and, Bool.and_false, Bool.or_false, Bool.false_or, Bool.or_true, Bool.true_or, Nat.reduceAdd, Nat.reduceSub, Nat.reduceMul, Nat.reduceBEq, Nat.reduceEqDiff, Nat.reduceLeDiff, Nat.sub_zero, true_and, and_true, false_and, and_false, true_or, or_true, false_or, or_false, reduceCtorEq, ↓reduceIte, List.getD_cons_zero, List.getD_cons_succ, List.length_cons, List.length_nil, ct_i, ct_r, ct_l, ct_f, ct_n, false_implies, true_implies, y144]
  refine ⟨by omega, k_mSeenMany hW ?_⟩
  obtain ⟨pl, hpl⟩ : ∃ pl, pl = plc (fun f => gi μ (146 + f)) nr := ⟨_, rfl⟩
  rw [← hpl] at hn0 h0 h1 h2 pl10 ⊢
  refine hZ 400 [4, 27, 44, 60] _ _ _ _ _ _ _ ?_
  simp -implicitDefEqProofs (disch := omega) only [wp_step xX11_suspects_4, wp_step xX11_suspects_5, wp_step xX11_suspects_6, wp_step xX11_suspects_7, wp_step xX11_suspects_10, wp_step xX11_suspects_13, wp_step xX11_suspects_16, wp_step xX11_suspects_17, wp_step xX11_suspects_18, wp_step xX11_suspects_19, wp_step xX11_suspects_22, wp_step xX11_suspects_23, wp_step xX11_suspects_24, ↓e_virt iX11_suspects l11_440 iX11_seenMany, ↓e_getf iX11_suspects f11_237, q11_400, ↓e_putf iX11_suspects f11_237, ↓e_virt iX11_suspects l11_443 iX11_toldPicture, q11_451, ↓e_getf iX11_suspects f11_213, ↓e_virt iX11_suspects l11_447 iX11_lengthsOf, iX11_suspects, exec1, ↓p1_e, ↓p2_e, ↓q1_e, ↓q2_e, ↓qi_e, ↓pr_e, ↓pa_e, ↓pa_f, ↓pst_e, ↓qst_e, ↓rst_e, ↓pac_e, ↓pargs_0, ↓pargs_s, ↓gfld_0, ↓gfld_1, ↓gfld_2, ↓gfld_3, ↓pfld_i, ↓pfld_l, ↓pfld_r, ↓sfld_i, ↓sfld_l, ↓sfld_r, brI, pushv, rcv, lget, lset, lset2, isL, rok, szs, List.elem_nil, List.elem_cons, cond_true, cond_false, Option.map_some, beq_self_eq_true, Bool.true_and, Bool.and_true, Bool.false_and, Bool.and_false, Bool.or_false, Bool.false_or, Bool.or_true, Bool.true_or, Nat.reduceAdd, Nat.reduceSub, Nat.reduceMul, Nat.reduceBEq, Nat.reduceEqDiff, Nat.reduceLeDiff, Nat.sub_zero, true_and, and_true, false_and, and_false, true_or, or_true, false_or, or_false, reduceCtorEq, ↓reduceIte, List.getD_cons_zero, List.getD_cons_succ, List.length_cons, List.length_nil, ct_i, ct_r, ct_l, ct_f, ct_n, false_implies, true_implies, y144, hs]
  refine ⟨fun c2 => ⟨by omega, ?_⟩, fun z => h0 z⟩
  have hpt : pl ≤ ts := (nI_leI (by omega) (by omega)).mp c2
  have hF0 : Fr pCm μ (si μ 144 1 0) := Fr.rf.si (Or.inr ⟨rfl, rfl⟩)
  have eg : gu (si μ 144 1 0) = gu μ := funext (fun x => by unfold gu; rw [gi_si_a (by omega)])
  refine k_mToldPicture (by omega) (by omega) (fun c => ?_) (fun c => ?_)
  · rw [eg] at c
    refine hZ 400 [4, 27, 44, 60] _ _ _ _ _ _ _ ?_
    simp -implicitDefEqProofs (disch := omega) only [wp_step xX11_suspects_27, wp_step xX11_suspects_28, wp_step xX11_suspects_29, wp_step xX11_suspects_30, wp_step xX11_suspects_31, wp_step xX11_suspects_34, wp_step xX11_suspects_37, ↓e_virt iX11_suspects l11_440 iX11_seenMany, ↓e_getf iX11_suspects f11_237, q11_400, ↓e_putf iX11_suspects f11_237, ↓e_virt iX11_suspects l11_443 iX11_toldPicture, q11_451, ↓e_getf iX11_suspects f11_213, ↓e_virt iX11_suspects l11_447 iX11_lengthsOf, iX11_suspects, exec1, ↓p1_e, ↓p2_e, ↓q1_e, ↓q2_e, ↓qi_e, ↓pr_e, ↓pa_e, ↓pa_f, ↓pst_e, ↓qst_e, ↓rst_e, ↓pac_e, ↓pargs_0, ↓pargs_s, ↓gfld_0, ↓gfld_1, ↓gfld_2, ↓gfld_3, ↓pfld_i, ↓pfld_l, ↓pfld_r, ↓sfld_i, ↓sfld_l, ↓sfld_r, brI, pushv, rcv, lget, lset, lset2, isL, rok, szs, List.elem_nil, List.elem_cons, cond_true, cond_false, Option.map_some, beq_self_eq_true, Bool.true_and, Bool.and_true, Bool.false_and, Bool.and_false, Bool.or_false, Bool.false_or, Bool.or_true, Bool.true_or, Nat.reduceAdd, Nat.reduceSub, Nat.reduceMul, Nat.reduceBEq, Nat.reduceEqDiff, Nat.reduceLeDiff, Nat.sub_zero, true_and, and_true, false_and, and_false, true_or, or_true, false_or, or_false, reduceCtorEq, ↓reduceIte, List.getD_cons_zero, List.getD_cons_succ, List.length_cons, List.length_nil, ct_i, ct_r, ct_l, ct_f, ct_n, false_implies, true_implies, lc0, lgc_ge, lgc_lt, show ¬ (0 : Int64) ≤ -1 by decide, not_false_eq_true, true_implies, false_implies, and_true, true_and, not_true_eq_false]
    exact h1 hpt c _ (Fi.of hF0) gi_si
  · rw [eg] at c ⊢
    have hle : (0 : Int64) ≤ tpL (gu μ) pl := by have := hn0 c; exact Int64.not_lt.mp this
    obtain ⟨t, ht⟩ : ∃ t, t = tpL (gu μ) pl := ⟨_, rfl⟩
    rw [← ht] at h2 hle ⊢
    obtain ⟨p, hp⟩ : ∃ p : Nat → Nat → Bool, p = fun i k => lbM μ nr nb sz n t i (nI (k + 1)) := ⟨_, rfl⟩
    replace h2 := h2 hpt c
    replace h2 : ∀ μ', Fi pCm μ μ' → gi μ' 144 1 = 0 → Q (some (.long (susF (fun i => anB (p i) 99) nb))) (LAY v) μ' bc bs := by rw [hp]; exact h2
    have pe : ∀ i k, p i k = lbM μ nr nb sz n t i (nI (k + 1)) := fun i k => by rw [hp]
    have loop : ∀ i, i ≤ nb → (∀ μ1, Fr pCm μ μ1 → gi μ1 144 1 = 0 → Z 44 [some (.ref 144), some (.int (nI pl)), some (.long t), none, some (.long (susF (fun i => anB (p i) 99) i)), none, some (.int (nI i))] [] (LAY v) μ1 0 0) := by
      refine loopN nb (fun μ1 hF z => ?_) (fun i hi ih μ1 hF z => ?_)
      · have f3 : gi μ1 144 3 = nI nb := (hF.1 _ _ (by unfold pCm pK pN; omega)).trans w2
        refine hZ 400 [4, 27, 44, 60] _ _ _ _ _ _ _ ?_
        simp -implicitDefEqProofs (disch := omega) only [wp_step xX11_suspects_44, wp_step xX11_suspects_46, wp_step xX11_suspects_47, wp_step xX11_suspects_50, ↓e_virt iX11_suspects l11_440 iX11_seenMany, ↓e_getf iX11_suspects f11_237, q11_400, ↓e_putf iX11_suspects f11_237, ↓e_virt iX11_suspects l11_443 iX11_toldPicture, q11_451, ↓e_getf iX11_suspects f11_213, ↓e_virt iX11_suspects l11_447 iX11_lengthsOf, iX11_suspects, wp_step xX11_suspects_78, wp_step xX11_suspects_80, ↓e_virt iX11_suspects l11_440 iX11_seenMany, ↓e_getf iX11_suspects f11_237, q11_400, ↓e_putf iX11_suspects f11_237, ↓e_virt iX11_suspects l11_443 iX11_toldPicture, q11_451, ↓e_getf iX11_suspects f11_213, ↓e_virt iX11_suspects l11_447 iX11_lengthsOf, iX11_suspects, exec1, ↓p1_e, ↓p2_e, ↓q1_e, ↓q2_e, ↓qi_e, ↓pr_e, ↓pa_e, ↓pa_f, ↓pst_e, ↓qst_e, ↓rst_e, ↓pac_e, ↓pargs_0, ↓pargs_s, ↓gfld_0, ↓gfld_1, ↓gfld_2, ↓gfld_3, ↓pfld_i, ↓pfld_l, ↓pfld_r, ↓sfld_i, ↓sfld_l, ↓sfld_r, brI, pushv, rcv, lget, lset, lset2, isL, rok, szs, List.elem_nil, List.elem_cons, cond_true, cond_false, Option.map_some, beq_self_eq_true, Bool.true_and, Bool.and_true, Bool.false_and, Bool.and_false, Bool.or_false, Bool.false_or, Bool.or_true, Bool.true_or, Nat.reduceAdd, Nat.reduceSub, Nat.reduceMul, Nat.reduceBEq, Nat.reduceEqDiff, Nat.reduceLeDiff, Nat.sub_zero, true_and, and_true, false_and, and_false, true_or, or_true, false_or, or_false, reduceCtorEq, ↓reduceIte, List.getD_cons_zero, List.getD_cons_succ, List.length_cons, List.length_nil, ct_i, ct_r, ct_l, ct_f, ct_n, false_implies, true_implies, y144, f3, nle_t (show nb < 2 ^ 31 by omega), not_false_eq_true, true_implies, false_implies, and_true, true_and, not_true_eq_false]
        exact h2 μ1 (Fi.of hF) z
      · have hW1 := hW.fr2 hF pCm_Lo
        refine hZ 400 [4, 27, 44, 60] _ _ _ _ _ _ _ ?_
        simp -implicitDefEqProofs (disch := omega) only [wp_step xX11_suspects_44, wp_step xX11_suspects_46, wp_step xX11_suspects_47, wp_step xX11_suspects_50, wp_step xX11_suspects_53, wp_step xX11_suspects_54, wp_step xX11_suspects_56, wp_step xX11_suspects_57, ↓e_virt iX11_suspects l11_440 iX11_seenMany, ↓e_getf iX11_suspects f11_237, q11_400, ↓e_putf iX11_suspects f11_237, ↓e_virt iX11_suspects l11_443 iX11_toldPicture, q11_451, ↓e_getf iX11_suspects f11_213, ↓e_virt iX11_suspects l11_447 iX11_lengthsOf, iX11_suspects, exec1, ↓p1_e, ↓p2_e, ↓q1_e, ↓q2_e, ↓qi_e, ↓pr_e, ↓pa_e, ↓pa_f, ↓pst_e, ↓qst_e, ↓rst_e, ↓pac_e, ↓pargs_0, ↓pargs_s, ↓gfld_0, ↓gfld_1, ↓gfld_2, ↓gfld_3, ↓pfld_i, ↓pfld_l, ↓pfld_r, ↓sfld_i, ↓sfld_l, ↓sfld_r, brI, pushv, rcv, lget, lset, lset2, isL, rok, szs, List.elem_nil, List.elem_cons, cond_true, cond_false, Option.map_some, beq_self_eq_true, Bool.true_and, Bool.and_true, Bool.false_and, Bool.and_false, Bool.or_false, Bool.false_or, Bool.or_true, Bool.true_or, Nat.reduceAdd, Nat.reduceSub, Nat.reduceMul, Nat.reduceBEq, Nat.reduceEqDiff, Nat.reduceLeDiff, Nat.sub_zero, true_and, and_true, false_and, and_false, true_or, or_true, false_or, or_false, reduceCtorEq, ↓reduceIte, List.getD_cons_zero, List.getD_cons_succ, List.length_cons, List.length_nil, ct_i, ct_r, ct_l, ct_f, ct_n, false_implies, true_implies, y144, hW1.2.1, nle_f hi (show nb < 2 ^ 31 by omega), not_false_eq_true, true_implies, false_implies, and_true, true_and, not_true_eq_false]
        refine ⟨by omega, k_mLengthsOf (by omega) hW1 hi (fun μ2 hF2 => ?_)⟩
        have ev : cnB (fun j => lbM μ1 nr nb sz n t i (nI (j + 1))) 99 = cnB (p i) 99 := by
          unfold cnB
          refine sm_cong (fun j hj => ?_)
          dsimp only
          rw [pe, lbM_f3 (Fi.of hF) (fun a j z => by rcases z with z | z; exact Or.inl (pK_Lo a j z); exact Or.inr (Or.inl z))]
        rw [ev]
        have fin := ih μ2 (hF.trans (hF2.mono (fun a j z => Or.inl z))) ((hF2.1 _ _ (by unfold pK pN; omega)).trans z)
        rw [susF] at fin
        have cn : cnB (p i) 99 ≤ 0 ↔ anB (p i) 99 = false := by
          have key : ∀ m, m ≤ 99 → ∃ c, c ≤ m ∧ cnB (p i) m = nI c ∧ (c = 0 ↔ anB (p i) m = false) := by
            intro m
            induction m with
            | zero => intro _; exact ⟨0, by omega, rfl, by simp [anB]⟩
            | succ m ih =>
              intro hm
              obtain ⟨c, h1, h2, h3⟩ := ih (by omega)
              cases e : p i m with
              | false => exact ⟨c, by omega, by rw [cnB_f e, h2], by rw [anB, e, Bool.or_false]; exact h3⟩
              | true => exact ⟨c + 1, by omega, by rw [cnB_t e, h2, nI_1], by rw [anB, e, Bool.or_true]; simp⟩
          obtain ⟨c, h1, h2, h3⟩ := key 99 (by omega)
          rw [h2, ← h3]
          constructor
          · intro y; refine Nat.eq_zero_of_not_pos (fun u => nI_nle u (by omega) y)
          · intro y; rw [y]; decide
        refine hZ 400 [4, 27, 44, 60] _ _ _ _ _ _ _ ?_
        simp -implicitDefEqProofs (disch := omega) only [wp_step xX11_suspects_60, wp_step xX11_suspects_63, wp_step xX11_suspects_65, wp_step xX11_suspects_66, wp_step xX11_suspects_68, wp_step xX11_suspects_69, wp_step xX11_suspects_70, wp_step xX11_suspects_72, wp_step xX11_suspects_75, ↓e_virt iX11_suspects l11_440 iX11_seenMany, ↓e_getf iX11_suspects f11_237, q11_400, ↓e_putf iX11_suspects f11_237, ↓e_virt iX11_suspects l11_443 iX11_toldPicture, q11_451, ↓e_getf iX11_suspects f11_213, ↓e_virt iX11_suspects l11_447 iX11_lengthsOf, iX11_suspects, exec1, ↓p1_e, ↓p2_e, ↓q1_e, ↓q2_e, ↓qi_e, ↓pr_e, ↓pa_e, ↓pa_f, ↓pst_e, ↓qst_e, ↓rst_e, ↓pac_e, ↓pargs_0, ↓pargs_s, ↓gfld_0, ↓gfld_1, ↓gfld_2, ↓gfld_3, ↓pfld_i, ↓pfld_l, ↓pfld_r, ↓sfld_i, ↓sfld_l, ↓sfld_r, brI, pushv, rcv, lget, lset, lset2, isL, rok, szs, List.elem_nil, List.elem_cons, cond_true, cond_false, Option.map_some, beq_self_eq_true, Bool.true_and, Bool.and_true, Bool.false_and, Bool.and_false, Bool.or_false, Bool.false_or, Bool.or_true, Bool.true_or, Nat.reduceAdd, Nat.reduceSub, Nat.reduceMul, Nat.reduceBEq, Nat.reduceEqDiff, Nat.reduceLeDiff, Nat.sub_zero, true_and, and_true, false_and, and_false, true_or, or_true, false_or, or_false, reduceCtorEq, ↓reduceIte, List.getD_cons_zero, List.getD_cons_succ, List.length_cons, List.length_nil, ct_i, ct_r, ct_l, ct_f, ct_n, false_implies, true_implies, lc1, nI_1]
        refine ⟨fun c => ?_, fun c => ?_⟩
        · rw [if_neg (by rw [cn.mp c]; decide)] at fin; exact fin
        · rw [if_pos (btr (fun y => c (cn.mpr y)))] at fin; exact fin
    refine hZ 400 [4, 27, 44, 60] _ _ _ _ _ _ _ ?_
    simp -implicitDefEqProofs (disch := omega) only [wp_step xX11_suspects_27, wp_step xX11_suspects_28, wp_step xX11_suspects_29, wp_step xX11_suspects_30, wp_step xX11_suspects_31, wp_step xX11_suspects_34, wp_step xX11_suspects_37, wp_step xX11_suspects_38, wp_step xX11_suspects_39, wp_step xX11_suspects_41, wp_step xX11_suspects_42, ↓e_virt iX11_suspects l11_440 iX11_seenMany, ↓e_getf iX11_suspects f11_237, q11_400, ↓e_putf iX11_suspects f11_237, ↓e_virt iX11_suspects l11_443 iX11_toldPicture, q11_451, ↓e_getf iX11_suspects f11_213, ↓e_virt iX11_suspects l11_447 iX11_lengthsOf, iX11_suspects, exec1, ↓p1_e, ↓p2_e, ↓q1_e, ↓q2_e, ↓qi_e, ↓pr_e, ↓pa_e, ↓pa_f, ↓pst_e, ↓qst_e, ↓rst_e, ↓pac_e, ↓pargs_0, ↓pargs_s, ↓gfld_0, ↓gfld_1, ↓gfld_2, ↓gfld_3, ↓pfld_i, ↓pfld_l, ↓pfld_r, ↓sfld_i, ↓sfld_l, ↓sfld_r, brI, pushv, rcv, lget, lset, lset2, isL, rok, szs, List.elem_nil, List.elem_cons, cond_true, cond_false, Option.map_some, beq_self_eq_true, Bool.true_and, Bool.and_true, Bool.false_and, Bool.and_false, Bool.or_false, Bool.false_or, Bool.or_true, Bool.true_or, Nat.reduceAdd, Nat.reduceSub, Nat.reduceMul, Nat.reduceBEq, Nat.reduceEqDiff, Nat.reduceLeDiff, Nat.sub_zero, true_and, and_true, false_and, and_false, true_or, or_true, false_or, or_false, reduceCtorEq, ↓reduceIte, List.getD_cons_zero, List.getD_cons_succ, List.length_cons, List.length_nil, ct_i, ct_r, ct_l, ct_f, ct_n, false_implies, true_implies, y144, lc0, lgc_ge, hle, not_false_eq_true, true_implies, false_implies, and_true, true_and, not_true_eq_false]
    exact loop 0 (by omega) _ hF0 gi_si
end FAL
