/-! a picture as one number -/
def picL (sn : Nat → Bool) (ln : Nat → Int32) : Nat → Int64
  | 0 => 0
  | r + 1 => if sn r = true then 19 * picL sn ln r + (ln r).toInt64 + 9 else picL sn ln r
def picI (sn : Nat → Bool) (ln : Nat → Int32) : Nat → Int
  | 0 => 0
  | r + 1 => if sn r = true then 19 * picI sn ln r + ((ln r).toInt + 9) else picI sn ln r
theorem picI_b {sn : Nat → Bool} {ln : Nat → Int32} : ∀ {n : Nat}, (∀ r, r < n → -9 ≤ (ln r).toInt ∧ (ln r).toInt ≤ 9) → 0 ≤ picI sn ln n ∧ picI sn ln n < 19 ^ n
  | 0, _ => by rw [picI]; decide
  | n + 1, h => by
    obtain ⟨i1, i2⟩ := picI_b (sn := sn) (n := n) (fun r hr => h r (by omega))
    have := h n (by omega)
    rw [picI, Int.pow_succ]
    split
    · omega
    · omega
theorem pow19 {n : Nat} (h : n ≤ 10) : (19 : Int) ^ n ≤ 6131066257801 := by
  have e : n = 0 ∨ n = 1 ∨ n = 2 ∨ n = 3 ∨ n = 4 ∨ n = 5 ∨ n = 6 ∨ n = 7 ∨ n = 8 ∨ n = 9 ∨ n = 10 := by omega
  rcases e with rfl | rfl | rfl | rfl | rfl | rfl | rfl | rfl | rfl | rfl | rfl <;> decide
theorem picL_I {sn : Nat → Bool} {ln : Nat → Int32} : ∀ {n : Nat}, n ≤ 10 → (∀ r, r < n → -9 ≤ (ln r).toInt ∧ (ln r).toInt ≤ 9) → (picL sn ln n).toInt = picI sn ln n
  | 0, _, _ => rfl
  | n + 1, hn, h => by
    have ih := picL_I (sn := sn) (n := n) (by omega) (fun r hr => h r (by omega))
    obtain ⟨b1, b2⟩ := picI_b (sn := sn) (n := n) (fun r hr => h r (by omega))
    have p := pow19 (n := n) (by omega)
    have := h n (by omega)
    rw [picL, picI]
    split
    · rw [Int64.toInt_add, Int64.toInt_add, Int64.toInt_mul, ih, Int32.toInt_toInt64, show (19 : Int64).toInt = 19 from rfl, show (9 : Int64).toInt = 9 from rfl, Int.bmod_eq_of_le (n := 19 * picI sn ln n) (by omega) (by omega), Int.bmod_eq_of_le (n := 19 * picI sn ln n + (ln n).toInt) (by omega) (by omega), Int.bmod_eq_of_le (by omega) (by omega)]
      omega
    · exact ih
theorem picI_inj {sn : Nat → Bool} {ln ln' : Nat → Int32} : ∀ {n : Nat}, (∀ r, r < n → -9 ≤ (ln r).toInt ∧ (ln r).toInt ≤ 9) → (∀ r, r < n → -9 ≤ (ln' r).toInt ∧ (ln' r).toInt ≤ 9) → picI sn ln n = picI sn ln' n → ∀ r, r < n → sn r = true → ln r = ln' r
  | 0, _, _, _, r, hr, _ => absurd hr (by omega)
  | n + 1, h, h', e, r, hr, hs => by
    have ih := picI_inj (sn := sn) (n := n) (fun r hr => h r (by omega)) (fun r hr => h' r (by omega))
    have a1 := h n (by omega)
    have a2 := h' n (by omega)
    rw [picI, picI] at e
    by_cases c : sn n = true
    · rw [if_pos c, if_pos c] at e
      by_cases q : r = n
      · subst q; apply i_eq.mpr; omega
      · exact ih (by omega) r (by omega) hs
    · rw [if_neg c, if_neg c] at e
      by_cases q : r = n
      · subst q; exact absurd hs c
      · exact ih e r (by omega) hs
theorem picL_cong {sn sn' : Nat → Bool} {ln ln' : Nat → Int32} : ∀ {n : Nat}, (∀ r, r < n → sn r = sn' r) → (∀ r, r < n → sn r = true → ln r = ln' r) → picL sn ln n = picL sn' ln' n
  | 0, _, _ => rfl
  | n + 1, h, h' => by
    rw [picL, picL, picL_cong (fun r hr => h r (by omega)) (fun r hr => h' r (by omega)), ← h n (by omega)]
    cases e : sn n with
    | false => rw [if_neg (by decide), if_neg (by decide)]
    | true => rw [if_pos rfl, if_pos rfl, h' n (by omega) e]
/-- two pictures are one where no rod that is seen leans otherwise -/
theorem picL_eq {sn : Nat → Bool} {ln ln' : Nat → Int32} {n : Nat} (hn : n ≤ 10) (h : ∀ r, r < n → -9 ≤ (ln r).toInt ∧ (ln r).toInt ≤ 9) (h' : ∀ r, r < n → -9 ≤ (ln' r).toInt ∧ (ln' r).toInt ≤ 9) : picL sn ln n = picL sn ln' n ↔ anB (fun r => sn r && !decide (ln r = ln' r)) n = false := by
  constructor
  · intro e
    have e2 : picI sn ln n = picI sn ln' n := by rw [← picL_I hn h, ← picL_I hn h', e]
    have := picI_inj h h' e2
    refine anB_f (fun r hr => ?_)
    cases c : sn r with
    | false => rfl
    | true => rw [decide_eq_true (this r hr c)]; rfl
  · intro e
    refine picL_cong (fun _ _ => rfl) (fun r hr c => ?_)
    refine Decidable.byContradiction (fun q => ?_)
    have := anB_t (p := fun r => sn r && !decide (ln r = ln' r)) hr (by rw [c, decide_eq_false q]; rfl)
    rw [e] at this
    exact absurd this (by decide)
theorem lnV_b {m st : Int32} : -9 ≤ (lnV m st).toInt ∧ (lnV m st).toInt ≤ 9 := by
  unfold lnV
  generalize (if st < 1 then 0 else m / st) = y
  have e9 : (9 : Int32).toInt = 9 := rfl
  have e10 : (-9 : Int32).toInt = -9 := rfl
  by_cases h1 : y < 9
  · rw [if_pos h1]
    by_cases h2 : -9 < y
    · rw [if_pos h2]; simp only [i_lt] at *; omega
    · rw [if_neg h2]; decide
  · rw [if_neg h1, if_pos (by decide)]; decide
def snB (A : Nat → Nat → Int32) (r : Nat) : Bool := !decide (A 3 r = 0)
section PIC
variable {G : Gx} {d v : Nat} {μ : Mem} {bc bs : Nat} {Q : Option Value → List Sh → Mem → Nat → Nat → Prop}
def picM (μ : Mem) (nr nb sz n : Nat) (w : Int32) : Int64 := picL (snB (fun f => gi μ (146 + f))) (fun r => lnV ((WGM μ nr nb sz n w).2 r) (gi μ 148 (r))) nr
set_option maxRecDepth 100000 in
set_option maxHeartbeats 1000000 in
theorem k_mPicture {nr nb sz n : Nat} (hd : 6 ≤ d) (hW : WM μ nr nb sz n) (h : ∀ μ', Fr pK μ μ' → Q (some (.long (picM μ nr nb sz n (gi μ 144 4)))) (LAY v) μ' bc bs) : KC G d mX11_picture [.ref 144] (LAY v) μ bc bs Q := by
  obtain ⟨w1, w2, ⟨⟨w3, w4, w5⟩, w6, w7⟩, w8, w9, w10⟩ := id hW
  refine KC_intro 0 0 kX11_picture (by decide) (by decide) (Nat.zero_le _) (Nat.zero_le _) (Nat.le_of_ble_eq_true rfl) (fun Z hZ => ?_)
  show Z 0 [some (.ref 144), none, none, none] [] (LAY v) μ 0 0
  refine hZ 400 [4, 8] _ _ _ _ _ _ _ ?_
  simp -implicitDefEqProofs (disch := omega) only [wp_step xX11_picture_0, wp_step xX11_picture_1, wp_step xX11_picture_4, wp_step xX11_picture_5, wp_step xX11_picture_6, wp_step xX11_picture_7, ↓e_virt iX11_picture l11_381 iX11_laysLeans, ↓e_getf iX11_picture f11_13, ↓e_getf iX11_picture f11_30, q11_384, ↓e_getf iX11_picture f11_109, q11_209, iX11_picture, exec1, ↓p1_e, ↓p2_e, ↓q1_e, ↓q2_e, ↓qi_e, ↓pr_e, ↓pa_e, ↓pa_f, ↓pst_e, ↓qst_e, ↓rst_e, ↓pac_e, ↓pargs_0, ↓pargs_s, ↓gfld_0, ↓gfld_1, ↓gfld_2, ↓gfld_3, ↓pfld_i, ↓pfld_l, ↓pfld_r, ↓sfld_i, ↓sfld_l, ↓sfld_r, brI, pushv, rcv, lget, lset, lset2, isL, rok, szs, List.elem_nil, List.elem_cons, cond_true, cond_false, Option.map_some, beq_self_eq_true, Bool.true_and, Bool.and_true, Bool.false_and, Bool.and_false, Bool.or_false, Bool.false_or, Bool.or_true, Bool.true_or, Nat.reduceAdd, Nat.reduceSub, Nat.reduceMul, Nat.reduceBEq, Nat.reduceEqDiff, Nat.reduceLeDiff, Nat.sub_zero, true_and, and_true, false_and, and_false, true_or, or_true, false_or, or_false, reduceCtorEq, ↓reduceIte, List.getD_cons_zero, List.getD_cons_succ, List.length_cons, List.length_nil, ct_i, ct_r, ct_l, ct_f, ct_n, false_implies, true_implies, y144]
  refine ⟨by omega, k_laysLeans (by omega) hW (fun μ1 hF hG hl => ?_)⟩
  replace h := h μ1 hF
  unfold picM at h
  have f : ∀ a j, ¬ pK a j → gi μ1 a j = gi μ a j := hF.1
  have hr : gi μ1 144 2 = nI nr := (f _ _ (by unfold pK pN; omega)).trans w1
  generalize hsn : snB (fun f => gi μ (146 + f)) = sn at h
  generalize hln : (fun r => lnV ((WGM μ nr nb sz n (gi μ 144 4)).2 r) (gi μ 148 (r))) = ln at h
  have esn : ∀ r, sn r = !decide (gi μ 149 r = 0) := fun r => by rw [← hsn]; rfl
  have loop : ∀ i, i ≤ nr → Z 8 [some (.ref 144), some (.long (picL sn ln i)), none, some (.int (nI i))] [] (LAY v) μ1 0 0 := by
    refine loopN nr ?_ (fun i hi ih => ?_)
    · refine hZ 400 [4, 8] _ _ _ _ _ _ _ ?_
      simp -implicitDefEqProofs (disch := omega) only [wp_step xX11_picture_8, wp_step xX11_picture_9, wp_step xX11_picture_10, wp_step xX11_picture_13, wp_step xX11_picture_16, wp_step xX11_picture_17, wp_step xX11_picture_20, wp_step xX11_picture_21, wp_step xX11_picture_22, wp_step xX11_picture_25, wp_step xX11_picture_28, wp_step xX11_picture_29, wp_step xX11_picture_30, wp_step xX11_picture_31, wp_step xX11_picture_34, wp_step xX11_picture_35, wp_step xX11_picture_36, wp_step xX11_picture_37, wp_step xX11_picture_38, wp_step xX11_picture_41, wp_step xX11_picture_42, wp_step xX11_picture_43, wp_step xX11_picture_46, wp_step xX11_picture_49, wp_step xX11_picture_50, ↓e_virt iX11_picture l11_381 iX11_laysLeans, ↓e_getf iX11_picture f11_13, ↓e_getf iX11_picture f11_30, q11_384, ↓e_getf iX11_picture f11_109, q11_209, iX11_picture, exec1, ↓p1_e, ↓p2_e, ↓q1_e, ↓q2_e, ↓qi_e, ↓pr_e, ↓pa_e, ↓pa_f, ↓pst_e, ↓qst_e, ↓rst_e, ↓pac_e, ↓pargs_0, ↓pargs_s, ↓gfld_0, ↓gfld_1, ↓gfld_2, ↓gfld_3, ↓pfld_i, ↓pfld_l, ↓pfld_r, ↓sfld_i, ↓sfld_l, ↓sfld_r, brI, pushv, rcv, lget, lset, lset2, isL, rok, szs, List.elem_nil, List.elem_cons, cond_true, cond_false, Option.map_some, beq_self_eq_true, Bool.true_and, Bool.and_true, Bool.false_and, Bool.and_false, Bool.or_false, Bool.false_or, Bool.or_true, Bool.true_or, Nat.reduceAdd, Nat.reduceSub, Nat.reduceMul, Nat.reduceBEq, Nat.reduceEqDiff, Nat.reduceLeDiff, Nat.sub_zero, true_and, and_true, false_and, and_false, true_or, or_true, false_or, or_false, reduceCtorEq, ↓reduceIte, List.getD_cons_zero, List.getD_cons_succ, List.length_cons, List.length_nil, ct_i, ct_r, ct_l, ct_f, ct_n, false_implies, true_implies, y144, y146, y147, y148, y149, y150, y151, y152, y153, y154, y155, y156, y157, y173, y174, y175, hr, nle_t (show nr < 2 ^ 31 by omega), not_false_eq_true, true_implies, false_implies, and_true, true_and, not_true_eq_false]
      exact h
    · have hv : vp_in (nI i) 10 := vin (by omega) (by omega)
      have g3 : gi μ1 149 i = gi μ 149 i := f _ _ (by unfold pK pN; omega)
      have gn : gi μ1 175 i = ln i := by rw [← hln]; exact hl i hi
      refine hZ 400 [4, 8] _ _ _ _ _ _ _ ?_
      simp -implicitDefEqProofs (disch := omega) only [wp_step xX11_picture_8, wp_step xX11_picture_9, wp_step xX11_picture_10, wp_step xX11_picture_13, wp_step xX11_picture_16, wp_step xX11_picture_17, wp_step xX11_picture_20, wp_step xX11_picture_21, wp_step xX11_picture_22, wp_step xX11_picture_25, wp_step xX11_picture_28, wp_step xX11_picture_29, wp_step xX11_picture_30, wp_step xX11_picture_31, wp_step xX11_picture_34, wp_step xX11_picture_35, wp_step xX11_picture_36, wp_step xX11_picture_37, wp_step xX11_picture_38, wp_step xX11_picture_41, wp_step xX11_picture_42, wp_step xX11_picture_43, wp_step xX11_picture_46, wp_step xX11_picture_49, wp_step xX11_picture_50, ↓e_virt iX11_picture l11_381 iX11_laysLeans, ↓e_getf iX11_picture f11_13, ↓e_getf iX11_picture f11_30, q11_384, ↓e_getf iX11_picture f11_109, q11_209, iX11_picture, exec1, ↓p1_e, ↓p2_e, ↓q1_e, ↓q2_e, ↓qi_e, ↓pr_e, ↓pa_e, ↓pa_f, ↓pst_e, ↓qst_e, ↓rst_e, ↓pac_e, ↓pargs_0, ↓pargs_s, ↓gfld_0, ↓gfld_1, ↓gfld_2, ↓gfld_3, ↓pfld_i, ↓pfld_l, ↓pfld_r, ↓sfld_i, ↓sfld_l, ↓sfld_r, brI, pushv, rcv, lget, lset, lset2, isL, rok, szs, List.elem_nil, List.elem_cons, cond_true, cond_false, Option.map_some, beq_self_eq_true, Bool.true_and, Bool.and_true, Bool.false_and, Bool.and_false, Bool.or_false, Bool.false_or, Bool.or_true, Bool.true_or, Nat.reduceAdd, Nat.reduceSub, Nat.reduceMul, Nat.reduceBEq, Nat.reduceEqDiff, Nat.reduceLeDiff, Nat.sub_zero, true_and, and_true, false_and, and_false, true_or, or_true, false_or, or_false, reduceCtorEq, ↓reduceIte, List.getD_cons_zero, List.getD_cons_succ, List.length_cons, List.length_nil, ct_i, ct_r, ct_l, ct_f, ct_n, false_implies, true_implies, y144, y146, y147, y148, y149, y150, y151, y152, y153, y154, y155, y156, y157, y173, y174, y175, hr, nle_f hi (show nr < 2 ^ 31 by omega), hv, nI_clamp, g3, gn, nI_1, not_false_eq_true, true_implies, false_implies, and_true, true_and, not_true_eq_false]
      rw [picL] at ih
      refine ⟨fun c => ?_, fun c => ?_⟩
      · rw [if_neg (by rw [esn, decide_eq_true c]; decide)] at ih; exact ih
      · rw [if_pos (by rw [esn, decide_eq_false c]; rfl)] at ih; exact ih
  refine hZ 400 [4, 8] _ _ _ _ _ _ _ ?_
  simp -implicitDefEqProofs (disch := omega) only [wp_step xX11_picture_4, wp_step xX11_picture_5, wp_step xX11_picture_6, wp_step xX11_picture_7, ↓e_virt iX11_picture l11_381 iX11_laysLeans, ↓e_getf iX11_picture f11_13, ↓e_getf iX11_picture f11_30, q11_384, ↓e_getf iX11_picture f11_109, q11_209, iX11_picture, exec1, ↓p1_e, ↓p2_e, ↓q1_e, ↓q2_e, ↓qi_e, ↓pr_e, ↓pa_e, ↓pa_f, ↓pst_e, ↓qst_e, ↓rst_e, ↓pac_e, ↓pargs_0, ↓pargs_s, ↓gfld_0, ↓gfld_1, ↓gfld_2, ↓gfld_3, ↓pfld_i, ↓pfld_l, ↓pfld_r, ↓sfld_i, ↓sfld_l, ↓sfld_r, brI, pushv, rcv, lget, lset, lset2, isL, rok, szs, List.elem_nil, List.elem_cons, cond_true, cond_false, Option.map_some, beq_self_eq_true, Bool.true_and, Bool.and_true, Bool.false_and, Bool.and_false, Bool.or_false, Bool.false_or, Bool.or_true, Bool.true_or, Nat.reduceAdd, Nat.reduceSub, Nat.reduceMul, Nat.reduceBEq, Nat.reduceEqDiff, Nat.reduceLeDiff, Nat.sub_zero, true_and, and_true, false_and, and_false, true_or, or_true, false_or, or_false, reduceCtorEq, ↓reduceIte, List.getD_cons_zero, List.getD_cons_succ, List.length_cons, List.length_nil, ct_i, ct_r, ct_l, ct_f, ct_n, false_implies, true_implies, lc0]
  exact loop 0 (by omega)
end PIC
