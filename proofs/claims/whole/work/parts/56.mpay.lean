/-- lengths change alone -/
theorem WFd.len {A A' : Nat → Nat → Int32} {nr nb : Nat} (hW : WFd A nr nb) (h : ∀ f, f < 12 → f ≠ 7 → A' f = A f) (hl : ∀ i, i < nb → ∃ l, l ≤ 99 ∧ A' 7 i = nI l ∧ (¬ A 11 i = 0 → 1 ≤ l)) : WFd A' nr nb := by
  obtain ⟨q1, q2, q3⟩ := hW
  refine ⟨q1, fun j hj => ?_, fun i hi => ?_⟩
  · have := q2 j hj
    unfold RodOK at this ⊢
    rw [h 0 (by omega) (by omega), h 1 (by omega) (by omega), h 2 (by omega) (by omega)]
    exact this
  · obtain ⟨r1, r2, r3, r4, r5⟩ := q3 i hi
    unfold RibOK
    rw [h 5 (by omega) (by omega), h 6 (by omega) (by omega), h 8 (by omega) (by omega), h 9 (by omega) (by omega), h 10 (by omega) (by omega), h 11 (by omega) (by omega)]
    exact ⟨r1, r2, hl i hi, r4, r5⟩
theorem FA_len {A A' : Nat → Nat → Int32} {i : Nat} {len rod arm wd : Int32} (h : ∀ f, f < 12 → f ≠ 7 → A' f = A f) : FA A' i len rod arm wd = FA A i len rod arm wd := by
  unfold FA; rw [h 8 (by omega) (by omega), h 9 (by omega) (by omega), h 4 (by omega) (by omega)]
theorem hvA_len {LV : (Nat → Int32) → Bool → Int32} {A A' : Nat → Nat → Int32} {wd : Int32} {i : Nat} {g : Bool} (h : ∀ f, f < 12 → f ≠ 7 → A' f = A f) : hvA LV A' wd i g = hvL LV A wd i (A' 7 i) g := by
  unfold hvA hvL; rw [FA_len h, h 5 (by omega) (by omega), h 6 (by omega) (by omega)]
theorem feel_len {A A' : Nat → Nat → Int32} {hh : Int32} {r : Nat} (h : ∀ f, f < 12 → f ≠ 7 → A' f = A f) : ∀ {f o : Nat}, feel A' f o hh r = feel A f o hh r
  | 0, _ => rfl
  | f + 1, o => by rw [feel, feel, h 0 (by omega) (by omega), h 1 (by omega) (by omega), feel_len h]
theorem cR_len {LV : (Nat → Int32) → Bool → Int32} {A A' : Nat → Nat → Int32} {wd : Int32} {i r : Nat} (h : ∀ f, f < 12 → f ≠ 7 → A' f = A f) : cR A' (hvA LV A' wd) r i = if A 11 i = 0 then 0 else ctr A (A 5 i).toNatClampNeg (A 6 i) (hvL LV A wd i (A' 7 i) true) (hvL LV A wd i (A' 7 i) false) r := by
  unfold cR ctr
  rw [h 11 (by omega) (by omega), h 5 (by omega) (by omega), h 6 (by omega) (by omega), feel_len h, hvA_len h, hvA_len h]
/-- two lengths change: the moments by what the two ribbons give more -/
theorem WG_two {LV : (Nat → Int32) → Bool → Int32} {A A' : Nat → Nat → Int32} {nr nb i j r : Nat} {wd : Int32} (hW : WFd A nr nb) (hW' : WFd A' nr nb) (h : ∀ f, f < 12 → f ≠ 7 → A' f = A f) (hi : i < nb) (hj : j < nb) (hij : i ≠ j) (h7 : ∀ k, k < nb → k ≠ i → k ≠ j → A' 7 k = A 7 k) (ci : ¬ A 11 i = 0) (cj : ¬ A 11 j = 0) : (WG A' (hvA LV A' wd) nr nb).2 r = (WG A (hvA LV A wd) nr nb).2 r + ctr A (A 5 i).toNatClampNeg (A 6 i) (hvL LV A wd i (A' 7 i) true - hvA LV A wd i true) (hvL LV A wd i (A' 7 i) false - hvA LV A wd i false) r + ctr A (A 5 j).toNatClampNeg (A 6 j) (hvL LV A wd j (A' 7 j) true - hvA LV A wd j true) (hvL LV A wd j (A' 7 j) false - hvA LV A wd j false) r := by
  rw [WG_sum hW' (Nat.le_refl _), WG_sum hW (Nat.le_refl _), ctr_sub, ctr_sub]
  have e1 := sm_upd (f := cR A (hvA LV A wd) r) (g := fun k => if k = i then cR A' (hvA LV A' wd) r i else cR A (hvA LV A wd) r k) (i := i) (n := nb) hi (fun k _ hk => if_neg hk)
  have e2 := sm_upd (f := fun k => if k = i then cR A' (hvA LV A' wd) r i else cR A (hvA LV A wd) r k) (g := cR A' (hvA LV A' wd) r) (i := j) (n := nb) hj (fun k hk hkj => by
    by_cases q : k = i
    · subst q; rw [if_pos rfl]
    · rw [if_neg q, cR_len h, h7 k hk q hkj]; rfl)
  rw [e2, e1]
  rw [if_pos rfl, if_neg (Ne.symm hij), cR_len h, cR_len h, if_neg ci, if_neg cj]
  unfold cR
  rw [if_neg ci, if_neg cj]
theorem sub_lt {l k : Nat} (hl : l ≤ 99) (hk : k ≤ 98) : decide (nI k < nI l) = decide (1 ≤ nI l - nI k) := by
  rcases Nat.lt_or_ge k l with c | c
  · rw [decide_eq_true (nI_lt c (by omega)), nI_sub (by omega), decide_eq_true (show (1 : Int32) ≤ nI (l - k) from (nI_leI (a := 1) (by omega) (by omega)).mpr (by omega))]
  · rw [decide_eq_false (nI_nlt c (by omega))]
    have e : (nI l - nI k).toInt = (l : Int) - k := by
      rw [Int32.toInt_sub, nI_toInt (by omega), nI_toInt (by omega), Int.bmod_eq_of_le (by omega) (by omega)]
    rw [decide_eq_false]
    rw [i_le, e, show (1 : Int32).toInt = 1 from rfl]
    omega
section PAY6
variable {G : Gx} {d v : Nat} {μ : Mem} {bc bs : Nat} {Q : Option Value → List Sh → Mem → Nat → Nat → Prop}
set_option maxRecDepth 100000 in
set_option maxHeartbeats 1000000 in
theorem k_mIsWhiteOf {i : Nat} {p : Int32} (hi : i < 40) (h : Q (some (.int (bN (whB (fun f => gi μ (146 + f)) i p)))) (LAY v) μ bc bs) : KC G d mX11_isWhiteOf [.ref 144, .int (nI i), .int p] (LAY v) μ bc bs Q := by
  have hv : vp_in (nI i) 40 := vin (by omega) (by omega)
  refine KC_intro 0 0 kX11_isWhiteOf (by decide) (by decide) (Nat.zero_le _) (Nat.zero_le _) (Nat.le_of_ble_eq_true rfl) (fun Z hZ => ?_)
  show Z 0 [some (.ref 144), some (.int (nI i)), some (.int p)] [] (LAY v) μ 0 0
  refine hZ 400 [] _ _ _ _ _ _ _ ?_
  simp -implicitDefEqProofs (disch := omega) only [wp_step xX11_isWhiteOf_0, wp_step xX11_isWhiteOf_1, wp_step xX11_isWhiteOf_4, wp_step xX11_isWhiteOf_5, wp_step xX11_isWhiteOf_6, wp_step xX11_isWhiteOf_9, wp_step xX11_isWhiteOf_10, wp_step xX11_isWhiteOf_13, wp_step xX11_isWhiteOf_14, wp_step xX11_isWhiteOf_15, wp_step xX11_isWhiteOf_18, wp_step xX11_isWhiteOf_19, wp_step xX11_isWhiteOf_22, wp_step xX11_isWhiteOf_23, wp_step xX11_isWhiteOf_24, wp_step xX11_isWhiteOf_25, wp_step xX11_isWhiteOf_28, wp_step xX11_isWhiteOf_29, wp_step xX11_isWhiteOf_32, wp_step xX11_isWhiteOf_33, ↓e_getf iX11_isWhiteOf f11_55, ↓e_getf iX11_isWhiteOf f11_46, ↓e_getf iX11_isWhiteOf f11_49, iX11_isWhiteOf, exec1, ↓p1_e, ↓p2_e, ↓q1_e, ↓q2_e, ↓qi_e, ↓pr_e, ↓pa_e, ↓pa_f, ↓pst_e, ↓qst_e, ↓rst_e, ↓pac_e, ↓pargs_0, ↓pargs_s, ↓gfld_0, ↓gfld_1, ↓gfld_2, ↓gfld_3, ↓pfld_i, ↓pfld_l, ↓pfld_r, ↓sfld_i, ↓sfld_l, ↓sfld_r, brI, pushv, rcv, lget, lset, lset2, isL, rok, szs, List.elem_nil, List.elem_cons, cond_true, cond_false, Option.map_some, beq_self_eq_true, Bool.true_and, Bool.and_true, Bool.false_and, Bool.and_false, Bool.or_false, Bool.false_or, Bool.or_true, Bool.true_or, Nat.reduceAdd, Nat.reduceSub, Nat.reduceMul, Nat.reduceBEq, Nat.reduceEqDiff, Nat.reduceLeDiff, Nat.sub_zero, true_and, and_true, false_and, and_false, true_or, or_true, false_or, or_false, reduceCtorEq, ↓reduceIte, List.getD_cons_zero, List.getD_cons_succ, List.length_cons, List.length_nil, ct_i, ct_r, ct_l, ct_f, ct_n, false_implies, true_implies, y144, y145, y146, y147, y148, y149, y150, y151, y152, y153, y154, y155, y156, y157, hv, nI_clamp]
  refine ⟨fun c => ?_, fun c => ⟨fun c2 => ?_, fun c2 => ⟨fun c3 => ?_, fun c3 => ?_⟩⟩⟩
  · rw [whB_f (A := fun f => gi μ (146 + f)) (fun z => z.1 c)] at h; exact h
  · rw [whB_f (A := fun f => gi μ (146 + f)) (fun z => c2 z.2.1)] at h; exact h
  · rw [whB_f (A := fun f => gi μ (146 + f)) (fun z => c3 z.2.2)] at h; exact h
  · rw [whB_t (A := fun f => gi μ (146 + f)) c c2 c3] at h; exact h
set_option maxRecDepth 100000 in
set_option maxHeartbeats 1000000 in
theorem k_mCanKnot {i j k nr nb sz n : Nat} {a b : Int32} (hd : 1 ≤ d) (hW : WM μ nr nb sz n) (hi : i < nb) (hj : j < nb) (hk : k ≤ 98) (h : Q (some (.int (bN (cutB (fun f => gi μ (146 + f)) i a (nI k) && knB (fun f => gi μ (146 + f)) j b (nI k))))) (LAY v) μ bc bs) : KC G d mX11_canKnot [.ref 144, .int (nI i), .int (nI j), .int a, .int b, .int (nI k)] (LAY v) μ bc bs Q := by
  obtain ⟨w1, w2, ⟨⟨w3, w4, w5⟩, w6, w7⟩, w8, w9, w10⟩ := id hW
  have vi : vp_in (nI i) 40 := vin (by omega) (by omega)
  have vj : vp_in (nI j) 40 := vin (by omega) (by omega)
  obtain ⟨-, -, ⟨l, hl, el, -⟩, -⟩ := w7 i hi
  simp only [Nat.reduceAdd] at el
  refine KC_intro 0 0 kX11_canKnot (by decide) (by decide) (Nat.zero_le _) (Nat.zero_le _) (Nat.le_of_ble_eq_true rfl) (fun Z hZ => ?_)
  show Z 0 [some (.ref 144), some (.int (nI i)), some (.int (nI j)), some (.int a), some (.int b), some (.int (nI k))] [] (LAY v) μ 0 0
  unfold cutB knB at h
  refine hZ 400 [6, 16] _ _ _ _ _ _ _ ?_
  simp -implicitDefEqProofs (disch := omega) only [wp_step xX11_canKnot_0, wp_step xX11_canKnot_1, wp_step xX11_canKnot_2, wp_step xX11_canKnot_3, ↓e_virt iX11_canKnot l11_390 iX11_isWhiteOf, ↓e_getf iX11_canKnot f11_43, iX11_canKnot, exec1, ↓p1_e, ↓p2_e, ↓q1_e, ↓q2_e, ↓qi_e, ↓pr_e, ↓pa_e, ↓pa_f, ↓pst_e, ↓qst_e, ↓rst_e, ↓pac_e, ↓pargs_0, ↓pargs_s, ↓gfld_0, ↓gfld_1, ↓gfld_2, ↓gfld_3, ↓pfld_i, ↓pfld_l, ↓pfld_r, ↓sfld_i, ↓sfld_l, ↓sfld_r, brI, pushv, rcv, lget, lset, lset2, isL, rok, szs, List.elem_nil, List.elem_cons, cond_true, cond_false, Option.map_some, beq_self_eq_true, Bool.true_and, Bool.and_true, Bool.false_and, Bool.and_false, Bool.or_false, Bool.false_or, Bool.or_true, Bool.true_or, Nat.reduceAdd, Nat.reduceSub, Nat.reduceMul, Nat.reduceBEq, Nat.reduceEqDiff, Nat.reduceLeDiff, Nat.sub_zero, true_and, and_true, false_and, and_false, true_or, or_true, false_or, or_false, reduceCtorEq, ↓reduceIte, List.getD_cons_zero, List.getD_cons_succ, List.length_cons, List.length_nil, ct_i, ct_r, ct_l, ct_f, ct_n, false_implies, true_implies, y144]
  refine ⟨by omega, k_mIsWhiteOf (by omega) ?_⟩
  refine hZ 400 [6, 16] _ _ _ _ _ _ _ ?_
  simp -implicitDefEqProofs (disch := omega) only [wp_step xX11_canKnot_6, wp_step xX11_canKnot_9, wp_step xX11_canKnot_10, wp_step xX11_canKnot_11, wp_step xX11_canKnot_13, wp_step xX11_canKnot_16, wp_step xX11_canKnot_19, wp_step xX11_canKnot_20, wp_step xX11_canKnot_23, wp_step xX11_canKnot_24, wp_step xX11_canKnot_25, wp_step xX11_canKnot_27, wp_step xX11_canKnot_30, wp_step xX11_canKnot_31, wp_step xX11_canKnot_34, wp_step xX11_canKnot_35, wp_step xX11_canKnot_36, wp_step xX11_canKnot_38, wp_step xX11_canKnot_39, wp_step xX11_canKnot_41, wp_step xX11_canKnot_44, wp_step xX11_canKnot_45, wp_step xX11_canKnot_48, wp_step xX11_canKnot_49, ↓e_virt iX11_canKnot l11_390 iX11_isWhiteOf, ↓e_getf iX11_canKnot f11_43, iX11_canKnot, exec1, ↓p1_e, ↓p2_e, ↓q1_e, ↓q2_e, ↓qi_e, ↓pr_e, ↓pa_e, ↓pa_f, ↓pst_e, ↓qst_e, ↓rst_e, ↓pac_e, ↓pargs_0, ↓pargs_s, ↓gfld_0, ↓gfld_1, ↓gfld_2, ↓gfld_3, ↓pfld_i, ↓pfld_l, ↓pfld_r, ↓sfld_i, ↓sfld_l, ↓sfld_r, brI, pushv, rcv, lget, lset, lset2, isL, rok, szs, List.elem_nil, List.elem_cons, cond_true, cond_false, Option.map_some, beq_self_eq_true, Bool.true_and, Bool.and_true, Bool.false_and, Bool.and_false, Bool.or_false, Bool.false_or, Bool.or_true, Bool.true_or, Nat.reduceAdd, Nat.reduceSub, Nat.reduceMul, Nat.reduceBEq, Nat.reduceEqDiff, Nat.reduceLeDiff, Nat.sub_zero, true_and, and_true, false_and, and_false, true_or, or_true, false_or, or_false, reduceCtorEq, ↓reduceIte, List.getD_cons_zero, List.getD_cons_succ, List.length_cons, List.length_nil, ct_i, ct_r, ct_l, ct_f, ct_n, false_implies, true_implies, y144, y145, y146, y147, y148, y149, y150, y151, y152, y153, y154, y155, y156, y157, bN_0]
  refine ⟨fun c => by rw [c] at h; exact h, fun c => ⟨by omega, k_mIsWhiteOf (by omega) ?_⟩⟩
  refine hZ 400 [6, 16] _ _ _ _ _ _ _ ?_
  simp -implicitDefEqProofs (disch := omega) only [wp_step xX11_canKnot_16, wp_step xX11_canKnot_19, wp_step xX11_canKnot_20, wp_step xX11_canKnot_23, wp_step xX11_canKnot_24, wp_step xX11_canKnot_25, wp_step xX11_canKnot_27, wp_step xX11_canKnot_30, wp_step xX11_canKnot_31, wp_step xX11_canKnot_34, wp_step xX11_canKnot_35, wp_step xX11_canKnot_36, wp_step xX11_canKnot_38, wp_step xX11_canKnot_39, wp_step xX11_canKnot_41, wp_step xX11_canKnot_44, wp_step xX11_canKnot_45, wp_step xX11_canKnot_48, wp_step xX11_canKnot_49, ↓e_virt iX11_canKnot l11_390 iX11_isWhiteOf, ↓e_getf iX11_canKnot f11_43, iX11_canKnot, exec1, ↓p1_e, ↓p2_e, ↓q1_e, ↓q2_e, ↓qi_e, ↓pr_e, ↓pa_e, ↓pa_f, ↓pst_e, ↓qst_e, ↓rst_e, ↓pac_e, ↓pargs_0, ↓pargs_s, ↓gfld_0, ↓gfld_1, ↓gfld_2, ↓gfld_3, ↓pfld_i, ↓pfld_l, ↓pfld_r, ↓sfld_i, ↓sfld_l, ↓sfld_r, brI, pushv, rcv, lget, lset, lset2, isL, rok, szs, List.elem_nil, List.elem_cons, cond_true, cond_false, Option.map_some, beq_self_eq_true, Bool.true_and, Bool.and_true, Bool.false_and, Bool.and_false, Bool.or_false, Bool.false_or, Bool.or_true, Bool.true_or, Nat.reduceAdd, Nat.reduceSub, Nat.reduceMul, Nat.reduceBEq, Nat.reduceEqDiff, Nat.reduceLeDiff, Nat.sub_zero, true_and, and_true, false_and, and_false, true_or, or_true, false_or, or_false, reduceCtorEq, ↓reduceIte, List.getD_cons_zero, List.getD_cons_succ, List.length_cons, List.length_nil, ct_i, ct_r, ct_l, ct_f, ct_n, false_implies, true_implies, y144, y145, y146, y147, y148, y149, y150, y151, y152, y153, y154, y155, y156, y157, bN_0, vi, vj, nI_clamp]
  rw [btr c] at h
  refine ⟨fun c2 => by rw [c2, Bool.false_and, Bool.and_false] at h; exact h, fun c2 => ?_⟩
  rw [btr c2] at h
  have e7 : (decide (1 ≤ (fun f => gi μ (146 + f)) 7 i - nI k)) = decide (nI k < gi μ 153 i) := by
    show decide (1 ≤ gi μ 153 i - nI k) = _
    rw [el]; exact (sub_lt hl hk).symm
  rw [e7] at h
  refine ⟨fun c3 => ?_, fun c3 => ⟨fun c4 => ?_, fun c4 => ?_⟩⟩
  · rw [decide_eq_false (fun z => lef c3 z)] at h; exact h
  · rw [decide_eq_false (p := (fun f => gi μ (146 + f)) 7 j + nI k ≤ 99) (fun z => lef z c4), Bool.and_false, Bool.and_false] at h; exact h
  · rw [decide_eq_true (p := nI k < gi μ 153 i) (by simp only [i_le, i_lt] at *; omega), decide_eq_true (p := (fun f => gi μ (146 + f)) 7 j + nI k ≤ 99) (by show gi μ 153 j + nI k ≤ 99; simp only [i_le, i_lt] at *; omega)] at h; exact h
set_option maxRecDepth 100000 in
set_option maxHeartbeats 1000000 in
theorem k_mKnots {i j : Nat} {m : Int32} (hi : i < 40) (hj : j < 40) (hij : i ≠ j) (h : Q none (LAY v) (knM μ i j m) bc bs) : KC G d mX11_knots [.ref 144, .int (nI i), .int (nI j), .int m] (LAY v) μ bc bs Q := by
  have vi : vp_in (nI i) 40 := vin (by omega) (by omega)
  have vj : vp_in (nI j) 40 := vin (by omega) (by omega)
  refine KC_intro 0 0 kX11_knots (by decide) (by decide) (Nat.zero_le _) (Nat.zero_le _) (Nat.le_of_ble_eq_true rfl) (fun Z hZ => ?_)
  show Z 0 [some (.ref 144), some (.int (nI i)), some (.int (nI j)), some (.int m)] [] (LAY v) μ 0 0
  refine hZ 400 [] _ _ _ _ _ _ _ ?_
  simp -implicitDefEqProofs (disch := omega) only [wp_step xX11_knots_0, wp_step xX11_knots_1, wp_step xX11_knots_4, wp_step xX11_knots_5, wp_step xX11_knots_6, wp_step xX11_knots_7, wp_step xX11_knots_8, wp_step xX11_knots_9, wp_step xX11_knots_10, wp_step xX11_knots_11, wp_step xX11_knots_14, wp_step xX11_knots_15, wp_step xX11_knots_16, wp_step xX11_knots_17, wp_step xX11_knots_18, wp_step xX11_knots_19, wp_step xX11_knots_20, ↓e_getf iX11_knots f11_43, iX11_knots, exec1, ↓p1_e, ↓p2_e, ↓q1_e, ↓q2_e, ↓qi_e, ↓pr_e, ↓pa_e, ↓pa_f, ↓pst_e, ↓qst_e, ↓rst_e, ↓pac_e, ↓pargs_0, ↓pargs_s, ↓gfld_0, ↓gfld_1, ↓gfld_2, ↓gfld_3, ↓pfld_i, ↓pfld_l, ↓pfld_r, ↓sfld_i, ↓sfld_l, ↓sfld_r, brI, pushv, rcv, lget, lset, lset2, isL, rok, szs, List.elem_nil, List.elem_cons, cond_true, cond_false, Option.map_some, beq_self_eq_true, Bool.true_and, Bool.and_true, Bool.false_and, Bool.and_false, Bool.or_false, Bool.false_or, Bool.or_true, Bool.true_or, Nat.reduceAdd, Nat.reduceSub, Nat.reduceMul, Nat.reduceBEq, Nat.reduceEqDiff, Nat.reduceLeDiff, Nat.sub_zero, true_and, and_true, false_and, and_false, true_or, or_true, false_or, or_false, reduceCtorEq, ↓reduceIte, List.getD_cons_zero, List.getD_cons_succ, List.length_cons, List.length_nil, ct_i, ct_r, ct_l, ct_f, ct_n, false_implies, true_implies, y144, y145, y146, y147, y148, y149, y150, y151, y152, y153, y154, y155, y156, y157, vi, vj, nI_clamp, gi_si_k]
  exact h
theorem knM_7 {i j k : Nat} {m : Int32} (hij : i ≠ j) : gi (knM μ i j m) 153 k = if k = j then gi μ 153 j + m else if k = i then gi μ 153 i - m else gi μ 153 k := by
  unfold knM
  by_cases q : k = j
  · subst q; rw [gi_si, if_pos rfl]
  · rw [gi_si_k q, if_neg q]
    by_cases q2 : k = i
    · subst q2; rw [gi_si, if_pos rfl]
    · rw [gi_si_k q2, if_neg q2]
theorem knM_o {i j a k : Nat} {m : Int32} (h : a ≠ 153) : gi (knM μ i j m) a k = gi μ a k := by
  unfold knM; rw [gi_si_a h, gi_si_a h]
theorem knM_F {i j : Nat} {m : Int32} : Fr (fun a _ => a = 153) μ (knM μ i j m) := Fr.si (P := fun a _ => a = 153) (Fr.si (P := fun a _ => a = 153) Fr.rf rfl) rfl
/-- what both lengths are then -/
theorem WM.kn {i j k nr nb sz n : Nat} {a b : Int32} (hW : WM μ nr nb sz n) (hi : i < nb) (hj : j < nb) (hk : k ≤ 98) (hab : a ≠ b) (ci : cutB (fun f => gi μ (146 + f)) i a (nI k) = true) (cj : knB (fun f => gi μ (146 + f)) j b (nI k) = true) : WM (knM μ i j (nI k)) nr nb sz n := by
  have hij := cut_ne hab ci cj
  obtain ⟨w1, w2, w3, w8, w9, w10⟩ := id hW
  have o : ∀ a k', a ≠ 153 → gi (knM μ i j (nI k)) a k' = gi μ a k' := fun a k' z => knM_o z
  refine ⟨(o _ _ (by omega)).trans w1, (o _ _ (by omega)).trans w2, w3.len (fun f hf h7 => funext (fun x => o _ _ (by omega))) (fun x hx => ?_), (o _ _ (by omega)).trans w8, w9, fun q hq => (w10 q hq).cong (fun f hf => funext (fun x => o _ _ (by omega))) (fun f hf => funext (fun x => o _ _ (by omega)))⟩
  obtain ⟨-, -, ⟨lx, hlx, elx, hgx⟩, -⟩ := w3.2.2 x hx
  show ∃ l, l ≤ 99 ∧ gi (knM μ i j (nI k)) 153 x = nI l ∧ _
  rw [knM_7 hij]
  obtain ⟨-, -, ⟨li, hli, eli, hgi⟩, -⟩ := w3.2.2 i hi
  obtain ⟨-, -, ⟨lj, hlj, elj, hgj⟩, -⟩ := w3.2.2 j hj
  simp only [Nat.reduceAdd] at elx eli elj
  by_cases q : x = j
  · subst q
    unfold knB at cj
    have q2 := of_decide_eq_true (Bool.and_eq_true_iff.mp cj).2
    simp only [Nat.reduceAdd] at q2
    rw [elj, nI_add] at q2
    have q3 := (nI_leI (b := 99) (by omega) (by omega)).mp q2
    rw [if_pos rfl, elj, nI_add]
    exact ⟨lj + k, q3, rfl, fun z => by have := hgj z; omega⟩
  · rw [if_neg q]
    by_cases q2 : x = i
    · subst q2
      unfold cutB at ci
      have q3 := (Bool.and_eq_true_iff.mp ci).2
      have q4 : decide (nI k < nI li) = true := by rw [sub_lt hli hk, ← eli]; exact q3
      have q5 := (nI_ltI (by omega) (by omega)).mp (of_decide_eq_true q4)
      rw [if_pos rfl, eli, nI_sub (by omega)]
      exact ⟨li - k, by omega, rfl, fun _ => by omega⟩
    · rw [if_neg q2]
      exact ⟨lx, hlx, elx, hgx⟩
def othM (μ : Mem) (nr nb sz n : Nat) (m : Int32) (ln : Nat → Int32) (i j : Nat) : Int32 := cnB (fun r => !decide (lnV ((WGM (knM μ i j m) nr nb sz n (gi μ 144 4)).2 r) (gi μ 148 (r)) = ln r)) nr
set_option maxRecDepth 100000 in
set_option maxHeartbeats 1000000 in
theorem k_mOthersBy {i j k nr nb sz n : Nat} {a b : Int32} (hd : 6 ≤ d) (hW : WM μ nr nb sz n) (hi : i < nb) (hj : j < nb) (hk : k ≤ 98) (hab : a ≠ b) (ci : cutB (fun f => gi μ (146 + f)) i a (nI k) = true) (cj : knB (fun f => gi μ (146 + f)) j b (nI k) = true) (h : ∀ μ', Fr pK μ μ' → Q (some (.int (othM μ nr nb sz n (nI k) (gi μ 176) i j))) (LAY v) μ' bc bs) : KC G d mX11_othersBy [.ref 144, .int (nI i), .int (nI j), .int (nI k)] (LAY v) μ bc bs Q := by
  obtain ⟨w1, w2, ⟨⟨w3, w4, w5⟩, w6, w7⟩, w8, w9, w10⟩ := id hW
  have hij := cut_ne hab ci cj
  refine KC_intro 0 0 kX11_othersBy (by decide) (by decide) (Nat.zero_le _) (Nat.zero_le _) (Nat.le_of_ble_eq_true rfl) (fun Z hZ => ?_)
  show Z 0 [some (.ref 144), some (.int (nI i)), some (.int (nI j)), some (.int (nI k)), none, none] [] (LAY v) μ 0 0
  refine hZ 400 [7, 11, 17, 67] _ _ _ _ _ _ _ ?_
  simp -implicitDefEqProofs (disch := omega) only [wp_step xX11_othersBy_0, wp_step xX11_othersBy_1, wp_step xX11_othersBy_2, wp_step xX11_othersBy_3, wp_step xX11_othersBy_4, ↓e_virt iX11_othersBy l11_394 iX11_knots, ↓e_virt iX11_othersBy l11_381 iX11_laysLeans, ↓e_getf iX11_othersBy f11_13, ↓e_getf iX11_othersBy f11_109, ↓e_getf iX11_othersBy f11_112, iX11_othersBy, exec1, ↓p1_e, ↓p2_e, ↓q1_e, ↓q2_e, ↓qi_e, ↓pr_e, ↓pa_e, ↓pa_f, ↓pst_e, ↓qst_e, ↓rst_e, ↓pac_e, ↓pargs_0, ↓pargs_s, ↓gfld_0, ↓gfld_1, ↓gfld_2, ↓gfld_3, ↓pfld_i, ↓pfld_l, ↓pfld_r, ↓sfld_i, ↓sfld_l, ↓sfld_r, brI, pushv, rcv, lget, lset, lset2, isL, rok, szs, List.elem_nil, List.elem_cons, cond_true, cond_false, Option.map_some, beq_self_eq_true, Bool.true_and, Bool.and_true, Bool.false_and, Bool.and_false, Bool.or_false, Bool.false_or, Bool.or_true, Bool.true_or, Nat.reduceAdd, Nat.reduceSub, Nat.reduceMul, Nat.reduceBEq, Nat.reduceEqDiff, Nat.reduceLeDiff, Nat.sub_zero, true_and, and_true, false_and, and_false, true_or, or_true, false_or, or_false, reduceCtorEq, ↓reduceIte, List.getD_cons_zero, List.getD_cons_succ, List.length_cons, List.length_nil, ct_i, ct_r, ct_l, ct_f, ct_n, false_implies, true_implies, y144]
  refine ⟨by omega, k_mKnots (by omega) (by omega) hij ?_⟩
  refine hZ 400 [7, 11, 17, 67] _ _ _ _ _ _ _ ?_
  simp -implicitDefEqProofs (disch := omega) only [wp_step xX11_othersBy_7, wp_step xX11_othersBy_8, ↓e_virt iX11_othersBy l11_394 iX11_knots, ↓e_virt iX11_othersBy l11_381 iX11_laysLeans, ↓e_getf iX11_othersBy f11_13, ↓e_getf iX11_othersBy f11_109, ↓e_getf iX11_othersBy f11_112, iX11_othersBy, exec1, ↓p1_e, ↓p2_e, ↓q1_e, ↓q2_e, ↓qi_e, ↓pr_e, ↓pa_e, ↓pa_f, ↓pst_e, ↓qst_e, ↓rst_e, ↓pac_e, ↓pargs_0, ↓pargs_s, ↓gfld_0, ↓gfld_1, ↓gfld_2, ↓gfld_3, ↓pfld_i, ↓pfld_l, ↓pfld_r, ↓sfld_i, ↓sfld_l, ↓sfld_r, brI, pushv, rcv, lget, lset, lset2, isL, rok, szs, List.elem_nil, List.elem_cons, cond_true, cond_false, Option.map_some, beq_self_eq_true, Bool.true_and, Bool.and_true, Bool.false_and, Bool.and_false, Bool.or_false, Bool.false_or, Bool.or_true, Bool.true_or, Nat.reduceAdd, Nat.reduceSub, Nat.reduceMul, Nat.reduceBEq, Nat.reduceEqDiff, Nat.reduceLeDiff, Nat.sub_zero, true_and, and_true, false_and, and_false, true_or, or_true, false_or, or_false, reduceCtorEq, ↓reduceIte, List.getD_cons_zero, List.getD_cons_succ, List.length_cons, List.length_nil, ct_i, ct_r, ct_l, ct_f, ct_n, false_implies, true_implies, y144]
  refine ⟨by omega, k_laysLeans (by omega) (hW.kn hi hj hk hab ci cj) (fun μ1 hF hG hl => ?_)⟩
  have o : ∀ a k', a ≠ 153 → gi (knM μ i j (nI k)) a k' = gi μ a k' := fun a k' z => knM_o z
  have g1 : ∀ a k', a ≠ 153 → ¬ pK a k' → gi μ1 a k' = gi μ a k' := fun a k' z y => (hF.1 a k' y).trans (o a k' z)
  have g7 : ∀ k', gi μ1 153 k' = if k' = j then gi μ 153 j + nI k else if k' = i then gi μ 153 i - nI k else gi μ 153 k' := fun k' => (hF.1 153 k' (by unfold pK pN; omega)).trans (knM_7 hij)
  have hr1 : gi μ1 144 2 = nI nr := (g1 _ _ (by omega) (by unfold pK pN; omega)).trans w1
  obtain ⟨p, hp⟩ : ∃ p : Nat → Bool, p = fun r => !decide (lnV ((WGM (knM μ i j (nI k)) nr nb sz n (gi μ 144 4)).2 r) (gi μ 148 (r)) = gi μ 176 r) := ⟨_, rfl⟩
  have pe : ∀ r, p r = !decide (lnV ((WGM (knM μ i j (nI k)) nr nb sz n (gi μ 144 4)).2 r) (gi μ 148 (r)) = gi μ 176 r) := fun r => by rw [hp]
  unfold othM at h
  rw [← hp] at h
  have loop : ∀ r, r ≤ nr → Z 17 [some (.ref 144), some (.int (nI i)), some (.int (nI j)), some (.int (nI k)), some (.int (cnB p r)), some (.int (nI r))] [] (LAY v) μ1 0 0 := by
    refine loopN nr ?_ (fun r hr ih => ?_)
    · refine hZ 400 [7, 11, 17, 67] _ _ _ _ _ _ _ ?_
      simp -implicitDefEqProofs (disch := omega) only [wp_step xX11_othersBy_17, wp_step xX11_othersBy_19, wp_step xX11_othersBy_20, wp_step xX11_othersBy_23, ↓e_virt iX11_othersBy l11_394 iX11_knots, ↓e_virt iX11_othersBy l11_381 iX11_laysLeans, ↓e_getf iX11_othersBy f11_13, ↓e_getf iX11_othersBy f11_109, ↓e_getf iX11_othersBy f11_112, iX11_othersBy, wp_step xX11_othersBy_59, wp_step xX11_othersBy_60, wp_step xX11_othersBy_61, wp_step xX11_othersBy_62, wp_step xX11_othersBy_63, wp_step xX11_othersBy_64, ↓e_virt iX11_othersBy l11_394 iX11_knots, ↓e_virt iX11_othersBy l11_381 iX11_laysLeans, ↓e_getf iX11_othersBy f11_13, ↓e_getf iX11_othersBy f11_109, ↓e_getf iX11_othersBy f11_112, iX11_othersBy, exec1, ↓p1_e, ↓p2_e, ↓q1_e, ↓q2_e, ↓qi_e, ↓pr_e, ↓pa_e, ↓pa_f, ↓pst_e, ↓qst_e, ↓rst_e, ↓pac_e, ↓pargs_0, ↓pargs_s, ↓gfld_0, ↓gfld_1, ↓gfld_2, ↓gfld_3, ↓pfld_i, ↓pfld_l, ↓pfld_r, ↓sfld_i, ↓sfld_l, ↓sfld_r, brI, pushv, rcv, lget, lset, lset2, isL, rok, szs, List.elem_nil, List.elem_cons, cond_true, cond_false, Option.map_some, beq_self_eq_true, Bool.true_and, Bool.and_true, Bool.false_and, Bool.and_false, Bool.or_false, Bool.false_or, Bool.or_true, Bool.true_or, Nat.reduceAdd, Nat.reduceSub, Nat.reduceMul, Nat.reduceBEq, Nat.reduceEqDiff, Nat.reduceLeDiff, Nat.sub_zero, true_and, and_true, false_and, and_false, true_or, or_true, false_or, or_false, reduceCtorEq, ↓reduceIte, List.getD_cons_zero, List.getD_cons_succ, List.length_cons, List.length_nil, ct_i, ct_r, ct_l, ct_f, ct_n, false_implies, true_implies, y144, y145, y146, y147, y148, y149, y150, y151, y152, y153, y154, y155, y156, y157, hr1, nle_t (show nr < 2 ^ 31 by omega), not_false_eq_true, true_implies, false_implies, and_true, true_and, not_true_eq_false]
      refine ⟨by omega, k_mKnots (by omega) (by omega) hij ?_⟩
      refine hZ 400 [7, 11, 17, 67] _ _ _ _ _ _ _ ?_
      simp -implicitDefEqProofs (disch := omega) only [wp_step xX11_othersBy_67, wp_step xX11_othersBy_69, ↓e_virt iX11_othersBy l11_394 iX11_knots, ↓e_virt iX11_othersBy l11_381 iX11_laysLeans, ↓e_getf iX11_othersBy f11_13, ↓e_getf iX11_othersBy f11_109, ↓e_getf iX11_othersBy f11_112, iX11_othersBy, exec1, ↓p1_e, ↓p2_e, ↓q1_e, ↓q2_e, ↓qi_e, ↓pr_e, ↓pa_e, ↓pa_f, ↓pst_e, ↓qst_e, ↓rst_e, ↓pac_e, ↓pargs_0, ↓pargs_s, ↓gfld_0, ↓gfld_1, ↓gfld_2, ↓gfld_3, ↓pfld_i, ↓pfld_l, ↓pfld_r, ↓sfld_i, ↓sfld_l, ↓sfld_r, brI, pushv, rcv, lget, lset, lset2, isL, rok, szs, List.elem_nil, List.elem_cons, cond_true, cond_false, Option.map_some, beq_self_eq_true, Bool.true_and, Bool.and_true, Bool.false_and, Bool.and_false, Bool.or_false, Bool.false_or, Bool.or_true, Bool.true_or, Nat.reduceAdd, Nat.reduceSub, Nat.reduceMul, Nat.reduceBEq, Nat.reduceEqDiff, Nat.reduceLeDiff, Nat.sub_zero, true_and, and_true, false_and, and_false, true_or, or_true, false_or, or_false, reduceCtorEq, ↓reduceIte, List.getD_cons_zero, List.getD_cons_succ, List.length_cons, List.length_nil, ct_i, ct_r, ct_l, ct_f, ct_n, false_implies, true_implies]
      refine h _ ⟨fun a x z => ?_, fun a x => ?_⟩
      · by_cases q : a = 153
        · subst q
          rw [knM_7 hij, g7, g7, g7, if_pos rfl, if_neg hij, if_pos rfl]
          by_cases q1 : x = j
          · subst q1; rw [if_pos rfl]; grind
          · rw [if_neg q1]
            by_cases q2 : x = i
            · subst q2; rw [if_pos rfl]; grind
            · rw [if_neg q2, if_neg q1, if_neg q2]
        · rw [knM_o q]; exact g1 a x q z
      · rw [(knM_F (m := -nI k)).2 a x, hF.2 a x]; exact (knM_F (m := nI k)).2 a x
    · have vr : vp_in (nI r) 10 := vin (by omega) (by omega)
      have e1 : gi μ1 175 r = lnV ((WGM (knM μ i j (nI k)) nr nb sz n (gi μ 144 4)).2 r) (gi μ 148 (r)) := by
        rw [hl r hr, o 144 4 (by omega), o 148 r (by omega)]; rfl
      have e2 : gi μ1 176 r = gi μ 176 r := g1 _ _ (by omega) (by unfold pK pN; omega)
      refine hZ 400 [7, 11, 17, 67] _ _ _ _ _ _ _ ?_
      simp -implicitDefEqProofs (disch := omega) only [wp_step xX11_othersBy_17, wp_step xX11_othersBy_19, wp_step xX11_othersBy_20, wp_step xX11_othersBy_23, wp_step xX11_othersBy_26, wp_step xX11_othersBy_28, wp_step xX11_othersBy_29, wp_step xX11_othersBy_32, wp_step xX11_othersBy_34, wp_step xX11_othersBy_35, wp_step xX11_othersBy_36, wp_step xX11_othersBy_39, wp_step xX11_othersBy_41, wp_step xX11_othersBy_42, wp_step xX11_othersBy_45, wp_step xX11_othersBy_46, wp_step xX11_othersBy_49, wp_step xX11_othersBy_50, wp_step xX11_othersBy_51, wp_step xX11_othersBy_53, wp_step xX11_othersBy_56, ↓e_virt iX11_othersBy l11_394 iX11_knots, ↓e_virt iX11_othersBy l11_381 iX11_laysLeans, ↓e_getf iX11_othersBy f11_13, ↓e_getf iX11_othersBy f11_109, ↓e_getf iX11_othersBy f11_112, iX11_othersBy, exec1, ↓p1_e, ↓p2_e, ↓q1_e, ↓q2_e, ↓qi_e, ↓pr_e, ↓pa_e, ↓pa_f, ↓pst_e, ↓qst_e, ↓rst_e, ↓pac_e, ↓pargs_0, ↓pargs_s, ↓gfld_0, ↓gfld_1, ↓gfld_2, ↓gfld_3, ↓pfld_i, ↓pfld_l, ↓pfld_r, ↓sfld_i, ↓sfld_l, ↓sfld_r, brI, pushv, rcv, lget, lset, lset2, isL, rok, szs, List.elem_nil, List.elem_cons, cond_true, cond_false, Option.map_some, beq_self_eq_true, Bool.true_and, Bool.and_true, Bool.false_and, Bool.and_false, Bool.or_false, Bool.false_or, Bool.or_true, Bool.true_or, Nat.reduceAdd, Nat.reduceSub, Nat.reduceMul, Nat.reduceBEq, Nat.reduceEqDiff, Nat.reduceLeDiff, Nat.sub_zero, true_and, and_true, false_and, and_false, true_or, or_true, false_or, or_false, reduceCtorEq, ↓reduceIte, List.getD_cons_zero, List.getD_cons_succ, List.length_cons, List.length_nil, ct_i, ct_r, ct_l, ct_f, ct_n, false_implies, true_implies, y144, y145, y146, y147, y148, y149, y150, y151, y152, y153, y154, y155, y156, y157, y173, y174, y175, y176, hr1, nle_f hr (show nr < 2 ^ 31 by omega), vr, nI_clamp, e1, e2, not_false_eq_true, true_implies, false_implies, and_true, true_and, not_true_eq_false, nI_1]
      refine ⟨fun c => ?_, fun c => ?_⟩
      · rw [cnB_f (by rw [pe, decide_eq_true c]; rfl)] at ih
        rw [Int32.add_zero]; exact ih
      · rw [cnB_t (by rw [pe, decide_eq_false c]; rfl)] at ih; exact ih
  refine hZ 400 [7, 11, 17, 67] _ _ _ _ _ _ _ ?_
  simp -implicitDefEqProofs (disch := omega) only [wp_step xX11_othersBy_11, wp_step xX11_othersBy_12, wp_step xX11_othersBy_14, wp_step xX11_othersBy_15, ↓e_virt iX11_othersBy l11_394 iX11_knots, ↓e_virt iX11_othersBy l11_381 iX11_laysLeans, ↓e_getf iX11_othersBy f11_13, ↓e_getf iX11_othersBy f11_109, ↓e_getf iX11_othersBy f11_112, iX11_othersBy, exec1, ↓p1_e, ↓p2_e, ↓q1_e, ↓q2_e, ↓qi_e, ↓pr_e, ↓pa_e, ↓pa_f, ↓pst_e, ↓qst_e, ↓rst_e, ↓pac_e, ↓pargs_0, ↓pargs_s, ↓gfld_0, ↓gfld_1, ↓gfld_2, ↓gfld_3, ↓pfld_i, ↓pfld_l, ↓pfld_r, ↓sfld_i, ↓sfld_l, ↓sfld_r, brI, pushv, rcv, lget, lset, lset2, isL, rok, szs, List.elem_nil, List.elem_cons, cond_true, cond_false, Option.map_some, beq_self_eq_true, Bool.true_and, Bool.and_true, Bool.false_and, Bool.and_false, Bool.or_false, Bool.false_or, Bool.or_true, Bool.true_or, Nat.reduceAdd, Nat.reduceSub, Nat.reduceMul, Nat.reduceBEq, Nat.reduceEqDiff, Nat.reduceLeDiff, Nat.sub_zero, true_and, and_true, false_and, and_false, true_or, or_true, false_or, or_false, reduceCtorEq, ↓reduceIte, List.getD_cons_zero, List.getD_cons_succ, List.length_cons, List.length_nil, ct_i, ct_r, ct_l, ct_f, ct_n, false_implies, true_implies]
  exact loop 0 (by omega)
end PAY6
