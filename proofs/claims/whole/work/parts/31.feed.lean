/-- the places by which a number's bytes are shifted -/
def shF : Nat → Int32
  | 0 => 24
  | 1 => 16
  | 2 => 8
  | 3 => 0
  | _ => -8
theorem shF_s {k : Nat} (h : k < 4) : shF k + -8 = shF (k + 1) ∧ ¬ shF k < 0 ∧ shF k &&& 31 = shF k := by
  have e : k = 0 ∨ k = 1 ∨ k = 2 ∨ k = 3 := by omega
  rcases e with rfl | rfl | rfl | rfl <;> decide
theorem shF_4 : shF 4 < 0 := by decide
/-- the byte itself -/
def byt (x : Int32) (k : Nat) : Int32 := x >>> shF k &&& 255
theorem nar_by (x : Int32) : vp_nar .byte x = x.toInt8.toInt32 := rfl
theorem byt_m (x : Int32) : (x.toInt8.toInt32).toInt8.toInt32 &&& 255 = x &&& 255 := by
  rw [Int8.toInt8_toInt32]
  apply Int32.toBitVec_inj.mp
  rw [Int32.toBitVec_and, Int32.toBitVec_and, Int8.toBitVec_toInt32, Int32.toBitVec_toInt8]
  apply BitVec.eq_of_getLsbD_eq
  intro i hi
  rw [BitVec.getLsbD_and, BitVec.getLsbD_and]
  by_cases h : i < 8
  · rw [BitVec.getLsbD_signExtend, BitVec.getLsbD_signExtend]
    simp [h, hi]
  · have e : (255 : Int32).toBitVec.getLsbD i = false := by
      apply BitVec.getLsbD_of_ge (w := 8) (x := 255#8) |> fun _ => ?_
      show Nat.testBit 255 i = false
      exact Nat.testBit_lt_two_pow (Nat.lt_of_lt_of_le (by decide) (Nat.pow_le_pow_right (by decide) (Nat.le_of_not_lt h)) : 255 < 2 ^ i)
    rw [e, Bool.and_false, Bool.and_false]
theorem byt_n (x : Int32) (k : Nat) : ∃ b, b < 256 ∧ byt x k = nI b := by
  have h : (byt x k).toBitVec.toNat < 256 := by
    unfold byt
    rw [Int32.toBitVec_and, BitVec.toNat_and]
    exact Nat.lt_of_le_of_lt Nat.and_le_right (by decide)
  refine ⟨(byt x k).toBitVec.toNat, h, ?_⟩
  apply Int32.toBitVec_inj.mp
  apply BitVec.eq_of_toNat_eq
  rw [show (nI (byt x k).toBitVec.toNat).toBitVec = BitVec.ofNat 32 (byt x k).toBitVec.toNat from rfl, BitVec.toNat_ofNat, Nat.mod_eq_of_lt (by omega)]
section FED
variable {G : Gx} {d v : Nat} {μ : Mem} {bc bs : Nat} {Q : Option Value → List Sh → Mem → Nat → Nat → Prop} {LR : Mem → Prop}
/-- k bytes of x behind ts, on either tape -/
def addC (μ : Mem) (ts : Nat) (x : Int32) : Nat → Mem
  | 0 => μ
  | k + 1 => si (si (addC μ ts x k) 2 (ts + k) (byt x k)) 1 1 (nI (ts + k + 1))
def addM (μ : Mem) (ts : Nat) (x : Int32) : Nat → Mem
  | 0 => μ
  | k + 1 => si (si (addM μ ts x k) 145 (ts + k) (vp_nar .byte (x >>> shF k).toInt8.toInt32)) 144 1 (nI (ts + k + 1))
theorem addC_11 {ts k : Nat} {x : Int32} (h : gi μ 1 1 = nI ts) : gi (addC μ ts x k) 1 1 = nI (ts + k) := by
  cases k with
  | zero => exact h
  | succ k => rw [addC, gi_si]; rfl
theorem addM_11 {ts k : Nat} {x : Int32} (h : gi μ 144 1 = nI ts) : gi (addM μ ts x k) 144 1 = nI (ts + k) := by
  cases k with
  | zero => exact h
  | succ k => rw [addM, gi_si]; rfl
set_option maxRecDepth 100000 in
set_option maxHeartbeats 1000000 in
theorem k_hasRoom (h : Q (some (.int (bI ((gi μ 1 1) + 20 ≤ 220)))) (LAY v) μ bc bs) : KC G d mX8_hasRoom [.ref 1] (LAY v) μ bc bs Q := by
  refine KC_intro 0 0 kX8_hasRoom (by decide) (by decide) (Nat.zero_le _) (Nat.zero_le _) (Nat.le_of_ble_eq_true rfl) (fun Z hZ => ?_)
  show Z 0 [some (.ref 1)] [] (LAY v) μ 0 0
  refine hZ 400 [] _ _ _ _ _ _ _ ?_
  simp -implicitDefEqProofs only [wp_step xX8_hasRoom_0, wp_step xX8_hasRoom_1, wp_step xX8_hasRoom_4, wp_step xX8_hasRoom_6, wp_step xX8_hasRoom_7, wp_step xX8_hasRoom_10, wp_step xX8_hasRoom_13, wp_step xX8_hasRoom_14, wp_step xX8_hasRoom_17, wp_step xX8_hasRoom_18, ↓e_getf iX8_hasRoom f8_15, iX8_hasRoom, exec1, ↓p1_e, ↓p2_e, ↓q1_e, ↓q2_e, ↓qi_e, ↓pr_e, ↓pa_e, ↓pa_f, ↓pst_e, ↓qst_e, ↓rst_e, ↓pac_e, ↓pargs_0, ↓pargs_s, ↓gfld_0, ↓gfld_1, ↓gfld_2, ↓gfld_3, ↓pfld_i, ↓pfld_l, ↓pfld_r, ↓sfld_i, ↓sfld_l, ↓sfld_r, brI, pushv, rcv, lget, lset, lset2, isL, rok, szs, List.elem_nil, List.elem_cons, cond_true, cond_false, Option.map_some, beq_self_eq_true, Bool.true_and, Bool.and_true, Bool.false_and, Bool.and_false, Bool.or_false, Bool.false_or, Bool.or_true, Bool.true_or, Nat.reduceAdd, Nat.reduceSub, Nat.reduceMul, Nat.reduceBEq, Nat.reduceEqDiff, Nat.reduceLeDiff, Nat.sub_zero, true_and, and_true, false_and, and_false, true_or, or_true, false_or, or_false, reduceCtorEq, ↓reduceIte, List.getD_cons_zero, List.getD_cons_succ, List.length_cons, List.length_nil, ct_i, ct_r, ct_l, ct_f, ct_n, false_implies, true_implies, y1, y2]
  refine ⟨fun h1 => ?_, fun h1 => ?_⟩
  · exact b0 (P := fun x => Q (some (.int x)) (LAY v) μ bc bs) (by simp only [i_le, i_lt] at *; omega) h
  · exact b1 (P := fun x => Q (some (.int x)) (LAY v) μ bc bs) (by simp only [i_le, i_lt] at *; omega) h
set_option maxRecDepth 100000 in
set_option maxHeartbeats 1000000 in
theorem k_add {x : Int32} {ts : Nat} (ht : (gi μ 1 1) = nI ts) (hs : ts + 4 ≤ 220) (h : Q none (LAY v) (addC μ ts x 4) bc bs) : KC G d mX8_add [.ref 1, .int x] (LAY v) μ bc bs Q := by
  refine KC_intro 0 0 kX8_add (by decide) (by decide) (Nat.zero_le _) (Nat.zero_le _) (Nat.le_of_ble_eq_true rfl) (fun Z hZ => ?_)
  have key := loopN (P := fun k => Z 3 [some (.ref 1), some (.int x), some (.int (shF k))] [] (LAY v) (addC μ ts x k) 0 0) 4 (by
    refine hZ 400 [3] _ _ _ _ _ _ _ ?_
    simp -implicitDefEqProofs only [wp_step xX8_add_0, wp_step xX8_add_2, wp_step xX8_add_3, wp_step xX8_add_4, wp_step xX8_add_7, wp_step xX8_add_8, wp_step xX8_add_11, wp_step xX8_add_14, wp_step xX8_add_17, wp_step xX8_add_18, wp_step xX8_add_21, wp_step xX8_add_22, wp_step xX8_add_25, wp_step xX8_add_26, wp_step xX8_add_27, wp_step xX8_add_28, wp_step xX8_add_31, wp_step xX8_add_32, wp_step xX8_add_33, wp_step xX8_add_34, wp_step xX8_add_35, wp_step xX8_add_38, wp_step xX8_add_39, wp_step xX8_add_40, wp_step xX8_add_43, wp_step xX8_add_46, wp_step xX8_add_49, ↓e_getf iX8_add f8_15, ↓e_getf iX8_add f8_11, ↓e_putf iX8_add f8_15, iX8_add, exec1, ↓p1_e, ↓p2_e, ↓q1_e, ↓q2_e, ↓qi_e, ↓pr_e, ↓pa_e, ↓pa_f, ↓pst_e, ↓qst_e, ↓rst_e, ↓pac_e, ↓pargs_0, ↓pargs_s, ↓gfld_0, ↓gfld_1, ↓gfld_2, ↓gfld_3, ↓pfld_i, ↓pfld_l, ↓pfld_r, ↓sfld_i, ↓sfld_l, ↓sfld_r, brI, pushv, rcv, lget, lset, lset2, isL, rok, szs, List.elem_nil, List.elem_cons, cond_true, cond_false, Option.map_some, beq_self_eq_true, Bool.true_and, Bool.and_true, Bool.false_and, Bool.and_false, Bool.or_false, Bool.false_or, Bool.or_true, Bool.true_or, Nat.reduceAdd, Nat.reduceSub, Nat.reduceMul, Nat.reduceBEq, Nat.reduceEqDiff, Nat.reduceLeDiff, Nat.sub_zero, true_and, and_true, false_and, and_false, true_or, or_true, false_or, or_false, reduceCtorEq, ↓reduceIte, List.getD_cons_zero, List.getD_cons_succ, List.length_cons, List.length_nil, ct_i, ct_r, ct_l, ct_f, ct_n, false_implies, true_implies, y1, y2, shF_4]
    exact ⟨h, fun q => absurd trivial q⟩) (fun k hk ih => by
    obtain ⟨s1, s2, s3⟩ := shF_s hk
    refine hZ 400 [3] _ _ _ _ _ _ _ ?_
    simp -implicitDefEqProofs (disch := decide) only [wp_step xX8_add_0, wp_step xX8_add_2, wp_step xX8_add_3, wp_step xX8_add_4, wp_step xX8_add_7, wp_step xX8_add_8, wp_step xX8_add_11, wp_step xX8_add_14, wp_step xX8_add_17, wp_step xX8_add_18, wp_step xX8_add_21, wp_step xX8_add_22, wp_step xX8_add_25, wp_step xX8_add_26, wp_step xX8_add_27, wp_step xX8_add_28, wp_step xX8_add_31, wp_step xX8_add_32, wp_step xX8_add_33, wp_step xX8_add_34, wp_step xX8_add_35, wp_step xX8_add_38, wp_step xX8_add_39, wp_step xX8_add_40, wp_step xX8_add_43, wp_step xX8_add_46, wp_step xX8_add_49, ↓e_getf iX8_add f8_15, ↓e_getf iX8_add f8_11, ↓e_putf iX8_add f8_15, iX8_add, exec1, ↓p1_e, ↓p2_e, ↓q1_e, ↓q2_e, ↓qi_e, ↓pr_e, ↓pa_e, ↓pa_f, ↓pst_e, ↓qst_e, ↓rst_e, ↓pac_e, ↓pargs_0, ↓pargs_s, ↓gfld_0, ↓gfld_1, ↓gfld_2, ↓gfld_3, ↓pfld_i, ↓pfld_l, ↓pfld_r, ↓sfld_i, ↓sfld_l, ↓sfld_r, brI, pushv, rcv, lget, lset, lset2, isL, rok, szs, List.elem_nil, List.elem_cons, cond_true, cond_false, Option.map_some, beq_self_eq_true, Bool.true_and, Bool.and_true, Bool.false_and, Bool.and_false, Bool.or_false, Bool.false_or, Bool.or_true, Bool.true_or, Nat.reduceAdd, Nat.reduceSub, Nat.reduceMul, Nat.reduceBEq, Nat.reduceEqDiff, Nat.reduceLeDiff, Nat.sub_zero, true_and, and_true, false_and, and_false, true_or, or_true, false_or, or_false, reduceCtorEq, ↓reduceIte, List.getD_cons_zero, List.getD_cons_succ, List.length_cons, List.length_nil, ct_i, ct_r, ct_l, ct_f, ct_n, false_implies, true_implies, y1, y2, s1, s2, s3, addC_11 ht, gi_si_a, nI_1, nI_clamp (show ts + k < 2 ^ 31 by omega)]
    exact fun _ => ⟨fun q => absurd q (nI_ge (b := 220) (by omega) (by omega)), fun _ => ⟨vin (by omega) (by omega), ih⟩⟩) 0 (Nat.zero_le _)
  show Z 0 [some (.ref 1), some (.int x), none] [] (LAY v) μ 0 0
  refine hZ 400 [3] _ _ _ _ _ _ _ ?_
  simp -implicitDefEqProofs only [wp_step xX8_add_0, wp_step xX8_add_2, wp_step xX8_add_3, wp_step xX8_add_4, wp_step xX8_add_7, wp_step xX8_add_8, wp_step xX8_add_11, wp_step xX8_add_14, wp_step xX8_add_17, wp_step xX8_add_18, wp_step xX8_add_21, wp_step xX8_add_22, wp_step xX8_add_25, wp_step xX8_add_26, wp_step xX8_add_27, wp_step xX8_add_28, wp_step xX8_add_31, wp_step xX8_add_32, wp_step xX8_add_33, wp_step xX8_add_34, wp_step xX8_add_35, wp_step xX8_add_38, wp_step xX8_add_39, wp_step xX8_add_40, wp_step xX8_add_43, wp_step xX8_add_46, wp_step xX8_add_49, ↓e_getf iX8_add f8_15, ↓e_getf iX8_add f8_11, ↓e_putf iX8_add f8_15, iX8_add, exec1, ↓p1_e, ↓p2_e, ↓q1_e, ↓q2_e, ↓qi_e, ↓pr_e, ↓pa_e, ↓pa_f, ↓pst_e, ↓qst_e, ↓rst_e, ↓pac_e, ↓pargs_0, ↓pargs_s, ↓gfld_0, ↓gfld_1, ↓gfld_2, ↓gfld_3, ↓pfld_i, ↓pfld_l, ↓pfld_r, ↓sfld_i, ↓sfld_l, ↓sfld_r, brI, pushv, rcv, lget, lset, lset2, isL, rok, szs, List.elem_nil, List.elem_cons, cond_true, cond_false, Option.map_some, beq_self_eq_true, Bool.true_and, Bool.and_true, Bool.false_and, Bool.and_false, Bool.or_false, Bool.false_or, Bool.or_true, Bool.true_or, Nat.reduceAdd, Nat.reduceSub, Nat.reduceMul, Nat.reduceBEq, Nat.reduceEqDiff, Nat.reduceLeDiff, Nat.sub_zero, true_and, and_true, false_and, and_false, true_or, or_true, false_or, or_false, reduceCtorEq, ↓reduceIte, List.getD_cons_zero, List.getD_cons_succ, List.length_cons, List.length_nil, ct_i, ct_r, ct_l, ct_f, ct_n, false_implies, true_implies]
  exact key
set_option maxRecDepth 100000 in
set_option maxHeartbeats 1000000 in
theorem k_mPush {x : Int32} {ts : Nat} (ht : (gi μ 144 1) = nI ts) (hs : ts + 4 ≤ 220) (h : Q none (LAY v) (addM μ ts x 4) bc bs) : KC G d mX11_push [.ref 144, .int x] (LAY v) μ bc bs Q := by
  refine KC_intro 0 0 kX11_push (by decide) (by decide) (Nat.zero_le _) (Nat.zero_le _) (Nat.le_of_ble_eq_true rfl) (fun Z hZ => ?_)
  have key := loopN (P := fun k => Z 3 [some (.ref 144), some (.int x), some (.int (shF k))] [] (LAY v) (addM μ ts x k) 0 0) 4 (by
    refine hZ 400 [3] _ _ _ _ _ _ _ ?_
    simp -implicitDefEqProofs only [wp_step xX11_push_0, wp_step xX11_push_2, wp_step xX11_push_3, wp_step xX11_push_4, wp_step xX11_push_7, wp_step xX11_push_8, wp_step xX11_push_11, wp_step xX11_push_12, wp_step xX11_push_15, wp_step xX11_push_16, wp_step xX11_push_17, wp_step xX11_push_18, wp_step xX11_push_19, wp_step xX11_push_20, wp_step xX11_push_21, wp_step xX11_push_22, wp_step xX11_push_25, wp_step xX11_push_26, wp_step xX11_push_27, wp_step xX11_push_30, wp_step xX11_push_33, wp_step xX11_push_36, ↓e_getf iX11_push f11_7, ↓e_getf iX11_push f11_237, ↓e_putf iX11_push f11_237, iX11_push, exec1, ↓p1_e, ↓p2_e, ↓q1_e, ↓q2_e, ↓qi_e, ↓pr_e, ↓pa_e, ↓pa_f, ↓pst_e, ↓qst_e, ↓rst_e, ↓pac_e, ↓pargs_0, ↓pargs_s, ↓gfld_0, ↓gfld_1, ↓gfld_2, ↓gfld_3, ↓pfld_i, ↓pfld_l, ↓pfld_r, ↓sfld_i, ↓sfld_l, ↓sfld_r, brI, pushv, rcv, lget, lset, lset2, isL, rok, szs, List.elem_nil, List.elem_cons, cond_true, cond_false, Option.map_some, beq_self_eq_true, Bool.true_and, Bool.and_true, Bool.false_and, Bool.and_false, Bool.or_false, Bool.false_or, Bool.or_true, Bool.true_or, Nat.reduceAdd, Nat.reduceSub, Nat.reduceMul, Nat.reduceBEq, Nat.reduceEqDiff, Nat.reduceLeDiff, Nat.sub_zero, true_and, and_true, false_and, and_false, true_or, or_true, false_or, or_false, reduceCtorEq, ↓reduceIte, List.getD_cons_zero, List.getD_cons_succ, List.length_cons, List.length_nil, ct_i, ct_r, ct_l, ct_f, ct_n, false_implies, true_implies, y144, y145, shF_4]
    exact ⟨h, fun q => absurd trivial q⟩) (fun k hk ih => by
    obtain ⟨s1, s2, s3⟩ := shF_s hk
    refine hZ 400 [3] _ _ _ _ _ _ _ ?_
    simp -implicitDefEqProofs (disch := decide) only [wp_step xX11_push_0, wp_step xX11_push_2, wp_step xX11_push_3, wp_step xX11_push_4, wp_step xX11_push_7, wp_step xX11_push_8, wp_step xX11_push_11, wp_step xX11_push_12, wp_step xX11_push_15, wp_step xX11_push_16, wp_step xX11_push_17, wp_step xX11_push_18, wp_step xX11_push_19, wp_step xX11_push_20, wp_step xX11_push_21, wp_step xX11_push_22, wp_step xX11_push_25, wp_step xX11_push_26, wp_step xX11_push_27, wp_step xX11_push_30, wp_step xX11_push_33, wp_step xX11_push_36, ↓e_getf iX11_push f11_7, ↓e_getf iX11_push f11_237, ↓e_putf iX11_push f11_237, iX11_push, exec1, ↓p1_e, ↓p2_e, ↓q1_e, ↓q2_e, ↓qi_e, ↓pr_e, ↓pa_e, ↓pa_f, ↓pst_e, ↓qst_e, ↓rst_e, ↓pac_e, ↓pargs_0, ↓pargs_s, ↓gfld_0, ↓gfld_1, ↓gfld_2, ↓gfld_3, ↓pfld_i, ↓pfld_l, ↓pfld_r, ↓sfld_i, ↓sfld_l, ↓sfld_r, brI, pushv, rcv, lget, lset, lset2, isL, rok, szs, List.elem_nil, List.elem_cons, cond_true, cond_false, Option.map_some, beq_self_eq_true, Bool.true_and, Bool.and_true, Bool.false_and, Bool.and_false, Bool.or_false, Bool.false_or, Bool.or_true, Bool.true_or, Nat.reduceAdd, Nat.reduceSub, Nat.reduceMul, Nat.reduceBEq, Nat.reduceEqDiff, Nat.reduceLeDiff, Nat.sub_zero, true_and, and_true, false_and, and_false, true_or, or_true, false_or, or_false, reduceCtorEq, ↓reduceIte, List.getD_cons_zero, List.getD_cons_succ, List.length_cons, List.length_nil, ct_i, ct_r, ct_l, ct_f, ct_n, false_implies, true_implies, y144, y145, s1, s2, s3, addM_11 ht, gi_si_a, nI_1, nI_clamp (show ts + k < 2 ^ 31 by omega)]
    exact fun _ => ⟨vin (by omega) (by omega), ih⟩) 0 (Nat.zero_le _)
  show Z 0 [some (.ref 144), some (.int x), none] [] (LAY v) μ 0 0
  refine hZ 400 [3] _ _ _ _ _ _ _ ?_
  simp -implicitDefEqProofs only [wp_step xX11_push_0, wp_step xX11_push_2, wp_step xX11_push_3, wp_step xX11_push_4, wp_step xX11_push_7, wp_step xX11_push_8, wp_step xX11_push_11, wp_step xX11_push_12, wp_step xX11_push_15, wp_step xX11_push_16, wp_step xX11_push_17, wp_step xX11_push_18, wp_step xX11_push_19, wp_step xX11_push_20, wp_step xX11_push_21, wp_step xX11_push_22, wp_step xX11_push_25, wp_step xX11_push_26, wp_step xX11_push_27, wp_step xX11_push_30, wp_step xX11_push_33, wp_step xX11_push_36, ↓e_getf iX11_push f11_7, ↓e_getf iX11_push f11_237, ↓e_putf iX11_push f11_237, iX11_push, exec1, ↓p1_e, ↓p2_e, ↓q1_e, ↓q2_e, ↓qi_e, ↓pr_e, ↓pa_e, ↓pa_f, ↓pst_e, ↓qst_e, ↓rst_e, ↓pac_e, ↓pargs_0, ↓pargs_s, ↓gfld_0, ↓gfld_1, ↓gfld_2, ↓gfld_3, ↓pfld_i, ↓pfld_l, ↓pfld_r, ↓sfld_i, ↓sfld_l, ↓sfld_r, brI, pushv, rcv, lget, lset, lset2, isL, rok, szs, List.elem_nil, List.elem_cons, cond_true, cond_false, Option.map_some, beq_self_eq_true, Bool.true_and, Bool.and_true, Bool.false_and, Bool.and_false, Bool.or_false, Bool.false_or, Bool.or_true, Bool.true_or, Nat.reduceAdd, Nat.reduceSub, Nat.reduceMul, Nat.reduceBEq, Nat.reduceEqDiff, Nat.reduceLeDiff, Nat.sub_zero, true_and, and_true, false_and, and_false, true_or, or_true, false_or, or_false, reduceCtorEq, ↓reduceIte, List.getD_cons_zero, List.getD_cons_succ, List.length_cons, List.length_nil, ct_i, ct_r, ct_l, ct_f, ct_n, false_implies, true_implies]
  exact key
end FED
