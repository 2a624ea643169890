theorem ScAt.day {v d : Nat} (h : d < 6) : ScAt v (75 + 5 * d) := by
  have e : d = 0 ∨ d = 1 ∨ d = 2 ∨ d = 3 ∨ d = 4 ∨ d = 5 := by omega
  rcases e with rfl | rfl | rfl | rfl | rfl | rfl
  · exact ⟨y75 v, y76 v, y77 v, y78 v, y79 v, by omega⟩
  · exact ⟨y80 v, y81 v, y82 v, y83 v, y84 v, by omega⟩
  · exact ⟨y85 v, y86 v, y87 v, y88 v, y89 v, by omega⟩
  · exact ⟨y90 v, y91 v, y92 v, y93 v, y94 v, by omega⟩
  · exact ⟨y95 v, y96 v, y97 v, y98 v, y99 v, by omega⟩
  · exact ⟨y100 v, y101 v, y102 v, y103 v, y104 v, by omega⟩
theorem row55 {v d : Nat} (h : d < 6) : (LAY v)[55 + d]? = some (0, 10, []) := by
  have e : d = 0 ∨ d = 1 ∨ d = 2 ∨ d = 3 ∨ d = 4 ∨ d = 5 := by omega
  rcases e with rfl | rfl | rfl | rfl | rfl | rfl
  · exact y55 v
  · exact y56 v
  · exact y57 v
  · exact y58 v
  · exact y59 v
  · exact y60 v
theorem row62 {v d : Nat} (h : d < 6) : (LAY v)[62 + d]? = some (0, 40, []) := by
  have e : d = 0 ∨ d = 1 ∨ d = 2 ∨ d = 3 ∨ d = 4 ∨ d = 5 := by omega
  rcases e with rfl | rfl | rfl | rfl | rfl | rfl
  · exact y62 v
  · exact y63 v
  · exact y64 v
  · exact y65 v
  · exact y66 v
  · exact y67 v
theorem row69 {v d : Nat} (h : d < 6) : (LAY v)[69 + d]? = some (0, 40, []) := by
  have e : d = 0 ∨ d = 1 ∨ d = 2 ∨ d = 3 ∨ d = 4 ∨ d = 5 := by omega
  rcases e with rfl | rfl | rfl | rfl | rfl | rfl
  · exact y69 v
  · exact y70 v
  · exact y71 v
  · exact y72 v
  · exact y73 v
  · exact y74 v
/-- a white ribbon of p that hangs -/
def whB (A : Nat → Nat → Int32) (i : Nat) (p : Int32) : Bool := !decide (A 11 i = 0) && decide (A 8 i = 0) && decide (A 9 i = p)
def cutB (A : Nat → Nat → Int32) (i : Nat) (p n : Int32) : Bool := whB A i p && decide (1 ≤ A 7 i - n)
def knB (A : Nat → Nat → Int32) (i : Nat) (p n : Int32) : Bool := whB A i p && decide (A 7 i + n ≤ 99)
theorem whB_t {A : Nat → Nat → Int32} {i : Nat} {p : Int32} (h1 : ¬ A 11 i = 0) (h2 : A 8 i = 0) (h3 : A 9 i = p) : whB A i p = true := by unfold whB; rw [decide_eq_false h1, decide_eq_true h2, decide_eq_true h3]; rfl
theorem whB_f {A : Nat → Nat → Int32} {i : Nat} {p : Int32} (h : ¬ (¬ A 11 i = 0 ∧ A 8 i = 0 ∧ A 9 i = p)) : whB A i p = false := by
  cases e : whB A i p with
  | false => rfl
  | true =>
    unfold whB at e
    simp only [Bool.and_eq_true, Bool.not_eq_true', decide_eq_false_iff_not, decide_eq_true_eq] at e
    exact absurd ⟨e.1.1, e.1.2, e.2⟩ h
theorem whB_i {A : Nat → Nat → Int32} {i : Nat} {p : Int32} (e : whB A i p = true) : ¬ A 11 i = 0 ∧ A 8 i = 0 ∧ A 9 i = p := by
  unfold whB at e
  simp only [Bool.and_eq_true, Bool.not_eq_true', decide_eq_false_iff_not, decide_eq_true_eq] at e
  exact ⟨e.1.1, e.1.2, e.2⟩
def pDay (d a j : Nat) : Prop := pS (75 + 5 * d) a j ∨ a = 53 ∧ j = d ∨ a = 55 + d
def pChg (d a j : Nat) : Prop := a = 62 + d ∨ a = 69 + d ∨ a = 35 ∨ pL a j
/-- all that the payments may change -/
def pP (a j : Nat) : Prop := 51 ≤ a ∧ a ≤ 104 ∨ a = 35 ∨ pL a j
theorem pP_Lo : ∀ a j, pP a j → Lo a j := fun a j z => by unfold pP pL at z; unfold Lo; omega
theorem pP_Sf : ∀ a j, pP a j → Sf a j := fun a j z => by unfold pP pL at z; unfold Sf; omega
theorem pDay_pP {d : Nat} (h : d < 6) : ∀ a j, pDay d a j → pP a j := fun a j z => by unfold pDay pS pL at z; unfold pP pL; omega
theorem pChg_pP {d : Nat} (h : d < 6) : ∀ a j, pChg d a j → pP a j := fun a j z => by unfold pChg pL at z; unfold pP pL; omega
theorem pM4_pP {d : Nat} (h : d < 6) : ∀ a j, pM4 (75 + 5 * d) a j → pP a j := fun a j z => by unfold pM4 at z; unfold pP pL; omega
/-- the ribbon's change of length, as a payment of n would change it -/
def lnC (A : Nat → Nat → Int32) (p n : Int32) (i : Nat) : Int32 := A 7 i + if cutB A i p n = true then -n else n
def hvL (LV : (Nat → Int32) → Bool → Int32) (A : Nat → Nat → Int32) (wd : Int32) (i : Nat) (len : Int32) (g : Bool) : Int32 := LV (FA A i len (A 5 i) (A 6 i) wd) g
section PAY1
variable {G : Gx} {d v : Nat} {μ : Mem} {bc bs : Nat} {Q : Option Value → List Sh → Mem → Nat → Nat → Prop}
set_option maxRecDepth 100000 in
set_option maxHeartbeats 1000000 in
theorem k_isWhiteOf {i nb : Nat} {p : Int32} (hd : 1 ≤ d) (hb : (gi μ 3 13) = nI nb) (hn : nb ≤ 40) (hi : i < nb) (h : Q (some (.int (bN (whB (fun f => gi μ (4 + f)) i p)))) (LAY v) μ bc bs) : KC G d mX3_isWhiteOf [.ref 3, .int (nI i), .int p] (LAY v) μ bc bs Q := by
  have hv : vp_in (nI i) 40 := vin (by omega) (by omega)
  have hin : 0 ≤ nI i ∧ nI i < nI nb := ⟨nI_pos' (by omega), nI_lt (by omega) (by omega)⟩
  refine KC_intro 0 0 kX3_isWhiteOf (by decide) (by decide) (Nat.zero_le _) (Nat.zero_le _) (Nat.le_of_ble_eq_true rfl) (fun Z hZ => ?_)
  show Z 0 [some (.ref 3), some (.int (nI i)), some (.int p)] [] (LAY v) μ 0 0
  refine hZ 400 [5] _ _ _ _ _ _ _ ?_
  simp -implicitDefEqProofs (disch := omega) only [wp_step xX3_isWhiteOf_0, wp_step xX3_isWhiteOf_1, wp_step xX3_isWhiteOf_2, wp_step xX3_isWhiteOf_5, wp_step xX3_isWhiteOf_8, wp_step xX3_isWhiteOf_9, wp_step xX3_isWhiteOf_12, wp_step xX3_isWhiteOf_13, wp_step xX3_isWhiteOf_14, wp_step xX3_isWhiteOf_17, wp_step xX3_isWhiteOf_18, wp_step xX3_isWhiteOf_21, wp_step xX3_isWhiteOf_22, wp_step xX3_isWhiteOf_23, wp_step xX3_isWhiteOf_26, wp_step xX3_isWhiteOf_27, wp_step xX3_isWhiteOf_30, wp_step xX3_isWhiteOf_31, wp_step xX3_isWhiteOf_32, wp_step xX3_isWhiteOf_33, wp_step xX3_isWhiteOf_36, wp_step xX3_isWhiteOf_37, wp_step xX3_isWhiteOf_40, wp_step xX3_isWhiteOf_41, ↓e_virt iX3_isWhiteOf l3_56 iX3_hasRibbon, ↓e_getf iX3_isWhiteOf f3_46, ↓e_getf iX3_isWhiteOf f3_37, ↓e_getf iX3_isWhiteOf f3_40, iX3_isWhiteOf, exec1, ↓p1_e, ↓p2_e, ↓q1_e, ↓q2_e, ↓qi_e, ↓pr_e, ↓pa_e, ↓pa_f, ↓pst_e, ↓qst_e, ↓rst_e, ↓pac_e, ↓pargs_0, ↓pargs_s, ↓gfld_0, ↓gfld_1, ↓gfld_2, ↓gfld_3, ↓pfld_i, ↓pfld_l, ↓pfld_r, ↓sfld_i, ↓sfld_l, ↓sfld_r, brI, pushv, rcv, lget, lset, lset2, isL, rok, szs, List.elem_nil, List.elem_cons, cond_true, cond_false, Option.map_some, beq_self_eq_true, Bool.true_and, Bool.and_true, Bool.false_and, Bool.and_false, Bool.or_false, Bool.false_or, Bool.or_true, Bool.true_or, Nat.reduceAdd, Nat.reduceSub, Nat.reduceMul, Nat.reduceBEq, Nat.reduceEqDiff, Nat.reduceLeDiff, Nat.sub_zero, true_and, and_true, false_and, and_false, true_or, or_true, false_or, or_false, reduceCtorEq, ↓reduceIte, List.getD_cons_zero, List.getD_cons_succ, List.length_cons, List.length_nil, ct_i, ct_r, ct_l, ct_f, ct_n, false_implies, true_implies, y3, y4, y5, y6, y7, y8, y9, y10, y11, y12, y13, y14, y15]
  refine ⟨by omega, k_hasRibbon ?_⟩
  rw [hb]
  refine hZ 400 [5] _ _ _ _ _ _ _ ?_
  simp -implicitDefEqProofs (disch := omega) only [wp_step xX3_isWhiteOf_0, wp_step xX3_isWhiteOf_1, wp_step xX3_isWhiteOf_2, wp_step xX3_isWhiteOf_5, wp_step xX3_isWhiteOf_8, wp_step xX3_isWhiteOf_9, wp_step xX3_isWhiteOf_12, wp_step xX3_isWhiteOf_13, wp_step xX3_isWhiteOf_14, wp_step xX3_isWhiteOf_17, wp_step xX3_isWhiteOf_18, wp_step xX3_isWhiteOf_21, wp_step xX3_isWhiteOf_22, wp_step xX3_isWhiteOf_23, wp_step xX3_isWhiteOf_26, wp_step xX3_isWhiteOf_27, wp_step xX3_isWhiteOf_30, wp_step xX3_isWhiteOf_31, wp_step xX3_isWhiteOf_32, wp_step xX3_isWhiteOf_33, wp_step xX3_isWhiteOf_36, wp_step xX3_isWhiteOf_37, wp_step xX3_isWhiteOf_40, wp_step xX3_isWhiteOf_41, ↓e_virt iX3_isWhiteOf l3_56 iX3_hasRibbon, ↓e_getf iX3_isWhiteOf f3_46, ↓e_getf iX3_isWhiteOf f3_37, ↓e_getf iX3_isWhiteOf f3_40, iX3_isWhiteOf, exec1, ↓p1_e, ↓p2_e, ↓q1_e, ↓q2_e, ↓qi_e, ↓pr_e, ↓pa_e, ↓pa_f, ↓pst_e, ↓qst_e, ↓rst_e, ↓pac_e, ↓pargs_0, ↓pargs_s, ↓gfld_0, ↓gfld_1, ↓gfld_2, ↓gfld_3, ↓pfld_i, ↓pfld_l, ↓pfld_r, ↓sfld_i, ↓sfld_l, ↓sfld_r, brI, pushv, rcv, lget, lset, lset2, isL, rok, szs, List.elem_nil, List.elem_cons, cond_true, cond_false, Option.map_some, beq_self_eq_true, Bool.true_and, Bool.and_true, Bool.false_and, Bool.and_false, Bool.or_false, Bool.false_or, Bool.or_true, Bool.true_or, Nat.reduceAdd, Nat.reduceSub, Nat.reduceMul, Nat.reduceBEq, Nat.reduceEqDiff, Nat.reduceLeDiff, Nat.sub_zero, true_and, and_true, false_and, and_false, true_or, or_true, false_or, or_false, reduceCtorEq, ↓reduceIte, List.getD_cons_zero, List.getD_cons_succ, List.length_cons, List.length_nil, ct_i, ct_r, ct_l, ct_f, ct_n, false_implies, true_implies, y3, y4, y5, y6, y7, y8, y9, y10, y11, y12, y13, y14, y15, bI_0, hin, hv, nI_clamp, not_false_eq_true, true_implies, false_implies, and_true, true_and, not_true_eq_false]
  refine ⟨fun c => ?_, fun c => ⟨fun c2 => ?_, fun c2 => ⟨fun c3 => ?_, fun c3 => ?_⟩⟩⟩
  · rw [whB_f (A := fun f => gi μ (4 + f)) (fun z => z.1 c)] at h; exact h
  · rw [whB_f (A := fun f => gi μ (4 + f)) (fun z => c2 z.2.1)] at h; exact h
  · rw [whB_f (A := fun f => gi μ (4 + f)) (fun z => c3 z.2.2)] at h; exact h
  · rw [whB_t (A := fun f => gi μ (4 + f)) c c2 c3] at h; exact h
set_option maxRecDepth 100000 in
set_option maxHeartbeats 1000000 in
theorem k_canCut {i nb : Nat} {n : Int32} (hd : 2 ≤ d) (hb : (gi μ 3 13) = nI nb) (hn : nb ≤ 40) (hi : i < nb) (h : Q (some (.int (bN (cutB (fun f => gi μ (4 + f)) i (gi μ 51 7) n)))) (LAY v) μ bc bs) : KC G d mX5_canCut [.ref 51, .int (nI i), .int n] (LAY v) μ bc bs Q := by
  have hv : vp_in (nI i) 40 := vin (by omega) (by omega)
  refine KC_intro 0 0 kX5_canCut (by decide) (by decide) (Nat.zero_le _) (Nat.zero_le _) (Nat.le_of_ble_eq_true rfl) (fun Z hZ => ?_)
  show Z 0 [some (.ref 51), some (.int (nI i)), some (.int n)] [] (LAY v) μ 0 0
  refine hZ 400 [12] _ _ _ _ _ _ _ ?_
  simp -implicitDefEqProofs (disch := omega) only [wp_step xX5_canCut_0, wp_step xX5_canCut_1, wp_step xX5_canCut_4, wp_step xX5_canCut_5, wp_step xX5_canCut_6, wp_step xX5_canCut_9, wp_step xX5_canCut_12, wp_step xX5_canCut_15, wp_step xX5_canCut_16, wp_step xX5_canCut_19, wp_step xX5_canCut_22, wp_step xX5_canCut_23, wp_step xX5_canCut_24, wp_step xX5_canCut_25, wp_step xX5_canCut_26, wp_step xX5_canCut_27, wp_step xX5_canCut_30, wp_step xX5_canCut_31, wp_step xX5_canCut_34, wp_step xX5_canCut_35, ↓e_getf iX5_canCut f5_32, ↓e_getf iX5_canCut f5_43, ↓e_virt iX5_canCut l5_112 iX3_isWhiteOf, ↓e_getf iX5_canCut f5_96, iX5_canCut, exec1, ↓p1_e, ↓p2_e, ↓q1_e, ↓q2_e, ↓qi_e, ↓pr_e, ↓pa_e, ↓pa_f, ↓pst_e, ↓qst_e, ↓rst_e, ↓pac_e, ↓pargs_0, ↓pargs_s, ↓gfld_0, ↓gfld_1, ↓gfld_2, ↓gfld_3, ↓pfld_i, ↓pfld_l, ↓pfld_r, ↓sfld_i, ↓sfld_l, ↓sfld_r, brI, pushv, rcv, lget, lset, lset2, isL, rok, szs, List.elem_nil, List.elem_cons, cond_true, cond_false, Option.map_some, beq_self_eq_true, Bool.true_and, Bool.and_true, Bool.false_and, Bool.and_false, Bool.or_false, Bool.false_or, Bool.or_true, Bool.true_or, Nat.reduceAdd, Nat.reduceSub, Nat.reduceMul, Nat.reduceBEq, Nat.reduceEqDiff, Nat.reduceLeDiff, Nat.sub_zero, true_and, and_true, false_and, and_false, true_or, or_true, false_or, or_false, reduceCtorEq, ↓reduceIte, List.getD_cons_zero, List.getD_cons_succ, List.length_cons, List.length_nil, ct_i, ct_r, ct_l, ct_f, ct_n, false_implies, true_implies, y3, y4, y5, y6, y7, y8, y9, y10, y11, y12, y13, y14, y15, y51]
  refine ⟨by omega, k_isWhiteOf (by omega) hb hn hi ?_⟩
  refine hZ 400 [12] _ _ _ _ _ _ _ ?_
  simp -implicitDefEqProofs (disch := omega) only [wp_step xX5_canCut_0, wp_step xX5_canCut_1, wp_step xX5_canCut_4, wp_step xX5_canCut_5, wp_step xX5_canCut_6, wp_step xX5_canCut_9, wp_step xX5_canCut_12, wp_step xX5_canCut_15, wp_step xX5_canCut_16, wp_step xX5_canCut_19, wp_step xX5_canCut_22, wp_step xX5_canCut_23, wp_step xX5_canCut_24, wp_step xX5_canCut_25, wp_step xX5_canCut_26, wp_step xX5_canCut_27, wp_step xX5_canCut_30, wp_step xX5_canCut_31, wp_step xX5_canCut_34, wp_step xX5_canCut_35, ↓e_getf iX5_canCut f5_32, ↓e_getf iX5_canCut f5_43, ↓e_virt iX5_canCut l5_112 iX3_isWhiteOf, ↓e_getf iX5_canCut f5_96, iX5_canCut, exec1, ↓p1_e, ↓p2_e, ↓q1_e, ↓q2_e, ↓qi_e, ↓pr_e, ↓pa_e, ↓pa_f, ↓pst_e, ↓qst_e, ↓rst_e, ↓pac_e, ↓pargs_0, ↓pargs_s, ↓gfld_0, ↓gfld_1, ↓gfld_2, ↓gfld_3, ↓pfld_i, ↓pfld_l, ↓pfld_r, ↓sfld_i, ↓sfld_l, ↓sfld_r, brI, pushv, rcv, lget, lset, lset2, isL, rok, szs, List.elem_nil, List.elem_cons, cond_true, cond_false, Option.map_some, beq_self_eq_true, Bool.true_and, Bool.and_true, Bool.false_and, Bool.and_false, Bool.or_false, Bool.false_or, Bool.or_true, Bool.true_or, Nat.reduceAdd, Nat.reduceSub, Nat.reduceMul, Nat.reduceBEq, Nat.reduceEqDiff, Nat.reduceLeDiff, Nat.sub_zero, true_and, and_true, false_and, and_false, true_or, or_true, false_or, or_false, reduceCtorEq, ↓reduceIte, List.getD_cons_zero, List.getD_cons_succ, List.length_cons, List.length_nil, ct_i, ct_r, ct_l, ct_f, ct_n, false_implies, true_implies, y3, y4, y5, y6, y7, y8, y9, y10, y11, y12, y13, y14, y15, y51, bN_0, hv, nI_clamp]
  unfold cutB at h
  refine ⟨fun c => ?_, fun c => ⟨fun c2 => ?_, fun c2 => ?_⟩⟩
  · rw [c] at h; exact h
  · rw [decide_eq_false (fun z => by simp only [i_le, i_lt, Nat.reduceAdd] at z c2; omega), Bool.and_false] at h; exact h
  · rw [btr c, decide_eq_true (Int32.not_lt.mp c2)] at h; exact h
set_option maxRecDepth 100000 in
set_option maxHeartbeats 1000000 in
theorem k_canKnot {i nb : Nat} {n : Int32} (hd : 2 ≤ d) (hb : (gi μ 3 13) = nI nb) (hn : nb ≤ 40) (hi : i < nb) (h : Q (some (.int (bN (knB (fun f => gi μ (4 + f)) i (gi μ 51 8) n)))) (LAY v) μ bc bs) : KC G d mX5_canKnot [.ref 51, .int (nI i), .int n] (LAY v) μ bc bs Q := by
  have hv : vp_in (nI i) 40 := vin (by omega) (by omega)
  refine KC_intro 0 0 kX5_canKnot (by decide) (by decide) (Nat.zero_le _) (Nat.zero_le _) (Nat.le_of_ble_eq_true rfl) (fun Z hZ => ?_)
  show Z 0 [some (.ref 51), some (.int (nI i)), some (.int n)] [] (LAY v) μ 0 0
  refine hZ 400 [12] _ _ _ _ _ _ _ ?_
  simp -implicitDefEqProofs (disch := omega) only [wp_step xX5_canKnot_0, wp_step xX5_canKnot_1, wp_step xX5_canKnot_4, wp_step xX5_canKnot_5, wp_step xX5_canKnot_6, wp_step xX5_canKnot_9, wp_step xX5_canKnot_12, wp_step xX5_canKnot_15, wp_step xX5_canKnot_16, wp_step xX5_canKnot_19, wp_step xX5_canKnot_22, wp_step xX5_canKnot_23, wp_step xX5_canKnot_24, wp_step xX5_canKnot_25, wp_step xX5_canKnot_26, wp_step xX5_canKnot_28, wp_step xX5_canKnot_31, wp_step xX5_canKnot_32, wp_step xX5_canKnot_35, wp_step xX5_canKnot_36, ↓e_getf iX5_canKnot f5_32, ↓e_getf iX5_canKnot f5_47, ↓e_virt iX5_canKnot l5_112 iX3_isWhiteOf, ↓e_getf iX5_canKnot f5_96, iX5_canKnot, exec1, ↓p1_e, ↓p2_e, ↓q1_e, ↓q2_e, ↓qi_e, ↓pr_e, ↓pa_e, ↓pa_f, ↓pst_e, ↓qst_e, ↓rst_e, ↓pac_e, ↓pargs_0, ↓pargs_s, ↓gfld_0, ↓gfld_1, ↓gfld_2, ↓gfld_3, ↓pfld_i, ↓pfld_l, ↓pfld_r, ↓sfld_i, ↓sfld_l, ↓sfld_r, brI, pushv, rcv, lget, lset, lset2, isL, rok, szs, List.elem_nil, List.elem_cons, cond_true, cond_false, Option.map_some, beq_self_eq_true, Bool.true_and, Bool.and_true, Bool.false_and, Bool.and_false, Bool.or_false, Bool.false_or, Bool.or_true, Bool.true_or, Nat.reduceAdd, Nat.reduceSub, Nat.reduceMul, Nat.reduceBEq, Nat.reduceEqDiff, Nat.reduceLeDiff, Nat.sub_zero, true_and, and_true, false_and, and_false, true_or, or_true, false_or, or_false, reduceCtorEq, ↓reduceIte, List.getD_cons_zero, List.getD_cons_succ, List.length_cons, List.length_nil, ct_i, ct_r, ct_l, ct_f, ct_n, false_implies, true_implies, y3, y4, y5, y6, y7, y8, y9, y10, y11, y12, y13, y14, y15, y51]
  refine ⟨by omega, k_isWhiteOf (by omega) hb hn hi ?_⟩
  refine hZ 400 [12] _ _ _ _ _ _ _ ?_
  simp -implicitDefEqProofs (disch := omega) only [wp_step xX5_canKnot_0, wp_step xX5_canKnot_1, wp_step xX5_canKnot_4, wp_step xX5_canKnot_5, wp_step xX5_canKnot_6, wp_step xX5_canKnot_9, wp_step xX5_canKnot_12, wp_step xX5_canKnot_15, wp_step xX5_canKnot_16, wp_step xX5_canKnot_19, wp_step xX5_canKnot_22, wp_step xX5_canKnot_23, wp_step xX5_canKnot_24, wp_step xX5_canKnot_25, wp_step xX5_canKnot_26, wp_step xX5_canKnot_28, wp_step xX5_canKnot_31, wp_step xX5_canKnot_32, wp_step xX5_canKnot_35, wp_step xX5_canKnot_36, ↓e_getf iX5_canKnot f5_32, ↓e_getf iX5_canKnot f5_47, ↓e_virt iX5_canKnot l5_112 iX3_isWhiteOf, ↓e_getf iX5_canKnot f5_96, iX5_canKnot, exec1, ↓p1_e, ↓p2_e, ↓q1_e, ↓q2_e, ↓qi_e, ↓pr_e, ↓pa_e, ↓pa_f, ↓pst_e, ↓qst_e, ↓rst_e, ↓pac_e, ↓pargs_0, ↓pargs_s, ↓gfld_0, ↓gfld_1, ↓gfld_2, ↓gfld_3, ↓pfld_i, ↓pfld_l, ↓pfld_r, ↓sfld_i, ↓sfld_l, ↓sfld_r, brI, pushv, rcv, lget, lset, lset2, isL, rok, szs, List.elem_nil, List.elem_cons, cond_true, cond_false, Option.map_some, beq_self_eq_true, Bool.true_and, Bool.and_true, Bool.false_and, Bool.and_false, Bool.or_false, Bool.false_or, Bool.or_true, Bool.true_or, Nat.reduceAdd, Nat.reduceSub, Nat.reduceMul, Nat.reduceBEq, Nat.reduceEqDiff, Nat.reduceLeDiff, Nat.sub_zero, true_and, and_true, false_and, and_false, true_or, or_true, false_or, or_false, reduceCtorEq, ↓reduceIte, List.getD_cons_zero, List.getD_cons_succ, List.length_cons, List.length_nil, ct_i, ct_r, ct_l, ct_f, ct_n, false_implies, true_implies, y3, y4, y5, y6, y7, y8, y9, y10, y11, y12, y13, y14, y15, y51, bN_0, hv, nI_clamp]
  unfold knB at h
  refine ⟨fun c => ?_, fun c => ⟨fun c2 => ?_, fun c2 => ?_⟩⟩
  · rw [c] at h; exact h
  · rw [decide_eq_false (fun z => by simp only [i_le, i_lt, Nat.reduceAdd] at z c2; omega), Bool.and_false] at h; exact h
  · rw [btr c, decide_eq_true (Int32.not_lt.mp c2)] at h; exact h
set_option maxRecDepth 100000 in
set_option maxHeartbeats 1000000 in
theorem k_startDay {e nr nb sz n : Nat} {wd : Int32} (hd : 5 ≤ d) (he : e < 6) (hW : WC μ nr nb sz n) (h : ∀ μ', Fr (pDay e) μ μ' → gi μ' 53 e = wd → Wgh μ' (75 + 5 * e) (fun f => gi μ (4 + f)) (hvA (lawV (fun f => gi μ (30 + f)) sz n) (fun f => gi μ (4 + f)) wd) (WGC μ nr nb sz n wd) nr nb → (∀ r, r < nr → gi μ' (55 + e) r = lnV ((WGC μ nr nb sz n wd).2 r) (gi μ 6 (r))) → Q none (LAY v) μ' bc bs) : KC G d mX5_startDay [.ref 51, .int (nI e), .int wd] (LAY v) μ bc bs Q := by
  have hv : vp_in (nI e) 6 := vin (by omega) (by omega)
  refine KC_intro 0 0 kX5_startDay (by decide) (by decide) (Nat.zero_le _) (Nat.zero_le _) (Nat.le_of_ble_eq_true rfl) (fun Z hZ => ?_)
  show Z 0 [some (.ref 51), some (.int (nI e)), some (.int wd)] [] (LAY v) μ 0 0
  have hp : ¬ nI e < 0 := nI_pos (by omega)
  have hS : ScAt v (75 + 5 * e) := ScAt.day he
  have h55 := row55 (v := v) he
  obtain ⟨a0, a1, a2, a3, a4, hs⟩ := id hS
  refine hZ 400 [27, 42] _ _ _ _ _ _ _ ?_
  simp -implicitDefEqProofs (disch := omega) only [wp_step xX5_startDay_0, wp_step xX5_startDay_1, wp_step xX5_startDay_4, wp_step xX5_startDay_5, wp_step xX5_startDay_7, wp_step xX5_startDay_10, wp_step xX5_startDay_11, wp_step xX5_startDay_14, wp_step xX5_startDay_15, wp_step xX5_startDay_16, wp_step xX5_startDay_17, wp_step xX5_startDay_18, wp_step xX5_startDay_21, wp_step xX5_startDay_22, wp_step xX5_startDay_23, wp_step xX5_startDay_24, wp_step xX5_startDay_27, wp_step xX5_startDay_28, wp_step xX5_startDay_31, wp_step xX5_startDay_32, wp_step xX5_startDay_33, wp_step xX5_startDay_34, wp_step xX5_startDay_37, wp_step xX5_startDay_38, wp_step xX5_startDay_39, wp_step xX5_startDay_42, ↓e_getf iX5_startDay f5_17, ↓e_getf iX5_startDay f5_11, ↓e_virt iX5_startDay l5_132 iX7_weigh, ↓e_getf iX5_startDay f5_23, ↓e_virt iX5_startDay l5_136 iX7_writeLeans, iX5_startDay, exec1, ↓p1_e, ↓p2_e, ↓q1_e, ↓q2_e, ↓qi_e, ↓pr_e, ↓pa_e, ↓pa_f, ↓pst_e, ↓qst_e, ↓rst_e, ↓pac_e, ↓pargs_0, ↓pargs_s, ↓gfld_0, ↓gfld_1, ↓gfld_2, ↓gfld_3, ↓pfld_i, ↓pfld_l, ↓pfld_r, ↓sfld_i, ↓sfld_l, ↓sfld_r, brI, pushv, rcv, lget, lset, lset2, isL, rok, szs, List.elem_nil, List.elem_cons, cond_true, cond_false, Option.map_some, beq_self_eq_true, Bool.true_and, Bool.and_true, Bool.false_and, Bool.and_false, Bool.or_false, Bool.false_or, Bool.or_true, Bool.true_or, Nat.reduceAdd, Nat.reduceSub, Nat.reduceMul, Nat.reduceBEq, Nat.reduceEqDiff, Nat.reduceLeDiff, Nat.sub_zero, true_and, and_true, false_and, and_false, true_or, or_true, false_or, or_false, reduceCtorEq, ↓reduceIte, List.getD_cons_zero, List.getD_cons_succ, List.length_cons, List.length_nil, ct_i, ct_r, ct_l, ct_f, ct_n, false_implies, true_implies, y51, y52, y53, y54, hp, show (6 : Int32) = nI 6 from rfl, nle_f he (show 6 < 2 ^ 31 by omega), hv, nI_clamp, he, a0, a1, a2, a3, a4, h55, Nat.one_mul, not_false_eq_true, true_implies, false_implies, and_true, true_and, not_true_eq_false]
  have hF0 : Fr (pDay e) μ (si μ 53 e wd) := Fr.rf.si (Or.inr (Or.inl ⟨rfl, rfl⟩))
  have hW0 : WC (si μ 53 e wd) nr nb sz n := hW.fr hF0 (fun a j z => pP_Sf a j (pDay_pP he a j z))
  refine ⟨by omega, k_weigh (by omega) hS hW0 (fun μ1 hF1 hG => ?_)⟩
  have hF01 : Fr (pDay e) μ μ1 := hF0.trans (hF1.mono (fun a j z => Or.inl z))
  obtain ⟨w1, w2, ⟨⟨w3, w4, w5⟩, w6, w7⟩, w8, w9, w10⟩ := hW.fr hF01 (fun a j z => pP_Sf a j (pDay_pP he a j z))
  refine hZ 400 [27, 42] _ _ _ _ _ _ _ ?_
  simp -implicitDefEqProofs (disch := omega) only [wp_step xX5_startDay_0, wp_step xX5_startDay_1, wp_step xX5_startDay_4, wp_step xX5_startDay_5, wp_step xX5_startDay_7, wp_step xX5_startDay_10, wp_step xX5_startDay_11, wp_step xX5_startDay_14, wp_step xX5_startDay_15, wp_step xX5_startDay_16, wp_step xX5_startDay_17, wp_step xX5_startDay_18, wp_step xX5_startDay_21, wp_step xX5_startDay_22, wp_step xX5_startDay_23, wp_step xX5_startDay_24, wp_step xX5_startDay_27, wp_step xX5_startDay_28, wp_step xX5_startDay_31, wp_step xX5_startDay_32, wp_step xX5_startDay_33, wp_step xX5_startDay_34, wp_step xX5_startDay_37, wp_step xX5_startDay_38, wp_step xX5_startDay_39, wp_step xX5_startDay_42, ↓e_getf iX5_startDay f5_17, ↓e_getf iX5_startDay f5_11, ↓e_virt iX5_startDay l5_132 iX7_weigh, ↓e_getf iX5_startDay f5_23, ↓e_virt iX5_startDay l5_136 iX7_writeLeans, iX5_startDay, exec1, ↓p1_e, ↓p2_e, ↓q1_e, ↓q2_e, ↓qi_e, ↓pr_e, ↓pa_e, ↓pa_f, ↓pst_e, ↓qst_e, ↓rst_e, ↓pac_e, ↓pargs_0, ↓pargs_s, ↓gfld_0, ↓gfld_1, ↓gfld_2, ↓gfld_3, ↓pfld_i, ↓pfld_l, ↓pfld_r, ↓sfld_i, ↓sfld_l, ↓sfld_r, brI, pushv, rcv, lget, lset, lset2, isL, rok, szs, List.elem_nil, List.elem_cons, cond_true, cond_false, Option.map_some, beq_self_eq_true, Bool.true_and, Bool.and_true, Bool.false_and, Bool.and_false, Bool.or_false, Bool.false_or, Bool.or_true, Bool.true_or, Nat.reduceAdd, Nat.reduceSub, Nat.reduceMul, Nat.reduceBEq, Nat.reduceEqDiff, Nat.reduceLeDiff, Nat.sub_zero, true_and, and_true, false_and, and_false, true_or, or_true, false_or, or_false, reduceCtorEq, ↓reduceIte, List.getD_cons_zero, List.getD_cons_succ, List.length_cons, List.length_nil, ct_i, ct_r, ct_l, ct_f, ct_n, false_implies, true_implies, y51, y52, y53, y54, hv, nI_clamp, he, a0, a1, a2, a3, a4, h55, Nat.one_mul, not_false_eq_true, true_implies, false_implies, and_true, true_and, not_true_eq_false]
  refine ⟨by omega, k_writeLeans (by omega) hS h55 (by omega) w1 w4 (fun μ2 hF2 hl => ?_)⟩
  refine hZ 400 [27, 42] _ _ _ _ _ _ _ ?_
  simp -implicitDefEqProofs (disch := omega) only [wp_step xX5_startDay_42, ↓e_getf iX5_startDay f5_17, ↓e_getf iX5_startDay f5_11, ↓e_virt iX5_startDay l5_132 iX7_weigh, ↓e_getf iX5_startDay f5_23, ↓e_virt iX5_startDay l5_136 iX7_writeLeans, iX5_startDay, exec1, ↓p1_e, ↓p2_e, ↓q1_e, ↓q2_e, ↓qi_e, ↓pr_e, ↓pa_e, ↓pa_f, ↓pst_e, ↓qst_e, ↓rst_e, ↓pac_e, ↓pargs_0, ↓pargs_s, ↓gfld_0, ↓gfld_1, ↓gfld_2, ↓gfld_3, ↓pfld_i, ↓pfld_l, ↓pfld_r, ↓sfld_i, ↓sfld_l, ↓sfld_r, brI, pushv, rcv, lget, lset, lset2, isL, rok, szs, List.elem_nil, List.elem_cons, cond_true, cond_false, Option.map_some, beq_self_eq_true, Bool.true_and, Bool.and_true, Bool.false_and, Bool.and_false, Bool.or_false, Bool.false_or, Bool.or_true, Bool.true_or, Nat.reduceAdd, Nat.reduceSub, Nat.reduceMul, Nat.reduceBEq, Nat.reduceEqDiff, Nat.reduceLeDiff, Nat.sub_zero, true_and, and_true, false_and, and_false, true_or, or_true, false_or, or_false, reduceCtorEq, ↓reduceIte, List.getD_cons_zero, List.getD_cons_succ, List.length_cons, List.length_nil, ct_i, ct_r, ct_l, ct_f, ct_n, false_implies, true_implies]
  have eW : WGC (si μ 53 e wd) nr nb sz n wd = WGC μ nr nb sz n wd := WGC_fr hF0 (fun a j z => pP_Sf a j (pDay_pP he a j z))
  have f2 : ∀ a j, a ≠ 55 + e → gi μ2 a j = gi μ1 a j := fun a j z => hF2.1 a j z
  obtain ⟨g1, g2, g3⟩ := hG
  refine h μ2 (hF01.trans (hF2.mono (fun a j z => Or.inr (Or.inr z)))) ?_ ⟨fun r hr => ?_, fun r hr => ?_, fun j hj => ?_⟩ (fun r hr => ?_)
  · rw [f2 _ _ (by omega), hF1.1 53 e (by unfold pS pL; omega), gi_si]
  · rw [f2 _ _ (by omega), g1 r hr]; exact congrArg (fun q => q.1 r) eW
  · rw [f2 _ _ (by omega), g2 r hr]; exact congrArg (fun q => q.2 r) eW
  · rw [f2 _ _ (by omega), f2 _ _ (by omega)]; exact g3 j hj
  · have e2 : (WGC (si μ 53 e wd) nr nb sz n wd).2 r = (WGC μ nr nb sz n wd).2 r := by rw [eW]
    have e3 : gi μ1 (75 + 5 * e + 4) r = (WGC μ nr nb sz n wd).2 r := (g2 r hr).trans e2
    rw [hl r hr, e3, hF01.1 6 r (by unfold pDay pS pL; omega)]
end PAY1
