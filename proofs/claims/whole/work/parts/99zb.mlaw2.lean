section MLX
variable {G : Gx} {d v : Nat} {μ : Mem} {bc bs : Nat} {Q : Option Value → List Sh → Mem → Nat → Nat → Prop} {L : Nat} {fb : Nat → Nat} {p o : Nat} {S : List Int32} {C : List (Int32 × Int32)}
def emM (μ : Mem) (n : Nat) (c x : Int32) : Mem := si (si (si μ 168 n c) 169 n x) 144 35 (nI (n + 1))
set_option maxRecDepth 100000 in
set_option maxHeartbeats 1000000 in
theorem k_mEmitR {c x : Int32} {n : Nat} (hd : 1 ≤ d) (hb : gi μ 144 33 = 0) (hn : gi μ 144 35 = nI n) (h2 : n < 200) (h : Q none (LAY v) (emM μ n c x) bc bs) : KC G d mX11_emit [.ref 144, .int c, .int x] (LAY v) μ bc bs Q := by
  have vc : vp_in (nI n) 200 := vin h2 (by omega)
  refine KC_intro 0 0 kX11_emit (by decide) (by decide) (Nat.zero_le _) (Nat.zero_le _) (Nat.le_of_ble_eq_true rfl) (fun Z hZ => ?_)
  show Z 0 [some (.ref 144), some (.int c), some (.int x)] [] (LAY v) μ 0 0
  refine hZ 400 [4] _ _ _ _ _ _ _ ?_
  simp -implicitDefEqProofs (disch := omega) only [wp_step xX11_emit_0, wp_step xX11_emit_1, ↓e_virt iX11_emit l11_253 iX11_isGood, ↓e_getf iX11_emit f11_88, ↓e_getf iX11_emit f11_257, ↓e_getf iX11_emit f11_91, ↓e_putf iX11_emit f11_257, iX11_emit, exec1, ↓p1_e, ↓p2_e, ↓q1_e, ↓q2_e, ↓qi_e, ↓pr_e, ↓pa_e, ↓pa_f, ↓pst_e, ↓qst_e, ↓rst_e, ↓pac_e, ↓pargs_0, ↓pargs_s, ↓gfld_0, ↓gfld_1, ↓gfld_2, ↓gfld_3, ↓pfld_i, ↓pfld_l, ↓pfld_r, ↓sfld_i, ↓sfld_l, ↓sfld_r, brI, pushv, rcv, lget, lset, lset2, isL, rok, szs, List.elem_nil, List.elem_cons, cond_true, cond_false, Option.map_some, beq_self_eq_true, Bool.true_and, Bool.and_true, Bool.false_and, Bool.and_false, Bool.or_false, Bool.false_or, Bool.or_true, Bool.true_or, Nat.reduceAdd, Nat.reduceSub, Nat.reduceMul, Nat.reduceBEq, Nat.reduceEqDiff, Nat.reduceLeDiff, Nat.sub_zero, true_and, and_true, false_and, and_false, true_or, or_true, false_or, or_false, reduceCtorEq, ↓reduceIte, List.getD_cons_zero, List.getD_cons_succ, List.length_cons, List.length_nil, ct_i, ct_r, ct_l, ct_f, ct_n, false_implies, true_implies, y144]
  refine ⟨by omega, k_mGood (fun _ => ?_) (fun z => absurd hb z)⟩
  refine hZ 400 [] _ _ _ _ _ _ _ ?_
  simp -implicitDefEqProofs (disch := omega) only [wp_step xX11_emit_4, wp_step xX11_emit_7, wp_step xX11_emit_8, wp_step xX11_emit_9, wp_step xX11_emit_12, wp_step xX11_emit_13, wp_step xX11_emit_16, wp_step xX11_emit_17, wp_step xX11_emit_18, wp_step xX11_emit_19, wp_step xX11_emit_22, wp_step xX11_emit_23, wp_step xX11_emit_26, wp_step xX11_emit_27, wp_step xX11_emit_28, wp_step xX11_emit_29, wp_step xX11_emit_30, wp_step xX11_emit_33, wp_step xX11_emit_34, wp_step xX11_emit_35, wp_step xX11_emit_38, ↓e_virt iX11_emit l11_253 iX11_isGood, ↓e_getf iX11_emit f11_88, ↓e_getf iX11_emit f11_257, ↓e_getf iX11_emit f11_91, ↓e_putf iX11_emit f11_257, iX11_emit, exec1, ↓p1_e, ↓p2_e, ↓q1_e, ↓q2_e, ↓qi_e, ↓pr_e, ↓pa_e, ↓pa_f, ↓pst_e, ↓qst_e, ↓rst_e, ↓pac_e, ↓pargs_0, ↓pargs_s, ↓gfld_0, ↓gfld_1, ↓gfld_2, ↓gfld_3, ↓pfld_i, ↓pfld_l, ↓pfld_r, ↓sfld_i, ↓sfld_l, ↓sfld_r, brI, pushv, rcv, lget, lset, lset2, isL, rok, szs, List.elem_nil, List.elem_cons, cond_true, cond_false, Option.map_some, beq_self_eq_true, Bool.true_and, Bool.and_true, Bool.false_and, Bool.and_false, Bool.or_false, Bool.false_or, Bool.or_true, Bool.true_or, Nat.reduceAdd, Nat.reduceSub, Nat.reduceMul, Nat.reduceBEq, Nat.reduceEqDiff, Nat.reduceLeDiff, Nat.sub_zero, true_and, and_true, false_and, and_false, true_or, or_true, false_or, or_false, reduceCtorEq, ↓reduceIte, List.getD_cons_zero, List.getD_cons_succ, List.length_cons, List.length_nil, ct_i, ct_r, ct_l, ct_f, ct_n, false_implies, true_implies, y144, y168, y169, hn, vc, nI_clamp, gi_si_a, nI_1, show ¬ (1 : Int32) = 0 by decide, not_false_eq_true, true_implies, false_implies, and_true, true_and, not_true_eq_false]
  exact h
theorem em_j {n a j : Nat} {c x : Int32} (h : ¬ (a = 168 ∨ a = 169 ∨ a = 144 ∧ j = 35)) : gi (emM μ n c x) a j = gi μ a j := by
  unfold emM
  by_cases y : a = 144
  · subst y; rw [gi_si_k (by omega), gi_si_a (by omega), gi_si_a (by omega)]
  · rw [gi_si_a y, gi_si_a (by omega), gi_si_a (by omega)]
theorem em_35 {n : Nat} {c x : Int32} : gi (emM μ n c x) 144 35 = nI (n + 1) := by unfold emM; rw [gi_si]
theorem em_fr {n : Nat} {c x : Int32} : Fr pMr μ (emM μ n c x) := ((Fr.rf.si (by unfold pMr; omega)).si (by unfold pMr; omega)).si (by unfold pMr; omega)
theorem em_cd {c x : Int32} (h : CdM μ C) : CdM (emM μ C.length c x) (C ++ [(c, x)]) := by
  unfold emM
  refine h.snoc (fun j hj => ?_) ?_ ?_
  · rw [gi_si_a (by omega), gi_si_a (by omega), gi_si_k (by omega), gi_si_a (by omega), gi_si_k (by omega), gi_si_a (by omega)]; exact ⟨rfl, rfl⟩
  · rw [gi_si_a (by omega), gi_si_a (by omega), gi_si]
  · rw [gi_si_a (by omega), gi_si]
theorem CdM.cong {μ' : Mem} (h : ∀ j, gi μ' 168 j = gi μ 168 j ∧ gi μ' 169 j = gi μ 169 j) (q : CdM μ C) : CdM μ' C := fun j x hx => by rw [(h j).1, (h j).2]; exact q j x hx
/-- the top sign is told and taken off -/
theorem MS.pop {x c : Int32} (h : MS μ L fb p o (x :: S) C) : MS (si (emM μ C.length c 0) 144 37 (nI S.length)) L fb p o S (C ++ [(c, 0)]) := by
  obtain ⟨s1, s2, s3, s4, s5, s6, s7, s8, s9, s10, s11⟩ := h
  rw [List.length_cons] at s11
  have e : ∀ j, j ≠ 37 → j ≠ 35 → gi (si (emM μ C.length c 0) 144 37 (nI S.length)) 144 j = gi μ 144 j := fun j h1 h2 => by rw [gi_si_k h1, em_j (by omega)]
  refine ⟨s1.fr (em_fr.si (by unfold pMr; omega)), (e _ (by omega) (by omega)).trans s2, s3, (e _ (by omega) (by omega)).trans s4, (e _ (by omega) (by omega)).trans s5, s6, gi_si, s8.2.cong (fun j hj => by rw [gi_si_a (by omega), em_j (by omega)]), ?_, (em_cd s10).cong (fun j => ⟨gi_si_a (by omega), gi_si_a (by omega)⟩), by rw [List.length_append, List.length_singleton]; omega⟩
  rw [gi_si_k (by omega), em_35, List.length_append, List.length_singleton]
set_option maxRecDepth 100000 in
set_option maxHeartbeats 1000000 in
theorem k_isTimes {c : Int32} {lay : List Sh} (h : Q (some (.int (bN (isTm c)))) lay μ bc bs) : KC G d mX11_isTimes [.int c] lay μ bc bs Q := by
  refine KC_intro 0 0 kX11_isTimes (by decide) (by decide) (Nat.zero_le _) (Nat.zero_le _) (Nat.le_of_ble_eq_true rfl) (fun Z hZ => ?_)
  show Z 0 [some (.int c)] [] lay μ 0 0
  refine hZ 400 [] _ _ _ _ _ _ _ ?_
  simp -implicitDefEqProofs (disch := omega) only [wp_step xX11_isTimes_0, wp_step xX11_isTimes_1, wp_step xX11_isTimes_3, wp_step xX11_isTimes_6, wp_step xX11_isTimes_7, wp_step xX11_isTimes_9, wp_step xX11_isTimes_12, wp_step xX11_isTimes_13, wp_step xX11_isTimes_15, wp_step xX11_isTimes_18, wp_step xX11_isTimes_19, wp_step xX11_isTimes_22, wp_step xX11_isTimes_23, iX11_isTimes, exec1, ↓p1_e, ↓p2_e, ↓q1_e, ↓q2_e, ↓qi_e, ↓pr_e, ↓pa_e, ↓pa_f, ↓pst_e, ↓qst_e, ↓rst_e, ↓pac_e, ↓pargs_0, ↓pargs_s, ↓gfld_0, ↓gfld_1, ↓gfld_2, ↓gfld_3, ↓pfld_i, ↓pfld_l, ↓pfld_r, ↓sfld_i, ↓sfld_l, ↓sfld_r, brI, pushv, rcv, lget, lset, lset2, isL, rok, szs, List.elem_nil, List.elem_cons, cond_true, cond_false, Option.map_some, beq_self_eq_true, Bool.true_and, Bool.and_true, Bool.false_and, Bool.and_false, Bool.or_false, Bool.false_or, Bool.or_true, Bool.true_or, Nat.reduceAdd, Nat.reduceSub, Nat.reduceMul, Nat.reduceBEq, Nat.reduceEqDiff, Nat.reduceLeDiff, Nat.sub_zero, true_and, and_true, false_and, and_false, true_or, or_true, false_or, or_false, reduceCtorEq, ↓reduceIte, List.getD_cons_zero, List.getD_cons_succ, List.length_cons, List.length_nil, ct_i, ct_r, ct_l, ct_f, ct_n, false_implies, true_implies]
  unfold isTm at h
  refine ⟨fun y => ?_, fun y => ⟨fun y2 => ?_, fun y2 => ⟨fun y3 => ?_, fun y3 => ?_⟩⟩⟩
  · rw [decide_eq_true (Or.inl y)] at h; exact h
  · rw [decide_eq_true (Or.inr (Or.inl y2))] at h; exact h
  · rw [decide_eq_false (fun z => z.elim y (fun z => z.elim y2 y3))] at h; exact h
  · rw [decide_eq_true (Or.inr (Or.inr y3))] at h; exact h
set_option maxRecDepth 100000 in
set_option maxHeartbeats 1000000 in
theorem k_isSign {c : Int32} {lay : List Sh} (h : Q (some (.int (bN (isSg c)))) lay μ bc bs) : KC G d mX11_isSign [.int c] lay μ bc bs Q := by
  refine KC_intro 0 0 kX11_isSign (by decide) (by decide) (Nat.zero_le _) (Nat.zero_le _) (Nat.le_of_ble_eq_true rfl) (fun Z hZ => ?_)
  show Z 0 [some (.int c)] [] lay μ 0 0
  refine hZ 400 [] _ _ _ _ _ _ _ ?_
  simp -implicitDefEqProofs (disch := omega) only [wp_step xX11_isSign_0, wp_step xX11_isSign_1, wp_step xX11_isSign_3, wp_step xX11_isSign_6, wp_step xX11_isSign_7, wp_step xX11_isSign_9, wp_step xX11_isSign_12, wp_step xX11_isSign_13, wp_step xX11_isSign_15, wp_step xX11_isSign_18, wp_step xX11_isSign_19, wp_step xX11_isSign_22, wp_step xX11_isSign_23, iX11_isSign, exec1, ↓p1_e, ↓p2_e, ↓q1_e, ↓q2_e, ↓qi_e, ↓pr_e, ↓pa_e, ↓pa_f, ↓pst_e, ↓qst_e, ↓rst_e, ↓pac_e, ↓pargs_0, ↓pargs_s, ↓gfld_0, ↓gfld_1, ↓gfld_2, ↓gfld_3, ↓pfld_i, ↓pfld_l, ↓pfld_r, ↓sfld_i, ↓sfld_l, ↓sfld_r, brI, pushv, rcv, lget, lset, lset2, isL, rok, szs, List.elem_nil, List.elem_cons, cond_true, cond_false, Option.map_some, beq_self_eq_true, Bool.true_and, Bool.and_true, Bool.false_and, Bool.and_false, Bool.or_false, Bool.false_or, Bool.or_true, Bool.true_or, Nat.reduceAdd, Nat.reduceSub, Nat.reduceMul, Nat.reduceBEq, Nat.reduceEqDiff, Nat.reduceLeDiff, Nat.sub_zero, true_and, and_true, false_and, and_false, true_or, or_true, false_or, or_false, reduceCtorEq, ↓reduceIte, List.getD_cons_zero, List.getD_cons_succ, List.length_cons, List.length_nil, ct_i, ct_r, ct_l, ct_f, ct_n, false_implies, true_implies]
  unfold isSg at h
  refine ⟨fun y => ?_, fun y => ⟨fun y2 => ?_, fun y2 => ⟨fun y3 => ?_, fun y3 => ?_⟩⟩⟩
  · rw [decide_eq_true (Or.inl y)] at h; exact h
  · rw [decide_eq_true (Or.inr (Or.inl y2))] at h; exact h
  · rw [decide_eq_false (fun z => z.elim y (fun z => z.elim y2 y3))] at h; exact h
  · rw [decide_eq_true (Or.inr (Or.inr y3))] at h; exact h
set_option maxRecDepth 100000 in
set_option maxHeartbeats 1000000 in
theorem k_isPlus {c : Int32} {lay : List Sh} (h : Q (some (.int (bN (isPl c)))) lay μ bc bs) : KC G d mX11_isPlus [.int c] lay μ bc bs Q := by
  refine KC_intro 0 0 kX11_isPlus (by decide) (by decide) (Nat.zero_le _) (Nat.zero_le _) (Nat.le_of_ble_eq_true rfl) (fun Z hZ => ?_)
  show Z 0 [some (.int c)] [] lay μ 0 0
  refine hZ 400 [] _ _ _ _ _ _ _ ?_
  simp -implicitDefEqProofs (disch := omega) only [wp_step xX11_isPlus_0, wp_step xX11_isPlus_1, wp_step xX11_isPlus_3, wp_step xX11_isPlus_6, wp_step xX11_isPlus_7, wp_step xX11_isPlus_9, wp_step xX11_isPlus_12, wp_step xX11_isPlus_13, wp_step xX11_isPlus_16, wp_step xX11_isPlus_17, iX11_isPlus, exec1, ↓p1_e, ↓p2_e, ↓q1_e, ↓q2_e, ↓qi_e, ↓pr_e, ↓pa_e, ↓pa_f, ↓pst_e, ↓qst_e, ↓rst_e, ↓pac_e, ↓pargs_0, ↓pargs_s, ↓gfld_0, ↓gfld_1, ↓gfld_2, ↓gfld_3, ↓pfld_i, ↓pfld_l, ↓pfld_r, ↓sfld_i, ↓sfld_l, ↓sfld_r, brI, pushv, rcv, lget, lset, lset2, isL, rok, szs, List.elem_nil, List.elem_cons, cond_true, cond_false, Option.map_some, beq_self_eq_true, Bool.true_and, Bool.and_true, Bool.false_and, Bool.and_false, Bool.or_false, Bool.false_or, Bool.or_true, Bool.true_or, Nat.reduceAdd, Nat.reduceSub, Nat.reduceMul, Nat.reduceBEq, Nat.reduceEqDiff, Nat.reduceLeDiff, Nat.sub_zero, true_and, and_true, false_and, and_false, true_or, or_true, false_or, or_false, reduceCtorEq, ↓reduceIte, List.getD_cons_zero, List.getD_cons_succ, List.length_cons, List.length_nil, ct_i, ct_r, ct_l, ct_f, ct_n, false_implies, true_implies]
  unfold isPl at h
  refine ⟨fun y => ?_, fun y => ⟨fun y2 => ?_, fun y2 => ?_⟩⟩
  · rw [decide_eq_true (Or.inl y)] at h; exact h
  · rw [decide_eq_false (fun z => z.elim y y2)] at h; exact h
  · rw [decide_eq_true (Or.inr y2)] at h; exact h
set_option maxRecDepth 100000 in
set_option maxHeartbeats 1000000 in
theorem k_isValue {c : Int32} {lay : List Sh} (h : Q (some (.int (bN (isVl c)))) lay μ bc bs) : KC G d mX11_isValue [.int c] lay μ bc bs Q := by
  refine KC_intro 0 0 kX11_isValue (by decide) (by decide) (Nat.zero_le _) (Nat.zero_le _) (Nat.le_of_ble_eq_true rfl) (fun Z hZ => ?_)
  show Z 0 [some (.int c)] [] lay μ 0 0
  refine hZ 400 [] _ _ _ _ _ _ _ ?_
  simp -implicitDefEqProofs (disch := omega) only [wp_step xX11_isValue_0, wp_step xX11_isValue_1, wp_step xX11_isValue_3, wp_step xX11_isValue_6, wp_step xX11_isValue_7, wp_step xX11_isValue_9, wp_step xX11_isValue_12, wp_step xX11_isValue_13, wp_step xX11_isValue_15, wp_step xX11_isValue_18, wp_step xX11_isValue_19, wp_step xX11_isValue_21, wp_step xX11_isValue_24, wp_step xX11_isValue_25, wp_step xX11_isValue_27, wp_step xX11_isValue_30, wp_step xX11_isValue_31, wp_step xX11_isValue_33, wp_step xX11_isValue_36, wp_step xX11_isValue_37, wp_step xX11_isValue_39, wp_step xX11_isValue_42, wp_step xX11_isValue_43, wp_step xX11_isValue_46, wp_step xX11_isValue_47, iX11_isValue, exec1, ↓p1_e, ↓p2_e, ↓q1_e, ↓q2_e, ↓qi_e, ↓pr_e, ↓pa_e, ↓pa_f, ↓pst_e, ↓qst_e, ↓rst_e, ↓pac_e, ↓pargs_0, ↓pargs_s, ↓gfld_0, ↓gfld_1, ↓gfld_2, ↓gfld_3, ↓pfld_i, ↓pfld_l, ↓pfld_r, ↓sfld_i, ↓sfld_l, ↓sfld_r, brI, pushv, rcv, lget, lset, lset2, isL, rok, szs, List.elem_nil, List.elem_cons, cond_true, cond_false, Option.map_some, beq_self_eq_true, Bool.true_and, Bool.and_true, Bool.false_and, Bool.and_false, Bool.or_false, Bool.false_or, Bool.or_true, Bool.true_or, Nat.reduceAdd, Nat.reduceSub, Nat.reduceMul, Nat.reduceBEq, Nat.reduceEqDiff, Nat.reduceLeDiff, Nat.sub_zero, true_and, and_true, false_and, and_false, true_or, or_true, false_or, or_false, reduceCtorEq, ↓reduceIte, List.getD_cons_zero, List.getD_cons_succ, List.length_cons, List.length_nil, ct_i, ct_r, ct_l, ct_f, ct_n, false_implies, true_implies]
  unfold isVl at h
  by_cases g : c = 108 ∨ c = 99 ∨ c = 111 ∨ c = 97 ∨ c = 114 ∨ c = 119 ∨ c = 118
  · rw [decide_eq_true g] at h
    refine ⟨fun _ => h, fun y1 => ⟨fun _ => h, fun y2 => ⟨fun _ => h, fun y3 => ⟨fun _ => h, fun y4 => ⟨fun _ => h, fun y5 => ⟨fun _ => h, fun y6 => ⟨fun y7 => ?_, fun _ => h⟩⟩⟩⟩⟩⟩⟩
    rcases g with g | g | g | g | g | g | g
    · exact absurd g y1
    · exact absurd g y2
    · exact absurd g y3
    · exact absurd g y4
    · exact absurd g y5
    · exact absurd g y6
    · exact absurd g y7
  · rw [decide_eq_false g] at h
    exact ⟨fun y => absurd (Or.inl y) g, fun _ => ⟨fun y => absurd (Or.inr (Or.inl y)) g, fun _ => ⟨fun y => absurd (Or.inr (Or.inr (Or.inl y))) g, fun _ => ⟨fun y => absurd (Or.inr (Or.inr (Or.inr (Or.inl y)))) g, fun _ => ⟨fun y => absurd (Or.inr (Or.inr (Or.inr (Or.inr (Or.inl y))))) g, fun _ => ⟨fun y => absurd (Or.inr (Or.inr (Or.inr (Or.inr (Or.inr (Or.inl y)))))) g, fun _ => ⟨fun _ => h, fun y => absurd (Or.inr (Or.inr (Or.inr (Or.inr (Or.inr (Or.inr y)))))) g⟩⟩⟩⟩⟩⟩⟩
set_option maxRecDepth 100000 in
set_option maxHeartbeats 1000000 in
theorem k_seesDigit (hd : 1 ≤ d) (hT : TxM μ L fb) (hp : gi μ 144 31 = nI p) (hL : p ≤ L) (h : Q (some (.int (bN (isDg (nxC L fb p))))) (LAY v) μ bc bs) : KC G d mX11_seesDigit [.ref 144] (LAY v) μ bc bs Q := by
  refine KC_intro 0 0 kX11_seesDigit (by decide) (by decide) (Nat.zero_le _) (Nat.zero_le _) (Nat.le_of_ble_eq_true rfl) (fun Z hZ => ?_)
  show Z 0 [some (.ref 144)] [] (LAY v) μ 0 0
  refine hZ 400 [4] _ _ _ _ _ _ _ ?_
  simp -implicitDefEqProofs (disch := omega) only [wp_step xX11_seesDigit_0, wp_step xX11_seesDigit_1, ↓e_virt iX11_seesDigit l11_270 iX11_here, q11_277, q11_279, ↓e_static iX11_seesDigit jn11_203 l11_203 iX11_lies, iX11_seesDigit, exec1, ↓p1_e, ↓p2_e, ↓q1_e, ↓q2_e, ↓qi_e, ↓pr_e, ↓pa_e, ↓pa_f, ↓pst_e, ↓qst_e, ↓rst_e, ↓pac_e, ↓pargs_0, ↓pargs_s, ↓gfld_0, ↓gfld_1, ↓gfld_2, ↓gfld_3, ↓pfld_i, ↓pfld_l, ↓pfld_r, ↓sfld_i, ↓sfld_l, ↓sfld_r, brI, pushv, rcv, lget, lset, lset2, isL, rok, szs, List.elem_nil, List.elem_cons, cond_true, cond_false, Option.map_some, beq_self_eq_true, Bool.true_and, Bool.and_true, Bool.false_and, Bool.and_false, Bool.or_false, Bool.false_or, Bool.or_true, Bool.true_or, Nat.reduceAdd, Nat.reduceSub, Nat.reduceMul, Nat.reduceBEq, Nat.reduceEqDiff, Nat.reduceLeDiff, Nat.sub_zero, true_and, and_true, false_and, and_false, true_or, or_true, false_or, or_false, reduceCtorEq, ↓reduceIte, List.getD_cons_zero, List.getD_cons_succ, List.length_cons, List.length_nil, ct_i, ct_r, ct_l, ct_f, ct_n, false_implies, true_implies, y144]
  refine ⟨by omega, k_mHere hT hp hL ?_⟩
  refine hZ 400 [14] _ _ _ _ _ _ _ ?_
  simp -implicitDefEqProofs (disch := omega) only [wp_step xX11_seesDigit_4, wp_step xX11_seesDigit_5, wp_step xX11_seesDigit_8, wp_step xX11_seesDigit_11, ↓e_virt iX11_seesDigit l11_270 iX11_here, q11_277, q11_279, ↓e_static iX11_seesDigit jn11_203 l11_203 iX11_lies, iX11_seesDigit, exec1, ↓p1_e, ↓p2_e, ↓q1_e, ↓q2_e, ↓qi_e, ↓pr_e, ↓pa_e, ↓pa_f, ↓pst_e, ↓qst_e, ↓rst_e, ↓pac_e, ↓pargs_0, ↓pargs_s, ↓gfld_0, ↓gfld_1, ↓gfld_2, ↓gfld_3, ↓pfld_i, ↓pfld_l, ↓pfld_r, ↓sfld_i, ↓sfld_l, ↓sfld_r, brI, pushv, rcv, lget, lset, lset2, isL, rok, szs, List.elem_nil, List.elem_cons, cond_true, cond_false, Option.map_some, beq_self_eq_true, Bool.true_and, Bool.and_true, Bool.false_and, Bool.and_false, Bool.or_false, Bool.false_or, Bool.or_true, Bool.true_or, Nat.reduceAdd, Nat.reduceSub, Nat.reduceMul, Nat.reduceBEq, Nat.reduceEqDiff, Nat.reduceLeDiff, Nat.sub_zero, true_and, and_true, false_and, and_false, true_or, or_true, false_or, or_false, reduceCtorEq, ↓reduceIte, List.getD_cons_zero, List.getD_cons_succ, List.length_cons, List.length_nil, ct_i, ct_r, ct_l, ct_f, ct_n, false_implies, true_implies]
  refine ⟨by omega, k_lies ?_⟩
  simp only [w_lo (c := 48) (c' := 48) (by decide +kernel), w_hi (c := 57) (c' := 57) (by decide +kernel)]
  have e : bI (48 ≤ hrM L fb p ∧ hrM L fb p ≤ 57) = bN (isDg (nxC L fb p)) := by
    rw [← hr_P (P := isDg) (by decide) (by decide)]
    unfold isDg
    by_cases z : 48 ≤ hrM L fb p ∧ hrM L fb p ≤ 57
    · rw [bI_t z, decide_eq_true z]; rfl
    · rw [bI_f z, decide_eq_false z]; rfl
  rw [e]
  refine hZ 400 [] _ _ _ _ _ _ _ ?_
  simp -implicitDefEqProofs (disch := omega) only [wp_step xX11_seesDigit_14, ↓e_virt iX11_seesDigit l11_270 iX11_here, q11_277, q11_279, ↓e_static iX11_seesDigit jn11_203 l11_203 iX11_lies, iX11_seesDigit, exec1, ↓p1_e, ↓p2_e, ↓q1_e, ↓q2_e, ↓qi_e, ↓pr_e, ↓pa_e, ↓pa_f, ↓pst_e, ↓qst_e, ↓rst_e, ↓pac_e, ↓pargs_0, ↓pargs_s, ↓gfld_0, ↓gfld_1, ↓gfld_2, ↓gfld_3, ↓pfld_i, ↓pfld_l, ↓pfld_r, ↓sfld_i, ↓sfld_l, ↓sfld_r, brI, pushv, rcv, lget, lset, lset2, isL, rok, szs, List.elem_nil, List.elem_cons, cond_true, cond_false, Option.map_some, beq_self_eq_true, Bool.true_and, Bool.and_true, Bool.false_and, Bool.and_false, Bool.or_false, Bool.false_or, Bool.or_true, Bool.true_or, Nat.reduceAdd, Nat.reduceSub, Nat.reduceMul, Nat.reduceBEq, Nat.reduceEqDiff, Nat.reduceLeDiff, Nat.sub_zero, true_and, and_true, false_and, and_false, true_or, or_true, false_or, or_false, reduceCtorEq, ↓reduceIte, List.getD_cons_zero, List.getD_cons_succ, List.length_cons, List.length_nil, ct_i, ct_r, ct_l, ct_f, ct_n, false_implies, true_implies]
  exact ⟨bN_01 _, h⟩
set_option maxRecDepth 100000 in
set_option maxHeartbeats 1000000 in
theorem k_mPutsR {c : Int32} {n : Nat} (hs : gi μ 144 37 = nI n) (hn : n < 240) (h : ∀ μ', Fr pMr μ μ' → gi μ' 144 33 = gi μ 144 33 → Q none (LAY v) μ' bc bs) : KC G d mX11_puts [.ref 144, .int c] (LAY v) μ bc bs Q := by
  have vs : vp_in (nI n) 240 := vin hn (by omega)
  refine KC_intro 0 0 kX11_puts (by decide) (by decide) (Nat.zero_le _) (Nat.zero_le _) (Nat.le_of_ble_eq_true rfl) (fun Z hZ => ?_)
  show Z 0 [some (.ref 144), some (.int c)] [] (LAY v) μ 0 0
  refine hZ 400 [] _ _ _ _ _ _ _ ?_
  simp -implicitDefEqProofs (disch := omega) only [wp_step xX11_puts_0, wp_step xX11_puts_1, wp_step xX11_puts_4, wp_step xX11_puts_5, wp_step xX11_puts_8, wp_step xX11_puts_9, wp_step xX11_puts_10, wp_step xX11_puts_11, wp_step xX11_puts_12, wp_step xX11_puts_15, wp_step xX11_puts_16, wp_step xX11_puts_17, wp_step xX11_puts_20, wp_step xX11_puts_21, wp_step xX11_puts_22, wp_step xX11_puts_25, wp_step xX11_puts_26, wp_step xX11_puts_27, wp_step xX11_puts_30, ↓e_getf iX11_puts f11_94, ↓e_getf iX11_puts f11_260, ↓e_putf iX11_puts f11_260, ↓e_getf iX11_puts f11_244, ↓e_putf iX11_puts f11_244, iX11_puts, exec1, ↓p1_e, ↓p2_e, ↓q1_e, ↓q2_e, ↓qi_e, ↓pr_e, ↓pa_e, ↓pa_f, ↓pst_e, ↓qst_e, ↓rst_e, ↓pac_e, ↓pargs_0, ↓pargs_s, ↓gfld_0, ↓gfld_1, ↓gfld_2, ↓gfld_3, ↓pfld_i, ↓pfld_l, ↓pfld_r, ↓sfld_i, ↓sfld_l, ↓sfld_r, brI, pushv, rcv, lget, lset, lset2, isL, rok, szs, List.elem_nil, List.elem_cons, cond_true, cond_false, Option.map_some, beq_self_eq_true, Bool.true_and, Bool.and_true, Bool.false_and, Bool.and_false, Bool.or_false, Bool.false_or, Bool.or_true, Bool.true_or, Nat.reduceAdd, Nat.reduceSub, Nat.reduceMul, Nat.reduceBEq, Nat.reduceEqDiff, Nat.reduceLeDiff, Nat.sub_zero, true_and, and_true, false_and, and_false, true_or, or_true, false_or, or_false, reduceCtorEq, ↓reduceIte, List.getD_cons_zero, List.getD_cons_succ, List.length_cons, List.length_nil, ct_i, ct_r, ct_l, ct_f, ct_n, false_implies, true_implies, y144, y170, hs, vs, nI_clamp, gi_si_a, gi_si_k, nI_1]
  refine h _ (((Fr.rf.si (by unfold pMr; omega)).si (by unfold pMr; omega)).si (by unfold pMr; omega)) ?_
  rw [gi_si_k (by omega), gi_si_k (by omega), gi_si_a (by omega)]
set_option maxRecDepth 100000 in
set_option maxHeartbeats 1000000 in
/-- a bracket is opened, or it is one too many -/
theorem k_mOpens (hd : 1 ≤ d) (hS : MS μ L fb p o S C) (hp : p < L) (h0 : o = 6 → ∀ μ', Fr pMr μ μ' → gi μ' 144 33 = flt 5 p → Q none (LAY v) μ' bc bs) (h1 : o < 6 → ∀ μ', Fr pMr μ μ' → gi μ' 144 39 = gi μ 144 39 → gi μ' 144 38 = gi μ 144 38 → MS μ' L fb (p + 1) (o + 1) (hrM L fb p :: S) C → Q none (LAY v) μ' bc bs) : KC G d mX11_opens [.ref 144] (LAY v) μ bc bs Q := by
  obtain ⟨s1, s2, s3, s4, s5, s6, s7, s8, s9, s10, s11⟩ := id hS
  have hL := s1.2.1
  refine KC_intro 0 0 kX11_opens (by decide) (by decide) (Nat.zero_le _) (Nat.zero_le _) (Nat.le_of_ble_eq_true rfl) (fun Z hZ => ?_)
  show Z 0 [some (.ref 144)] [] (LAY v) μ 0 0
  by_cases c : o = 6
  · subst c
    have s5' : gi μ 144 36 = 6 := s5
    have hF : Fr pMr μ (si (si μ 144 33 (flt 5 p)) 144 36 (6 + 1)) := (Fr.rf.si (by unfold pMr; omega)).si (by unfold pMr; omega)
    have vs : vp_in (nI S.length) 240 := vin (by omega) (by omega)
    refine hZ 400 [18] _ _ _ _ _ _ _ ?_
    simp -implicitDefEqProofs (disch := omega) only [wp_step xX11_opens_0, wp_step xX11_opens_1, wp_step xX11_opens_4, wp_step xX11_opens_6, wp_step xX11_opens_9, wp_step xX11_opens_10, wp_step xX11_opens_11, wp_step xX11_opens_12, wp_step xX11_opens_15, ↓e_getf iX11_opens f11_263, ↓e_getf iX11_opens f11_244, ↓e_virt iX11_opens l11_266 iX11_wrongs, ↓e_putf iX11_opens f11_263, ↓e_virt iX11_opens l11_270 iX11_here, ↓e_virt iX11_opens l11_274 iX11_puts, iX11_opens, exec1, ↓p1_e, ↓p2_e, ↓q1_e, ↓q2_e, ↓qi_e, ↓pr_e, ↓pa_e, ↓pa_f, ↓pst_e, ↓qst_e, ↓rst_e, ↓pac_e, ↓pargs_0, ↓pargs_s, ↓gfld_0, ↓gfld_1, ↓gfld_2, ↓gfld_3, ↓pfld_i, ↓pfld_l, ↓pfld_r, ↓sfld_i, ↓sfld_l, ↓sfld_r, brI, pushv, rcv, lget, lset, lset2, isL, rok, szs, List.elem_nil, List.elem_cons, cond_true, cond_false, Option.map_some, beq_self_eq_true, Bool.true_and, Bool.and_true, Bool.false_and, Bool.and_false, Bool.or_false, Bool.false_or, Bool.or_true, Bool.true_or, Nat.reduceAdd, Nat.reduceSub, Nat.reduceMul, Nat.reduceBEq, Nat.reduceEqDiff, Nat.reduceLeDiff, Nat.sub_zero, true_and, and_true, false_and, and_false, true_or, or_true, false_or, or_false, reduceCtorEq, ↓reduceIte, List.getD_cons_zero, List.getD_cons_succ, List.length_cons, List.length_nil, ct_i, ct_r, ct_l, ct_f, ct_n, false_implies, true_implies, y144, s5', s2, not_false_eq_true, true_implies, false_implies, and_true, true_and, not_true_eq_false]
    refine ⟨by omega, k_mWrongs (f := 5) s4 ?_⟩
    refine hZ 400 [33] _ _ _ _ _ _ _ ?_
    simp -implicitDefEqProofs (disch := omega) only [wp_step xX11_opens_18, wp_step xX11_opens_19, wp_step xX11_opens_20, wp_step xX11_opens_23, wp_step xX11_opens_24, wp_step xX11_opens_25, wp_step xX11_opens_28, wp_step xX11_opens_29, wp_step xX11_opens_30, ↓e_getf iX11_opens f11_263, ↓e_getf iX11_opens f11_244, ↓e_virt iX11_opens l11_266 iX11_wrongs, ↓e_putf iX11_opens f11_263, ↓e_virt iX11_opens l11_270 iX11_here, ↓e_virt iX11_opens l11_274 iX11_puts, iX11_opens, exec1, ↓p1_e, ↓p2_e, ↓q1_e, ↓q2_e, ↓qi_e, ↓pr_e, ↓pa_e, ↓pa_f, ↓pst_e, ↓qst_e, ↓rst_e, ↓pac_e, ↓pargs_0, ↓pargs_s, ↓gfld_0, ↓gfld_1, ↓gfld_2, ↓gfld_3, ↓pfld_i, ↓pfld_l, ↓pfld_r, ↓sfld_i, ↓sfld_l, ↓sfld_r, brI, pushv, rcv, lget, lset, lset2, isL, rok, szs, List.elem_nil, List.elem_cons, cond_true, cond_false, Option.map_some, beq_self_eq_true, Bool.true_and, Bool.and_true, Bool.false_and, Bool.and_false, Bool.or_false, Bool.false_or, Bool.or_true, Bool.true_or, Nat.reduceAdd, Nat.reduceSub, Nat.reduceMul, Nat.reduceBEq, Nat.reduceEqDiff, Nat.reduceLeDiff, Nat.sub_zero, true_and, and_true, false_and, and_false, true_or, or_true, false_or, or_false, reduceCtorEq, ↓reduceIte, List.getD_cons_zero, List.getD_cons_succ, List.length_cons, List.length_nil, ct_i, ct_r, ct_l, ct_f, ct_n, false_implies, true_implies, y144, gi_si_k, s5']
    refine ⟨by omega, k_mHere (p := p) (s1.fr hF) ?_ s3 ?_⟩
    · rw [gi_si_k (by omega), gi_si_k (by omega)]; exact s2
    · refine hZ 400 [36] _ _ _ _ _ _ _ ?_
      simp -implicitDefEqProofs (disch := omega) only [wp_step xX11_opens_33, ↓e_getf iX11_opens f11_263, ↓e_getf iX11_opens f11_244, ↓e_virt iX11_opens l11_266 iX11_wrongs, ↓e_putf iX11_opens f11_263, ↓e_virt iX11_opens l11_270 iX11_here, ↓e_virt iX11_opens l11_274 iX11_puts, iX11_opens, exec1, ↓p1_e, ↓p2_e, ↓q1_e, ↓q2_e, ↓qi_e, ↓pr_e, ↓pa_e, ↓pa_f, ↓pst_e, ↓qst_e, ↓rst_e, ↓pac_e, ↓pargs_0, ↓pargs_s, ↓gfld_0, ↓gfld_1, ↓gfld_2, ↓gfld_3, ↓pfld_i, ↓pfld_l, ↓pfld_r, ↓sfld_i, ↓sfld_l, ↓sfld_r, brI, pushv, rcv, lget, lset, lset2, isL, rok, szs, List.elem_nil, List.elem_cons, cond_true, cond_false, Option.map_some, beq_self_eq_true, Bool.true_and, Bool.and_true, Bool.false_and, Bool.and_false, Bool.or_false, Bool.false_or, Bool.or_true, Bool.true_or, Nat.reduceAdd, Nat.reduceSub, Nat.reduceMul, Nat.reduceBEq, Nat.reduceEqDiff, Nat.reduceLeDiff, Nat.sub_zero, true_and, and_true, false_and, and_false, true_or, or_true, false_or, or_false, reduceCtorEq, ↓reduceIte, List.getD_cons_zero, List.getD_cons_succ, List.length_cons, List.length_nil, ct_i, ct_r, ct_l, ct_f, ct_n, false_implies, true_implies, y144]
      refine ⟨by omega, k_mPutsR (n := S.length) ?_ (by omega) (fun μ2 hF2 e2 => ?_)⟩
      · rw [gi_si_k (by omega), gi_si_k (by omega)]; exact s7
      · refine hZ 400 [] _ _ _ _ _ _ _ ?_
        simp -implicitDefEqProofs (disch := omega) only [wp_step xX11_opens_36, ↓e_getf iX11_opens f11_263, ↓e_getf iX11_opens f11_244, ↓e_virt iX11_opens l11_266 iX11_wrongs, ↓e_putf iX11_opens f11_263, ↓e_virt iX11_opens l11_270 iX11_here, ↓e_virt iX11_opens l11_274 iX11_puts, iX11_opens, exec1, ↓p1_e, ↓p2_e, ↓q1_e, ↓q2_e, ↓qi_e, ↓pr_e, ↓pa_e, ↓pa_f, ↓pst_e, ↓qst_e, ↓rst_e, ↓pac_e, ↓pargs_0, ↓pargs_s, ↓gfld_0, ↓gfld_1, ↓gfld_2, ↓gfld_3, ↓pfld_i, ↓pfld_l, ↓pfld_r, ↓sfld_i, ↓sfld_l, ↓sfld_r, brI, pushv, rcv, lget, lset, lset2, isL, rok, szs, List.elem_nil, List.elem_cons, cond_true, cond_false, Option.map_some, beq_self_eq_true, Bool.true_and, Bool.and_true, Bool.false_and, Bool.and_false, Bool.or_false, Bool.false_or, Bool.or_true, Bool.true_or, Nat.reduceAdd, Nat.reduceSub, Nat.reduceMul, Nat.reduceBEq, Nat.reduceEqDiff, Nat.reduceLeDiff, Nat.sub_zero, true_and, and_true, false_and, and_false, true_or, or_true, false_or, or_false, reduceCtorEq, ↓reduceIte, List.getD_cons_zero, List.getD_cons_succ, List.length_cons, List.length_nil, ct_i, ct_r, ct_l, ct_f, ct_n, false_implies, true_implies]
        exact h0 rfl μ2 (hF.trans hF2) (by rw [e2, gi_si_k (by omega), gi_si])
  · have hne : ¬ nI o = 6 := fun z => c ((nI_eq (b := 6) (by omega) (by omega)).mp z)
    have hF : Fr pMr μ (si μ 144 36 (nI (o + 1))) := Fr.rf.si (by unfold pMr; omega)
    have e : ∀ j, j ≠ 36 → gi (si μ 144 36 (nI (o + 1))) 144 j = gi μ 144 j := fun j hj => gi_si_k hj
    have hS1 : MS (si μ 144 36 (nI (o + 1))) L fb p (o + 1) S C := ⟨s1.fr hF, (e _ (by omega)).trans s2, s3, (e _ (by omega)).trans s4, gi_si, by omega, (e _ (by omega)).trans s7, s8.cong (fun j _ => gi_si_a (by omega)), (e _ (by omega)).trans s9, s10.cong (fun j => ⟨gi_si_a (by omega), gi_si_a (by omega)⟩), s11⟩
    refine hZ 400 [33] _ _ _ _ _ _ _ ?_
    simp -implicitDefEqProofs (disch := omega) only [wp_step xX11_opens_0, wp_step xX11_opens_1, wp_step xX11_opens_4, wp_step xX11_opens_6, ↓e_getf iX11_opens f11_263, ↓e_getf iX11_opens f11_244, ↓e_virt iX11_opens l11_266 iX11_wrongs, ↓e_putf iX11_opens f11_263, ↓e_virt iX11_opens l11_270 iX11_here, ↓e_virt iX11_opens l11_274 iX11_puts, iX11_opens, wp_step xX11_opens_18, wp_step xX11_opens_19, wp_step xX11_opens_20, wp_step xX11_opens_23, wp_step xX11_opens_24, wp_step xX11_opens_25, wp_step xX11_opens_28, wp_step xX11_opens_29, wp_step xX11_opens_30, ↓e_getf iX11_opens f11_263, ↓e_getf iX11_opens f11_244, ↓e_virt iX11_opens l11_266 iX11_wrongs, ↓e_putf iX11_opens f11_263, ↓e_virt iX11_opens l11_270 iX11_here, ↓e_virt iX11_opens l11_274 iX11_puts, iX11_opens, exec1, ↓p1_e, ↓p2_e, ↓q1_e, ↓q2_e, ↓qi_e, ↓pr_e, ↓pa_e, ↓pa_f, ↓pst_e, ↓qst_e, ↓rst_e, ↓pac_e, ↓pargs_0, ↓pargs_s, ↓gfld_0, ↓gfld_1, ↓gfld_2, ↓gfld_3, ↓pfld_i, ↓pfld_l, ↓pfld_r, ↓sfld_i, ↓sfld_l, ↓sfld_r, brI, pushv, rcv, lget, lset, lset2, isL, rok, szs, List.elem_nil, List.elem_cons, cond_true, cond_false, Option.map_some, beq_self_eq_true, Bool.true_and, Bool.and_true, Bool.false_and, Bool.and_false, Bool.or_false, Bool.false_or, Bool.or_true, Bool.true_or, Nat.reduceAdd, Nat.reduceSub, Nat.reduceMul, Nat.reduceBEq, Nat.reduceEqDiff, Nat.reduceLeDiff, Nat.sub_zero, true_and, and_true, false_and, and_false, true_or, or_true, false_or, or_false, reduceCtorEq, ↓reduceIte, List.getD_cons_zero, List.getD_cons_succ, List.length_cons, List.length_nil, ct_i, ct_r, ct_l, ct_f, ct_n, false_implies, true_implies, y144, s5, hne, nI_1, not_false_eq_true, true_implies, false_implies, and_true, true_and, not_true_eq_false]
    refine ⟨by omega, k_mHere hS1.1 hS1.2.1 s3 ?_⟩
    refine hZ 400 [36] _ _ _ _ _ _ _ ?_
    simp -implicitDefEqProofs (disch := omega) only [wp_step xX11_opens_33, ↓e_getf iX11_opens f11_263, ↓e_getf iX11_opens f11_244, ↓e_virt iX11_opens l11_266 iX11_wrongs, ↓e_putf iX11_opens f11_263, ↓e_virt iX11_opens l11_270 iX11_here, ↓e_virt iX11_opens l11_274 iX11_puts, iX11_opens, exec1, ↓p1_e, ↓p2_e, ↓q1_e, ↓q2_e, ↓qi_e, ↓pr_e, ↓pa_e, ↓pa_f, ↓pst_e, ↓qst_e, ↓rst_e, ↓pac_e, ↓pargs_0, ↓pargs_s, ↓gfld_0, ↓gfld_1, ↓gfld_2, ↓gfld_3, ↓pfld_i, ↓pfld_l, ↓pfld_r, ↓sfld_i, ↓sfld_l, ↓sfld_r, brI, pushv, rcv, lget, lset, lset2, isL, rok, szs, List.elem_nil, List.elem_cons, cond_true, cond_false, Option.map_some, beq_self_eq_true, Bool.true_and, Bool.and_true, Bool.false_and, Bool.and_false, Bool.or_false, Bool.false_or, Bool.or_true, Bool.true_or, Nat.reduceAdd, Nat.reduceSub, Nat.reduceMul, Nat.reduceBEq, Nat.reduceEqDiff, Nat.reduceLeDiff, Nat.sub_zero, true_and, and_true, false_and, and_false, true_or, or_true, false_or, or_false, reduceCtorEq, ↓reduceIte, List.getD_cons_zero, List.getD_cons_succ, List.length_cons, List.length_nil, ct_i, ct_r, ct_l, ct_f, ct_n, false_implies, true_implies, y144]
    refine ⟨by omega, k_mPuts hS1 hp (fun μ2 hF2 e1 e2 hS2 => ?_)⟩
    refine hZ 400 [] _ _ _ _ _ _ _ ?_
    simp -implicitDefEqProofs (disch := omega) only [wp_step xX11_opens_36, ↓e_getf iX11_opens f11_263, ↓e_getf iX11_opens f11_244, ↓e_virt iX11_opens l11_266 iX11_wrongs, ↓e_putf iX11_opens f11_263, ↓e_virt iX11_opens l11_270 iX11_here, ↓e_virt iX11_opens l11_274 iX11_puts, iX11_opens, exec1, ↓p1_e, ↓p2_e, ↓q1_e, ↓q2_e, ↓qi_e, ↓pr_e, ↓pa_e, ↓pa_f, ↓pst_e, ↓qst_e, ↓rst_e, ↓pac_e, ↓pargs_0, ↓pargs_s, ↓gfld_0, ↓gfld_1, ↓gfld_2, ↓gfld_3, ↓pfld_i, ↓pfld_l, ↓pfld_r, ↓sfld_i, ↓sfld_l, ↓sfld_r, brI, pushv, rcv, lget, lset, lset2, isL, rok, szs, List.elem_nil, List.elem_cons, cond_true, cond_false, Option.map_some, beq_self_eq_true, Bool.true_and, Bool.and_true, Bool.false_and, Bool.and_false, Bool.or_false, Bool.false_or, Bool.or_true, Bool.true_or, Nat.reduceAdd, Nat.reduceSub, Nat.reduceMul, Nat.reduceBEq, Nat.reduceEqDiff, Nat.reduceLeDiff, Nat.sub_zero, true_and, and_true, false_and, and_false, true_or, or_true, false_or, or_false, reduceCtorEq, ↓reduceIte, List.getD_cons_zero, List.getD_cons_succ, List.length_cons, List.length_nil, ct_i, ct_r, ct_l, ct_f, ct_n, false_implies, true_implies]
    exact h1 (by omega) μ2 (hF.trans hF2) (e1.trans (e _ (by omega))) (e2.trans (e _ (by omega))) hS2
end MLX
