/-! the reference's reader -/
def hrM (L : Nat) (fb : Nat → Nat) (p : Nat) : Int32 := if p < L then nI (fb p) else 0
theorem hr_eq {L : Nat} {fb : Nat → Nat} {p : Nat} {c : Int32} (h0 : c ≠ 0) (h1 : c ≠ -1) : (hrM L fb p = c) = (nxC L fb p = c) := by
  unfold hrM nxC
  by_cases y : p < L
  · rw [if_pos y, if_pos y]
  · rw [if_neg y, if_neg y]
    exact propext ⟨fun z => absurd z.symm h0, fun z => absurd z.symm h1⟩
theorem hr_P {L : Nat} {fb : Nat → Nat} {p : Nat} {P : Int32 → Bool} (h0 : P 0 = false) (h1 : P (-1) = false) : P (hrM L fb p) = P (nxC L fb p) := by
  unfold hrM nxC
  by_cases y : p < L
  · rw [if_pos y, if_pos y]
  · rw [if_neg y, if_neg y, h0, h1]
def TxM (μ : Mem) (L : Nat) (fb : Nat → Nat) : Prop := gi μ 144 32 = nI L ∧ L ≤ 200 ∧ ∀ j, j < L → fb j < 256 ∧ gu μ j = nI (fb j)
/-- the stack of signs, top first -/
def StkM (μ : Mem) : List Int32 → Prop
  | [] => True
  | x :: t => gi μ 170 t.length = x ∧ StkM μ t
theorem StkM.cong {μ μ' : Mem} : ∀ {l : List Int32}, (∀ j, j < l.length → gi μ' 170 j = gi μ 170 j) → StkM μ l → StkM μ' l
  | [], _, _ => trivial
  | x :: t, h, q => ⟨(h t.length (by simp)).trans q.1, StkM.cong (fun j hj => h j (by simp; omega)) q.2⟩
def CdM (μ : Mem) (C : List (Int32 × Int32)) : Prop := ∀ j x, C[j]? = some x → gi μ 168 j = x.1 ∧ gi μ 169 j = x.2
/-- all is well so far: place p, o open, signs S, codes C -/
def MS (μ : Mem) (L : Nat) (fb : Nat → Nat) (p o : Nat) (S : List Int32) (C : List (Int32 × Int32)) : Prop := TxM μ L fb ∧ gi μ 144 31 = nI p ∧ p ≤ L ∧ gi μ 144 33 = 0 ∧ gi μ 144 36 = nI o ∧ o ≤ 6 ∧ gi μ 144 37 = nI S.length ∧ StkM μ S ∧ gi μ 144 35 = nI C.length ∧ CdM μ C ∧ C.length + S.length < p
def pMr (a j : Nat) : Prop := a = 168 ∨ a = 169 ∨ a = 170 ∨ a = 144 ∧ (j = 31 ∨ j = 33 ∨ j = 35 ∨ j = 36 ∨ j = 37 ∨ j = 38 ∨ j = 39)
theorem TxM.fr {μ μ' : Mem} {L : Nat} {fb : Nat → Nat} (h : Fr pMr μ μ') (q : TxM μ L fb) : TxM μ' L fb := by
  obtain ⟨q1, q2, q3⟩ := q
  refine ⟨(h.1 _ _ (by unfold pMr; omega)).trans q1, q2, fun j hj => ⟨(q3 j hj).1, ?_⟩⟩
  unfold gu
  rw [h.1 145 j (by unfold pMr; omega)]; exact (q3 j hj).2
section MLW
variable {G : Gx} {d v : Nat} {μ : Mem} {bc bs : Nat} {Q : Option Value → List Sh → Mem → Nat → Nat → Prop} {L : Nat} {fb : Nat → Nat} {p o : Nat} {S : List Int32} {C : List (Int32 × Int32)}
set_option maxRecDepth 100000 in
set_option maxHeartbeats 1000000 in
theorem k_mHere (hT : TxM μ L fb) (hp : gi μ 144 31 = nI p) (hL : p ≤ L) (h : Q (some (.int (hrM L fb p))) (LAY v) μ bc bs) : KC G d mX11_here [.ref 144] (LAY v) μ bc bs Q := by
  obtain ⟨q1, q2, q3⟩ := hT
  refine KC_intro 0 0 kX11_here (by decide) (by decide) (Nat.zero_le _) (Nat.zero_le _) (Nat.le_of_ble_eq_true rfl) (fun Z hZ => ?_)
  show Z 0 [some (.ref 144)] [] (LAY v) μ 0 0
  unfold hrM at h
  by_cases c : p < L
  · rw [if_pos c, ← (q3 p c).2] at h
    have vp : vp_in (nI p) 220 := vin (by omega) (by omega)
    refine hZ 400 [] _ _ _ _ _ _ _ ?_
    simp -implicitDefEqProofs (disch := omega) only [wp_step xX11_here_0, wp_step xX11_here_1, wp_step xX11_here_4, wp_step xX11_here_5, wp_step xX11_here_8, wp_step xX11_here_11, wp_step xX11_here_12, wp_step xX11_here_15, wp_step xX11_here_16, wp_step xX11_here_19, wp_step xX11_here_20, wp_step xX11_here_23, wp_step xX11_here_24, wp_step xX11_here_27, wp_step xX11_here_28, ↓e_getf iX11_here f11_244, ↓e_getf iX11_here f11_247, ↓e_getf iX11_here f11_7, iX11_here, exec1, ↓p1_e, ↓p2_e, ↓q1_e, ↓q2_e, ↓qi_e, ↓pr_e, ↓pa_e, ↓pa_f, ↓pst_e, ↓qst_e, ↓rst_e, ↓pac_e, ↓pargs_0, ↓pargs_s, ↓gfld_0, ↓gfld_1, ↓gfld_2, ↓gfld_3, ↓pfld_i, ↓pfld_l, ↓pfld_r, ↓sfld_i, ↓sfld_l, ↓sfld_r, brI, pushv, rcv, lget, lset, lset2, isL, rok, szs, List.elem_nil, List.elem_cons, cond_true, cond_false, Option.map_some, beq_self_eq_true, Bool.true_and, Bool.and_true, Bool.false_and, Bool.and_false, Bool.or_false, Bool.false_or, Bool.or_true, Bool.true_or, Nat.reduceAdd, Nat.reduceSub, Nat.reduceMul, Nat.reduceBEq, Nat.reduceEqDiff, Nat.reduceLeDiff, Nat.sub_zero, true_and, and_true, false_and, and_false, true_or, or_true, false_or, or_false, reduceCtorEq, ↓reduceIte, List.getD_cons_zero, List.getD_cons_succ, List.length_cons, List.length_nil, ct_i, ct_r, ct_l, ct_f, ct_n, false_implies, true_implies, y144, y145, hp, q1, vp, nI_clamp, nle_f c (show L < 2 ^ 31 by omega), not_false_eq_true, true_implies, false_implies, and_true, true_and, not_true_eq_false]
    exact h
  · rw [if_neg c] at h
    have : p = L := by omega
    subst this
    refine hZ 400 [] _ _ _ _ _ _ _ ?_
    simp -implicitDefEqProofs (disch := omega) only [wp_step xX11_here_0, wp_step xX11_here_1, wp_step xX11_here_4, wp_step xX11_here_5, wp_step xX11_here_8, ↓e_getf iX11_here f11_244, ↓e_getf iX11_here f11_247, ↓e_getf iX11_here f11_7, iX11_here, wp_step xX11_here_27, wp_step xX11_here_28, ↓e_getf iX11_here f11_244, ↓e_getf iX11_here f11_247, ↓e_getf iX11_here f11_7, iX11_here, exec1, ↓p1_e, ↓p2_e, ↓q1_e, ↓q2_e, ↓qi_e, ↓pr_e, ↓pa_e, ↓pa_f, ↓pst_e, ↓qst_e, ↓rst_e, ↓pac_e, ↓pargs_0, ↓pargs_s, ↓gfld_0, ↓gfld_1, ↓gfld_2, ↓gfld_3, ↓pfld_i, ↓pfld_l, ↓pfld_r, ↓sfld_i, ↓sfld_l, ↓sfld_r, brI, pushv, rcv, lget, lset, lset2, isL, rok, szs, List.elem_nil, List.elem_cons, cond_true, cond_false, Option.map_some, beq_self_eq_true, Bool.true_and, Bool.and_true, Bool.false_and, Bool.and_false, Bool.or_false, Bool.false_or, Bool.or_true, Bool.true_or, Nat.reduceAdd, Nat.reduceSub, Nat.reduceMul, Nat.reduceBEq, Nat.reduceEqDiff, Nat.reduceLeDiff, Nat.sub_zero, true_and, and_true, false_and, and_false, true_or, or_true, false_or, or_false, reduceCtorEq, ↓reduceIte, List.getD_cons_zero, List.getD_cons_succ, List.length_cons, List.length_nil, ct_i, ct_r, ct_l, ct_f, ct_n, false_implies, true_implies, y144, hp, q1, nle_t (show p < 2 ^ 31 by omega), not_false_eq_true, true_implies, false_implies, and_true, true_and, not_true_eq_false]
    exact h
set_option maxRecDepth 100000 in
set_option maxHeartbeats 1000000 in
theorem k_mWrongs {f p : Nat} (hb : gi μ 144 33 = 0) (h : Q none (LAY v) (si μ 144 33 (flt f p)) bc bs) : KC G d mX11_wrongs [.ref 144, .int (nI f), .int (nI p)] (LAY v) μ bc bs Q := by
  refine KC_intro 0 0 kX11_wrongs (by decide) (by decide) (Nat.zero_le _) (Nat.zero_le _) (Nat.le_of_ble_eq_true rfl) (fun Z hZ => ?_)
  show Z 0 [some (.ref 144), some (.int (nI f)), some (.int (nI p))] [] (LAY v) μ 0 0
  refine hZ 400 [] _ _ _ _ _ _ _ ?_
  simp -implicitDefEqProofs (disch := omega) only [wp_step xX11_wrongs_0, wp_step xX11_wrongs_1, wp_step xX11_wrongs_2, wp_step xX11_wrongs_5, wp_step xX11_wrongs_8, wp_step xX11_wrongs_9, wp_step xX11_wrongs_12, wp_step xX11_wrongs_15, wp_step xX11_wrongs_18, wp_step xX11_wrongs_19, wp_step xX11_wrongs_20, wp_step xX11_wrongs_21, wp_step xX11_wrongs_22, wp_step xX11_wrongs_25, ↓e_getf iX11_wrongs f11_250, ↓e_putf iX11_wrongs f11_250, iX11_wrongs, exec1, ↓p1_e, ↓p2_e, ↓q1_e, ↓q2_e, ↓qi_e, ↓pr_e, ↓pa_e, ↓pa_f, ↓pst_e, ↓qst_e, ↓rst_e, ↓pac_e, ↓pargs_0, ↓pargs_s, ↓gfld_0, ↓gfld_1, ↓gfld_2, ↓gfld_3, ↓pfld_i, ↓pfld_l, ↓pfld_r, ↓sfld_i, ↓sfld_l, ↓sfld_r, brI, pushv, rcv, lget, lset, lset2, isL, rok, szs, List.elem_nil, List.elem_cons, cond_true, cond_false, Option.map_some, beq_self_eq_true, Bool.true_and, Bool.and_true, Bool.false_and, Bool.and_false, Bool.or_false, Bool.false_or, Bool.or_true, Bool.true_or, Nat.reduceAdd, Nat.reduceSub, Nat.reduceMul, Nat.reduceBEq, Nat.reduceEqDiff, Nat.reduceLeDiff, Nat.sub_zero, true_and, and_true, false_and, and_false, true_or, or_true, false_or, or_false, reduceCtorEq, ↓reduceIte, List.getD_cons_zero, List.getD_cons_succ, List.length_cons, List.length_nil, ct_i, ct_r, ct_l, ct_f, ct_n, false_implies, true_implies, y144, hb, show ((0 : Int32) ≤ 0) = True from eq_true (by decide), not_false_eq_true, true_implies, false_implies, and_true, true_and, not_true_eq_false]
  exact h
set_option maxRecDepth 100000 in
set_option maxHeartbeats 1000000 in
theorem k_mGood (h0 : gi μ 144 33 = 0 → Q (some (.int 1)) (LAY v) μ bc bs) (h1 : ¬ gi μ 144 33 = 0 → Q (some (.int 0)) (LAY v) μ bc bs) : KC G d mX11_isGood [.ref 144] (LAY v) μ bc bs Q := by
  refine KC_intro 0 0 kX11_isGood (by decide) (by decide) (Nat.zero_le _) (Nat.zero_le _) (Nat.le_of_ble_eq_true rfl) (fun Z hZ => ?_)
  show Z 0 [some (.ref 144)] [] (LAY v) μ 0 0
  refine hZ 400 [] _ _ _ _ _ _ _ ?_
  simp -implicitDefEqProofs (disch := omega) only [wp_step xX11_isGood_0, wp_step xX11_isGood_1, wp_step xX11_isGood_4, wp_step xX11_isGood_7, wp_step xX11_isGood_8, wp_step xX11_isGood_11, wp_step xX11_isGood_12, ↓e_getf iX11_isGood f11_250, iX11_isGood, exec1, ↓p1_e, ↓p2_e, ↓q1_e, ↓q2_e, ↓qi_e, ↓pr_e, ↓pa_e, ↓pa_f, ↓pst_e, ↓qst_e, ↓rst_e, ↓pac_e, ↓pargs_0, ↓pargs_s, ↓gfld_0, ↓gfld_1, ↓gfld_2, ↓gfld_3, ↓pfld_i, ↓pfld_l, ↓pfld_r, ↓sfld_i, ↓sfld_l, ↓sfld_r, brI, pushv, rcv, lget, lset, lset2, isL, rok, szs, List.elem_nil, List.elem_cons, cond_true, cond_false, Option.map_some, beq_self_eq_true, Bool.true_and, Bool.and_true, Bool.false_and, Bool.and_false, Bool.or_false, Bool.false_or, Bool.or_true, Bool.true_or, Nat.reduceAdd, Nat.reduceSub, Nat.reduceMul, Nat.reduceBEq, Nat.reduceEqDiff, Nat.reduceLeDiff, Nat.sub_zero, true_and, and_true, false_and, and_false, true_or, or_true, false_or, or_false, reduceCtorEq, ↓reduceIte, List.getD_cons_zero, List.getD_cons_succ, List.length_cons, List.length_nil, ct_i, ct_r, ct_l, ct_f, ct_n, false_implies, true_implies, y144]
  exact ⟨h1, h0⟩
set_option maxRecDepth 100000 in
set_option maxHeartbeats 1000000 in
theorem k_mEmit0 {c x : Int32} (hd : 1 ≤ d) (hb : ¬ gi μ 144 33 = 0) (h : Q none (LAY v) μ bc bs) : KC G d mX11_emit [.ref 144, .int c, .int x] (LAY v) μ bc bs Q := by
  refine KC_intro 0 0 kX11_emit (by decide) (by decide) (Nat.zero_le _) (Nat.zero_le _) (Nat.le_of_ble_eq_true rfl) (fun Z hZ => ?_)
  show Z 0 [some (.ref 144), some (.int c), some (.int x)] [] (LAY v) μ 0 0
  refine hZ 400 [4] _ _ _ _ _ _ _ ?_
  simp -implicitDefEqProofs (disch := omega) only [wp_step xX11_emit_0, wp_step xX11_emit_1, ↓e_virt iX11_emit l11_253 iX11_isGood, ↓e_getf iX11_emit f11_88, ↓e_getf iX11_emit f11_257, ↓e_getf iX11_emit f11_91, ↓e_putf iX11_emit f11_257, iX11_emit, exec1, ↓p1_e, ↓p2_e, ↓q1_e, ↓q2_e, ↓qi_e, ↓pr_e, ↓pa_e, ↓pa_f, ↓pst_e, ↓qst_e, ↓rst_e, ↓pac_e, ↓pargs_0, ↓pargs_s, ↓gfld_0, ↓gfld_1, ↓gfld_2, ↓gfld_3, ↓pfld_i, ↓pfld_l, ↓pfld_r, ↓sfld_i, ↓sfld_l, ↓sfld_r, brI, pushv, rcv, lget, lset, lset2, isL, rok, szs, List.elem_nil, List.elem_cons, cond_true, cond_false, Option.map_some, beq_self_eq_true, Bool.true_and, Bool.and_true, Bool.false_and, Bool.and_false, Bool.or_false, Bool.false_or, Bool.or_true, Bool.true_or, Nat.reduceAdd, Nat.reduceSub, Nat.reduceMul, Nat.reduceBEq, Nat.reduceEqDiff, Nat.reduceLeDiff, Nat.sub_zero, true_and, and_true, false_and, and_false, true_or, or_true, false_or, or_false, reduceCtorEq, ↓reduceIte, List.getD_cons_zero, List.getD_cons_succ, List.length_cons, List.length_nil, ct_i, ct_r, ct_l, ct_f, ct_n, false_implies, true_implies, y144]
  refine ⟨by omega, k_mGood (fun z => absurd z hb) (fun _ => ?_)⟩
  refine hZ 400 [] _ _ _ _ _ _ _ ?_
  simp -implicitDefEqProofs (disch := omega) only [wp_step xX11_emit_4, wp_step xX11_emit_7, ↓e_virt iX11_emit l11_253 iX11_isGood, ↓e_getf iX11_emit f11_88, ↓e_getf iX11_emit f11_257, ↓e_getf iX11_emit f11_91, ↓e_putf iX11_emit f11_257, iX11_emit, exec1, ↓p1_e, ↓p2_e, ↓q1_e, ↓q2_e, ↓qi_e, ↓pr_e, ↓pa_e, ↓pa_f, ↓pst_e, ↓qst_e, ↓rst_e, ↓pac_e, ↓pargs_0, ↓pargs_s, ↓gfld_0, ↓gfld_1, ↓gfld_2, ↓gfld_3, ↓pfld_i, ↓pfld_l, ↓pfld_r, ↓sfld_i, ↓sfld_l, ↓sfld_r, brI, pushv, rcv, lget, lset, lset2, isL, rok, szs, List.elem_nil, List.elem_cons, cond_true, cond_false, Option.map_some, beq_self_eq_true, Bool.true_and, Bool.and_true, Bool.false_and, Bool.and_false, Bool.or_false, Bool.false_or, Bool.or_true, Bool.true_or, Nat.reduceAdd, Nat.reduceSub, Nat.reduceMul, Nat.reduceBEq, Nat.reduceEqDiff, Nat.reduceLeDiff, Nat.sub_zero, true_and, and_true, false_and, and_false, true_or, or_true, false_or, or_false, reduceCtorEq, ↓reduceIte, List.getD_cons_zero, List.getD_cons_succ, List.length_cons, List.length_nil, ct_i, ct_r, ct_l, ct_f, ct_n, false_implies, true_implies, not_false_eq_true, true_implies, false_implies, and_true, true_and, not_true_eq_false]
  exact h
theorem CdM.snoc {μ' : Mem} {c x : Int32} (h : CdM μ C) (h1 : ∀ j, j < C.length → gi μ' 168 j = gi μ 168 j ∧ gi μ' 169 j = gi μ 169 j) (h2 : gi μ' 168 C.length = c) (h3 : gi μ' 169 C.length = x) : CdM μ' (C ++ [(c, x)]) := fun j y hy => by
  by_cases e : j < C.length
  · rw [List.getElem?_append_left e] at hy
    rw [(h1 j e).1, (h1 j e).2]; exact h j y hy
  · by_cases e2 : j = C.length
    · subst e2
      rw [List.getElem?_append_right (Nat.le_refl _), Nat.sub_self] at hy
      rw [← (Option.some.inj hy : (c, x) = y)]; exact ⟨h2, h3⟩
    · rw [List.getElem?_eq_none (by rw [List.length_append, List.length_singleton]; omega)] at hy
      exact absurd hy (by simp)
set_option maxRecDepth 100000 in
set_option maxHeartbeats 1000000 in
theorem k_mEmit {c x : Int32} (hd : 1 ≤ d) (hS : MS μ L fb p o S C) (hl : C.length + S.length + 1 < p) (h : ∀ μ', Fr pMr μ μ' → gi μ' 144 39 = gi μ 144 39 → gi μ' 144 38 = gi μ 144 38 → MS μ' L fb p o S (C ++ [(c, x)]) → Q none (LAY v) μ' bc bs) : KC G d mX11_emit [.ref 144, .int c, .int x] (LAY v) μ bc bs Q := by
  obtain ⟨s1, s2, s3, s4, s5, s6, s7, s8, s9, s10, s11⟩ := hS
  have hL := s1.2.1
  have vc : vp_in (nI C.length) 200 := vin (by omega) (by omega)
  refine KC_intro 0 0 kX11_emit (by decide) (by decide) (Nat.zero_le _) (Nat.zero_le _) (Nat.le_of_ble_eq_true rfl) (fun Z hZ => ?_)
  show Z 0 [some (.ref 144), some (.int c), some (.int x)] [] (LAY v) μ 0 0
  refine hZ 400 [4] _ _ _ _ _ _ _ ?_
  simp -implicitDefEqProofs (disch := omega) only [wp_step xX11_emit_0, wp_step xX11_emit_1, ↓e_virt iX11_emit l11_253 iX11_isGood, ↓e_getf iX11_emit f11_88, ↓e_getf iX11_emit f11_257, ↓e_getf iX11_emit f11_91, ↓e_putf iX11_emit f11_257, iX11_emit, exec1, ↓p1_e, ↓p2_e, ↓q1_e, ↓q2_e, ↓qi_e, ↓pr_e, ↓pa_e, ↓pa_f, ↓pst_e, ↓qst_e, ↓rst_e, ↓pac_e, ↓pargs_0, ↓pargs_s, ↓gfld_0, ↓gfld_1, ↓gfld_2, ↓gfld_3, ↓pfld_i, ↓pfld_l, ↓pfld_r, ↓sfld_i, ↓sfld_l, ↓sfld_r, brI, pushv, rcv, lget, lset, lset2, isL, rok, szs, List.elem_nil, List.elem_cons, cond_true, cond_false, Option.map_some, beq_self_eq_true, Bool.true_and, Bool.and_true, Bool.false_and, Bool.and_false, Bool.or_false, Bool.false_or, Bool.or_true, Bool.true_or, Nat.reduceAdd, Nat.reduceSub, Nat.reduceMul, Nat.reduceBEq, Nat.reduceEqDiff, Nat.reduceLeDiff, Nat.sub_zero, true_and, and_true, false_and, and_false, true_or, or_true, false_or, or_false, reduceCtorEq, ↓reduceIte, List.getD_cons_zero, List.getD_cons_succ, List.length_cons, List.length_nil, ct_i, ct_r, ct_l, ct_f, ct_n, false_implies, true_implies, y144]
  refine ⟨by omega, k_mGood (fun _ => ?_) (fun z => absurd s4 z)⟩
  refine hZ 400 [] _ _ _ _ _ _ _ ?_
  simp -implicitDefEqProofs (disch := omega) only [wp_step xX11_emit_4, wp_step xX11_emit_7, wp_step xX11_emit_8, wp_step xX11_emit_9, wp_step xX11_emit_12, wp_step xX11_emit_13, wp_step xX11_emit_16, wp_step xX11_emit_17, wp_step xX11_emit_18, wp_step xX11_emit_19, wp_step xX11_emit_22, wp_step xX11_emit_23, wp_step xX11_emit_26, wp_step xX11_emit_27, wp_step xX11_emit_28, wp_step xX11_emit_29, wp_step xX11_emit_30, wp_step xX11_emit_33, wp_step xX11_emit_34, wp_step xX11_emit_35, wp_step xX11_emit_38, ↓e_virt iX11_emit l11_253 iX11_isGood, ↓e_getf iX11_emit f11_88, ↓e_getf iX11_emit f11_257, ↓e_getf iX11_emit f11_91, ↓e_putf iX11_emit f11_257, iX11_emit, exec1, ↓p1_e, ↓p2_e, ↓q1_e, ↓q2_e, ↓qi_e, ↓pr_e, ↓pa_e, ↓pa_f, ↓pst_e, ↓qst_e, ↓rst_e, ↓pac_e, ↓pargs_0, ↓pargs_s, ↓gfld_0, ↓gfld_1, ↓gfld_2, ↓gfld_3, ↓pfld_i, ↓pfld_l, ↓pfld_r, ↓sfld_i, ↓sfld_l, ↓sfld_r, brI, pushv, rcv, lget, lset, lset2, isL, rok, szs, List.elem_nil, List.elem_cons, cond_true, cond_false, Option.map_some, beq_self_eq_true, Bool.true_and, Bool.and_true, Bool.false_and, Bool.and_false, Bool.or_false, Bool.false_or, Bool.or_true, Bool.true_or, Nat.reduceAdd, Nat.reduceSub, Nat.reduceMul, Nat.reduceBEq, Nat.reduceEqDiff, Nat.reduceLeDiff, Nat.sub_zero, true_and, and_true, false_and, and_false, true_or, or_true, false_or, or_false, reduceCtorEq, ↓reduceIte, List.getD_cons_zero, List.getD_cons_succ, List.length_cons, List.length_nil, ct_i, ct_r, ct_l, ct_f, ct_n, false_implies, true_implies, y144, y168, y169, s9, vc, nI_clamp, gi_si_a, nI_1, show ¬ (1 : Int32) = 0 by decide, not_false_eq_true, true_implies, false_implies, and_true, true_and, not_true_eq_false]
  have hF : Fr pMr μ (si (si (si μ 168 C.length c) 169 C.length x) 144 35 (nI (C.length + 1))) := ((Fr.rf.si (by unfold pMr; omega)).si (by unfold pMr; omega)).si (by unfold pMr; omega)
  have e : ∀ j, j ≠ 35 → gi (si (si (si μ 168 C.length c) 169 C.length x) 144 35 (nI (C.length + 1))) 144 j = gi μ 144 j := fun j hj => by rw [gi_si_k hj, gi_si_a (by omega), gi_si_a (by omega)]
  refine h _ hF (e _ (by omega)) (e _ (by omega)) ⟨s1.fr hF, (e _ (by omega)).trans s2, s3, (e _ (by omega)).trans s4, (e _ (by omega)).trans s5, s6, (e _ (by omega)).trans s7, s8.cong (fun j hj => by rw [gi_si_a (by omega), gi_si_a (by omega), gi_si_a (by omega)]), by rw [gi_si, List.length_append, List.length_singleton], s10.snoc (fun j hj => ?_) ?_ ?_, by rw [List.length_append, List.length_singleton]; omega⟩
  · rw [gi_si_a (by omega), gi_si_a (by omega), gi_si_k (by omega), gi_si_a (by omega), gi_si_k (by omega), gi_si_a (by omega)]; exact ⟨rfl, rfl⟩
  · rw [gi_si_a (by omega), gi_si_a (by omega), gi_si]
  · rw [gi_si_a (by omega), gi_si]
def tpM : List Int32 → Int32
  | [] => 0
  | x :: _ => x
set_option maxRecDepth 100000 in
set_option maxHeartbeats 1000000 in
theorem k_mTop (hS : MS μ L fb p o S C) (h : Q (some (.int (tpM S))) (LAY v) μ bc bs) : KC G d mX11_top [.ref 144] (LAY v) μ bc bs Q := by
  obtain ⟨s1, s2, s3, s4, s5, s6, s7, s8, s9, s10, s11⟩ := hS
  have hL := s1.2.1
  refine KC_intro 0 0 kX11_top (by decide) (by decide) (Nat.zero_le _) (Nat.zero_le _) (Nat.le_of_ble_eq_true rfl) (fun Z hZ => ?_)
  show Z 0 [some (.ref 144)] [] (LAY v) μ 0 0
  cases S with
  | nil =>
    have s7' : gi μ 144 37 = 0 := s7
    refine hZ 400 [] _ _ _ _ _ _ _ ?_
    simp -implicitDefEqProofs (disch := omega) only [wp_step xX11_top_0, wp_step xX11_top_1, wp_step xX11_top_4, ↓e_getf iX11_top f11_260, ↓e_getf iX11_top f11_94, iX11_top, wp_step xX11_top_21, wp_step xX11_top_22, ↓e_getf iX11_top f11_260, ↓e_getf iX11_top f11_94, iX11_top, exec1, ↓p1_e, ↓p2_e, ↓q1_e, ↓q2_e, ↓qi_e, ↓pr_e, ↓pa_e, ↓pa_f, ↓pst_e, ↓qst_e, ↓rst_e, ↓pac_e, ↓pargs_0, ↓pargs_s, ↓gfld_0, ↓gfld_1, ↓gfld_2, ↓gfld_3, ↓pfld_i, ↓pfld_l, ↓pfld_r, ↓sfld_i, ↓sfld_l, ↓sfld_r, brI, pushv, rcv, lget, lset, lset2, isL, rok, szs, List.elem_nil, List.elem_cons, cond_true, cond_false, Option.map_some, beq_self_eq_true, Bool.true_and, Bool.and_true, Bool.false_and, Bool.and_false, Bool.or_false, Bool.false_or, Bool.or_true, Bool.true_or, Nat.reduceAdd, Nat.reduceSub, Nat.reduceMul, Nat.reduceBEq, Nat.reduceEqDiff, Nat.reduceLeDiff, Nat.sub_zero, true_and, and_true, false_and, and_false, true_or, or_true, false_or, or_false, reduceCtorEq, ↓reduceIte, List.getD_cons_zero, List.getD_cons_succ, List.length_cons, List.length_nil, ct_i, ct_r, ct_l, ct_f, ct_n, false_implies, true_implies, y144, s7', show ((0 : Int32) ≤ 0) = True from eq_true (by decide), not_false_eq_true, true_implies, false_implies, and_true, true_and, not_true_eq_false]
    exact h
  | cons x t =>
    rw [List.length_cons] at s7 s11
    have vt : vp_in (nI t.length) 240 := vin (by omega) (by omega)
    refine hZ 400 [] _ _ _ _ _ _ _ ?_
    simp -implicitDefEqProofs (disch := omega) only [wp_step xX11_top_0, wp_step xX11_top_1, wp_step xX11_top_4, wp_step xX11_top_7, wp_step xX11_top_8, wp_step xX11_top_11, wp_step xX11_top_12, wp_step xX11_top_15, wp_step xX11_top_16, wp_step xX11_top_17, wp_step xX11_top_18, wp_step xX11_top_21, wp_step xX11_top_22, ↓e_getf iX11_top f11_260, ↓e_getf iX11_top f11_94, iX11_top, exec1, ↓p1_e, ↓p2_e, ↓q1_e, ↓q2_e, ↓qi_e, ↓pr_e, ↓pa_e, ↓pa_f, ↓pst_e, ↓qst_e, ↓rst_e, ↓pac_e, ↓pargs_0, ↓pargs_s, ↓gfld_0, ↓gfld_1, ↓gfld_2, ↓gfld_3, ↓pfld_i, ↓pfld_l, ↓pfld_r, ↓sfld_i, ↓sfld_l, ↓sfld_r, brI, pushv, rcv, lget, lset, lset2, isL, rok, szs, List.elem_nil, List.elem_cons, cond_true, cond_false, Option.map_some, beq_self_eq_true, Bool.true_and, Bool.and_true, Bool.false_and, Bool.and_false, Bool.or_false, Bool.false_or, Bool.or_true, Bool.true_or, Nat.reduceAdd, Nat.reduceSub, Nat.reduceMul, Nat.reduceBEq, Nat.reduceEqDiff, Nat.reduceLeDiff, Nat.sub_zero, true_and, and_true, false_and, and_false, true_or, or_true, false_or, or_false, reduceCtorEq, ↓reduceIte, List.getD_cons_zero, List.getD_cons_succ, List.length_cons, List.length_nil, ct_i, ct_r, ct_l, ct_f, ct_n, false_implies, true_implies, y144, y170, s7, nI_pred, vt, nI_clamp, s8.1, show (nI (t.length + 1) ≤ 0) = False from eq_false (nI_ge (a := 0) (b := t.length + 1) (by omega) (by omega)), not_false_eq_true, true_implies, false_implies, and_true, true_and, not_true_eq_false]
    exact h
set_option maxRecDepth 100000 in
set_option maxHeartbeats 1000000 in
/-- a sign goes onto the stack -/
theorem k_mPuts {c : Int32} (hS : MS μ L fb p o S C) (hp : p < L) (h : ∀ μ', Fr pMr μ μ' → gi μ' 144 39 = gi μ 144 39 → gi μ' 144 38 = gi μ 144 38 → MS μ' L fb (p + 1) o (c :: S) C → Q none (LAY v) μ' bc bs) : KC G d mX11_puts [.ref 144, .int c] (LAY v) μ bc bs Q := by
  obtain ⟨s1, s2, s3, s4, s5, s6, s7, s8, s9, s10, s11⟩ := hS
  have hL := s1.2.1
  have vs : vp_in (nI S.length) 240 := vin (by omega) (by omega)
  refine KC_intro 0 0 kX11_puts (by decide) (by decide) (Nat.zero_le _) (Nat.zero_le _) (Nat.le_of_ble_eq_true rfl) (fun Z hZ => ?_)
  show Z 0 [some (.ref 144), some (.int c)] [] (LAY v) μ 0 0
  refine hZ 400 [] _ _ _ _ _ _ _ ?_
  simp -implicitDefEqProofs (disch := omega) only [wp_step xX11_puts_0, wp_step xX11_puts_1, wp_step xX11_puts_4, wp_step xX11_puts_5, wp_step xX11_puts_8, wp_step xX11_puts_9, wp_step xX11_puts_10, wp_step xX11_puts_11, wp_step xX11_puts_12, wp_step xX11_puts_15, wp_step xX11_puts_16, wp_step xX11_puts_17, wp_step xX11_puts_20, wp_step xX11_puts_21, wp_step xX11_puts_22, wp_step xX11_puts_25, wp_step xX11_puts_26, wp_step xX11_puts_27, wp_step xX11_puts_30, ↓e_getf iX11_puts f11_94, ↓e_getf iX11_puts f11_260, ↓e_putf iX11_puts f11_260, ↓e_getf iX11_puts f11_244, ↓e_putf iX11_puts f11_244, iX11_puts, exec1, ↓p1_e, ↓p2_e, ↓q1_e, ↓q2_e, ↓qi_e, ↓pr_e, ↓pa_e, ↓pa_f, ↓pst_e, ↓qst_e, ↓rst_e, ↓pac_e, ↓pargs_0, ↓pargs_s, ↓gfld_0, ↓gfld_1, ↓gfld_2, ↓gfld_3, ↓pfld_i, ↓pfld_l, ↓pfld_r, ↓sfld_i, ↓sfld_l, ↓sfld_r, brI, pushv, rcv, lget, lset, lset2, isL, rok, szs, List.elem_nil, List.elem_cons, cond_true, cond_false, Option.map_some, beq_self_eq_true, Bool.true_and, Bool.and_true, Bool.false_and, Bool.and_false, Bool.or_false, Bool.false_or, Bool.or_true, Bool.true_or, Nat.reduceAdd, Nat.reduceSub, Nat.reduceMul, Nat.reduceBEq, Nat.reduceEqDiff, Nat.reduceLeDiff, Nat.sub_zero, true_and, and_true, false_and, and_false, true_or, or_true, false_or, or_false, reduceCtorEq, ↓reduceIte, List.getD_cons_zero, List.getD_cons_succ, List.length_cons, List.length_nil, ct_i, ct_r, ct_l, ct_f, ct_n, false_implies, true_implies, y144, y170, s7, s2, vs, nI_clamp, gi_si_a, gi_si_k, nI_1]
  have hF : Fr pMr μ (si (si (si μ 170 S.length c) 144 37 (nI (S.length + 1))) 144 31 (nI (p + 1))) := ((Fr.rf.si (by unfold pMr; omega)).si (by unfold pMr; omega)).si (by unfold pMr; omega)
  have e : ∀ j, j ≠ 31 → j ≠ 37 → gi (si (si (si μ 170 S.length c) 144 37 (nI (S.length + 1))) 144 31 (nI (p + 1))) 144 j = gi μ 144 j := fun j h1 h2 => by rw [gi_si_k h1, gi_si_k h2, gi_si_a (by omega)]
  have e2 : ∀ a j, a ≠ 144 → a ≠ 170 → gi (si (si (si μ 170 S.length c) 144 37 (nI (S.length + 1))) 144 31 (nI (p + 1))) a j = gi μ a j := fun a j h1 h2 => by rw [gi_si_a h1, gi_si_a h1, gi_si_a h2]
  refine h _ hF (e _ (by omega) (by omega)) (e _ (by omega) (by omega)) ⟨s1.fr hF, gi_si, hp, (e _ (by omega) (by omega)).trans s4, (e _ (by omega) (by omega)).trans s5, s6, ?_, ⟨?_, s8.cong (fun j hj => ?_)⟩, (e _ (by omega) (by omega)).trans s9, fun j x hx => ?_, by rw [List.length_cons]; omega⟩
  · rw [gi_si_k (by omega), gi_si, List.length_cons]
  · rw [gi_si_a (by omega), gi_si_a (by omega), gi_si]
  · rw [gi_si_a (by omega), gi_si_a (by omega), gi_si_k (by omega)]
  · rw [e2 168 j (by omega) (by omega), e2 169 j (by omega) (by omega)]; exact s10 j x hx
end MLW
