/-! the best of all pairs -/
def pyI (c : Nat → Bool) (w : Nat → Int32) (i : Nat) : Nat → Int32 × Int32 × Int32 → Int32 × Int32 × Int32
  | 0, st => st
  | j + 1, st => if c j = true ∧ w j < (pyI c w i j st).1 then (w j, nI i, nI j) else pyI c w i j st
def pyO (cu kn : Nat → Bool) (w : Nat → Nat → Int32) (nb : Nat) : Nat → Int32 × Int32 × Int32 → Int32 × Int32 × Int32
  | 0, st => st
  | i + 1, st => if cu i = true then pyI kn (w i) i nb (pyO cu kn w nb i st) else pyO cu kn w nb i st
theorem pyI_cong {c c' : Nat → Bool} {w w' : Nat → Int32} {i : Nat} {st : Int32 × Int32 × Int32} : ∀ {j : Nat}, (∀ k, k < j → c k = c' k) → (∀ k, k < j → c k = true → w k = w' k) → pyI c w i j st = pyI c' w' i j st
  | 0, _, _ => rfl
  | j + 1, h1, h2 => by
    rw [pyI, pyI, pyI_cong (fun k hk => h1 k (by omega)) (fun k hk => h2 k (by omega)), ← h1 j (by omega)]
    cases e : c j with
    | false => rw [if_neg (fun z => absurd z.1 (by decide)), if_neg (fun z => absurd z.1 (by decide))]
    | true => rw [h2 j (by omega) e]
theorem pyO_cong {cu cu' kn kn' : Nat → Bool} {w w' : Nat → Nat → Int32} {nb : Nat} {st : Int32 × Int32 × Int32} (hk : ∀ j, j < nb → kn j = kn' j) : ∀ {i : Nat}, (∀ k, k < i → cu k = cu' k) → (∀ k, k < i → cu k = true → ∀ j, j < nb → kn j = true → w k j = w' k j) → pyO cu kn w nb i st = pyO cu' kn' w' nb i st
  | 0, _, _ => rfl
  | i + 1, h1, h2 => by
    rw [pyO, pyO, pyO_cong hk (fun k hk => h1 k (by omega)) (fun k hk => h2 k (by omega)), ← h1 i (by omega)]
    cases e : cu i with
    | false => rfl
    | true => rw [if_pos rfl, if_pos rfl, pyI_cong hk (h2 i (by omega) e)]
/-- nothing found yet, or a pair -/
def PyS (cu kn : Nat → Bool) (w : Nat → Nat → Int32) (nb : Nat) (s0 st : Int32 × Int32 × Int32) : Prop := st = s0 ∨ ∃ i j, i < nb ∧ j < nb ∧ cu i = true ∧ kn j = true ∧ st = (w i j, nI i, nI j)
theorem pyI_S {cu kn : Nat → Bool} {w : Nat → Nat → Int32} {nb i : Nat} {s0 st : Int32 × Int32 × Int32} (hi : i < nb) (hc : cu i = true) (hS : PyS cu kn w nb s0 st) : ∀ {j : Nat}, j ≤ nb → PyS cu kn w nb s0 (pyI kn (w i) i j st)
  | 0, _ => hS
  | j + 1, hj => by
    rw [pyI]
    by_cases q : kn j = true ∧ w i j < (pyI kn (w i) i j st).1
    · rw [if_pos q]; exact Or.inr ⟨i, j, hi, by omega, hc, q.1, rfl⟩
    · rw [if_neg q]; exact pyI_S hi hc hS (by omega)
theorem pyO_S {cu kn : Nat → Bool} {w : Nat → Nat → Int32} {nb : Nat} {s0 : Int32 × Int32 × Int32} : ∀ {i : Nat}, i ≤ nb → PyS cu kn w nb s0 (pyO cu kn w nb i s0)
  | 0, _ => Or.inl rfl
  | i + 1, hi => by
    rw [pyO]
    cases e : cu i with
    | false => rw [if_neg (by decide)]; exact pyO_S (by omega)
    | true => rw [if_pos rfl]; exact pyI_S (by omega) e (pyO_S (by omega)) (Nat.le_refl _)
/-- two states that say the same -/
def PyE (m : Int32) (s t : Int32 × Int32 × Int32) : Prop := s = t ∨ s.1 = m ∧ t.1 = m
theorem pyI_E {m : Int32} {c : Nat → Bool} {w : Nat → Int32} {i : Nat} {s t : Int32 × Int32 × Int32} (h : PyE m s t) : ∀ {j : Nat}, PyE m (pyI c w i j s) (pyI c w i j t)
  | 0 => h
  | j + 1 => by
    have ih := pyI_E (c := c) (w := w) (i := i) h (j := j)
    rw [pyI, pyI]
    rcases ih with e | ⟨e1, e2⟩
    · rw [e]; exact Or.inl rfl
    · rw [e1, e2]
      by_cases q : c j = true ∧ w j < m
      · rw [if_pos q, if_pos q]; exact Or.inl rfl
      · rw [if_neg q, if_neg q]; exact Or.inr ⟨e1, e2⟩
theorem pyO_E {m : Int32} {cu kn : Nat → Bool} {w : Nat → Nat → Int32} {nb : Nat} {s t : Int32 × Int32 × Int32} (h : PyE m s t) : ∀ {i : Nat}, PyE m (pyO cu kn w nb i s) (pyO cu kn w nb i t)
  | 0 => h
  | i + 1 => by
    rw [pyO, pyO]
    cases e : cu i with
    | false => rw [if_neg (by decide), if_neg (by decide)]; exact pyO_E h
    | true => rw [if_pos rfl, if_pos rfl]; exact pyI_E (pyO_E h)
theorem cnB_le {p : Nat → Bool} : ∀ {n : Nat}, n ≤ 10 → ∃ k, k ≤ n ∧ cnB p n = nI k
  | 0, _ => ⟨0, Nat.le_refl _, rfl⟩
  | n + 1, h => by
    obtain ⟨k, hk, e⟩ := cnB_le (p := p) (n := n) (by omega)
    unfold cnB at e ⊢
    rw [sm, e]
    cases p n with
    | false => exact ⟨k, by omega, by show nI k + 0 = nI k; exact Int32.add_zero _⟩
    | true => exact ⟨k + 1, by omega, nI_1 k⟩
/-- what ribbon i's change gives to rod x -/
def dlt (μ : Mem) (e i x : Nat) : Int32 := ctr (fun f => gi μ (4 + f)) (gi μ 9 i).toNatClampNeg (gi μ 10 i) (gi μ (62 + e) i) (gi μ (69 + e) i) x
/-- how many rods lean otherwise -/
def othC (μ : Mem) (nr : Nat) (m0 : Nat → Int32) (i j : Nat) : Int32 := cnB (fun r => !decide (lnV (m0 r + dlt μ 0 i r + dlt μ 0 j r) (gi μ 6 (r)) = lnV (m0 r) (gi μ 6 (r)))) nr
theorem feel_mul {A : Nat → Nat → Int32} {t h : Int32} {r : Nat} : ∀ {f o : Nat}, feel A f o (t * h) r = t * feel A f o h r
  | 0, _ => by rw [feel, feel]; grind
  | f + 1, o => by
    rw [feel, feel, feel_mul]
    by_cases c : o = 0
    · simp only [c, if_true]; grind
    · simp only [c, if_false]
      by_cases c2 : r = (A 0 o).toNatClampNeg
      · simp only [c2, if_true]; grind
      · simp only [c2, if_false]; grind
theorem ctr_mul {A : Nat → Nat → Int32} {o r : Nat} {arm t h p : Int32} : ctr A o arm (t * h) (t * p) r = t * ctr A o arm h p r := by
  unfold ctr
  rw [feel_mul]
  by_cases c : r = o
  · simp only [c, if_true]; grind
  · simp only [c, if_false]; grind
theorem lef {a b : Int32} (h : a ≤ b) (q : b < a) : False := by simp only [i_le, i_lt] at *; omega
section PAY3
variable {G : Gx} {d v : Nat} {μ : Mem} {bc bs : Nat} {Q : Option Value → List Sh → Mem → Nat → Nat → Prop}
set_option maxRecDepth 100000 in
set_option maxHeartbeats 1000000 in
theorem k_pshift {e i nr nb sz n : Nat} {t : Int32} (hd : 3 ≤ d) (he : e < 6) (hW : WC μ nr nb sz n) (hi : i < nb) (h : ∀ μ', Fr (pM4 (75 + 5 * e)) μ μ' → (∀ x, x < nr → gi μ' (75 + 5 * e + 4) x = gi μ (75 + 5 * e + 4) x + t * dlt μ e i x) → Q none (LAY v) μ' bc bs) : KC G d mX5_shift [.ref 51, .int (nI e), .int (nI i), .int t] (LAY v) μ bc bs Q := by
  have hv : vp_in (nI e) 6 := vin (by omega) (by omega)
  have hp : ¬ nI e < 0 := nI_pos (by omega)
  have hS : ScAt v (75 + 5 * e) := ScAt.day he
  have h62 := row62 (v := v) he
  have h69 := row69 (v := v) he
  obtain ⟨a0, a1, a2, a3, a4, hs⟩ := id hS
  obtain ⟨w1, w2, ⟨⟨w3, w4, w5⟩, w6, w7⟩, w8, w9, w10⟩ := id hW
  have vi : vp_in (nI i) 40 := vin (by omega) (by omega)
  have hin : 0 ≤ nI i ∧ nI i < nI nb := ⟨nI_pos' (by omega), nI_lt (by omega) (by omega)⟩
  obtain ⟨⟨r, hr, er⟩, -⟩ := w7 i hi
  simp only [Nat.reduceAdd] at er
  refine KC_intro 0 0 kX5_shift (by decide) (by decide) (Nat.zero_le _) (Nat.zero_le _) (Nat.le_of_ble_eq_true rfl) (fun Z hZ => ?_)
  show Z 0 [some (.ref 51), some (.int (nI e)), some (.int (nI i)), some (.int t), none] [] (LAY v) μ 0 0
  refine hZ 400 [18, 72] _ _ _ _ _ _ _ ?_
  simp -implicitDefEqProofs (disch := omega) only [wp_step xX5_shift_0, wp_step xX5_shift_1, wp_step xX5_shift_4, wp_step xX5_shift_5, wp_step xX5_shift_7, wp_step xX5_shift_10, wp_step xX5_shift_11, wp_step xX5_shift_14, wp_step xX5_shift_15, wp_step xX5_shift_18, ↓e_getf iX5_shift f5_32, ↓e_virt iX5_shift l5_92 iX3_hasRibbon, ↓e_getf iX5_shift f5_26, ↓e_getf iX5_shift f5_11, ↓e_getf iX5_shift f5_155, ↓e_getf iX5_shift f5_158, ↓e_getf iX5_shift f5_29, ↓e_virt iX5_shift l5_161 iX7_shift, iX5_shift, exec1, ↓p1_e, ↓p2_e, ↓q1_e, ↓q2_e, ↓qi_e, ↓pr_e, ↓pa_e, ↓pa_f, ↓pst_e, ↓qst_e, ↓rst_e, ↓pac_e, ↓pargs_0, ↓pargs_s, ↓gfld_0, ↓gfld_1, ↓gfld_2, ↓gfld_3, ↓pfld_i, ↓pfld_l, ↓pfld_r, ↓sfld_i, ↓sfld_l, ↓sfld_r, brI, pushv, rcv, lget, lset, lset2, isL, rok, szs, List.elem_nil, List.elem_cons, cond_true, cond_false, Option.map_some, beq_self_eq_true, Bool.true_and, Bool.and_true, Bool.false_and, Bool.and_false, Bool.or_false, Bool.false_or, Bool.or_true, Bool.true_or, Nat.reduceAdd, Nat.reduceSub, Nat.reduceMul, Nat.reduceBEq, Nat.reduceEqDiff, Nat.reduceLeDiff, Nat.sub_zero, true_and, and_true, false_and, and_false, true_or, or_true, false_or, or_false, reduceCtorEq, ↓reduceIte, List.getD_cons_zero, List.getD_cons_succ, List.length_cons, List.length_nil, ct_i, ct_r, ct_l, ct_f, ct_n, false_implies, true_implies, y3, y4, y5, y6, y7, y8, y9, y10, y11, y12, y13, y14, y15, y51, y52, y53, y54, hp, show (6 : Int32) = nI 6 from rfl, nle_f he (show 6 < 2 ^ 31 by omega), not_false_eq_true, true_implies, false_implies, and_true, true_and, not_true_eq_false]
  refine ⟨by omega, k_hasRibbon ?_⟩
  rw [w2]
  refine hZ 400 [18, 72] _ _ _ _ _ _ _ ?_
  simp -implicitDefEqProofs (disch := omega) only [wp_step xX5_shift_18, wp_step xX5_shift_21, wp_step xX5_shift_22, wp_step xX5_shift_23, wp_step xX5_shift_26, wp_step xX5_shift_27, wp_step xX5_shift_28, wp_step xX5_shift_29, wp_step xX5_shift_30, wp_step xX5_shift_31, wp_step xX5_shift_33, wp_step xX5_shift_34, wp_step xX5_shift_37, wp_step xX5_shift_38, wp_step xX5_shift_39, wp_step xX5_shift_40, wp_step xX5_shift_43, wp_step xX5_shift_46, wp_step xX5_shift_47, wp_step xX5_shift_48, wp_step xX5_shift_49, wp_step xX5_shift_52, wp_step xX5_shift_55, wp_step xX5_shift_56, wp_step xX5_shift_57, wp_step xX5_shift_59, wp_step xX5_shift_60, wp_step xX5_shift_61, wp_step xX5_shift_64, wp_step xX5_shift_65, wp_step xX5_shift_66, wp_step xX5_shift_67, wp_step xX5_shift_68, wp_step xX5_shift_69, wp_step xX5_shift_72, ↓e_getf iX5_shift f5_32, ↓e_virt iX5_shift l5_92 iX3_hasRibbon, ↓e_getf iX5_shift f5_26, ↓e_getf iX5_shift f5_11, ↓e_getf iX5_shift f5_155, ↓e_getf iX5_shift f5_158, ↓e_getf iX5_shift f5_29, ↓e_virt iX5_shift l5_161 iX7_shift, iX5_shift, exec1, ↓p1_e, ↓p2_e, ↓q1_e, ↓q2_e, ↓qi_e, ↓pr_e, ↓pa_e, ↓pa_f, ↓pst_e, ↓qst_e, ↓rst_e, ↓pac_e, ↓pargs_0, ↓pargs_s, ↓gfld_0, ↓gfld_1, ↓gfld_2, ↓gfld_3, ↓pfld_i, ↓pfld_l, ↓pfld_r, ↓sfld_i, ↓sfld_l, ↓sfld_r, brI, pushv, rcv, lget, lset, lset2, isL, rok, szs, List.elem_nil, List.elem_cons, cond_true, cond_false, Option.map_some, beq_self_eq_true, Bool.true_and, Bool.and_true, Bool.false_and, Bool.and_false, Bool.or_false, Bool.false_or, Bool.or_true, Bool.true_or, Nat.reduceAdd, Nat.reduceSub, Nat.reduceMul, Nat.reduceBEq, Nat.reduceEqDiff, Nat.reduceLeDiff, Nat.sub_zero, true_and, and_true, false_and, and_false, true_or, or_true, false_or, or_false, reduceCtorEq, ↓reduceIte, List.getD_cons_zero, List.getD_cons_succ, List.length_cons, List.length_nil, ct_i, ct_r, ct_l, ct_f, ct_n, false_implies, true_implies, y3, y4, y5, y6, y7, y8, y9, y10, y11, y12, y13, y14, y15, y51, y52, y53, y54, y61, y68, a0, h62, h69, hv, vi, he, bI_0, hin, nI_clamp, Nat.one_mul, er, not_false_eq_true, true_implies, false_implies, and_true, true_and, not_true_eq_false]
  refine ⟨by omega, k_shift (by omega) hS w1 w4 hW.2.2.1.on hr (fun μ1 hF g => ?_)⟩
  refine hZ 400 [18, 72] _ _ _ _ _ _ _ ?_
  simp -implicitDefEqProofs (disch := omega) only [wp_step xX5_shift_72, ↓e_getf iX5_shift f5_32, ↓e_virt iX5_shift l5_92 iX3_hasRibbon, ↓e_getf iX5_shift f5_26, ↓e_getf iX5_shift f5_11, ↓e_getf iX5_shift f5_155, ↓e_getf iX5_shift f5_158, ↓e_getf iX5_shift f5_29, ↓e_virt iX5_shift l5_161 iX7_shift, iX5_shift, exec1, ↓p1_e, ↓p2_e, ↓q1_e, ↓q2_e, ↓qi_e, ↓pr_e, ↓pa_e, ↓pa_f, ↓pst_e, ↓qst_e, ↓rst_e, ↓pac_e, ↓pargs_0, ↓pargs_s, ↓gfld_0, ↓gfld_1, ↓gfld_2, ↓gfld_3, ↓pfld_i, ↓pfld_l, ↓pfld_r, ↓sfld_i, ↓sfld_l, ↓sfld_r, brI, pushv, rcv, lget, lset, lset2, isL, rok, szs, List.elem_nil, List.elem_cons, cond_true, cond_false, Option.map_some, beq_self_eq_true, Bool.true_and, Bool.and_true, Bool.false_and, Bool.and_false, Bool.or_false, Bool.false_or, Bool.or_true, Bool.true_or, Nat.reduceAdd, Nat.reduceSub, Nat.reduceMul, Nat.reduceBEq, Nat.reduceEqDiff, Nat.reduceLeDiff, Nat.sub_zero, true_and, and_true, false_and, and_false, true_or, or_true, false_or, or_false, reduceCtorEq, ↓reduceIte, List.getD_cons_zero, List.getD_cons_succ, List.length_cons, List.length_nil, ct_i, ct_r, ct_l, ct_f, ct_n, false_implies, true_implies]
  refine h μ1 hF (fun x hx => ?_)
  rw [g x hx, ctr_mul]
  unfold dlt
  rw [er, nI_clamp (by omega)]
/-- the state of the search, in the payments' fields -/
def PySt (μ : Mem) (st : Int32 × Int32 × Int32) : Prop := (gi μ 51 11) = st.1 ∧ (gi μ 51 9) = st.2.1 ∧ (gi μ 51 10) = st.2.2
def pTry (a j : Nat) : Prop := a = 79 ∨ a = 51 ∧ 9 ≤ j
theorem pTry_pP : ∀ a j, pTry a j → pP a j := fun a j z => by unfold pTry at z; unfold pP pL; omega
set_option maxRecDepth 100000 in
set_option maxHeartbeats 1000000 in
theorem k_tryKnots {i nr nb sz n : Nat} {m : Int32} {m0 : Nat → Int32} {st : Int32 × Int32 × Int32} (hd : 4 ≤ d) (hW : WC μ nr nb sz n) (hm : ∀ x, x < nr → gi μ 79 x = m0 x + dlt μ 0 i x) (hl : ∀ x, x < nr → gi μ 55 x = lnV (m0 x) (gi μ 6 (x))) (hst : PySt μ st) (h : ∀ μ', Fr pTry μ μ' → (∀ x, x < nr → gi μ' 79 x = m0 x + dlt μ 0 i x) → PySt μ' (pyI (fun j => knB (fun f => gi μ (4 + f)) j (gi μ 51 8) m) (othC μ nr m0 i) i nb st) → Q none (LAY v) μ' bc bs) : KC G d mX5_tryKnots [.ref 51, .int (nI i), .int m] (LAY v) μ bc bs Q := by
  obtain ⟨w1, w2, ⟨⟨w3, w4, w5⟩, w6, w7⟩, w8, w9, w10⟩ := id hW
  have hP : ∀ a j, pTry a j → Sf a j := fun a j z => pP_Sf a j (pTry_pP a j z)
  refine KC_intro 0 0 kX5_tryKnots (by decide) (by decide) (Nat.zero_le _) (Nat.zero_le _) (Nat.le_of_ble_eq_true rfl) (fun Z hZ => ?_)
  show Z 0 [some (.ref 51), some (.int (nI i)), some (.int m), none, none] [] (LAY v) μ 0 0
  have loop : ∀ j, j ≤ nb → (∀ μ1 w, Fr pTry μ μ1 → (∀ x, x < nr → gi μ1 79 x = m0 x + dlt μ 0 i x) → PySt μ1 (pyI (fun j => knB (fun f => gi μ (4 + f)) j (gi μ 51 8) m) (othC μ nr m0 i) i j st) → Z 2 [some (.ref 51), some (.int (nI i)), some (.int m), some (.int (nI j)), w] [] (LAY v) μ1 0 0) := by
    refine loopN nb (fun μ1 w hF hm1 hs1 => ?_) (fun j hj ih μ1 w hF hm1 hs1 => ?_)
    · have f13 : gi μ1 3 13 = nI nb := (hF.1 _ _ (by unfold pTry; omega)).trans w2
      refine hZ 400 [2, 19, 29, 44, 53] _ _ _ _ _ _ _ ?_
      simp -implicitDefEqProofs (disch := omega) only [wp_step xX5_tryKnots_2, wp_step xX5_tryKnots_3, wp_step xX5_tryKnots_4, wp_step xX5_tryKnots_7, wp_step xX5_tryKnots_10, wp_step xX5_tryKnots_13, ↓e_getf iX5_tryKnots f5_32, ↓e_getf iX5_tryKnots f5_65, ↓e_virt iX5_tryKnots l5_79 iX5_canKnot, ↓e_virt iX5_tryKnots l5_72 iX5_shift, ↓e_getf iX5_tryKnots f5_11, ↓e_getf iX5_tryKnots f5_23, ↓e_virt iX5_tryKnots l5_82 iX7_leansOtherThan, ↓e_getf iX5_tryKnots f5_62, ↓e_putf iX5_tryKnots f5_62, ↓e_putf iX5_tryKnots f5_86, ↓e_putf iX5_tryKnots f5_89, iX5_tryKnots, wp_step xX5_tryKnots_84, ↓e_getf iX5_tryKnots f5_32, ↓e_getf iX5_tryKnots f5_65, ↓e_virt iX5_tryKnots l5_79 iX5_canKnot, ↓e_virt iX5_tryKnots l5_72 iX5_shift, ↓e_getf iX5_tryKnots f5_11, ↓e_getf iX5_tryKnots f5_23, ↓e_virt iX5_tryKnots l5_82 iX7_leansOtherThan, ↓e_getf iX5_tryKnots f5_62, ↓e_putf iX5_tryKnots f5_62, ↓e_putf iX5_tryKnots f5_86, ↓e_putf iX5_tryKnots f5_89, iX5_tryKnots, exec1, ↓p1_e, ↓p2_e, ↓q1_e, ↓q2_e, ↓qi_e, ↓pr_e, ↓pa_e, ↓pa_f, ↓pst_e, ↓qst_e, ↓rst_e, ↓pac_e, ↓pargs_0, ↓pargs_s, ↓gfld_0, ↓gfld_1, ↓gfld_2, ↓gfld_3, ↓pfld_i, ↓pfld_l, ↓pfld_r, ↓sfld_i, ↓sfld_l, ↓sfld_r, brI, pushv, rcv, lget, lset, lset2, isL, rok, szs, List.elem_nil, List.elem_cons, cond_true, cond_false, Option.map_some, beq_self_eq_true, Bool.true_and, Bool.and_true, Bool.false_and, Bool.and_false, Bool.or_false, Bool.false_or, Bool.or_true, Bool.true_or, Nat.reduceAdd, Nat.reduceSub, Nat.reduceMul, Nat.reduceBEq, Nat.reduceEqDiff, Nat.reduceLeDiff, Nat.sub_zero, true_and, and_true, false_and, and_false, true_or, or_true, false_or, or_false, reduceCtorEq, ↓reduceIte, List.getD_cons_zero, List.getD_cons_succ, List.length_cons, List.length_nil, ct_i, ct_r, ct_l, ct_f, ct_n, false_implies, true_implies, y3, y4, y5, y6, y7, y8, y9, y10, y11, y12, y13, y14, y15, y51, y52, y53, y54, f13, nle_t (show nb < 2 ^ 31 by omega), not_false_eq_true, true_implies, false_implies, and_true, true_and, not_true_eq_false]
      exact h μ1 hF hm1 hs1
    · have hW1 : WC μ1 nr nb sz n := hW.fr hF hP
      obtain ⟨u1, u2, ⟨⟨u3, u4, u5⟩, u6, u7⟩, u8, u9, u10⟩ := id hW1
      have fA := fr_A hF hP
      have f8 : gi μ1 51 8 = gi μ 51 8 := hF.1 _ _ (by unfold pTry; omega)
      rw [pyI] at ih
      generalize hst1 : pyI (fun j => knB (fun f => gi μ (4 + f)) j (gi μ 51 8) m) (othC μ nr m0 i) i j st = st1 at ih hs1
      refine hZ 400 [2, 19, 29, 44, 53] _ _ _ _ _ _ _ ?_
      simp -implicitDefEqProofs (disch := omega) only [wp_step xX5_tryKnots_2, wp_step xX5_tryKnots_3, wp_step xX5_tryKnots_4, wp_step xX5_tryKnots_7, wp_step xX5_tryKnots_10, wp_step xX5_tryKnots_13, wp_step xX5_tryKnots_14, wp_step xX5_tryKnots_15, wp_step xX5_tryKnots_16, wp_step xX5_tryKnots_19, ↓e_getf iX5_tryKnots f5_32, ↓e_getf iX5_tryKnots f5_65, ↓e_virt iX5_tryKnots l5_79 iX5_canKnot, ↓e_virt iX5_tryKnots l5_72 iX5_shift, ↓e_getf iX5_tryKnots f5_11, ↓e_getf iX5_tryKnots f5_23, ↓e_virt iX5_tryKnots l5_82 iX7_leansOtherThan, ↓e_getf iX5_tryKnots f5_62, ↓e_putf iX5_tryKnots f5_62, ↓e_putf iX5_tryKnots f5_86, ↓e_putf iX5_tryKnots f5_89, iX5_tryKnots, exec1, ↓p1_e, ↓p2_e, ↓q1_e, ↓q2_e, ↓qi_e, ↓pr_e, ↓pa_e, ↓pa_f, ↓pst_e, ↓qst_e, ↓rst_e, ↓pac_e, ↓pargs_0, ↓pargs_s, ↓gfld_0, ↓gfld_1, ↓gfld_2, ↓gfld_3, ↓pfld_i, ↓pfld_l, ↓pfld_r, ↓sfld_i, ↓sfld_l, ↓sfld_r, brI, pushv, rcv, lget, lset, lset2, isL, rok, szs, List.elem_nil, List.elem_cons, cond_true, cond_false, Option.map_some, beq_self_eq_true, Bool.true_and, Bool.and_true, Bool.false_and, Bool.and_false, Bool.or_false, Bool.false_or, Bool.or_true, Bool.true_or, Nat.reduceAdd, Nat.reduceSub, Nat.reduceMul, Nat.reduceBEq, Nat.reduceEqDiff, Nat.reduceLeDiff, Nat.sub_zero, true_and, and_true, false_and, and_false, true_or, or_true, false_or, or_false, reduceCtorEq, ↓reduceIte, List.getD_cons_zero, List.getD_cons_succ, List.length_cons, List.length_nil, ct_i, ct_r, ct_l, ct_f, ct_n, false_implies, true_implies, y3, y4, y5, y6, y7, y8, y9, y10, y11, y12, y13, y14, y15, y51, y52, y53, y54, u2, nle_f hj (show nb < 2 ^ 31 by omega), not_false_eq_true, true_implies, false_implies, and_true, true_and, not_true_eq_false]
      refine ⟨by omega, k_canKnot (by omega) u2 u5 hj ?_⟩
      rw [knB_fr fA, f8]
      refine hZ 400 [2, 19, 29, 44, 53] _ _ _ _ _ _ _ ?_
      simp -implicitDefEqProofs (disch := omega) only [wp_step xX5_tryKnots_19, wp_step xX5_tryKnots_22, wp_step xX5_tryKnots_23, wp_step xX5_tryKnots_24, wp_step xX5_tryKnots_25, wp_step xX5_tryKnots_26, ↓e_getf iX5_tryKnots f5_32, ↓e_getf iX5_tryKnots f5_65, ↓e_virt iX5_tryKnots l5_79 iX5_canKnot, ↓e_virt iX5_tryKnots l5_72 iX5_shift, ↓e_getf iX5_tryKnots f5_11, ↓e_getf iX5_tryKnots f5_23, ↓e_virt iX5_tryKnots l5_82 iX7_leansOtherThan, ↓e_getf iX5_tryKnots f5_62, ↓e_putf iX5_tryKnots f5_62, ↓e_putf iX5_tryKnots f5_86, ↓e_putf iX5_tryKnots f5_89, iX5_tryKnots, wp_step xX5_tryKnots_78, wp_step xX5_tryKnots_81, ↓e_getf iX5_tryKnots f5_32, ↓e_getf iX5_tryKnots f5_65, ↓e_virt iX5_tryKnots l5_79 iX5_canKnot, ↓e_virt iX5_tryKnots l5_72 iX5_shift, ↓e_getf iX5_tryKnots f5_11, ↓e_getf iX5_tryKnots f5_23, ↓e_virt iX5_tryKnots l5_82 iX7_leansOtherThan, ↓e_getf iX5_tryKnots f5_62, ↓e_putf iX5_tryKnots f5_62, ↓e_putf iX5_tryKnots f5_86, ↓e_putf iX5_tryKnots f5_89, iX5_tryKnots, exec1, ↓p1_e, ↓p2_e, ↓q1_e, ↓q2_e, ↓qi_e, ↓pr_e, ↓pa_e, ↓pa_f, ↓pst_e, ↓qst_e, ↓rst_e, ↓pac_e, ↓pargs_0, ↓pargs_s, ↓gfld_0, ↓gfld_1, ↓gfld_2, ↓gfld_3, ↓pfld_i, ↓pfld_l, ↓pfld_r, ↓sfld_i, ↓sfld_l, ↓sfld_r, brI, pushv, rcv, lget, lset, lset2, isL, rok, szs, List.elem_nil, List.elem_cons, cond_true, cond_false, Option.map_some, beq_self_eq_true, Bool.true_and, Bool.and_true, Bool.false_and, Bool.and_false, Bool.or_false, Bool.false_or, Bool.or_true, Bool.true_or, Nat.reduceAdd, Nat.reduceSub, Nat.reduceMul, Nat.reduceBEq, Nat.reduceEqDiff, Nat.reduceLeDiff, Nat.sub_zero, true_and, and_true, false_and, and_false, true_or, or_true, false_or, or_false, reduceCtorEq, ↓reduceIte, List.getD_cons_zero, List.getD_cons_succ, List.length_cons, List.length_nil, ct_i, ct_r, ct_l, ct_f, ct_n, false_implies, true_implies, y51, y52, y53, y54, bN_0, nI_1]
      refine ⟨fun c => ih μ1 _ hF hm1 (by rw [if_neg (fun z => absurd (c.symm.trans z.1) (by decide))]; exact hs1), fun c => ⟨by omega, k_pshift (e := 0) (by omega) (by omega) hW1 hj (fun μ2 hF2 hm2 => ?_)⟩⟩
      have ck := btr c
      have dl : ∀ μ', Fr pTry μ μ' → ∀ k x, dlt μ' 0 k x = dlt μ 0 k x := fun μ' hF' k x => by
        unfold dlt
        rw [ctr_fr (fr_A hF' hP), hF'.1 9 _ (by unfold pTry; omega), hF'.1 10 _ (by unfold pTry; omega), hF'.1 62 _ (by unfold pTry; omega), hF'.1 69 _ (by unfold pTry; omega)]
      have hG2 : Fr pTry μ μ2 := hF.trans (hF2.mono (fun a j z => Or.inl z))
      have hW2 : WC μ2 nr nb sz n := hW.fr hG2 hP
      have hm2' : ∀ x, x < nr → gi μ2 79 x = m0 x + dlt μ 0 i x + dlt μ 0 j x := fun x hx => by
        have := hm2 x hx
        rw [dl μ1 hF] at this
        rw [show gi μ2 79 x = gi μ1 79 x + 1 * dlt μ 0 j x from this, hm1 x hx]; grind
      refine hZ 400 [2, 19, 29, 44, 53] _ _ _ _ _ _ _ ?_
      simp -implicitDefEqProofs (disch := omega) only [wp_step xX5_tryKnots_29, wp_step xX5_tryKnots_30, wp_step xX5_tryKnots_33, wp_step xX5_tryKnots_34, wp_step xX5_tryKnots_35, wp_step xX5_tryKnots_36, wp_step xX5_tryKnots_39, wp_step xX5_tryKnots_40, wp_step xX5_tryKnots_41, ↓e_getf iX5_tryKnots f5_32, ↓e_getf iX5_tryKnots f5_65, ↓e_virt iX5_tryKnots l5_79 iX5_canKnot, ↓e_virt iX5_tryKnots l5_72 iX5_shift, ↓e_getf iX5_tryKnots f5_11, ↓e_getf iX5_tryKnots f5_23, ↓e_virt iX5_tryKnots l5_82 iX7_leansOtherThan, ↓e_getf iX5_tryKnots f5_62, ↓e_putf iX5_tryKnots f5_62, ↓e_putf iX5_tryKnots f5_86, ↓e_putf iX5_tryKnots f5_89, iX5_tryKnots, exec1, ↓p1_e, ↓p2_e, ↓q1_e, ↓q2_e, ↓qi_e, ↓pr_e, ↓pa_e, ↓pa_f, ↓pst_e, ↓qst_e, ↓rst_e, ↓pac_e, ↓pargs_0, ↓pargs_s, ↓gfld_0, ↓gfld_1, ↓gfld_2, ↓gfld_3, ↓pfld_i, ↓pfld_l, ↓pfld_r, ↓sfld_i, ↓sfld_l, ↓sfld_r, brI, pushv, rcv, lget, lset, lset2, isL, rok, szs, List.elem_nil, List.elem_cons, cond_true, cond_false, Option.map_some, beq_self_eq_true, Bool.true_and, Bool.and_true, Bool.false_and, Bool.and_false, Bool.or_false, Bool.false_or, Bool.or_true, Bool.true_or, Nat.reduceAdd, Nat.reduceSub, Nat.reduceMul, Nat.reduceBEq, Nat.reduceEqDiff, Nat.reduceLeDiff, Nat.sub_zero, true_and, and_true, false_and, and_false, true_or, or_true, false_or, or_false, reduceCtorEq, ↓reduceIte, List.getD_cons_zero, List.getD_cons_succ, List.length_cons, List.length_nil, ct_i, ct_r, ct_l, ct_f, ct_n, false_implies, true_implies, y3, y4, y5, y6, y7, y8, y9, y10, y11, y12, y13, y14, y15, y51, y52, y53, y54, y55, y75, show vp_in 0 6 from vin (i := 0) (by omega) (by omega), show (0 : Int32).toNatClampNeg = 0 from rfl, Nat.mul_zero, Nat.add_zero, Nat.reduceLT]
      refine ⟨by omega, k_leansOther (by omega) (ScAt.day (d := 0) (by omega)) (y55 v) hW2.1 w4 ?_⟩
      have ev : cnB (fun r => !decide (lnV (gi μ2 (75 + 4) r) (gi μ2 6 r) = gi μ2 55 r)) nr = othC μ nr m0 i j := by
        unfold othC cnB
        refine sm_cong (fun r hr => ?_)
        dsimp only
        rw [hm2' r hr, hG2.1 6 r (by unfold pTry; omega), hG2.1 55 r (by unfold pTry; omega), hl r hr]
      rw [ev]
      refine hZ 400 [2, 19, 29, 44, 53] _ _ _ _ _ _ _ ?_
      simp -implicitDefEqProofs (disch := omega) only [wp_step xX5_tryKnots_44, wp_step xX5_tryKnots_46, wp_step xX5_tryKnots_47, wp_step xX5_tryKnots_48, wp_step xX5_tryKnots_49, wp_step xX5_tryKnots_50, ↓e_getf iX5_tryKnots f5_32, ↓e_getf iX5_tryKnots f5_65, ↓e_virt iX5_tryKnots l5_79 iX5_canKnot, ↓e_virt iX5_tryKnots l5_72 iX5_shift, ↓e_getf iX5_tryKnots f5_11, ↓e_getf iX5_tryKnots f5_23, ↓e_virt iX5_tryKnots l5_82 iX7_leansOtherThan, ↓e_getf iX5_tryKnots f5_62, ↓e_putf iX5_tryKnots f5_62, ↓e_putf iX5_tryKnots f5_86, ↓e_putf iX5_tryKnots f5_89, iX5_tryKnots, exec1, ↓p1_e, ↓p2_e, ↓q1_e, ↓q2_e, ↓qi_e, ↓pr_e, ↓pa_e, ↓pa_f, ↓pst_e, ↓qst_e, ↓rst_e, ↓pac_e, ↓pargs_0, ↓pargs_s, ↓gfld_0, ↓gfld_1, ↓gfld_2, ↓gfld_3, ↓pfld_i, ↓pfld_l, ↓pfld_r, ↓sfld_i, ↓sfld_l, ↓sfld_r, brI, pushv, rcv, lget, lset, lset2, isL, rok, szs, List.elem_nil, List.elem_cons, cond_true, cond_false, Option.map_some, beq_self_eq_true, Bool.true_and, Bool.and_true, Bool.false_and, Bool.and_false, Bool.or_false, Bool.false_or, Bool.or_true, Bool.true_or, Nat.reduceAdd, Nat.reduceSub, Nat.reduceMul, Nat.reduceBEq, Nat.reduceEqDiff, Nat.reduceLeDiff, Nat.sub_zero, true_and, and_true, false_and, and_false, true_or, or_true, false_or, or_false, reduceCtorEq, ↓reduceIte, List.getD_cons_zero, List.getD_cons_succ, List.length_cons, List.length_nil, ct_i, ct_r, ct_l, ct_f, ct_n, false_implies, true_implies, y51, y52, y53, y54]
      refine ⟨by omega, k_pshift (e := 0) (by omega) (by omega) hW2 hj (fun μ3 hF3 hm3 => ?_)⟩
      have hG3 : Fr pTry μ μ3 := hG2.trans (hF3.mono (fun a j z => Or.inl z))
      have hm3' : ∀ x, x < nr → gi μ3 79 x = m0 x + dlt μ 0 i x := fun x hx => by
        have := hm3 x hx
        rw [dl μ2 hG2] at this
        rw [show gi μ3 79 x = gi μ2 79 x + -1 * dlt μ 0 j x from this, hm2' x hx]; grind
      have hs3 : PySt μ3 st1 := by
        unfold PySt at hs1 ⊢
        rw [hF3.1 51 _ (by unfold pM4; omega), hF3.1 51 _ (by unfold pM4; omega), hF3.1 51 _ (by unfold pM4; omega), hF2.1 51 _ (by unfold pM4; omega), hF2.1 51 _ (by unfold pM4; omega), hF2.1 51 _ (by unfold pM4; omega)]
        exact hs1
      refine hZ 400 [2, 19, 29, 44, 53] _ _ _ _ _ _ _ ?_
      simp -implicitDefEqProofs (disch := omega) only [wp_step xX5_tryKnots_53, wp_step xX5_tryKnots_55, wp_step xX5_tryKnots_56, wp_step xX5_tryKnots_59, wp_step xX5_tryKnots_62, wp_step xX5_tryKnots_63, wp_step xX5_tryKnots_65, wp_step xX5_tryKnots_68, wp_step xX5_tryKnots_69, wp_step xX5_tryKnots_70, wp_step xX5_tryKnots_73, wp_step xX5_tryKnots_74, wp_step xX5_tryKnots_75, wp_step xX5_tryKnots_78, wp_step xX5_tryKnots_81, ↓e_getf iX5_tryKnots f5_32, ↓e_getf iX5_tryKnots f5_65, ↓e_virt iX5_tryKnots l5_79 iX5_canKnot, ↓e_virt iX5_tryKnots l5_72 iX5_shift, ↓e_getf iX5_tryKnots f5_11, ↓e_getf iX5_tryKnots f5_23, ↓e_virt iX5_tryKnots l5_82 iX7_leansOtherThan, ↓e_getf iX5_tryKnots f5_62, ↓e_putf iX5_tryKnots f5_62, ↓e_putf iX5_tryKnots f5_86, ↓e_putf iX5_tryKnots f5_89, iX5_tryKnots, exec1, ↓p1_e, ↓p2_e, ↓q1_e, ↓q2_e, ↓qi_e, ↓pr_e, ↓pa_e, ↓pa_f, ↓pst_e, ↓qst_e, ↓rst_e, ↓pac_e, ↓pargs_0, ↓pargs_s, ↓gfld_0, ↓gfld_1, ↓gfld_2, ↓gfld_3, ↓pfld_i, ↓pfld_l, ↓pfld_r, ↓sfld_i, ↓sfld_l, ↓sfld_r, brI, pushv, rcv, lget, lset, lset2, isL, rok, szs, List.elem_nil, List.elem_cons, cond_true, cond_false, Option.map_some, beq_self_eq_true, Bool.true_and, Bool.and_true, Bool.false_and, Bool.and_false, Bool.or_false, Bool.false_or, Bool.or_true, Bool.true_or, Nat.reduceAdd, Nat.reduceSub, Nat.reduceMul, Nat.reduceBEq, Nat.reduceEqDiff, Nat.reduceLeDiff, Nat.sub_zero, true_and, and_true, false_and, and_false, true_or, or_true, false_or, or_false, reduceCtorEq, ↓reduceIte, List.getD_cons_zero, List.getD_cons_succ, List.length_cons, List.length_nil, ct_i, ct_r, ct_l, ct_f, ct_n, false_implies, true_implies, y51, y52, y53, y54, hs3.1, nI_1]
      refine ⟨fun c2 => ih μ3 _ hG3 hm3' (by rw [if_neg (fun z => lef c2 z.2)]; exact hs3), fun c2 => ih _ _ (((hG3.si (by unfold pTry; omega)).si (by unfold pTry; omega)).si (by unfold pTry; omega)) (fun x hx => ?_) ?_⟩
      · rw [gi_si_a (by omega), gi_si_a (by omega), gi_si_a (by omega)]; exact hm3' x hx
      · rw [if_pos ⟨ck, Int32.not_le.mp c2⟩]
        unfold PySt
        simp (disch := omega) only [gi_si, gi_si_k]
        exact ⟨trivial, trivial, trivial⟩
  refine hZ 400 [2, 19, 29, 44, 53] _ _ _ _ _ _ _ ?_
  simp -implicitDefEqProofs (disch := omega) only [wp_step xX5_tryKnots_0, wp_step xX5_tryKnots_1, ↓e_getf iX5_tryKnots f5_32, ↓e_getf iX5_tryKnots f5_65, ↓e_virt iX5_tryKnots l5_79 iX5_canKnot, ↓e_virt iX5_tryKnots l5_72 iX5_shift, ↓e_getf iX5_tryKnots f5_11, ↓e_getf iX5_tryKnots f5_23, ↓e_virt iX5_tryKnots l5_82 iX7_leansOtherThan, ↓e_getf iX5_tryKnots f5_62, ↓e_putf iX5_tryKnots f5_62, ↓e_putf iX5_tryKnots f5_86, ↓e_putf iX5_tryKnots f5_89, iX5_tryKnots, exec1, ↓p1_e, ↓p2_e, ↓q1_e, ↓q2_e, ↓qi_e, ↓pr_e, ↓pa_e, ↓pa_f, ↓pst_e, ↓qst_e, ↓rst_e, ↓pac_e, ↓pargs_0, ↓pargs_s, ↓gfld_0, ↓gfld_1, ↓gfld_2, ↓gfld_3, ↓pfld_i, ↓pfld_l, ↓pfld_r, ↓sfld_i, ↓sfld_l, ↓sfld_r, brI, pushv, rcv, lget, lset, lset2, isL, rok, szs, List.elem_nil, List.elem_cons, cond_true, cond_false, Option.map_some, beq_self_eq_true, Bool.true_and, Bool.and_true, Bool.false_and, Bool.and_false, Bool.or_false, Bool.false_or, Bool.or_true, Bool.true_or, Nat.reduceAdd, Nat.reduceSub, Nat.reduceMul, Nat.reduceBEq, Nat.reduceEqDiff, Nat.reduceLeDiff, Nat.sub_zero, true_and, and_true, false_and, and_false, true_or, or_true, false_or, or_false, reduceCtorEq, ↓reduceIte, List.getD_cons_zero, List.getD_cons_succ, List.length_cons, List.length_nil, ct_i, ct_r, ct_l, ct_f, ct_n, false_implies, true_implies]
  exact loop 0 (by omega) μ _ Fr.rf hm hst
end PAY3
