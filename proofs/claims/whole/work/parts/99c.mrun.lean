theorem and1 (y : Int32) : y &&& 1 = 0 ∨ y &&& 1 = 1 := by
  have h : (y &&& 1).toBitVec.toNat = y.toBitVec.toNat % 2 := by
    rw [Int32.toBitVec_and, BitVec.toNat_and, show (1 : Int32).toBitVec.toNat = 1 from rfl, Nat.and_one_is_mod]
  rcases Nat.mod_two_eq_zero_or_one y.toBitVec.toNat with e | e
  · left
    apply Int32.toBitVec_inj.mp
    apply BitVec.eq_of_toNat_eq
    rw [h, e]; rfl
  · right
    apply Int32.toBitVec_inj.mp
    apply BitVec.eq_of_toNat_eq
    rw [h, e]; rfl
theorem bt_sh1 {x : Int32} {r : Nat} (hr : r < 32) : (x >>> (nI r &&& 31) &&& 1 = 1) ↔ bt x r = true := by
  have h := bt_sh (x := x) hr
  rcases and1 (x >>> (nI r &&& 31)) with e | e
  · rw [e, h.mp e]; exact ⟨fun z => absurd z (by decide), fun z => absurd z (by decide)⟩
  · rw [e]
    refine ⟨fun _ => ?_, fun _ => rfl⟩
    cases q : bt x r with
    | true => rfl
    | false => rw [h.mpr q] at e; exact absurd e (by decide)
/-- all whose bit is in g have taken theirs down -/
def tkA (A : Nat → Nat → Int32) (g : Int32) (k : Nat) : Nat → Nat → Int32 := fun f i => if f = 11 ∧ i < k then (if A 11 i = 0 ∨ (A 8 i = 0 ∧ bt g (A 9 i).toNatClampNeg = true) then 0 else 1) else A f i
theorem tk_f {A : Nat → Nat → Int32} {g : Int32} {k f : Nat} (h : f ≠ 11) : tkA A g k f = A f := funext fun i => if_neg (fun z => h z.1)
theorem tk_11 {A : Nat → Nat → Int32} {g : Int32} {k i : Nat} (h : i < k) : tkA A g k 11 i = if A 11 i = 0 ∨ (A 8 i = 0 ∧ bt g (A 9 i).toNatClampNeg = true) then 0 else 1 := if_pos ⟨rfl, h⟩
theorem tk_wf {A : Nat → Nat → Int32} {g : Int32} {nr nb : Nat} (h : WFd A nr nb) : WFd (tkA A g nb) nr nb := by
  obtain ⟨h1, h2, h3⟩ := h
  refine ⟨h1, fun j hj => (h2 j hj).cong' (fun f hf => congrFun (tk_f (by omega)) j), fun i hi => ?_⟩
  have q := h3 i hi
  unfold RibOK at q ⊢
  rw [tk_f (f := 5) (by omega), tk_f (f := 6) (by omega), tk_f (f := 7) (by omega), tk_f (f := 8) (by omega), tk_f (f := 9) (by omega), tk_f (f := 10) (by omega), tk_11 hi]
  obtain ⟨q1, q2, ⟨l, hl, el, hh⟩, q4, q5⟩ := q
  refine ⟨q1, q2, ⟨l, hl, el, fun z => hh (fun y => z ?_)⟩, q4, q5⟩
  rw [if_pos (Or.inl y)]
theorem sm_dif {f g h : Nat → Int32} {n : Nat} (e : ∀ i, i < n → f i + h i = g i) : sm f n = sm g n - sm h n := by
  have : sm g n = sm f n + sm h n := by rw [← sm_add]; exact (sm_cong e).symm
  rw [this]; grind
theorem tk_mg {LV : (Nat → Int32) → Bool → Int32} {A : Nat → Nat → Int32} {g w : Int32} {nr nb : Nat} (hW : WFd A nr nb) : (WG (tkA A g nb) (hvA LV (tkA A g nb) w) nr nb).2 0 = mgI LV A nr nb w g := by
  obtain ⟨⟨n1, n2, n3⟩, q2, q3⟩ := id hW
  unfold mgI mo0
  rw [WG_sum (tk_wf hW) (Nat.le_refl _), WG_sum hW (Nat.le_refl _)]
  have sw : sm (fun p => if bt g p = true then mpI LV A nb w p else 0) 8 = sm (fun i => sm (fun p => if bt g p = true then (if whB A i (nI p) = true then ptI LV A w i else 0) else 0) 8) nb := by
    rw [← sm_swap]
    refine sm_cong (fun p _ => ?_)
    by_cases c : bt g p = true
    · rw [if_pos c]; unfold mpI; exact sm_cong (fun i _ => by rw [if_pos c])
    · rw [if_neg c, sm_cong (g := fun _ => 0) (fun i _ => by rw [if_neg c]), sm_zero]
  rw [sw]
  refine sm_dif (fun i hi => ?_)
  obtain ⟨⟨r, hr, er⟩, -, -, ⟨o, ho, eo⟩, -⟩ := q3 i hi
  have hv : ∀ b, hvA LV (tkA A g nb) w i b = hvA LV A w i b := fun b => by
    unfold hvA FA
    rw [tk_f (f := 4) (by omega), tk_f (f := 5) (by omega), tk_f (f := 6) (by omega), tk_f (f := 7) (by omega), tk_f (f := 8) (by omega), tk_f (f := 9) (by omega)]
  have hc : ∀ arm h p, ctr (tkA A g nb) r arm h p 0 = ctr A r arm h p 0 := fun arm h p => ctr_A hW.on n2 (fun j _ => congrFun (tk_f (by omega)) j) (fun j _ => congrFun (tk_f (by omega)) j) hr
  have one : sm (fun p => if bt g p = true then (if whB A i (nI p) = true then ptI LV A w i else 0) else 0) 8 = if ¬ A 11 i = 0 ∧ A 8 i = 0 ∧ bt g o = true then ptI LV A w i else 0 := by
    by_cases c : ¬ A 11 i = 0 ∧ A 8 i = 0 ∧ bt g o = true
    · rw [if_pos c]
      refine Eq.trans (sm_cong (g := fun p => if p = o then ptI LV A w i else 0) (fun p hp => ?_)) (sm_one ho)
      by_cases y : p = o
      · subst y; rw [if_pos c.2.2, if_pos (whB_t c.1 c.2.1 eo), if_pos rfl]
      · rw [if_neg y]
        have : whB A i (nI p) = false := whB_f (fun z => y ((nI_eq (by omega) (by omega)).mp (z.2.2.symm.trans eo)))
        rw [this]; split <;> rfl
    · rw [if_neg c, sm_cong (g := fun _ => 0) (fun p hp => ?_), sm_zero]
      by_cases y : bt g p = true
      · rw [if_pos y, if_neg (fun z => ?_)]
        obtain ⟨z1, z2, z3⟩ := whB_i z
        have : o = p := (nI_eq (by omega) (by omega)).mp (eo.symm.trans z3)
        subst this
        exact c ⟨z1, z2, y⟩
      · rw [if_neg y]
  rw [one]
  unfold cR ptI
  rw [tk_11 hi, tk_f (f := 5) (by omega), tk_f (f := 6) (by omega), hv, hv, er, nI_clamp (by omega), hc, eo, nI_clamp (by omega)]
  by_cases c0 : A 11 i = 0
  · rw [if_pos (Or.inl c0), if_pos rfl, if_neg (fun z => z.1 c0), if_pos c0]; rfl
  · by_cases c1 : A 8 i = 0 ∧ bt g o = true
    · rw [if_pos (Or.inr c1), if_pos rfl, if_pos ⟨c0, c1⟩, if_neg c0]; grind
    · have cn : ¬ (A 11 i = 0 ∨ (A 8 i = 0 ∧ bt g o = true)) := fun z => by rcases z with z | z; exact c0 z; exact c1 z
      have cn2 : ¬ (¬ A 11 i = 0 ∧ A 8 i = 0 ∧ bt g o = true) := fun z => c1 z.2
      rw [if_neg cn, if_neg (show ¬ (1 : Int32) = 0 by decide), if_neg cn2, if_neg c0]; grind
section MRN
variable {G : Gx} {d v : Nat} {μ : Mem} {bc bs : Nat} {Q : Option Value → List Sh → Mem → Nat → Nat → Prop} {nr nb sz n : Nat}
set_option maxRecDepth 100000 in
set_option maxHeartbeats 1000000 in
theorem k_mHas {s : Int32} {p : Nat} {lay : List Sh} (hp : p < 32) (h : Q (some (.int (bN (bt s p)))) lay μ bc bs) : KC G d mX11_has [.int s, .int (nI p)] lay μ bc bs Q := by
  refine KC_intro 0 0 kX11_has (by decide) (by decide) (Nat.zero_le _) (Nat.zero_le _) (Nat.le_of_ble_eq_true rfl) (fun Z hZ => ?_)
  show Z 0 [some (.int s), some (.int (nI p))] [] lay μ 0 0
  refine hZ 400 [] _ _ _ _ _ _ _ ?_
  simp -implicitDefEqProofs (disch := omega) only [wp_step xX11_has_0, wp_step xX11_has_1, wp_step xX11_has_2, wp_step xX11_has_3, wp_step xX11_has_4, wp_step xX11_has_5, wp_step xX11_has_6, wp_step xX11_has_9, wp_step xX11_has_10, wp_step xX11_has_13, wp_step xX11_has_14, iX11_has, exec1, ↓p1_e, ↓p2_e, ↓q1_e, ↓q2_e, ↓qi_e, ↓pr_e, ↓pa_e, ↓pa_f, ↓pst_e, ↓qst_e, ↓rst_e, ↓pac_e, ↓pargs_0, ↓pargs_s, ↓gfld_0, ↓gfld_1, ↓gfld_2, ↓gfld_3, ↓pfld_i, ↓pfld_l, ↓pfld_r, ↓sfld_i, ↓sfld_l, ↓sfld_r, brI, pushv, rcv, lget, lset, lset2, isL, rok, szs, List.elem_nil, List.elem_cons, cond_true, cond_false, Option.map_some, beq_self_eq_true, Bool.true_and, Bool.and_true, Bool.false_and, Bool.and_false, Bool.or_false, Bool.false_or, Bool.or_true, Bool.true_or, Nat.reduceAdd, Nat.reduceSub, Nat.reduceMul, Nat.reduceBEq, Nat.reduceEqDiff, Nat.reduceLeDiff, Nat.sub_zero, true_and, and_true, false_and, and_false, true_or, or_true, false_or, or_false, reduceCtorEq, ↓reduceIte, List.getD_cons_zero, List.getD_cons_succ, List.length_cons, List.length_nil, ct_i, ct_r, ct_l, ct_f, ct_n, false_implies, true_implies, bt_sh1]
  refine ⟨fun c => ?_, fun c => ?_⟩
  · rw [show bt s p = false by cases e : bt s p with | true => exact absurd e c | false => rfl] at h; exact h
  · rw [c] at h; exact h
set_option maxRecDepth 100000 in
set_option maxHeartbeats 1000000 in
theorem k_mSize {x : Int32} {lay : List Sh} (h : Q (some (.int (abI x))) lay μ bc bs) : KC G d mX11_size [.int x] lay μ bc bs Q := by
  refine KC_intro 0 0 kX11_size (by decide) (by decide) (Nat.zero_le _) (Nat.zero_le _) (Nat.le_of_ble_eq_true rfl) (fun Z hZ => ?_)
  show Z 0 [some (.int x)] [] lay μ 0 0
  unfold abI at h
  refine hZ 400 [] _ _ _ _ _ _ _ ?_
  simp -implicitDefEqProofs (disch := omega) only [wp_step xX11_size_0, wp_step xX11_size_1, wp_step xX11_size_4, wp_step xX11_size_5, wp_step xX11_size_6, wp_step xX11_size_9, wp_step xX11_size_10, iX11_size, exec1, ↓p1_e, ↓p2_e, ↓q1_e, ↓q2_e, ↓qi_e, ↓pr_e, ↓pa_e, ↓pa_f, ↓pst_e, ↓qst_e, ↓rst_e, ↓pac_e, ↓pargs_0, ↓pargs_s, ↓gfld_0, ↓gfld_1, ↓gfld_2, ↓gfld_3, ↓pfld_i, ↓pfld_l, ↓pfld_r, ↓sfld_i, ↓sfld_l, ↓sfld_r, brI, pushv, rcv, lget, lset, lset2, isL, rok, szs, List.elem_nil, List.elem_cons, cond_true, cond_false, Option.map_some, beq_self_eq_true, Bool.true_and, Bool.and_true, Bool.false_and, Bool.and_false, Bool.or_false, Bool.false_or, Bool.or_true, Bool.true_or, Nat.reduceAdd, Nat.reduceSub, Nat.reduceMul, Nat.reduceBEq, Nat.reduceEqDiff, Nat.reduceLeDiff, Nat.sub_zero, true_and, and_true, false_and, and_false, true_or, or_true, false_or, or_false, reduceCtorEq, ↓reduceIte, List.getD_cons_zero, List.getD_cons_succ, List.length_cons, List.length_nil, ct_i, ct_r, ct_l, ct_f, ct_n, false_implies, true_implies]
  refine ⟨fun c => ?_, fun c => ?_⟩
  · rw [if_pos c] at h; exact h
  · rw [if_neg c, show 0 - x = -x by grind] at h; exact h
set_option maxRecDepth 100000 in
set_option maxHeartbeats 1000000 in
theorem k_mWhiteOf {p : Nat} (hd : 1 ≤ d) (hb : (gi μ 144 3) = nI nb) (hn : nb ≤ 40) (h : Q (some (.int (wlI (fun f => gi μ (146 + f)) nb p))) (LAY v) μ bc bs) : KC G d mX11_whiteOf [.ref 144, .int (nI p)] (LAY v) μ bc bs Q := by
  refine KC_intro 0 0 kX11_whiteOf (by decide) (by decide) (Nat.zero_le _) (Nat.zero_le _) (Nat.le_of_ble_eq_true rfl) (fun Z hZ => ?_)
  show Z 0 [some (.ref 144), some (.int (nI p)), none, none] [] (LAY v) μ 0 0
  have loop : ∀ i, i ≤ nb → Z 4 [some (.ref 144), some (.int (nI p)), some (.int (wlI (fun f => gi μ (146 + f)) i p)), some (.int (nI i))] [] (LAY v) μ 0 0 := by
    refine loopN nb ?_ (fun i hi ih => ?_)
    · refine hZ 400 [4, 19] _ _ _ _ _ _ _ ?_
      simp -implicitDefEqProofs (disch := omega) only [wp_step xX11_whiteOf_4, wp_step xX11_whiteOf_5, wp_step xX11_whiteOf_6, wp_step xX11_whiteOf_9, ↓e_getf iX11_whiteOf f11_213, ↓e_virt iX11_whiteOf l11_390 iX11_isWhiteOf, ↓e_getf iX11_whiteOf f11_43, iX11_whiteOf, wp_step xX11_whiteOf_40, wp_step xX11_whiteOf_41, ↓e_getf iX11_whiteOf f11_213, ↓e_virt iX11_whiteOf l11_390 iX11_isWhiteOf, ↓e_getf iX11_whiteOf f11_43, iX11_whiteOf, exec1, ↓p1_e, ↓p2_e, ↓q1_e, ↓q2_e, ↓qi_e, ↓pr_e, ↓pa_e, ↓pa_f, ↓pst_e, ↓qst_e, ↓rst_e, ↓pac_e, ↓pargs_0, ↓pargs_s, ↓gfld_0, ↓gfld_1, ↓gfld_2, ↓gfld_3, ↓pfld_i, ↓pfld_l, ↓pfld_r, ↓sfld_i, ↓sfld_l, ↓sfld_r, brI, pushv, rcv, lget, lset, lset2, isL, rok, szs, List.elem_nil, List.elem_cons, cond_true, cond_false, Option.map_some, beq_self_eq_true, Bool.true_and, Bool.and_true, Bool.false_and, Bool.and_false, Bool.or_false, Bool.false_or, Bool.or_true, Bool.true_or, Nat.reduceAdd, Nat.reduceSub, Nat.reduceMul, Nat.reduceBEq, Nat.reduceEqDiff, Nat.reduceLeDiff, Nat.sub_zero, true_and, and_true, false_and, and_false, true_or, or_true, false_or, or_false, reduceCtorEq, ↓reduceIte, List.getD_cons_zero, List.getD_cons_succ, List.length_cons, List.length_nil, ct_i, ct_r, ct_l, ct_f, ct_n, false_implies, true_implies, y144, hb, nle_t (show nb < 2 ^ 31 by omega), not_false_eq_true, true_implies, false_implies, and_true, true_and, not_true_eq_false]
      exact h
    · have vi : vp_in (nI i) 40 := vin (by omega) (by omega)
      have e : wlI (fun f => gi μ (146 + f)) (i + 1) p = wlI (fun f => gi μ (146 + f)) i p + if whB (fun f => gi μ (146 + f)) i (nI p) = true then gi μ 153 i else 0 := rfl
      rw [e] at ih
      refine hZ 400 [19] _ _ _ _ _ _ _ ?_
      simp -implicitDefEqProofs (disch := omega) only [wp_step xX11_whiteOf_4, wp_step xX11_whiteOf_5, wp_step xX11_whiteOf_6, wp_step xX11_whiteOf_9, wp_step xX11_whiteOf_12, wp_step xX11_whiteOf_13, wp_step xX11_whiteOf_14, wp_step xX11_whiteOf_15, wp_step xX11_whiteOf_16, ↓e_getf iX11_whiteOf f11_213, ↓e_virt iX11_whiteOf l11_390 iX11_isWhiteOf, ↓e_getf iX11_whiteOf f11_43, iX11_whiteOf, exec1, ↓p1_e, ↓p2_e, ↓q1_e, ↓q2_e, ↓qi_e, ↓pr_e, ↓pa_e, ↓pa_f, ↓pst_e, ↓qst_e, ↓rst_e, ↓pac_e, ↓pargs_0, ↓pargs_s, ↓gfld_0, ↓gfld_1, ↓gfld_2, ↓gfld_3, ↓pfld_i, ↓pfld_l, ↓pfld_r, ↓sfld_i, ↓sfld_l, ↓sfld_r, brI, pushv, rcv, lget, lset, lset2, isL, rok, szs, List.elem_nil, List.elem_cons, cond_true, cond_false, Option.map_some, beq_self_eq_true, Bool.true_and, Bool.and_true, Bool.false_and, Bool.and_false, Bool.or_false, Bool.false_or, Bool.or_true, Bool.true_or, Nat.reduceAdd, Nat.reduceSub, Nat.reduceMul, Nat.reduceBEq, Nat.reduceEqDiff, Nat.reduceLeDiff, Nat.sub_zero, true_and, and_true, false_and, and_false, true_or, or_true, false_or, or_false, reduceCtorEq, ↓reduceIte, List.getD_cons_zero, List.getD_cons_succ, List.length_cons, List.length_nil, ct_i, ct_r, ct_l, ct_f, ct_n, false_implies, true_implies, y144, hb, nle_f hi (show nb < 2 ^ 31 by omega), not_false_eq_true, true_implies, false_implies, and_true, true_and, not_true_eq_false]
      refine ⟨by omega, k_mIsWhiteOf (by omega) ?_⟩
      cases c : whB (fun f => gi μ (146 + f)) i (nI p) with
      | true =>
        rw [if_pos c] at ih
        refine hZ 400 [4] _ _ _ _ _ _ _ ?_
        simp -implicitDefEqProofs (disch := omega) only [wp_step xX11_whiteOf_19, wp_step xX11_whiteOf_22, wp_step xX11_whiteOf_23, wp_step xX11_whiteOf_26, wp_step xX11_whiteOf_27, wp_step xX11_whiteOf_28, wp_step xX11_whiteOf_31, wp_step xX11_whiteOf_32, wp_step xX11_whiteOf_33, wp_step xX11_whiteOf_34, wp_step xX11_whiteOf_37, ↓e_getf iX11_whiteOf f11_213, ↓e_virt iX11_whiteOf l11_390 iX11_isWhiteOf, ↓e_getf iX11_whiteOf f11_43, iX11_whiteOf, exec1, ↓p1_e, ↓p2_e, ↓q1_e, ↓q2_e, ↓qi_e, ↓pr_e, ↓pa_e, ↓pa_f, ↓pst_e, ↓qst_e, ↓rst_e, ↓pac_e, ↓pargs_0, ↓pargs_s, ↓gfld_0, ↓gfld_1, ↓gfld_2, ↓gfld_3, ↓pfld_i, ↓pfld_l, ↓pfld_r, ↓sfld_i, ↓sfld_l, ↓sfld_r, brI, pushv, rcv, lget, lset, lset2, isL, rok, szs, List.elem_nil, List.elem_cons, cond_true, cond_false, Option.map_some, beq_self_eq_true, Bool.true_and, Bool.and_true, Bool.false_and, Bool.and_false, Bool.or_false, Bool.false_or, Bool.or_true, Bool.true_or, Nat.reduceAdd, Nat.reduceSub, Nat.reduceMul, Nat.reduceBEq, Nat.reduceEqDiff, Nat.reduceLeDiff, Nat.sub_zero, true_and, and_true, false_and, and_false, true_or, or_true, false_or, or_false, reduceCtorEq, ↓reduceIte, List.getD_cons_zero, List.getD_cons_succ, List.length_cons, List.length_nil, ct_i, ct_r, ct_l, ct_f, ct_n, false_implies, true_implies, y144, y145, y146, y147, y148, y149, y150, y151, y152, y153, y154, y155, y156, y157, bNt, vi, nI_clamp, nI_1, show ¬ (1 : Int32) = 0 by decide, not_false_eq_true, true_implies, false_implies, and_true, true_and, not_true_eq_false]
        exact ih
      | false =>
        rw [if_neg (by rw [c]; decide)] at ih
        refine hZ 400 [4] _ _ _ _ _ _ _ ?_
        simp -implicitDefEqProofs (disch := omega) only [wp_step xX11_whiteOf_19, ↓e_getf iX11_whiteOf f11_213, ↓e_virt iX11_whiteOf l11_390 iX11_isWhiteOf, ↓e_getf iX11_whiteOf f11_43, iX11_whiteOf, wp_step xX11_whiteOf_31, wp_step xX11_whiteOf_32, wp_step xX11_whiteOf_33, wp_step xX11_whiteOf_34, wp_step xX11_whiteOf_37, ↓e_getf iX11_whiteOf f11_213, ↓e_virt iX11_whiteOf l11_390 iX11_isWhiteOf, ↓e_getf iX11_whiteOf f11_43, iX11_whiteOf, exec1, ↓p1_e, ↓p2_e, ↓q1_e, ↓q2_e, ↓qi_e, ↓pr_e, ↓pa_e, ↓pa_f, ↓pst_e, ↓qst_e, ↓rst_e, ↓pac_e, ↓pargs_0, ↓pargs_s, ↓gfld_0, ↓gfld_1, ↓gfld_2, ↓gfld_3, ↓pfld_i, ↓pfld_l, ↓pfld_r, ↓sfld_i, ↓sfld_l, ↓sfld_r, brI, pushv, rcv, lget, lset, lset2, isL, rok, szs, List.elem_nil, List.elem_cons, cond_true, cond_false, Option.map_some, beq_self_eq_true, Bool.true_and, Bool.and_true, Bool.false_and, Bool.and_false, Bool.or_false, Bool.false_or, Bool.or_true, Bool.true_or, Nat.reduceAdd, Nat.reduceSub, Nat.reduceMul, Nat.reduceBEq, Nat.reduceEqDiff, Nat.reduceLeDiff, Nat.sub_zero, true_and, and_true, false_and, and_false, true_or, or_true, false_or, or_false, reduceCtorEq, ↓reduceIte, List.getD_cons_zero, List.getD_cons_succ, List.length_cons, List.length_nil, ct_i, ct_r, ct_l, ct_f, ct_n, false_implies, true_implies, bNf, nI_1, not_false_eq_true, true_implies, false_implies, and_true, true_and, not_true_eq_false]
        exact ih
  refine hZ 400 [4, 19] _ _ _ _ _ _ _ ?_
  simp -implicitDefEqProofs (disch := omega) only [wp_step xX11_whiteOf_0, wp_step xX11_whiteOf_1, wp_step xX11_whiteOf_2, wp_step xX11_whiteOf_3, ↓e_getf iX11_whiteOf f11_213, ↓e_virt iX11_whiteOf l11_390 iX11_isWhiteOf, ↓e_getf iX11_whiteOf f11_43, iX11_whiteOf, exec1, ↓p1_e, ↓p2_e, ↓q1_e, ↓q2_e, ↓qi_e, ↓pr_e, ↓pa_e, ↓pa_f, ↓pst_e, ↓qst_e, ↓rst_e, ↓pac_e, ↓pargs_0, ↓pargs_s, ↓gfld_0, ↓gfld_1, ↓gfld_2, ↓gfld_3, ↓pfld_i, ↓pfld_l, ↓pfld_r, ↓sfld_i, ↓sfld_l, ↓sfld_r, brI, pushv, rcv, lget, lset, lset2, isL, rok, szs, List.elem_nil, List.elem_cons, cond_true, cond_false, Option.map_some, beq_self_eq_true, Bool.true_and, Bool.and_true, Bool.false_and, Bool.and_false, Bool.or_false, Bool.false_or, Bool.or_true, Bool.true_or, Nat.reduceAdd, Nat.reduceSub, Nat.reduceMul, Nat.reduceBEq, Nat.reduceEqDiff, Nat.reduceLeDiff, Nat.sub_zero, true_and, and_true, false_and, and_false, true_or, or_true, false_or, or_false, reduceCtorEq, ↓reduceIte, List.getD_cons_zero, List.getD_cons_succ, List.length_cons, List.length_nil, ct_i, ct_r, ct_l, ct_f, ct_n, false_implies, true_implies]
  exact loop 0 (by omega)
def pTi (a j : Nat) : Prop := pK a j ∨ a = 192
theorem pTi_Lo : ∀ a j, pTi a j → Lo a j := fun a j z => by unfold pTi pK pN at z; unfold Lo; omega
set_option maxRecDepth 100000 in
set_option maxHeartbeats 1000000 in
theorem k_mIsTipped {g lim : Int32} (hd : 6 ≤ d) (hW : WM μ nr nb sz n) (h01 : ∀ i, i < nb → gi μ 157 i = 0 ∨ gi μ 157 i = 1) (h : ∀ μ', Fr pTi μ μ' → Q (some (.int (bN (tpB (lawV (fun f => gi μ (30 + f)) sz n) (fun f => gi μ (146 + f)) nr nb (gi μ 144 4) lim g)))) (LAY v) μ' bc bs) : KC G d mX11_isTipped [.ref 144, .int g, .int lim] (LAY v) μ bc bs Q := by
  obtain ⟨w1, w2, hWf, w8, w9, w10⟩ := id hW
  obtain ⟨⟨w3, w4, w5⟩, w6, w7⟩ := id hWf
  refine KC_intro 0 0 kX11_isTipped (by decide) (by decide) (Nat.zero_le _) (Nat.zero_le _) (Nat.le_of_ble_eq_true rfl) (fun Z hZ => ?_)
  show Z 0 [some (.ref 144), some (.int g), some (.int lim), none] [] (LAY v) μ 0 0
  obtain ⟨A, hA⟩ : ∃ A, A = fun f => gi μ (146 + f) := ⟨_, rfl⟩
  have eA : ∀ f j, A f j = gi μ (146 + f) j := fun f j => by rw [hA]
  rw [← hA] at h hWf w7
  have a01 : ∀ i, i < nb → A 11 i = 0 ∨ A 11 i = 1 := fun i hi => by rw [eA]; exact h01 i hi
  -- back as they hung
  have back : ∀ m, ∀ i, i ≤ nb → (∀ μ2, (∀ a j, ¬ (pTi a j ∨ a = 157 ∧ i ≤ j ∧ j < nb) → gi μ2 a j = gi μ a j) → (∀ a j, gl μ2 a j = gl μ a j) → (∀ j, j < nb → gi μ2 192 j = A 11 j) → gi μ2 175 0 = m → Q (some (.int (bN (decide (lim < abI m))))) (LAY v) μ2 bc bs ∨ True → (∀ μ3, Fr pTi μ μ3 → Q (some (.int (bN (decide (lim < abI m))))) (LAY v) μ3 bc bs) → Z 76 [some (.ref 144), some (.int g), some (.int lim), some (.int (nI i))] [] (LAY v) μ2 0 0) := by
    intro m
    refine loopN nb (fun μ2 hF hG hq em _ hQ => ?_) (fun i hi ih μ2 hF hG hq em _ hQ => ?_)
    · have f3 : gi μ2 144 3 = nI nb := (hF _ _ (by unfold pTi pK pN; omega)).trans w2
      have fin := hQ μ2 ⟨fun a j z => hF a j (fun y => by rcases y with y | y; exact z y; omega), hG⟩
      refine hZ 400 [111] _ _ _ _ _ _ _ ?_
      simp -implicitDefEqProofs (disch := omega) only [wp_step xX11_isTipped_76, wp_step xX11_isTipped_77, wp_step xX11_isTipped_78, wp_step xX11_isTipped_81, ↓e_getf iX11_isTipped f11_213, ↓e_getf iX11_isTipped f11_161, ↓e_getf iX11_isTipped f11_55, ↓e_getf iX11_isTipped f11_46, ↓e_getf iX11_isTipped f11_49, ↓e_static iX11_isTipped jn11_491 l11_491 iX11_has, ↓e_virt iX11_isTipped l11_381 iX11_laysLeans, ↓e_getf iX11_isTipped f11_109, ↓e_static iX11_isTipped jn11_414 l11_414 iX11_size, iX11_isTipped, wp_step xX11_isTipped_102, wp_step xX11_isTipped_103, wp_step xX11_isTipped_106, wp_step xX11_isTipped_107, wp_step xX11_isTipped_108, ↓e_getf iX11_isTipped f11_213, ↓e_getf iX11_isTipped f11_161, ↓e_getf iX11_isTipped f11_55, ↓e_getf iX11_isTipped f11_46, ↓e_getf iX11_isTipped f11_49, ↓e_static iX11_isTipped jn11_491 l11_491 iX11_has, ↓e_virt iX11_isTipped l11_381 iX11_laysLeans, ↓e_getf iX11_isTipped f11_109, ↓e_static iX11_isTipped jn11_414 l11_414 iX11_size, iX11_isTipped, exec1, ↓p1_e, ↓p2_e, ↓q1_e, ↓q2_e, ↓qi_e, ↓pr_e, ↓pa_e, ↓pa_f, ↓pst_e, ↓qst_e, ↓rst_e, ↓pac_e, ↓pargs_0, ↓pargs_s, ↓gfld_0, ↓gfld_1, ↓gfld_2, ↓gfld_3, ↓pfld_i, ↓pfld_l, ↓pfld_r, ↓sfld_i, ↓sfld_l, ↓sfld_r, brI, pushv, rcv, lget, lset, lset2, isL, rok, szs, List.elem_nil, List.elem_cons, cond_true, cond_false, Option.map_some, beq_self_eq_true, Bool.true_and, Bool.and_true, Bool.false_and, Bool.and_false, Bool.or_false, Bool.false_or, Bool.or_true, Bool.true_or, Nat.reduceAdd, Nat.reduceSub, Nat.reduceMul, Nat.reduceBEq, Nat.reduceEqDiff, Nat.reduceLeDiff, Nat.sub_zero, true_and, and_true, false_and, and_false, true_or, or_true, false_or, or_false, reduceCtorEq, ↓reduceIte, List.getD_cons_zero, List.getD_cons_succ, List.length_cons, List.length_nil, ct_i, ct_r, ct_l, ct_f, ct_n, false_implies, true_implies, y144, y175, f3, nle_t (show nb < 2 ^ 31 by omega), show vp_in 0 10 from vin (i := 0) (by omega) (by omega), show (0 : Int32).toNatClampNeg = 0 from rfl, em, not_false_eq_true, true_implies, false_implies, and_true, true_and, not_true_eq_false]
      refine ⟨by omega, k_mSize ?_⟩
      refine hZ 400 [] _ _ _ _ _ _ _ ?_
      simp -implicitDefEqProofs (disch := omega) only [wp_step xX11_isTipped_111, wp_step xX11_isTipped_112, wp_step xX11_isTipped_115, wp_step xX11_isTipped_116, wp_step xX11_isTipped_119, wp_step xX11_isTipped_120, ↓e_getf iX11_isTipped f11_213, ↓e_getf iX11_isTipped f11_161, ↓e_getf iX11_isTipped f11_55, ↓e_getf iX11_isTipped f11_46, ↓e_getf iX11_isTipped f11_49, ↓e_static iX11_isTipped jn11_491 l11_491 iX11_has, ↓e_virt iX11_isTipped l11_381 iX11_laysLeans, ↓e_getf iX11_isTipped f11_109, ↓e_static iX11_isTipped jn11_414 l11_414 iX11_size, iX11_isTipped, exec1, ↓p1_e, ↓p2_e, ↓q1_e, ↓q2_e, ↓qi_e, ↓pr_e, ↓pa_e, ↓pa_f, ↓pst_e, ↓qst_e, ↓rst_e, ↓pac_e, ↓pargs_0, ↓pargs_s, ↓gfld_0, ↓gfld_1, ↓gfld_2, ↓gfld_3, ↓pfld_i, ↓pfld_l, ↓pfld_r, ↓sfld_i, ↓sfld_l, ↓sfld_r, brI, pushv, rcv, lget, lset, lset2, isL, rok, szs, List.elem_nil, List.elem_cons, cond_true, cond_false, Option.map_some, beq_self_eq_true, Bool.true_and, Bool.and_true, Bool.false_and, Bool.and_false, Bool.or_false, Bool.false_or, Bool.or_true, Bool.true_or, Nat.reduceAdd, Nat.reduceSub, Nat.reduceMul, Nat.reduceBEq, Nat.reduceEqDiff, Nat.reduceLeDiff, Nat.sub_zero, true_and, and_true, false_and, and_false, true_or, or_true, false_or, or_false, reduceCtorEq, ↓reduceIte, List.getD_cons_zero, List.getD_cons_succ, List.length_cons, List.length_nil, ct_i, ct_r, ct_l, ct_f, ct_n, false_implies, true_implies]
      refine ⟨fun c => ?_, fun c => ?_⟩
      · rw [decide_eq_false (fun z => by rw [i_lt] at z; rw [i_le] at c; omega)] at fin; exact fin
      · rw [decide_eq_true (by rw [i_lt]; rw [i_le] at c; omega)] at fin; exact fin
    · have f3 : gi μ2 144 3 = nI nb := (hF _ _ (by unfold pTi pK pN; omega)).trans w2
      have vi : vp_in (nI i) 40 := vin (by omega) (by omega)
      refine hZ 400 [76] _ _ _ _ _ _ _ ?_
      simp -implicitDefEqProofs (disch := omega) only [wp_step xX11_isTipped_76, wp_step xX11_isTipped_77, wp_step xX11_isTipped_78, wp_step xX11_isTipped_81, wp_step xX11_isTipped_84, wp_step xX11_isTipped_85, wp_step xX11_isTipped_88, wp_step xX11_isTipped_89, wp_step xX11_isTipped_90, wp_step xX11_isTipped_93, wp_step xX11_isTipped_94, wp_step xX11_isTipped_95, wp_step xX11_isTipped_96, wp_step xX11_isTipped_99, ↓e_getf iX11_isTipped f11_213, ↓e_getf iX11_isTipped f11_161, ↓e_getf iX11_isTipped f11_55, ↓e_getf iX11_isTipped f11_46, ↓e_getf iX11_isTipped f11_49, ↓e_static iX11_isTipped jn11_491 l11_491 iX11_has, ↓e_virt iX11_isTipped l11_381 iX11_laysLeans, ↓e_getf iX11_isTipped f11_109, ↓e_static iX11_isTipped jn11_414 l11_414 iX11_size, iX11_isTipped, exec1, ↓p1_e, ↓p2_e, ↓q1_e, ↓q2_e, ↓qi_e, ↓pr_e, ↓pa_e, ↓pa_f, ↓pst_e, ↓qst_e, ↓rst_e, ↓pac_e, ↓pargs_0, ↓pargs_s, ↓gfld_0, ↓gfld_1, ↓gfld_2, ↓gfld_3, ↓pfld_i, ↓pfld_l, ↓pfld_r, ↓sfld_i, ↓sfld_l, ↓sfld_r, brI, pushv, rcv, lget, lset, lset2, isL, rok, szs, List.elem_nil, List.elem_cons, cond_true, cond_false, Option.map_some, beq_self_eq_true, Bool.true_and, Bool.and_true, Bool.false_and, Bool.and_false, Bool.or_false, Bool.false_or, Bool.or_true, Bool.true_or, Nat.reduceAdd, Nat.reduceSub, Nat.reduceMul, Nat.reduceBEq, Nat.reduceEqDiff, Nat.reduceLeDiff, Nat.sub_zero, true_and, and_true, false_and, and_false, true_or, or_true, false_or, or_false, reduceCtorEq, ↓reduceIte, List.getD_cons_zero, List.getD_cons_succ, List.length_cons, List.length_nil, ct_i, ct_r, ct_l, ct_f, ct_n, false_implies, true_implies, y144, y145, y146, y147, y148, y149, y150, y151, y152, y153, y154, y155, y156, y157, y192, f3, nle_f hi (show nb < 2 ^ 31 by omega), vi, nI_clamp, hq i hi, nar01 (a01 i hi), nI_1, not_false_eq_true, true_implies, false_implies, and_true, true_and, not_true_eq_false]
      refine ih _ (fun a j z => ?_) (fun a j => (gl_si).trans (hG a j)) (fun j hj => (gi_si_a (by omega)).trans (hq j hj)) ((gi_si_a (by omega)).trans em) (Or.inr trivial) hQ
      by_cases y : a = 157
      · subst y
        by_cases y2 : j = i
        · subst y2; rw [gi_si, eA]
        · rw [gi_si_k y2]; exact hF _ _ (fun u => z (by rcases u with u | u; exact Or.inl u; exact Or.inr (by omega)))
      · rw [gi_si_a y]; exact hF _ _ (fun u => z (by rcases u with u | u; exact Or.inl u; exact absurd u.1 y))
  -- they take theirs down
  have down : ∀ i, i ≤ nb → (∀ μ1, Fr (fun a _ => a = 157 ∨ a = 192) μ μ1 → (∀ f, f < 12 → gi μ1 (146 + f) = tkA A g i f) → (∀ j, j < i → gi μ1 192 j = A 11 j) → Z 2 [some (.ref 144), some (.int g), some (.int lim), some (.int (nI i))] [] (LAY v) μ1 0 0) := by
    refine loopN nb (fun μ1 hF hT hq => ?_) (fun i hi ih μ1 hF hT hq => ?_)
    · have f3 : gi μ1 144 3 = nI nb := (hF.1 _ _ (by omega)).trans w2
      have hW1 : WM μ1 nr nb sz n := ⟨(hF.1 _ _ (by omega)).trans w1, f3, (tk_wf (g := g) hWf).cong hT, (hF.1 _ _ (by omega)).trans w8, w9, fun q hq => (w10 q hq).cong (fun f hf => funext (fun x => hF.1 _ _ (by omega))) (fun f hf => funext (fun x => hF.1 _ _ (by omega)))⟩
      refine hZ 400 [74] _ _ _ _ _ _ _ ?_
      simp -implicitDefEqProofs (disch := omega) only [wp_step xX11_isTipped_2, wp_step xX11_isTipped_3, wp_step xX11_isTipped_4, wp_step xX11_isTipped_7, ↓e_getf iX11_isTipped f11_213, ↓e_getf iX11_isTipped f11_161, ↓e_getf iX11_isTipped f11_55, ↓e_getf iX11_isTipped f11_46, ↓e_getf iX11_isTipped f11_49, ↓e_static iX11_isTipped jn11_491 l11_491 iX11_has, ↓e_virt iX11_isTipped l11_381 iX11_laysLeans, ↓e_getf iX11_isTipped f11_109, ↓e_static iX11_isTipped jn11_414 l11_414 iX11_size, iX11_isTipped, wp_step xX11_isTipped_70, wp_step xX11_isTipped_71, ↓e_getf iX11_isTipped f11_213, ↓e_getf iX11_isTipped f11_161, ↓e_getf iX11_isTipped f11_55, ↓e_getf iX11_isTipped f11_46, ↓e_getf iX11_isTipped f11_49, ↓e_static iX11_isTipped jn11_491 l11_491 iX11_has, ↓e_virt iX11_isTipped l11_381 iX11_laysLeans, ↓e_getf iX11_isTipped f11_109, ↓e_static iX11_isTipped jn11_414 l11_414 iX11_size, iX11_isTipped, exec1, ↓p1_e, ↓p2_e, ↓q1_e, ↓q2_e, ↓qi_e, ↓pr_e, ↓pa_e, ↓pa_f, ↓pst_e, ↓qst_e, ↓rst_e, ↓pac_e, ↓pargs_0, ↓pargs_s, ↓gfld_0, ↓gfld_1, ↓gfld_2, ↓gfld_3, ↓pfld_i, ↓pfld_l, ↓pfld_r, ↓sfld_i, ↓sfld_l, ↓sfld_r, brI, pushv, rcv, lget, lset, lset2, isL, rok, szs, List.elem_nil, List.elem_cons, cond_true, cond_false, Option.map_some, beq_self_eq_true, Bool.true_and, Bool.and_true, Bool.false_and, Bool.and_false, Bool.or_false, Bool.false_or, Bool.or_true, Bool.true_or, Nat.reduceAdd, Nat.reduceSub, Nat.reduceMul, Nat.reduceBEq, Nat.reduceEqDiff, Nat.reduceLeDiff, Nat.sub_zero, true_and, and_true, false_and, and_false, true_or, or_true, false_or, or_false, reduceCtorEq, ↓reduceIte, List.getD_cons_zero, List.getD_cons_succ, List.length_cons, List.length_nil, ct_i, ct_r, ct_l, ct_f, ct_n, false_implies, true_implies, y144, f3, nle_t (show nb < 2 ^ 31 by omega), not_false_eq_true, true_implies, false_implies, and_true, true_and, not_true_eq_false]
      refine ⟨by omega, k_laysLeans (by omega) hW1 (fun μ2 hF2 _ hl => ?_)⟩
      have e175 : gi μ2 175 0 = lnV (mgI (lawV (fun f => gi μ (30 + f)) sz n) A nr nb (gi μ 144 4) g) (A 2 0) := by
        rw [hl 0 (by omega), WG_fr (A := tkA A g nb) (lawV_fr (A := fun f => gi μ (30 + f)) (fun f hf => funext fun j => hF.1 _ _ (by omega))) hT, hF.1 144 4 (by omega), tk_mg hWf, show gi μ1 148 0 = A 2 0 from (hF.1 _ _ (by omega)).trans (eA 2 0).symm]
      refine hZ 400 [76] _ _ _ _ _ _ _ ?_
      simp -implicitDefEqProofs (disch := omega) only [wp_step xX11_isTipped_74, wp_step xX11_isTipped_75, ↓e_getf iX11_isTipped f11_213, ↓e_getf iX11_isTipped f11_161, ↓e_getf iX11_isTipped f11_55, ↓e_getf iX11_isTipped f11_46, ↓e_getf iX11_isTipped f11_49, ↓e_static iX11_isTipped jn11_491 l11_491 iX11_has, ↓e_virt iX11_isTipped l11_381 iX11_laysLeans, ↓e_getf iX11_isTipped f11_109, ↓e_static iX11_isTipped jn11_414 l11_414 iX11_size, iX11_isTipped, exec1, ↓p1_e, ↓p2_e, ↓q1_e, ↓q2_e, ↓qi_e, ↓pr_e, ↓pa_e, ↓pa_f, ↓pst_e, ↓qst_e, ↓rst_e, ↓pac_e, ↓pargs_0, ↓pargs_s, ↓gfld_0, ↓gfld_1, ↓gfld_2, ↓gfld_3, ↓pfld_i, ↓pfld_l, ↓pfld_r, ↓sfld_i, ↓sfld_l, ↓sfld_r, brI, pushv, rcv, lget, lset, lset2, isL, rok, szs, List.elem_nil, List.elem_cons, cond_true, cond_false, Option.map_some, beq_self_eq_true, Bool.true_and, Bool.and_true, Bool.false_and, Bool.and_false, Bool.or_false, Bool.false_or, Bool.or_true, Bool.true_or, Nat.reduceAdd, Nat.reduceSub, Nat.reduceMul, Nat.reduceBEq, Nat.reduceEqDiff, Nat.reduceLeDiff, Nat.sub_zero, true_and, and_true, false_and, and_false, true_or, or_true, false_or, or_false, reduceCtorEq, ↓reduceIte, List.getD_cons_zero, List.getD_cons_succ, List.length_cons, List.length_nil, ct_i, ct_r, ct_l, ct_f, ct_n, false_implies, true_implies]
      refine back _ 0 (by omega) μ2 (fun a j z => ?_) (fun a j => (hF2.2 a j).trans (hF.2 a j)) (fun j hj => (hF2.1 _ _ (by unfold pK pN; omega)).trans (hq j hj)) e175 (Or.inr trivial) (fun μ3 hF3 => h μ3 hF3)
      rw [hF2.1 a j (fun y => z (Or.inl (Or.inl y)))]
      by_cases y : a = 157
      · subst y
        have x := congrFun (hT 11 (by omega)) j
        rw [show gi μ1 157 j = tkA A g nb 11 j from x]
        unfold tkA
        rw [if_neg (fun u => z (Or.inr ⟨rfl, by omega, u.2⟩)), eA]
      · exact hF.1 a j (fun u => by rcases u with u | u; exact y u; exact z (Or.inl (Or.inr u)))
    · have f3 : gi μ1 144 3 = nI nb := (hF.1 _ _ (by omega)).trans w2
      have vi : vp_in (nI i) 40 := vin (by omega) (by omega)
      obtain ⟨-, -, -, ⟨o, ho, eo⟩, -⟩ := w7 i hi
      have g11 : gi μ1 157 i = A 11 i := (congrFun (hT 11 (by omega)) i).trans (if_neg (fun u => by omega))
      have g8 : gi μ1 154 i = A 8 i := (hF.1 _ _ (by omega)).trans (eA 8 i).symm
      have g9 : gi μ1 155 i = nI o := (hF.1 _ _ (by omega)).trans ((eA 9 i).symm.trans eo)
      have nx : ∀ x : Int32, x = (if A 11 i = 0 ∨ (A 8 i = 0 ∧ bt g o = true) then 0 else 1) → Z 2 [some (.ref 144), some (.int g), some (.int lim), some (.int (nI (i + 1)))] [] (LAY v) (si (si μ1 192 i (A 11 i)) 157 i x) 0 0 := fun x hx => by
        refine ih _ ((hF.si (Or.inr rfl)).si (Or.inl rfl)) (fun f hf => funext fun j => ?_) (fun j hj => ?_)
        · by_cases f11 : f = 11
          · subst f11
            by_cases y : j = i
            · subst y
              rw [gi_si, tk_11 (by omega), eo, nI_clamp (by omega)]; exact hx
            · rw [gi_si_k y, gi_si_a (by omega), congrFun (hT 11 (by omega)) j]
              by_cases u : j < i
              · rw [tk_11 u, tk_11 (by omega)]
              · unfold tkA
                rw [if_neg (show ¬ (11 = 11 ∧ j < i) from fun q => u q.2), if_neg (show ¬ (11 = 11 ∧ j < i + 1) from fun q => by omega)]
          · rw [gi_si_a (by omega), gi_si_a (by omega), congrFun (hT f hf) j, tk_f f11, tk_f f11]
        · rw [gi_si_a (by omega)]
          by_cases y : j = i
          · subst y; rw [gi_si]
          · rw [gi_si_k y]; exact hq j (by omega)
      refine hZ 400 [55, 58, 62] _ _ _ _ _ _ _ ?_
      simp -implicitDefEqProofs (disch := omega) only [wp_step xX11_isTipped_2, wp_step xX11_isTipped_3, wp_step xX11_isTipped_4, wp_step xX11_isTipped_7, wp_step xX11_isTipped_10, wp_step xX11_isTipped_11, wp_step xX11_isTipped_14, wp_step xX11_isTipped_15, wp_step xX11_isTipped_16, wp_step xX11_isTipped_19, wp_step xX11_isTipped_20, wp_step xX11_isTipped_21, wp_step xX11_isTipped_22, wp_step xX11_isTipped_23, wp_step xX11_isTipped_26, wp_step xX11_isTipped_27, wp_step xX11_isTipped_28, wp_step xX11_isTipped_31, wp_step xX11_isTipped_32, wp_step xX11_isTipped_33, wp_step xX11_isTipped_36, wp_step xX11_isTipped_37, wp_step xX11_isTipped_40, wp_step xX11_isTipped_41, wp_step xX11_isTipped_42, wp_step xX11_isTipped_45, wp_step xX11_isTipped_46, wp_step xX11_isTipped_47, wp_step xX11_isTipped_50, wp_step xX11_isTipped_51, wp_step xX11_isTipped_52, ↓e_getf iX11_isTipped f11_213, ↓e_getf iX11_isTipped f11_161, ↓e_getf iX11_isTipped f11_55, ↓e_getf iX11_isTipped f11_46, ↓e_getf iX11_isTipped f11_49, ↓e_static iX11_isTipped jn11_491 l11_491 iX11_has, ↓e_virt iX11_isTipped l11_381 iX11_laysLeans, ↓e_getf iX11_isTipped f11_109, ↓e_static iX11_isTipped jn11_414 l11_414 iX11_size, iX11_isTipped, exec1, ↓p1_e, ↓p2_e, ↓q1_e, ↓q2_e, ↓qi_e, ↓pr_e, ↓pa_e, ↓pa_f, ↓pst_e, ↓qst_e, ↓rst_e, ↓pac_e, ↓pargs_0, ↓pargs_s, ↓gfld_0, ↓gfld_1, ↓gfld_2, ↓gfld_3, ↓pfld_i, ↓pfld_l, ↓pfld_r, ↓sfld_i, ↓sfld_l, ↓sfld_r, brI, pushv, rcv, lget, lset, lset2, isL, rok, szs, List.elem_nil, List.elem_cons, cond_true, cond_false, Option.map_some, beq_self_eq_true, Bool.true_and, Bool.and_true, Bool.false_and, Bool.and_false, Bool.or_false, Bool.false_or, Bool.or_true, Bool.true_or, Nat.reduceAdd, Nat.reduceSub, Nat.reduceMul, Nat.reduceBEq, Nat.reduceEqDiff, Nat.reduceLeDiff, Nat.sub_zero, true_and, and_true, false_and, and_false, true_or, or_true, false_or, or_false, reduceCtorEq, ↓reduceIte, List.getD_cons_zero, List.getD_cons_succ, List.length_cons, List.length_nil, ct_i, ct_r, ct_l, ct_f, ct_n, false_implies, true_implies, y144, y145, y146, y147, y148, y149, y150, y151, y152, y153, y154, y155, y156, y157, y192, f3, nle_f hi (show nb < 2 ^ 31 by omega), vi, nI_clamp, g11, g8, g9, nar01 (a01 i hi), gi_si_a, not_false_eq_true, true_implies, false_implies, and_true, true_and, not_true_eq_false]
      have w62 : (A 11 i = 0 ∨ (A 8 i = 0 ∧ bt g o = true)) → Z 62 [some (.ref 144), some (.int g), some (.int lim), some (.int (nI i))] [.int (nI i), .ref 157] (LAY v) (si μ1 192 i (A 11 i)) 0 0 := fun c => by
        refine hZ 400 [2] _ _ _ _ _ _ _ ?_
        simp -implicitDefEqProofs (disch := omega) only [wp_step xX11_isTipped_62, wp_step xX11_isTipped_63, wp_step xX11_isTipped_64, wp_step xX11_isTipped_67, ↓e_getf iX11_isTipped f11_213, ↓e_getf iX11_isTipped f11_161, ↓e_getf iX11_isTipped f11_55, ↓e_getf iX11_isTipped f11_46, ↓e_getf iX11_isTipped f11_49, ↓e_static iX11_isTipped jn11_491 l11_491 iX11_has, ↓e_virt iX11_isTipped l11_381 iX11_laysLeans, ↓e_getf iX11_isTipped f11_109, ↓e_static iX11_isTipped jn11_414 l11_414 iX11_size, iX11_isTipped, exec1, ↓p1_e, ↓p2_e, ↓q1_e, ↓q2_e, ↓qi_e, ↓pr_e, ↓pa_e, ↓pa_f, ↓pst_e, ↓qst_e, ↓rst_e, ↓pac_e, ↓pargs_0, ↓pargs_s, ↓gfld_0, ↓gfld_1, ↓gfld_2, ↓gfld_3, ↓pfld_i, ↓pfld_l, ↓pfld_r, ↓sfld_i, ↓sfld_l, ↓sfld_r, brI, pushv, rcv, lget, lset, lset2, isL, rok, szs, List.elem_nil, List.elem_cons, cond_true, cond_false, Option.map_some, beq_self_eq_true, Bool.true_and, Bool.and_true, Bool.false_and, Bool.and_false, Bool.or_false, Bool.false_or, Bool.or_true, Bool.true_or, Nat.reduceAdd, Nat.reduceSub, Nat.reduceMul, Nat.reduceBEq, Nat.reduceEqDiff, Nat.reduceLeDiff, Nat.sub_zero, true_and, and_true, false_and, and_false, true_or, or_true, false_or, or_false, reduceCtorEq, ↓reduceIte, List.getD_cons_zero, List.getD_cons_succ, List.length_cons, List.length_nil, ct_i, ct_r, ct_l, ct_f, ct_n, false_implies, true_implies, y144, y145, y146, y147, y148, y149, y150, y151, y152, y153, y154, y155, y156, y157, vi, nI_clamp, nar0, nI_1, not_false_eq_true, true_implies, false_implies, and_true, true_and, not_true_eq_false]
        exact nx 0 (by rw [if_pos c])
      have w58 : ¬ (A 11 i = 0 ∨ (A 8 i = 0 ∧ bt g o = true)) → Z 58 [some (.ref 144), some (.int g), some (.int lim), some (.int (nI i))] [.int (nI i), .ref 157] (LAY v) (si μ1 192 i (A 11 i)) 0 0 := fun c => by
        refine hZ 400 [2] _ _ _ _ _ _ _ ?_
        simp -implicitDefEqProofs (disch := omega) only [wp_step xX11_isTipped_58, wp_step xX11_isTipped_59, ↓e_getf iX11_isTipped f11_213, ↓e_getf iX11_isTipped f11_161, ↓e_getf iX11_isTipped f11_55, ↓e_getf iX11_isTipped f11_46, ↓e_getf iX11_isTipped f11_49, ↓e_static iX11_isTipped jn11_491 l11_491 iX11_has, ↓e_virt iX11_isTipped l11_381 iX11_laysLeans, ↓e_getf iX11_isTipped f11_109, ↓e_static iX11_isTipped jn11_414 l11_414 iX11_size, iX11_isTipped, wp_step xX11_isTipped_63, wp_step xX11_isTipped_64, wp_step xX11_isTipped_67, ↓e_getf iX11_isTipped f11_213, ↓e_getf iX11_isTipped f11_161, ↓e_getf iX11_isTipped f11_55, ↓e_getf iX11_isTipped f11_46, ↓e_getf iX11_isTipped f11_49, ↓e_static iX11_isTipped jn11_491 l11_491 iX11_has, ↓e_virt iX11_isTipped l11_381 iX11_laysLeans, ↓e_getf iX11_isTipped f11_109, ↓e_static iX11_isTipped jn11_414 l11_414 iX11_size, iX11_isTipped, exec1, ↓p1_e, ↓p2_e, ↓q1_e, ↓q2_e, ↓qi_e, ↓pr_e, ↓pa_e, ↓pa_f, ↓pst_e, ↓qst_e, ↓rst_e, ↓pac_e, ↓pargs_0, ↓pargs_s, ↓gfld_0, ↓gfld_1, ↓gfld_2, ↓gfld_3, ↓pfld_i, ↓pfld_l, ↓pfld_r, ↓sfld_i, ↓sfld_l, ↓sfld_r, brI, pushv, rcv, lget, lset, lset2, isL, rok, szs, List.elem_nil, List.elem_cons, cond_true, cond_false, Option.map_some, beq_self_eq_true, Bool.true_and, Bool.and_true, Bool.false_and, Bool.and_false, Bool.or_false, Bool.false_or, Bool.or_true, Bool.true_or, Nat.reduceAdd, Nat.reduceSub, Nat.reduceMul, Nat.reduceBEq, Nat.reduceEqDiff, Nat.reduceLeDiff, Nat.sub_zero, true_and, and_true, false_and, and_false, true_or, or_true, false_or, or_false, reduceCtorEq, ↓reduceIte, List.getD_cons_zero, List.getD_cons_succ, List.length_cons, List.length_nil, ct_i, ct_r, ct_l, ct_f, ct_n, false_implies, true_implies, y144, y145, y146, y147, y148, y149, y150, y151, y152, y153, y154, y155, y156, y157, vi, nI_clamp, nar1, nI_1, not_false_eq_true, true_implies, false_implies, and_true, true_and, not_true_eq_false]
        exact nx 1 (by rw [if_neg c])
      refine ⟨fun c1 => w62 (Or.inl c1), fun c1 => ⟨fun c2 => w58 (fun z => by rcases z with z | z; exact c1 z; exact c2 z.1), fun c2 => ⟨by omega, k_mHas (by omega) ?_⟩⟩⟩
      cases cb : bt g o with
      | true =>
        refine hZ 400 [62] _ _ _ _ _ _ _ ?_
        simp -implicitDefEqProofs (disch := omega) only [wp_step xX11_isTipped_55, ↓e_getf iX11_isTipped f11_213, ↓e_getf iX11_isTipped f11_161, ↓e_getf iX11_isTipped f11_55, ↓e_getf iX11_isTipped f11_46, ↓e_getf iX11_isTipped f11_49, ↓e_static iX11_isTipped jn11_491 l11_491 iX11_has, ↓e_virt iX11_isTipped l11_381 iX11_laysLeans, ↓e_getf iX11_isTipped f11_109, ↓e_static iX11_isTipped jn11_414 l11_414 iX11_size, iX11_isTipped, exec1, ↓p1_e, ↓p2_e, ↓q1_e, ↓q2_e, ↓qi_e, ↓pr_e, ↓pa_e, ↓pa_f, ↓pst_e, ↓qst_e, ↓rst_e, ↓pac_e, ↓pargs_0, ↓pargs_s, ↓gfld_0, ↓gfld_1, ↓gfld_2, ↓gfld_3, ↓pfld_i, ↓pfld_l, ↓pfld_r, ↓sfld_i, ↓sfld_l, ↓sfld_r, brI, pushv, rcv, lget, lset, lset2, isL, rok, szs, List.elem_nil, List.elem_cons, cond_true, cond_false, Option.map_some, beq_self_eq_true, Bool.true_and, Bool.and_true, Bool.false_and, Bool.and_false, Bool.or_false, Bool.false_or, Bool.or_true, Bool.true_or, Nat.reduceAdd, Nat.reduceSub, Nat.reduceMul, Nat.reduceBEq, Nat.reduceEqDiff, Nat.reduceLeDiff, Nat.sub_zero, true_and, and_true, false_and, and_false, true_or, or_true, false_or, or_false, reduceCtorEq, ↓reduceIte, List.getD_cons_zero, List.getD_cons_succ, List.length_cons, List.length_nil, ct_i, ct_r, ct_l, ct_f, ct_n, false_implies, true_implies, bNt, show ¬ (1 : Int32) = 0 by decide, not_false_eq_true, true_implies, false_implies, and_true, true_and, not_true_eq_false]
        exact w62 (Or.inr ⟨c2, cb⟩)
      | false =>
        refine hZ 400 [58] _ _ _ _ _ _ _ ?_
        simp -implicitDefEqProofs (disch := omega) only [wp_step xX11_isTipped_55, ↓e_getf iX11_isTipped f11_213, ↓e_getf iX11_isTipped f11_161, ↓e_getf iX11_isTipped f11_55, ↓e_getf iX11_isTipped f11_46, ↓e_getf iX11_isTipped f11_49, ↓e_static iX11_isTipped jn11_491 l11_491 iX11_has, ↓e_virt iX11_isTipped l11_381 iX11_laysLeans, ↓e_getf iX11_isTipped f11_109, ↓e_static iX11_isTipped jn11_414 l11_414 iX11_size, iX11_isTipped, exec1, ↓p1_e, ↓p2_e, ↓q1_e, ↓q2_e, ↓qi_e, ↓pr_e, ↓pa_e, ↓pa_f, ↓pst_e, ↓qst_e, ↓rst_e, ↓pac_e, ↓pargs_0, ↓pargs_s, ↓gfld_0, ↓gfld_1, ↓gfld_2, ↓gfld_3, ↓pfld_i, ↓pfld_l, ↓pfld_r, ↓sfld_i, ↓sfld_l, ↓sfld_r, brI, pushv, rcv, lget, lset, lset2, isL, rok, szs, List.elem_nil, List.elem_cons, cond_true, cond_false, Option.map_some, beq_self_eq_true, Bool.true_and, Bool.and_true, Bool.false_and, Bool.and_false, Bool.or_false, Bool.false_or, Bool.or_true, Bool.true_or, Nat.reduceAdd, Nat.reduceSub, Nat.reduceMul, Nat.reduceBEq, Nat.reduceEqDiff, Nat.reduceLeDiff, Nat.sub_zero, true_and, and_true, false_and, and_false, true_or, or_true, false_or, or_false, reduceCtorEq, ↓reduceIte, List.getD_cons_zero, List.getD_cons_succ, List.length_cons, List.length_nil, ct_i, ct_r, ct_l, ct_f, ct_n, false_implies, true_implies, bNf, not_false_eq_true, true_implies, false_implies, and_true, true_and, not_true_eq_false]
        exact w58 (fun z => by rcases z with z | z; exact c1 z; rw [cb] at z; exact absurd z.2 (by decide))
  refine hZ 400 [2] _ _ _ _ _ _ _ ?_
  simp -implicitDefEqProofs (disch := omega) only [wp_step xX11_isTipped_0, wp_step xX11_isTipped_1, ↓e_getf iX11_isTipped f11_213, ↓e_getf iX11_isTipped f11_161, ↓e_getf iX11_isTipped f11_55, ↓e_getf iX11_isTipped f11_46, ↓e_getf iX11_isTipped f11_49, ↓e_static iX11_isTipped jn11_491 l11_491 iX11_has, ↓e_virt iX11_isTipped l11_381 iX11_laysLeans, ↓e_getf iX11_isTipped f11_109, ↓e_static iX11_isTipped jn11_414 l11_414 iX11_size, iX11_isTipped, exec1, ↓p1_e, ↓p2_e, ↓q1_e, ↓q2_e, ↓qi_e, ↓pr_e, ↓pa_e, ↓pa_f, ↓pst_e, ↓qst_e, ↓rst_e, ↓pac_e, ↓pargs_0, ↓pargs_s, ↓gfld_0, ↓gfld_1, ↓gfld_2, ↓gfld_3, ↓pfld_i, ↓pfld_l, ↓pfld_r, ↓sfld_i, ↓sfld_l, ↓sfld_r, brI, pushv, rcv, lget, lset, lset2, isL, rok, szs, List.elem_nil, List.elem_cons, cond_true, cond_false, Option.map_some, beq_self_eq_true, Bool.true_and, Bool.and_true, Bool.false_and, Bool.and_false, Bool.or_false, Bool.false_or, Bool.or_true, Bool.true_or, Nat.reduceAdd, Nat.reduceSub, Nat.reduceMul, Nat.reduceBEq, Nat.reduceEqDiff, Nat.reduceLeDiff, Nat.sub_zero, true_and, and_true, false_and, and_false, true_or, or_true, false_or, or_false, reduceCtorEq, ↓reduceIte, List.getD_cons_zero, List.getD_cons_succ, List.length_cons, List.length_nil, ct_i, ct_r, ct_l, ct_f, ct_n, false_implies, true_implies]
  refine down 0 (by omega) μ Fr.rf (fun f hf => funext fun j => ?_) (fun j h => absurd h (by omega))
  unfold tkA
  rw [if_neg (fun z => by omega), eA]
end MRN
