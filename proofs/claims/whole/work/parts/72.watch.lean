/-- how many rods below r are seen -/
def plc (A : Nat → Nat → Int32) : Nat → Nat
  | 0 => 0
  | r + 1 => plc A r + if snB A r = true then 1 else 0
theorem plc_mono {A : Nat → Nat → Int32} {r s : Nat} (h : r ≤ s) : plc A r ≤ plc A s := by
  induction s with
  | zero => rw [show r = 0 by omega]; exact Nat.le_refl _
  | succ s ih =>
    by_cases e : r = s + 1
    · rw [e]; exact Nat.le_refl _
    · have := ih (by omega); rw [plc]; omega
theorem plc_le {A : Nat → Nat → Int32} {r : Nat} : plc A r ≤ r := by
  induction r with
  | zero => exact Nat.le_refl _
  | succ r ih => rw [plc]; split <;> omega
theorem snB_t {A : Nat → Nat → Int32} {r : Nat} (h : ¬ A 3 r = 0) : snB A r = true := by unfold snB; rw [decide_eq_false h]; rfl
theorem snB_f {A : Nat → Nat → Int32} {r : Nat} (h : A 3 r = 0) : snB A r = false := by unfold snB; rw [decide_eq_true h]; rfl
theorem rch9 : ∀ b, b < 256 → ((-9 ≤ nI b - 9 ∧ nI b - 9 ≤ 9) ↔ nI b ≤ 18) := by decide +kernel
def cL (LV : (Nat → Int32) → Bool → Int32) (A : Nat → Nat → Int32) (w : Int32) (i : Nat) (l : Int32) (r : Nat) : Int32 := ctr A (A 5 i).toNatClampNeg (A 6 i) (hvL LV A w i l true - hvA LV A w i true) (hvL LV A w i l false - hvA LV A w i false) r
/-- no rod beside it leans otherwise than told -/
def qB (LV : (Nat → Int32) → Bool → Int32) (A : Nat → Nat → Int32) (nr nb : Nat) (w : Int32) (T : Nat → Int32) (i : Nat) : Bool := !decide (A 11 i = 0) && !anB (fun r => !onC A 10 (A 5 i).toNatClampNeg r && (snB A r && !decide (lnV (mo0 LV A nr nb w r) (A 2 r) = T r))) nr
def mbB (LV : (Nat → Int32) → Bool → Int32) (A : Nat → Nat → Int32) (nr nb : Nat) (w : Int32) (T : Nat → Int32) (i : Nat) (l : Int32) : Bool := qB LV A nr nb w T i && !decide (A 7 i = l) && !anB (fun r => onC A 10 (A 5 i).toNatClampNeg r && (snB A r && !decide (lnV (mo0 LV A nr nb w r + cL LV A w i l r) (A 2 r) = T r))) nr
/-- so long, it gives the picture that is told -/
def fB (LV : (Nat → Int32) → Bool → Int32) (A : Nat → Nat → Int32) (nr nb : Nat) (w : Int32) (T : Nat → Int32) (i : Nat) (l : Int32) : Bool := !decide (A 11 i = 0) && !decide (A 7 i = l) && !anB (fun r => snB A r && !decide (lnV (mo0 LV A nr nb w r + cL LV A w i l r) (A 2 r) = T r)) nr
theorem anB_or {p q : Nat → Bool} : ∀ {n : Nat}, anB (fun r => p r || q r) n = (anB p n || anB q n)
  | 0 => rfl
  | n + 1 => by rw [anB, anB, anB, anB_or]; cases anB p n <;> cases anB q n <;> cases p n <;> cases q n <;> rfl
theorem mbB_f {LV : (Nat → Int32) → Bool → Int32} {A : Nat → Nat → Int32} {nr nb i : Nat} {w l : Int32} {T : Nat → Int32} (hW : WFd A nr nb) (hi : i < nb) : mbB LV A nr nb w T i l = fB LV A nr nb w T i l := by
  obtain ⟨⟨n1, n2, n3⟩, q2, q3⟩ := id hW
  obtain ⟨⟨q, hq, eq⟩, -⟩ := q3 i hi
  unfold mbB fB qB
  have e : anB (fun r => snB A r && !decide (lnV (mo0 LV A nr nb w r + cL LV A w i l r) (A 2 r) = T r)) nr = (anB (fun r => !onC A 10 (A 5 i).toNatClampNeg r && (snB A r && !decide (lnV (mo0 LV A nr nb w r) (A 2 r) = T r))) nr || anB (fun r => onC A 10 (A 5 i).toNatClampNeg r && (snB A r && !decide (lnV (mo0 LV A nr nb w r + cL LV A w i l r) (A 2 r) = T r))) nr) := by
    rw [← anB_or]
    refine anB_cong (fun r hr => ?_)
    cases c : onC A 10 (A 5 i).toNatClampNeg r with
    | true => rfl
    | false =>
      have c0 : cL LV A w i l r = 0 := by
        unfold cL
        rw [eq, nI_clamp (by omega)] at c ⊢
        exact ctr_off hW.on n2 hq c
      rw [c0, Int32.add_zero, Bool.false_and, Bool.or_false]
      rfl
  rw [e]
  generalize anB (fun r => !onC A 10 (A 5 i).toNatClampNeg r && (snB A r && !decide (lnV (mo0 LV A nr nb w r) (A 2 r) = T r))) nr = x
  generalize anB (fun r => onC A 10 (A 5 i).toNatClampNeg r && (snB A r && !decide (lnV (mo0 LV A nr nb w r + cL LV A w i l r) (A 2 r) = T r))) nr = y
  cases x <;> cases y <;> cases decide (A 11 i = 0) <;> cases decide (A 7 i = l) <;> rfl
def pAsk (a j : Nat) : Prop := a = 35 ∨ pL a j
theorem pAsk_Sf : ∀ a j, pAsk a j → Sf a j := fun a j z => by unfold pAsk pL at z; unfold Sf; omega
def WSt (μ : Mem) (A : Nat → Nat → Int32) (LV : (Nat → Int32) → Bool → Int32) (nr nb sz n : Nat) (w : Int32) (T : Nat → Int32) : Prop := WC μ nr nb sz n ∧ (∀ f, f < 12 → gi μ (4 + f) = A f) ∧ lawV (fun f => gi μ (30 + f)) sz n = LV ∧ gi μ 3 14 = w ∧ (∀ x, x < nr → gi μ 50 x = mo0 LV A nr nb w x) ∧ (∀ j, j < nb → ¬ A 11 j = 0 → gi μ 47 j = hvA LV A w j true ∧ gi μ 48 j = hvA LV A w j false) ∧ (∀ r, gi μ 126 r = T r) ∧ ∀ i, i < nb → bl (gl μ 125 7) i = qB LV A nr nb w T i
theorem WSt.fr {μ μ' : Mem} {A : Nat → Nat → Int32} {LV : (Nat → Int32) → Bool → Int32} {nr nb sz n : Nat} {w : Int32} {T : Nat → Int32} (h : Fr pAsk μ μ') (q : WSt μ A LV nr nb sz n w T) : WSt μ' A LV nr nb sz n w T := by
  obtain ⟨q1, q2, q3, q4, q5, q6, q7, q8⟩ := q
  have e : ∀ a j, ¬ pAsk a j → gi μ' a j = gi μ a j := h.1
  refine ⟨q1.fr h pAsk_Sf, fun f hf => (fr_A h pAsk_Sf f hf).trans (q2 f hf), (lawV_fr (fr_W h pAsk_Sf)).trans q3, (e _ _ (by unfold pAsk pL; omega)).trans q4, fun x hx => (e _ _ (by unfold pAsk pL; omega)).trans (q5 x hx), fun j hj c => ?_, fun r => (e _ _ (by unfold pAsk pL; omega)).trans (q7 r), fun i hi => by rw [h.2]; exact q8 i hi⟩
  rw [e 47 j (by unfold pAsk pL; omega), e 48 j (by unfold pAsk pL; omega)]; exact q6 j hj c
theorem yW (v : Nat) : (LAY v)[125]? = some (15, 10, [some 3, some 29, some 46, some 126, if v = 0 then none else some 206, if v = 2 then some 207 else none, none, none, none, none]) := y125 v
section WAT
variable {G : Gx} {d v : Nat} {μ : Mem} {bc bs : Nat} {Q : Option Value → List Sh → Mem → Nat → Nat → Prop}
set_option maxRecDepth 100000 in
set_option maxHeartbeats 1000000 in
theorem k_seenRods {nr : Nat} (hr : (gi μ 3 12) = nI nr) (hn : nr ≤ 10) (h : Q (some (.int (nI (plc (fun f => gi μ (4 + f)) nr)))) (LAY v) μ bc bs) : KC G d mX3_seenRods [.ref 3] (LAY v) μ bc bs Q := by
  refine KC_intro 0 0 kX3_seenRods (by decide) (by decide) (Nat.zero_le _) (Nat.zero_le _) (Nat.le_of_ble_eq_true rfl) (fun Z hZ => ?_)
  show Z 0 [some (.ref 3), none, none] [] (LAY v) μ 0 0
  have loop : ∀ r, r ≤ nr → Z 4 [some (.ref 3), some (.int (nI (plc (fun f => gi μ (4 + f)) r))), some (.int (nI r))] [] (LAY v) μ 0 0 := by
    refine loopN nr ?_ (fun r hrr ih => ?_)
    · refine hZ 400 [4] _ _ _ _ _ _ _ ?_
      simp -implicitDefEqProofs (disch := omega) only [wp_step xX3_seenRods_4, wp_step xX3_seenRods_5, wp_step xX3_seenRods_6, wp_step xX3_seenRods_9, wp_step xX3_seenRods_12, wp_step xX3_seenRods_13, wp_step xX3_seenRods_16, wp_step xX3_seenRods_17, wp_step xX3_seenRods_18, wp_step xX3_seenRods_21, wp_step xX3_seenRods_24, wp_step xX3_seenRods_27, wp_step xX3_seenRods_30, wp_step xX3_seenRods_31, ↓e_getf iX3_seenRods f3_49, ↓e_getf iX3_seenRods f3_21, iX3_seenRods, exec1, ↓p1_e, ↓p2_e, ↓q1_e, ↓q2_e, ↓qi_e, ↓pr_e, ↓pa_e, ↓pa_f, ↓pst_e, ↓qst_e, ↓rst_e, ↓pac_e, ↓pargs_0, ↓pargs_s, ↓gfld_0, ↓gfld_1, ↓gfld_2, ↓gfld_3, ↓pfld_i, ↓pfld_l, ↓pfld_r, ↓sfld_i, ↓sfld_l, ↓sfld_r, brI, pushv, rcv, lget, lset, lset2, isL, rok, szs, List.elem_nil, List.elem_cons, cond_true, cond_false, Option.map_some, beq_self_eq_true, Bool.true_and, Bool.and_true, Bool.false_and, Bool.and_false, Bool.or_false, Bool.false_or, Bool.or_true, Bool.true_or, Nat.reduceAdd, Nat.reduceSub, Nat.reduceMul, Nat.reduceBEq, Nat.reduceEqDiff, Nat.reduceLeDiff, Nat.sub_zero, true_and, and_true, false_and, and_false, true_or, or_true, false_or, or_false, reduceCtorEq, ↓reduceIte, List.getD_cons_zero, List.getD_cons_succ, List.length_cons, List.length_nil, ct_i, ct_r, ct_l, ct_f, ct_n, false_implies, true_implies, y3, y4, y5, y6, y7, y8, y9, y10, y11, y12, y13, y14, y15, hr, nle_t (show nr < 2 ^ 31 by omega), not_false_eq_true, true_implies, false_implies, and_true, true_and, not_true_eq_false]
      exact h
    · have vr : vp_in (nI r) 10 := vin (by omega) (by omega)
      rw [plc] at ih
      refine hZ 400 [4] _ _ _ _ _ _ _ ?_
      simp -implicitDefEqProofs (disch := omega) only [wp_step xX3_seenRods_4, wp_step xX3_seenRods_5, wp_step xX3_seenRods_6, wp_step xX3_seenRods_9, wp_step xX3_seenRods_12, wp_step xX3_seenRods_13, wp_step xX3_seenRods_16, wp_step xX3_seenRods_17, wp_step xX3_seenRods_18, wp_step xX3_seenRods_21, wp_step xX3_seenRods_24, wp_step xX3_seenRods_27, wp_step xX3_seenRods_30, wp_step xX3_seenRods_31, ↓e_getf iX3_seenRods f3_49, ↓e_getf iX3_seenRods f3_21, iX3_seenRods, exec1, ↓p1_e, ↓p2_e, ↓q1_e, ↓q2_e, ↓qi_e, ↓pr_e, ↓pa_e, ↓pa_f, ↓pst_e, ↓qst_e, ↓rst_e, ↓pac_e, ↓pargs_0, ↓pargs_s, ↓gfld_0, ↓gfld_1, ↓gfld_2, ↓gfld_3, ↓pfld_i, ↓pfld_l, ↓pfld_r, ↓sfld_i, ↓sfld_l, ↓sfld_r, brI, pushv, rcv, lget, lset, lset2, isL, rok, szs, List.elem_nil, List.elem_cons, cond_true, cond_false, Option.map_some, beq_self_eq_true, Bool.true_and, Bool.and_true, Bool.false_and, Bool.and_false, Bool.or_false, Bool.false_or, Bool.or_true, Bool.true_or, Nat.reduceAdd, Nat.reduceSub, Nat.reduceMul, Nat.reduceBEq, Nat.reduceEqDiff, Nat.reduceLeDiff, Nat.sub_zero, true_and, and_true, false_and, and_false, true_or, or_true, false_or, or_false, reduceCtorEq, ↓reduceIte, List.getD_cons_zero, List.getD_cons_succ, List.length_cons, List.length_nil, ct_i, ct_r, ct_l, ct_f, ct_n, false_implies, true_implies, y3, y4, y5, y6, y7, y8, y9, y10, y11, y12, y13, y14, y15, hr, nle_f hrr (show nr < 2 ^ 31 by omega), vr, nI_clamp, nI_1, not_false_eq_true, true_implies, false_implies, and_true, true_and, not_true_eq_false]
      refine ⟨fun c => ?_, fun c => ?_⟩
      · rw [if_neg (by rw [snB_f (A := fun f => gi μ (4 + f)) c]; decide)] at ih; exact ih
      · rw [if_pos (snB_t (A := fun f => gi μ (4 + f)) c)] at ih; exact ih
  refine hZ 400 [4] _ _ _ _ _ _ _ ?_
  simp -implicitDefEqProofs (disch := omega) only [wp_step xX3_seenRods_0, wp_step xX3_seenRods_1, wp_step xX3_seenRods_2, wp_step xX3_seenRods_3, ↓e_getf iX3_seenRods f3_49, ↓e_getf iX3_seenRods f3_21, iX3_seenRods, exec1, ↓p1_e, ↓p2_e, ↓q1_e, ↓q2_e, ↓qi_e, ↓pr_e, ↓pa_e, ↓pa_f, ↓pst_e, ↓qst_e, ↓rst_e, ↓pac_e, ↓pargs_0, ↓pargs_s, ↓gfld_0, ↓gfld_1, ↓gfld_2, ↓gfld_3, ↓pfld_i, ↓pfld_l, ↓pfld_r, ↓sfld_i, ↓sfld_l, ↓sfld_r, brI, pushv, rcv, lget, lset, lset2, isL, rok, szs, List.elem_nil, List.elem_cons, cond_true, cond_false, Option.map_some, beq_self_eq_true, Bool.true_and, Bool.and_true, Bool.false_and, Bool.and_false, Bool.or_false, Bool.false_or, Bool.or_true, Bool.true_or, Nat.reduceAdd, Nat.reduceSub, Nat.reduceMul, Nat.reduceBEq, Nat.reduceEqDiff, Nat.reduceLeDiff, Nat.sub_zero, true_and, and_true, false_and, and_false, true_or, or_true, false_or, or_false, reduceCtorEq, ↓reduceIte, List.getD_cons_zero, List.getD_cons_succ, List.length_cons, List.length_nil, ct_i, ct_r, ct_l, ct_f, ct_n, false_implies, true_implies]
  exact loop 0 (by omega)
def p126 (a _ : Nat) : Prop := a = 126
set_option maxRecDepth 100000 in
set_option maxHeartbeats 1000000 in
theorem k_readPicture {nr ts : Nat} (hd : 2 ≤ d) (hr : (gi μ 3 12) = nI nr) (hn : nr ≤ 10) (hs : (gi μ 1 1) = nI ts) (hts : ts ≤ 220) (hp : plc (fun f => gi μ (4 + f)) nr ≤ ts) (hb : ∀ j, j < ts → ∃ b, b < 256 ∧ (gi μ 2 (j)) = nI b)
    (h0 : anB (fun k => !decide (gi μ 2 k ≤ 18)) (plc (fun f => gi μ (4 + f)) nr) = true → ∀ μ', Fr p126 μ μ' → Q (some (.int 0)) (LAY v) μ' bc bs)
    (h1 : anB (fun k => !decide (gi μ 2 k ≤ 18)) (plc (fun f => gi μ (4 + f)) nr) = false → ∀ μ', Fr p126 μ μ' → (∀ r, r < nr → snB (fun f => gi μ (4 + f)) r = true → gi μ' 126 r = gi μ 2 (plc (fun f => gi μ (4 + f)) r) - 9) → Q (some (.int 1)) (LAY v) μ' bc bs) : KC G d mX9_readPicture [.ref 125, .ref 1] (LAY v) μ bc bs Q := by
  refine KC_intro 0 0 kX9_readPicture (by decide) (by decide) (Nat.zero_le _) (Nat.zero_le _) (Nat.le_of_ble_eq_true rfl) (fun Z hZ => ?_)
  show Z 0 [some (.ref 125), some (.ref 1), none, none] [] (LAY v) μ 0 0
  obtain ⟨A, hA⟩ : ∃ A, A = fun f => gi μ (4 + f) := ⟨_, rfl⟩
  rw [← hA] at hp h0 h1
  have a3 : ∀ r, A 3 r = gi μ 7 r := fun r => by rw [hA]
  obtain ⟨p, hpp⟩ : ∃ p : Nat → Bool, p = fun k => !decide (gi μ 2 k ≤ 18) := ⟨_, rfl⟩
  rw [← hpp] at h0 h1
  have pe : ∀ k, p k = !decide (gi μ 2 k ≤ 18) := fun k => by rw [hpp]
  have loop : ∀ r, r ≤ nr → (∀ μ1, Fr p126 μ μ1 → (∀ k, k < plc A r → p k = false) → (∀ x, x < r → snB A x = true → gi μ1 126 x = gi μ 2 (plc A x) - 9) → Z 4 [some (.ref 125), some (.ref 1), some (.int (nI (plc A r))), some (.int (nI r))] [] (LAY v) μ1 0 0) := by
    refine loopN nr (fun μ1 hF q1 q2 => ?_) (fun r hrr ih μ1 hF q1 q2 => ?_)
    · have f12 : gi μ1 3 12 = nI nr := (hF.1 _ _ (by unfold p126; omega)).trans hr
      refine hZ 400 [4, 37, 53] _ _ _ _ _ _ _ ?_
      simp -implicitDefEqProofs (disch := omega) only [wp_step xX9_readPicture_4, wp_step xX9_readPicture_5, wp_step xX9_readPicture_6, wp_step xX9_readPicture_9, wp_step xX9_readPicture_12, ↓e_getf iX9_readPicture f9_15, ↓e_getf iX9_readPicture f9_27, ↓e_getf iX9_readPicture f9_33, ↓e_getf iX9_readPicture f9_9, ↓e_virt iX9_readPicture l9_37 iX8_byteAt, ↓e_static iX9_readPicture jn9_43 l9_43 iX10_reaches, iX9_readPicture, wp_step xX9_readPicture_64, wp_step xX9_readPicture_65, ↓e_getf iX9_readPicture f9_15, ↓e_getf iX9_readPicture f9_27, ↓e_getf iX9_readPicture f9_33, ↓e_getf iX9_readPicture f9_9, ↓e_virt iX9_readPicture l9_37 iX8_byteAt, ↓e_static iX9_readPicture jn9_43 l9_43 iX10_reaches, iX9_readPicture, exec1, ↓p1_e, ↓p2_e, ↓q1_e, ↓q2_e, ↓qi_e, ↓pr_e, ↓pa_e, ↓pa_f, ↓pst_e, ↓qst_e, ↓rst_e, ↓pac_e, ↓pargs_0, ↓pargs_s, ↓gfld_0, ↓gfld_1, ↓gfld_2, ↓gfld_3, ↓pfld_i, ↓pfld_l, ↓pfld_r, ↓sfld_i, ↓sfld_l, ↓sfld_r, brI, pushv, rcv, lget, lset, lset2, isL, rok, szs, List.elem_nil, List.elem_cons, cond_true, cond_false, Option.map_some, beq_self_eq_true, Bool.true_and, Bool.and_true, Bool.false_and, Bool.and_false, Bool.or_false, Bool.false_or, Bool.or_true, Bool.true_or, Nat.reduceAdd, Nat.reduceSub, Nat.reduceMul, Nat.reduceBEq, Nat.reduceEqDiff, Nat.reduceLeDiff, Nat.sub_zero, true_and, and_true, false_and, and_false, true_or, or_true, false_or, or_false, reduceCtorEq, ↓reduceIte, List.getD_cons_zero, List.getD_cons_succ, List.length_cons, List.length_nil, ct_i, ct_r, ct_l, ct_f, ct_n, false_implies, true_implies, y3, y4, y5, y6, y7, y8, y9, y10, y11, y12, y13, y14, y15, yW, y126, f12, nle_t (show nr < 2 ^ 31 by omega), not_false_eq_true, true_implies, false_implies, and_true, true_and, not_true_eq_false]
      exact h1 (anB_f q1) μ1 hF q2
    · have vr : vp_in (nI r) 10 := vin (by omega) (by omega)
      have f12 : gi μ1 3 12 = nI nr := (hF.1 _ _ (by unfold p126; omega)).trans hr
      have f7 : gi μ1 7 r = A 3 r := (hF.1 _ _ (by unfold p126; omega)).trans (a3 r).symm
      have hs1 : gi μ1 1 1 = nI ts := (hF.1 _ _ (by unfold p126; omega)).trans hs
      rw [plc] at ih
      refine hZ 400 [37, 53, 58] _ _ _ _ _ _ _ ?_
      simp -implicitDefEqProofs (disch := omega) only [wp_step xX9_readPicture_4, wp_step xX9_readPicture_5, wp_step xX9_readPicture_6, wp_step xX9_readPicture_9, wp_step xX9_readPicture_12, wp_step xX9_readPicture_15, wp_step xX9_readPicture_16, wp_step xX9_readPicture_19, wp_step xX9_readPicture_22, wp_step xX9_readPicture_23, wp_step xX9_readPicture_24, wp_step xX9_readPicture_27, wp_step xX9_readPicture_28, wp_step xX9_readPicture_31, wp_step xX9_readPicture_32, wp_step xX9_readPicture_33, wp_step xX9_readPicture_34, ↓e_getf iX9_readPicture f9_15, ↓e_getf iX9_readPicture f9_27, ↓e_getf iX9_readPicture f9_33, ↓e_getf iX9_readPicture f9_9, ↓e_virt iX9_readPicture l9_37 iX8_byteAt, ↓e_static iX9_readPicture jn9_43 l9_43 iX10_reaches, iX9_readPicture, exec1, ↓p1_e, ↓p2_e, ↓q1_e, ↓q2_e, ↓qi_e, ↓pr_e, ↓pa_e, ↓pa_f, ↓pst_e, ↓qst_e, ↓rst_e, ↓pac_e, ↓pargs_0, ↓pargs_s, ↓gfld_0, ↓gfld_1, ↓gfld_2, ↓gfld_3, ↓pfld_i, ↓pfld_l, ↓pfld_r, ↓sfld_i, ↓sfld_l, ↓sfld_r, brI, pushv, rcv, lget, lset, lset2, isL, rok, szs, List.elem_nil, List.elem_cons, cond_true, cond_false, Option.map_some, beq_self_eq_true, Bool.true_and, Bool.and_true, Bool.false_and, Bool.and_false, Bool.or_false, Bool.false_or, Bool.or_true, Bool.true_or, Nat.reduceAdd, Nat.reduceSub, Nat.reduceMul, Nat.reduceBEq, Nat.reduceEqDiff, Nat.reduceLeDiff, Nat.sub_zero, true_and, and_true, false_and, and_false, true_or, or_true, false_or, or_false, reduceCtorEq, ↓reduceIte, List.getD_cons_zero, List.getD_cons_succ, List.length_cons, List.length_nil, ct_i, ct_r, ct_l, ct_f, ct_n, false_implies, true_implies, y1, y2, y3, y4, y5, y6, y7, y8, y9, y10, y11, y12, y13, y14, y15, yW, y126, f12, f7, nle_f hrr (show nr < 2 ^ 31 by omega), vr, nI_clamp, not_false_eq_true, true_implies, false_implies, and_true, true_and, not_true_eq_false]
      refine ⟨fun c => ?_, fun c => ⟨by omega, k_byteAt hs1 hts (by have := plc_le (A := A) (r := r); omega) ?_⟩⟩
      · rw [if_neg (by rw [snB_f c]; decide)] at ih
        refine hZ 400 [4, 37, 53] _ _ _ _ _ _ _ ?_
        simp -implicitDefEqProofs (disch := omega) only [wp_step xX9_readPicture_58, wp_step xX9_readPicture_61, ↓e_getf iX9_readPicture f9_15, ↓e_getf iX9_readPicture f9_27, ↓e_getf iX9_readPicture f9_33, ↓e_getf iX9_readPicture f9_9, ↓e_virt iX9_readPicture l9_37 iX8_byteAt, ↓e_static iX9_readPicture jn9_43 l9_43 iX10_reaches, iX9_readPicture, exec1, ↓p1_e, ↓p2_e, ↓q1_e, ↓q2_e, ↓qi_e, ↓pr_e, ↓pa_e, ↓pa_f, ↓pst_e, ↓qst_e, ↓rst_e, ↓pac_e, ↓pargs_0, ↓pargs_s, ↓gfld_0, ↓gfld_1, ↓gfld_2, ↓gfld_3, ↓pfld_i, ↓pfld_l, ↓pfld_r, ↓sfld_i, ↓sfld_l, ↓sfld_r, brI, pushv, rcv, lget, lset, lset2, isL, rok, szs, List.elem_nil, List.elem_cons, cond_true, cond_false, Option.map_some, beq_self_eq_true, Bool.true_and, Bool.and_true, Bool.false_and, Bool.and_false, Bool.or_false, Bool.false_or, Bool.or_true, Bool.true_or, Nat.reduceAdd, Nat.reduceSub, Nat.reduceMul, Nat.reduceBEq, Nat.reduceEqDiff, Nat.reduceLeDiff, Nat.sub_zero, true_and, and_true, false_and, and_false, true_or, or_true, false_or, or_false, reduceCtorEq, ↓reduceIte, List.getD_cons_zero, List.getD_cons_succ, List.length_cons, List.length_nil, ct_i, ct_r, ct_l, ct_f, ct_n, false_implies, true_implies, nI_1]
        refine ih μ1 hF q1 (fun x hx z => ?_)
        by_cases y : x = r
        · subst y; rw [snB_f c] at z; exact absurd z (by decide)
        · exact q2 x (by omega) z
      · have sn := snB_t c
        have p1 : plc A r + 1 ≤ plc A nr := by
          have := plc_mono (A := A) (show r + 1 ≤ nr by omega)
          rw [plc, if_pos sn] at this; exact this
        rw [if_pos sn] at ih
        rw [if_pos (by omega), hF.1 2 _ (by unfold p126; omega)]
        obtain ⟨b, hb1, hb2⟩ := hb (plc A r) (by omega)
        refine hZ 400 [53, 58] _ _ _ _ _ _ _ ?_
        simp -implicitDefEqProofs (disch := omega) only [wp_step xX9_readPicture_37, wp_step xX9_readPicture_39, wp_step xX9_readPicture_40, wp_step xX9_readPicture_41, wp_step xX9_readPicture_44, wp_step xX9_readPicture_45, wp_step xX9_readPicture_48, wp_step xX9_readPicture_49, wp_step xX9_readPicture_50, ↓e_getf iX9_readPicture f9_15, ↓e_getf iX9_readPicture f9_27, ↓e_getf iX9_readPicture f9_33, ↓e_getf iX9_readPicture f9_9, ↓e_virt iX9_readPicture l9_37 iX8_byteAt, ↓e_static iX9_readPicture jn9_43 l9_43 iX10_reaches, iX9_readPicture, exec1, ↓p1_e, ↓p2_e, ↓q1_e, ↓q2_e, ↓qi_e, ↓pr_e, ↓pa_e, ↓pa_f, ↓pst_e, ↓qst_e, ↓rst_e, ↓pac_e, ↓pargs_0, ↓pargs_s, ↓gfld_0, ↓gfld_1, ↓gfld_2, ↓gfld_3, ↓pfld_i, ↓pfld_l, ↓pfld_r, ↓sfld_i, ↓sfld_l, ↓sfld_r, brI, pushv, rcv, lget, lset, lset2, isL, rok, szs, List.elem_nil, List.elem_cons, cond_true, cond_false, Option.map_some, beq_self_eq_true, Bool.true_and, Bool.and_true, Bool.false_and, Bool.and_false, Bool.or_false, Bool.false_or, Bool.or_true, Bool.true_or, Nat.reduceAdd, Nat.reduceSub, Nat.reduceMul, Nat.reduceBEq, Nat.reduceEqDiff, Nat.reduceLeDiff, Nat.sub_zero, true_and, and_true, false_and, and_false, true_or, or_true, false_or, or_false, reduceCtorEq, ↓reduceIte, List.getD_cons_zero, List.getD_cons_succ, List.length_cons, List.length_nil, ct_i, ct_r, ct_l, ct_f, ct_n, false_implies, true_implies, yW, y126, vr, nI_clamp, gi_si, nI_1]
        refine ⟨by omega, k_reaches (by omega) ?_⟩
        have eqr : (-9 ≤ gi μ 2 (plc A r) - 9 ∧ gi μ 2 (plc A r) - 9 ≤ 9) ↔ gi μ 2 (plc A r) ≤ 18 := by rw [hb2]; exact rch9 b hb1
        have hF1 : Fr p126 μ (si μ1 126 r (gi μ 2 (plc A r) - 9)) := hF.si rfl
        refine hZ 400 [4] _ _ _ _ _ _ _ ?_
        simp -implicitDefEqProofs (disch := omega) only [wp_step xX9_readPicture_53, wp_step xX9_readPicture_56, wp_step xX9_readPicture_57, wp_step xX9_readPicture_58, wp_step xX9_readPicture_61, ↓e_getf iX9_readPicture f9_15, ↓e_getf iX9_readPicture f9_27, ↓e_getf iX9_readPicture f9_33, ↓e_getf iX9_readPicture f9_9, ↓e_virt iX9_readPicture l9_37 iX8_byteAt, ↓e_static iX9_readPicture jn9_43 l9_43 iX10_reaches, iX9_readPicture, exec1, ↓p1_e, ↓p2_e, ↓q1_e, ↓q2_e, ↓qi_e, ↓pr_e, ↓pa_e, ↓pa_f, ↓pst_e, ↓qst_e, ↓rst_e, ↓pac_e, ↓pargs_0, ↓pargs_s, ↓gfld_0, ↓gfld_1, ↓gfld_2, ↓gfld_3, ↓pfld_i, ↓pfld_l, ↓pfld_r, ↓sfld_i, ↓sfld_l, ↓sfld_r, brI, pushv, rcv, lget, lset, lset2, isL, rok, szs, List.elem_nil, List.elem_cons, cond_true, cond_false, Option.map_some, beq_self_eq_true, Bool.true_and, Bool.and_true, Bool.false_and, Bool.and_false, Bool.or_false, Bool.false_or, Bool.or_true, Bool.true_or, Nat.reduceAdd, Nat.reduceSub, Nat.reduceMul, Nat.reduceBEq, Nat.reduceEqDiff, Nat.reduceLeDiff, Nat.sub_zero, true_and, and_true, false_and, and_false, true_or, or_true, false_or, or_false, reduceCtorEq, ↓reduceIte, List.getD_cons_zero, List.getD_cons_succ, List.length_cons, List.length_nil, ct_i, ct_r, ct_l, ct_f, ct_n, false_implies, true_implies, bI_0, Decidable.not_not, nI_1]
        refine ⟨fun z => ih _ hF1 (fun k hk => ?_) (fun x hx y => ?_), fun z => h0 (anB_t (i := plc A r) (by omega) ?_) _ hF1⟩
        · by_cases y : k = plc A r
          · rw [y, pe, decide_eq_true (eqr.mp z)]; rfl
          · exact q1 k (by omega)
        · by_cases u : x = r
          · subst u; rw [gi_si]
          · rw [gi_si_k u]; exact q2 x (by omega) y
        · rw [pe, decide_eq_false (fun y => z (eqr.mpr y))]; rfl
  refine hZ 400 [4, 37, 53] _ _ _ _ _ _ _ ?_
  simp -implicitDefEqProofs (disch := omega) only [wp_step xX9_readPicture_0, wp_step xX9_readPicture_1, wp_step xX9_readPicture_2, wp_step xX9_readPicture_3, ↓e_getf iX9_readPicture f9_15, ↓e_getf iX9_readPicture f9_27, ↓e_getf iX9_readPicture f9_33, ↓e_getf iX9_readPicture f9_9, ↓e_virt iX9_readPicture l9_37 iX8_byteAt, ↓e_static iX9_readPicture jn9_43 l9_43 iX10_reaches, iX9_readPicture, exec1, ↓p1_e, ↓p2_e, ↓q1_e, ↓q2_e, ↓qi_e, ↓pr_e, ↓pa_e, ↓pa_f, ↓pst_e, ↓qst_e, ↓rst_e, ↓pac_e, ↓pargs_0, ↓pargs_s, ↓gfld_0, ↓gfld_1, ↓gfld_2, ↓gfld_3, ↓pfld_i, ↓pfld_l, ↓pfld_r, ↓sfld_i, ↓sfld_l, ↓sfld_r, brI, pushv, rcv, lget, lset, lset2, isL, rok, szs, List.elem_nil, List.elem_cons, cond_true, cond_false, Option.map_some, beq_self_eq_true, Bool.true_and, Bool.and_true, Bool.false_and, Bool.and_false, Bool.or_false, Bool.false_or, Bool.or_true, Bool.true_or, Nat.reduceAdd, Nat.reduceSub, Nat.reduceMul, Nat.reduceBEq, Nat.reduceEqDiff, Nat.reduceLeDiff, Nat.sub_zero, true_and, and_true, false_and, and_false, true_or, or_true, false_or, or_false, reduceCtorEq, ↓reduceIte, List.getD_cons_zero, List.getD_cons_succ, List.length_cons, List.length_nil, ct_i, ct_r, ct_l, ct_f, ct_n, false_implies, true_implies]
  exact loop 0 (by omega) μ Fr.rf (fun k h => absurd h (by simp [plc])) (fun x h => absurd h (by omega))
end WAT
