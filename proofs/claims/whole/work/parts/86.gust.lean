/-- the first of the least -/
def gB (M : Nat → Nat) : Nat → Nat
  | 0 => 0
  | k + 1 => if M k < M (gB M k) then k else gB M k
theorem gB_lt {M : Nat → Nat} : ∀ {k : Nat}, 0 < k → gB M k < k
  | 0, h => absurd h (by omega)
  | k + 1, _ => by
    rw [gB]
    split
    · omega
    · by_cases c : k = 0
      · subst c; exact Nat.zero_lt_one
      · have := gB_lt (M := M) (k := k) (by omega); omega
theorem gB_1 {M : Nat → Nat} {k : Nat} (hk : 0 < k) (h1 : M (gB M k) ≤ 1) (hp : ∀ j, 1 ≤ M j) : ∀ {m : Nat}, k ≤ m → gB M m = gB M k
  | 0, h => by omega
  | m + 1, h => by
    by_cases c : k = m + 1
    · rw [c]
    · have ih := gB_1 hk h1 hp (m := m) (by omega)
      rw [gB, ih, if_neg (by have := hp m; omega)]
section GUS
variable {G : Gx} {d v : Nat} {μ : Mem} {bc bs : Nat} {Q : Option Value → List Sh → Mem → Nat → Nat → Prop} {nr nb sz n : Nat}
def pFG (a j : Nat) : Prop := pS 46 a j ∨ a = 207 ∨ a = 125 ∧ (j = 8 ∨ j = 9)
theorem pFG_Sf : ∀ a j, pFG a j → Sf a j := fun a j z => by unfold pFG pS pL at z; unfold Sf; omega
/-- how many at most are alike by the k-th wind -/
def crM (μ : Mem) (nr nb sz n : Nat) (L : List (Nat × Nat)) (fr k : Nat) : Nat := mstA (fun j => pcM μ nr nb sz n (gi μ 2 (fr + k) - 9) (cg L j)) L.length
set_option maxRecDepth 100000 in
set_option maxHeartbeats 1000000 in
theorem k_findGust {L : List (Nat × Nat)} {c1 c2 m ts : Nat} (hd : 7 ≤ d) (hv : v = 1 ∧ c1 = 1 ∧ c2 = 3920 ∨ v = 2 ∧ c1 = 0 ∧ c2 = 0) (hbc : c1 ≤ bc) (hbs : c2 ≤ bs) (hW : WC μ nr nb sz n) (hL : CsS μ L nb) (hL0 : 0 < L.length) (hm : 1 ≤ m) (hm6 : m ≤ 6) (hs : (gi μ 1 1) = nI ts) (hts : ts ≤ 220) (hp : plc (fun f => gi μ (4 + f)) nr + m ≤ ts)
    (h : ∀ μ', Fi pFG μ μ' → gi μ' 125 8 = gi μ 2 (plc (fun f => gi μ (4 + f)) nr + gB (crM μ nr nb sz n L (plc (fun f => gi μ (4 + f)) nr)) m) - 9 → gi μ' 125 9 = nI (crM μ nr nb sz n L (plc (fun f => gi μ (4 + f)) nr) (gB (crM μ nr nb sz n L (plc (fun f => gi μ (4 + f)) nr)) m)) → Q none (LAY 2) μ' (bc - c1) (bs - c2)) : KC G d mX9_findGust [.ref 125, .ref 1, .int (nI m)] (LAY v) μ bc bs Q := by
  obtain ⟨w1, w2, hWf, w8, w9, w10⟩ := id hW
  obtain ⟨⟨w3, w4, w5⟩, w6, w7⟩ := id hWf
  have vv : v = 1 ∨ v = 2 := by omega
  refine KC_intro c1 c2 kX9_findGust (by decide) (by decide) hbc hbs (Nat.le_of_ble_eq_true rfl) (fun Z hZ => ?_)
  show Z 0 [some (.ref 125), some (.ref 1), some (.int (nI m)), none, none, none, none] [] (LAY v) μ c1 c2
  refine hZ 400 [7] _ _ _ _ _ _ _ ?_
  simp -implicitDefEqProofs (disch := omega) only [wp_step xX9_findGust_0, wp_step xX9_findGust_1, wp_step xX9_findGust_4, ↓e_getf iX9_findGust f9_15, ↓e_virt iX9_findGust l9_111 iX3_seenRods, c9_117, ↓e_putf iX9_findGust f9_118, ↓e_getf iX9_findGust f9_118, ↓e_virt iX9_findGust l9_37 iX8_byteAt, ↓e_virt iX9_findGust l9_121 iX9_crowdBy, ↓e_putf iX9_findGust f9_124, iX9_findGust, exec1, ↓p1_e, ↓p2_e, ↓q1_e, ↓q2_e, ↓qi_e, ↓pr_e, ↓pa_e, ↓pa_f, ↓pst_e, ↓qst_e, ↓rst_e, ↓pac_e, ↓pargs_0, ↓pargs_s, ↓gfld_0, ↓gfld_1, ↓gfld_2, ↓gfld_3, ↓pfld_i, ↓pfld_l, ↓pfld_r, ↓sfld_i, ↓sfld_l, ↓sfld_r, brI, pushv, rcv, lget, lset, lset2, isL, rok, szs, List.elem_nil, List.elem_cons, cond_true, cond_false, Option.map_some, beq_self_eq_true, Bool.true_and, Bool.and_true, Bool.false_and, Bool.and_false, Bool.or_false, Bool.false_or, Bool.or_true, Bool.true_or, Nat.reduceAdd, Nat.reduceSub, Nat.reduceMul, Nat.reduceBEq, Nat.reduceEqDiff, Nat.reduceLeDiff, Nat.sub_zero, true_and, and_true, false_and, and_false, true_or, or_true, false_or, or_false, reduceCtorEq, ↓reduceIte, List.getD_cons_zero, List.getD_cons_succ, List.length_cons, List.length_nil, ct_i, ct_r, ct_l, ct_f, ct_n, false_implies, true_implies, yWc vv, y3]
  refine ⟨by omega, k_seenRods w1 w4 ?_⟩
  obtain ⟨pl, hpl⟩ : ∃ pl, pl = plc (fun f => gi μ (4 + f)) nr := ⟨_, rfl⟩
  rw [← hpl] at h hp ⊢
  obtain ⟨M, hM⟩ : ∃ M, M = crM μ nr nb sz n L pl := ⟨_, rfl⟩
  rw [← hM] at h
  have Mp : ∀ k, 1 ≤ M k := fun k => by rw [hM]; exact mstA_most.pos hL0
  have Ml : ∀ k, M k ≤ 3920 := fun k => by rw [hM]; exact Nat.le_trans mstA_most.le hL.1
  have hfin : ∀ k, 0 < k → k ≤ m → (k = m ∨ M (gB M k) ≤ 1) → ∀ μ2 w5 w6, Fi pFG μ μ2 → gi μ2 125 9 = nI (M (gB M k)) → gi μ2 125 8 = gi μ 2 (pl + gB M k) - 9 → Z 79 [some (.ref 125), some (.ref 1), some (.int (nI m)), some (.int (nI pl)), some (.int (nI k)), w5, w6] [] (LAY 2) μ2 0 0 := fun k hk hkm hc μ2 w5 w6 hF e9 e8 => by
    refine hZ 400 [] _ _ _ _ _ _ _ ?_
    simp -implicitDefEqProofs (disch := omega) only [wp_step xX9_findGust_79, ↓e_getf iX9_findGust f9_15, ↓e_virt iX9_findGust l9_111 iX3_seenRods, c9_117, ↓e_putf iX9_findGust f9_118, ↓e_getf iX9_findGust f9_118, ↓e_virt iX9_findGust l9_37 iX8_byteAt, ↓e_virt iX9_findGust l9_121 iX9_crowdBy, ↓e_putf iX9_findGust f9_124, iX9_findGust, exec1, ↓p1_e, ↓p2_e, ↓q1_e, ↓q2_e, ↓qi_e, ↓pr_e, ↓pa_e, ↓pa_f, ↓pst_e, ↓qst_e, ↓rst_e, ↓pac_e, ↓pargs_0, ↓pargs_s, ↓gfld_0, ↓gfld_1, ↓gfld_2, ↓gfld_3, ↓pfld_i, ↓pfld_l, ↓pfld_r, ↓sfld_i, ↓sfld_l, ↓sfld_r, brI, pushv, rcv, lget, lset, lset2, isL, rok, szs, List.elem_nil, List.elem_cons, cond_true, cond_false, Option.map_some, beq_self_eq_true, Bool.true_and, Bool.and_true, Bool.false_and, Bool.and_false, Bool.or_false, Bool.false_or, Bool.or_true, Bool.true_or, Nat.reduceAdd, Nat.reduceSub, Nat.reduceMul, Nat.reduceBEq, Nat.reduceEqDiff, Nat.reduceLeDiff, Nat.sub_zero, true_and, and_true, false_and, and_false, true_or, or_true, false_or, or_false, reduceCtorEq, ↓reduceIte, List.getD_cons_zero, List.getD_cons_succ, List.length_cons, List.length_nil, ct_i, ct_r, ct_l, ct_f, ct_n, false_implies, true_implies]
    have e : gB M m = gB M k := by
      rcases hc with hc | hc
      · rw [hc]
      · exact gB_1 hk hc Mp hkm
    rw [e] at h
    exact h μ2 hF e8 e9
  have step : ∀ x a b, (x = 1 ∧ a = 1 ∧ b = 3920 ∨ x = 2 ∧ a = 0 ∧ b = 0) → ∀ k, k < m → ∀ μ2 w5 w6 (g : Int32), Fi pFG μ μ2 → gi μ2 125 9 = g → ¬ g ≤ 1 → (∀ μ3 w5 w6, Fi pFG μ μ3 → gi μ3 125 9 = (if nI (M k) < g then nI (M k) else g) → gi μ3 125 8 = (if nI (M k) < g then gi μ 2 (pl + k) - 9 else gi μ2 125 8) → Z 17 [some (.ref 125), some (.ref 1), some (.int (nI m)), some (.int (nI pl)), some (.int (nI (k + 1))), w5, w6] [] (LAY 2) μ3 0 0) → Z 17 [some (.ref 125), some (.ref 1), some (.int (nI m)), some (.int (nI pl)), some (.int (nI k)), w5, w6] [] (LAY x) μ2 a b := by
    intro x a b hx k hk μ2 w5 w6 g hF eg hg nx
    have hx' : x = 1 ∨ x = 2 := by omega
    have hs2 : gi μ2 1 1 = nI ts := (hF _ _ (by unfold pFG pS pL; omega)).trans hs
    have hW2 : WC μ2 nr nb sz n := hW.fi hF pFG_Sf
    have hL2 : CsS μ2 L nb := hL.fi hF (fun a j z => by unfold pFG pS pL at z; omega)
    refine hZ 400 [79, 39] _ _ _ _ _ _ _ ?_
    simp -implicitDefEqProofs (disch := omega) only [wp_step xX9_findGust_17, wp_step xX9_findGust_19, wp_step xX9_findGust_20, wp_step xX9_findGust_23, wp_step xX9_findGust_24, wp_step xX9_findGust_27, wp_step xX9_findGust_28, wp_step xX9_findGust_31, wp_step xX9_findGust_32, wp_step xX9_findGust_33, wp_step xX9_findGust_35, wp_step xX9_findGust_36, ↓e_getf iX9_findGust f9_15, ↓e_virt iX9_findGust l9_111 iX3_seenRods, c9_117, ↓e_putf iX9_findGust f9_118, ↓e_getf iX9_findGust f9_118, ↓e_virt iX9_findGust l9_37 iX8_byteAt, ↓e_virt iX9_findGust l9_121 iX9_crowdBy, ↓e_putf iX9_findGust f9_124, iX9_findGust, exec1, ↓p1_e, ↓p2_e, ↓q1_e, ↓q2_e, ↓qi_e, ↓pr_e, ↓pa_e, ↓pa_f, ↓pst_e, ↓qst_e, ↓rst_e, ↓pac_e, ↓pargs_0, ↓pargs_s, ↓gfld_0, ↓gfld_1, ↓gfld_2, ↓gfld_3, ↓pfld_i, ↓pfld_l, ↓pfld_r, ↓sfld_i, ↓sfld_l, ↓sfld_r, brI, pushv, rcv, lget, lset, lset2, isL, rok, szs, List.elem_nil, List.elem_cons, cond_true, cond_false, Option.map_some, beq_self_eq_true, Bool.true_and, Bool.and_true, Bool.false_and, Bool.and_false, Bool.or_false, Bool.false_or, Bool.or_true, Bool.true_or, Nat.reduceAdd, Nat.reduceSub, Nat.reduceMul, Nat.reduceBEq, Nat.reduceEqDiff, Nat.reduceLeDiff, Nat.sub_zero, true_and, and_true, false_and, and_false, true_or, or_true, false_or, or_false, reduceCtorEq, ↓reduceIte, List.getD_cons_zero, List.getD_cons_succ, List.length_cons, List.length_nil, ct_i, ct_r, ct_l, ct_f, ct_n, false_implies, true_implies, yWc hx', y1, eg, hg, nle_f hk (show m < 2 ^ 31 by omega), nI_add, not_false_eq_true, true_implies, false_implies, and_true, true_and, not_true_eq_false]
    refine ⟨by omega, k_byteAt hs2 hts (by omega) ?_⟩
    rw [if_pos (by omega), hF 2 _ (by unfold pFG pS pL; omega)]
    refine hZ 400 [50] _ _ _ _ _ _ _ ?_
    simp -implicitDefEqProofs (disch := omega) only [wp_step xX9_findGust_39, wp_step xX9_findGust_41, wp_step xX9_findGust_42, wp_step xX9_findGust_44, wp_step xX9_findGust_45, wp_step xX9_findGust_47, ↓e_getf iX9_findGust f9_15, ↓e_virt iX9_findGust l9_111 iX3_seenRods, c9_117, ↓e_putf iX9_findGust f9_118, ↓e_getf iX9_findGust f9_118, ↓e_virt iX9_findGust l9_37 iX8_byteAt, ↓e_virt iX9_findGust l9_121 iX9_crowdBy, ↓e_putf iX9_findGust f9_124, iX9_findGust, exec1, ↓p1_e, ↓p2_e, ↓q1_e, ↓q2_e, ↓qi_e, ↓pr_e, ↓pa_e, ↓pa_f, ↓pst_e, ↓qst_e, ↓rst_e, ↓pac_e, ↓pargs_0, ↓pargs_s, ↓gfld_0, ↓gfld_1, ↓gfld_2, ↓gfld_3, ↓pfld_i, ↓pfld_l, ↓pfld_r, ↓sfld_i, ↓sfld_l, ↓sfld_r, brI, pushv, rcv, lget, lset, lset2, isL, rok, szs, List.elem_nil, List.elem_cons, cond_true, cond_false, Option.map_some, beq_self_eq_true, Bool.true_and, Bool.and_true, Bool.false_and, Bool.and_false, Bool.or_false, Bool.false_or, Bool.or_true, Bool.true_or, Nat.reduceAdd, Nat.reduceSub, Nat.reduceMul, Nat.reduceBEq, Nat.reduceEqDiff, Nat.reduceLeDiff, Nat.sub_zero, true_and, and_true, false_and, and_false, true_or, or_true, false_or, or_false, reduceCtorEq, ↓reduceIte, List.getD_cons_zero, List.getD_cons_succ, List.length_cons, List.length_nil, ct_i, ct_r, ct_l, ct_f, ct_n, false_implies, true_implies, yWc hx']
    refine ⟨by omega, k_crowdBy (by omega) hx (Nat.le_refl _) (Nat.le_refl _) hW2 hL2 (fun μ3 hF3 => ?_)⟩
    have eM : mstA (fun j => pcM μ2 nr nb sz n (gi μ 2 (pl + k) - 9) (cg L j)) L.length = M k := by
      rw [hM]; exact mstA_cong (fun j _ => pcM_fi hF pFG_Sf)
    rw [eM, Nat.sub_self, Nat.sub_self]
    have hF4 : Fi pFG μ μ3 := hF.trans (hF3.mono (fun a j z => by unfold pCw pS pL at z; unfold pFG pS pL; omega))
    have e9 : gi μ3 125 9 = g := (hF3 _ _ (by unfold pCw pS pL; omega)).trans eg
    have e8 : gi μ3 125 8 = gi μ2 125 8 := hF3 _ _ (by unfold pCw pS pL; omega)
    refine hZ 400 [17] _ _ _ _ _ _ _ ?_
    simp -implicitDefEqProofs (disch := omega) only [wp_step xX9_findGust_50, wp_step xX9_findGust_52, wp_step xX9_findGust_54, wp_step xX9_findGust_55, wp_step xX9_findGust_58, wp_step xX9_findGust_61, wp_step xX9_findGust_62, wp_step xX9_findGust_64, wp_step xX9_findGust_67, wp_step xX9_findGust_68, wp_step xX9_findGust_70, wp_step xX9_findGust_73, wp_step xX9_findGust_76, ↓e_getf iX9_findGust f9_15, ↓e_virt iX9_findGust l9_111 iX3_seenRods, c9_117, ↓e_putf iX9_findGust f9_118, ↓e_getf iX9_findGust f9_118, ↓e_virt iX9_findGust l9_37 iX8_byteAt, ↓e_virt iX9_findGust l9_121 iX9_crowdBy, ↓e_putf iX9_findGust f9_124, iX9_findGust, exec1, ↓p1_e, ↓p2_e, ↓q1_e, ↓q2_e, ↓qi_e, ↓pr_e, ↓pa_e, ↓pa_f, ↓pst_e, ↓qst_e, ↓rst_e, ↓pac_e, ↓pargs_0, ↓pargs_s, ↓gfld_0, ↓gfld_1, ↓gfld_2, ↓gfld_3, ↓pfld_i, ↓pfld_l, ↓pfld_r, ↓sfld_i, ↓sfld_l, ↓sfld_r, brI, pushv, rcv, lget, lset, lset2, isL, rok, szs, List.elem_nil, List.elem_cons, cond_true, cond_false, Option.map_some, beq_self_eq_true, Bool.true_and, Bool.and_true, Bool.false_and, Bool.and_false, Bool.or_false, Bool.false_or, Bool.or_true, Bool.true_or, Nat.reduceAdd, Nat.reduceSub, Nat.reduceMul, Nat.reduceBEq, Nat.reduceEqDiff, Nat.reduceLeDiff, Nat.sub_zero, true_and, and_true, false_and, and_false, true_or, or_true, false_or, or_false, reduceCtorEq, ↓reduceIte, List.getD_cons_zero, List.getD_cons_succ, List.length_cons, List.length_nil, ct_i, ct_r, ct_l, ct_f, ct_n, false_implies, true_implies, yW2, e9, nI_1]
    refine ⟨fun c => ?_, fun c => ?_⟩
    · have c' : ¬ nI (M k) < g := by rw [i_lt]; rw [i_le] at c; omega
      refine nx _ _ _ hF4 ?_ ?_
      · rw [if_neg c']; exact e9
      · rw [if_neg c']; exact e8
    · have c' : nI (M k) < g := by rw [i_lt]; rw [i_le] at c; omega
      refine nx _ _ _ ((hF4.si (Or.inr (Or.inr ⟨rfl, Or.inr rfl⟩))).si (Or.inr (Or.inr ⟨rfl, Or.inl rfl⟩))) ?_ ?_
      · rw [if_pos c', gi_si_k (by omega), gi_si]
      · rw [if_pos c', gi_si]
  have loop : ∀ k, k ≤ m → (0 < k → ∀ μ2 w5 w6, Fi pFG μ μ2 → gi μ2 125 9 = nI (M (gB M k)) → gi μ2 125 8 = gi μ 2 (pl + gB M k) - 9 → Z 17 [some (.ref 125), some (.ref 1), some (.int (nI m)), some (.int (nI pl)), some (.int (nI k)), w5, w6] [] (LAY 2) μ2 0 0) := by
    refine loopN m (fun hk μ2 w5 w6 hF e9 e8 => ?_) (fun k hkm ih hk μ2 w5 w6 hF e9 e8 => ?_)
    · refine hZ 400 [79] _ _ _ _ _ _ _ ?_
      simp -implicitDefEqProofs (disch := omega) only [wp_step xX9_findGust_17, wp_step xX9_findGust_19, wp_step xX9_findGust_20, ↓e_getf iX9_findGust f9_15, ↓e_virt iX9_findGust l9_111 iX3_seenRods, c9_117, ↓e_putf iX9_findGust f9_118, ↓e_getf iX9_findGust f9_118, ↓e_virt iX9_findGust l9_37 iX8_byteAt, ↓e_virt iX9_findGust l9_121 iX9_crowdBy, ↓e_putf iX9_findGust f9_124, iX9_findGust, exec1, ↓p1_e, ↓p2_e, ↓q1_e, ↓q2_e, ↓qi_e, ↓pr_e, ↓pa_e, ↓pa_f, ↓pst_e, ↓qst_e, ↓rst_e, ↓pac_e, ↓pargs_0, ↓pargs_s, ↓gfld_0, ↓gfld_1, ↓gfld_2, ↓gfld_3, ↓pfld_i, ↓pfld_l, ↓pfld_r, ↓sfld_i, ↓sfld_l, ↓sfld_r, brI, pushv, rcv, lget, lset, lset2, isL, rok, szs, List.elem_nil, List.elem_cons, cond_true, cond_false, Option.map_some, beq_self_eq_true, Bool.true_and, Bool.and_true, Bool.false_and, Bool.and_false, Bool.or_false, Bool.false_or, Bool.or_true, Bool.true_or, Nat.reduceAdd, Nat.reduceSub, Nat.reduceMul, Nat.reduceBEq, Nat.reduceEqDiff, Nat.reduceLeDiff, Nat.sub_zero, true_and, and_true, false_and, and_false, true_or, or_true, false_or, or_false, reduceCtorEq, ↓reduceIte, List.getD_cons_zero, List.getD_cons_succ, List.length_cons, List.length_nil, ct_i, ct_r, ct_l, ct_f, ct_n, false_implies, true_implies, nle_t (show m < 2 ^ 31 by omega), not_false_eq_true, true_implies, false_implies, and_true, true_and, not_true_eq_false]
      exact hfin m hk (Nat.le_refl _) (Or.inl rfl) μ2 w5 w6 hF e9 e8
    · by_cases c1 : M (gB M k) ≤ 1
      · refine hZ 400 [79] _ _ _ _ _ _ _ ?_
        simp -implicitDefEqProofs (disch := omega) only [wp_step xX9_findGust_17, wp_step xX9_findGust_19, wp_step xX9_findGust_20, wp_step xX9_findGust_23, wp_step xX9_findGust_24, wp_step xX9_findGust_27, wp_step xX9_findGust_28, ↓e_getf iX9_findGust f9_15, ↓e_virt iX9_findGust l9_111 iX3_seenRods, c9_117, ↓e_putf iX9_findGust f9_118, ↓e_getf iX9_findGust f9_118, ↓e_virt iX9_findGust l9_37 iX8_byteAt, ↓e_virt iX9_findGust l9_121 iX9_crowdBy, ↓e_putf iX9_findGust f9_124, iX9_findGust, exec1, ↓p1_e, ↓p2_e, ↓q1_e, ↓q2_e, ↓qi_e, ↓pr_e, ↓pa_e, ↓pa_f, ↓pst_e, ↓qst_e, ↓rst_e, ↓pac_e, ↓pargs_0, ↓pargs_s, ↓gfld_0, ↓gfld_1, ↓gfld_2, ↓gfld_3, ↓pfld_i, ↓pfld_l, ↓pfld_r, ↓sfld_i, ↓sfld_l, ↓sfld_r, brI, pushv, rcv, lget, lset, lset2, isL, rok, szs, List.elem_nil, List.elem_cons, cond_true, cond_false, Option.map_some, beq_self_eq_true, Bool.true_and, Bool.and_true, Bool.false_and, Bool.and_false, Bool.or_false, Bool.false_or, Bool.or_true, Bool.true_or, Nat.reduceAdd, Nat.reduceSub, Nat.reduceMul, Nat.reduceBEq, Nat.reduceEqDiff, Nat.reduceLeDiff, Nat.sub_zero, true_and, and_true, false_and, and_false, true_or, or_true, false_or, or_false, reduceCtorEq, ↓reduceIte, List.getD_cons_zero, List.getD_cons_succ, List.length_cons, List.length_nil, ct_i, ct_r, ct_l, ct_f, ct_n, false_implies, true_implies, yW2, e9, nle_f hkm (show m < 2 ^ 31 by omega), show (nI (M (gB M k)) ≤ 1) = True from eq_true (nI_le (b := 1) c1 (by omega)), not_false_eq_true, true_implies, false_implies, and_true, true_and, not_true_eq_false]
        exact hfin k hk (by omega) (Or.inr c1) μ2 w5 w6 hF e9 e8
      · have b1 := Ml (gB M k)
        have b2 := Ml k
        refine step 2 0 0 (Or.inr ⟨rfl, rfl, rfl⟩) k hkm μ2 w5 w6 _ hF e9 (fun z => c1 ((nI_leI (b := 1) (by omega) (by omega)).mp z)) (fun μ3 w5 w6 hF3 a9 a8 => ?_)
        refine ih (by omega) μ3 w5 w6 hF3 ?_ ?_
        · rw [a9, gB]
          by_cases c : M k < M (gB M k)
          · rw [if_pos (nI_lt c (by omega)), if_pos c]
          · rw [if_neg (nI_nlt (by omega) (by omega)), if_neg c]
        · rw [a8, gB]
          by_cases c : M k < M (gB M k)
          · rw [if_pos (nI_lt c (by omega)), if_pos c]
          · rw [if_neg (nI_nlt (by omega) (by omega)), if_neg c]; exact e8
  refine hZ 400 [17] _ _ _ _ _ _ _ ?_
  simp -implicitDefEqProofs (disch := omega) only [wp_step xX9_findGust_7, wp_step xX9_findGust_8, wp_step xX9_findGust_9, wp_step xX9_findGust_11, wp_step xX9_findGust_14, wp_step xX9_findGust_15, ↓e_getf iX9_findGust f9_15, ↓e_virt iX9_findGust l9_111 iX3_seenRods, c9_117, ↓e_putf iX9_findGust f9_118, ↓e_getf iX9_findGust f9_118, ↓e_virt iX9_findGust l9_37 iX8_byteAt, ↓e_virt iX9_findGust l9_121 iX9_crowdBy, ↓e_putf iX9_findGust f9_124, iX9_findGust, exec1, ↓p1_e, ↓p2_e, ↓q1_e, ↓q2_e, ↓qi_e, ↓pr_e, ↓pa_e, ↓pa_f, ↓pst_e, ↓qst_e, ↓rst_e, ↓pac_e, ↓pargs_0, ↓pargs_s, ↓gfld_0, ↓gfld_1, ↓gfld_2, ↓gfld_3, ↓pfld_i, ↓pfld_l, ↓pfld_r, ↓sfld_i, ↓sfld_l, ↓sfld_r, brI, pushv, rcv, lget, lset, lset2, isL, rok, szs, List.elem_nil, List.elem_cons, cond_true, cond_false, Option.map_some, beq_self_eq_true, Bool.true_and, Bool.and_true, Bool.false_and, Bool.and_false, Bool.or_false, Bool.false_or, Bool.or_true, Bool.true_or, Nat.reduceAdd, Nat.reduceSub, Nat.reduceMul, Nat.reduceBEq, Nat.reduceEqDiff, Nat.reduceLeDiff, Nat.sub_zero, true_and, and_true, false_and, and_false, true_or, or_true, false_or, or_false, reduceCtorEq, ↓reduceIte, List.getD_cons_zero, List.getD_cons_succ, List.length_cons, List.length_nil, ct_i, ct_r, ct_l, ct_f, ct_n, false_implies, true_implies, yWc vv]
  have b0 := Ml 0
  refine step v c1 c2 hv 0 (by omega) _ none none 2147483647 (Fi.rf.si (Or.inr (Or.inr ⟨rfl, Or.inr rfl⟩))) gi_si (by decide) (fun μ3 w5 w6 hF3 a9 a8 => ?_)
  have c : nI (M 0) < 2147483647 := by rw [i_lt, nI_toInt (by omega)]; show (M 0 : Int) < 2147483647; omega
  rw [if_pos c] at a9 a8
  refine loop 1 (by omega) (by omega) μ3 w5 w6 hF3 ?_ ?_
  · rw [a9, gB, gB]; simp
  · rw [a8, gB, gB]; simp
end GUS
