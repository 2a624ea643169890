/-- loads and moments, of either ledger -/
def WGC (μ : Mem) (nr nb sz n : Nat) (w : Int32) : (Nat → Int32) × (Nat → Int32) := WG (fun f => gi μ (4 + f)) (hvA (lawV (fun f => gi μ (30 + f)) sz n) (fun f => gi μ (4 + f)) w) nr nb
def WGM (μ : Mem) (nr nb sz n : Nat) (w : Int32) : (Nat → Int32) × (Nat → Int32) := WG (fun f => gi μ (146 + f)) (hvA (lawV (fun f => gi μ (30 + f)) sz n) (fun f => gi μ (146 + f)) w) nr nb
theorem WG_fr {LV LV' : (Nat → Int32) → Bool → Int32} {A A' : Nat → Nat → Int32} {nr nb : Nat} {w : Int32} (hL : LV' = LV) (h : ∀ f, f < 12 → A' f = A f) : WG A' (hvA LV' A' w) nr nb = WG A (hvA LV A w) nr nb := by
  subst hL
  have e : hvA LV' A' w = hvA LV' A w := by
    funext i g
    unfold hvA
    rw [FA_fr h, h 5 (by omega), h 6 (by omega), h 7 (by omega)]
  rw [e]
  unfold WG
  rw [ph_cong (B := A) (hv' := hvA LV' A w) (fun i _ => ⟨by rw [h 11 (by omega)], by rw [h 5 (by omega)], by rw [h 6 (by omega)], fun _ => rfl⟩)]
  exact ps_cong (fun j _ => ⟨by rw [h 0 (by omega)], by rw [h 1 (by omega)]⟩)
theorem WGM_fr {P : Nat → Nat → Prop} {μ μ' : Mem} {nr nb sz n : Nat} {w : Int32} (h : Fr P μ μ') (hP : ∀ a j, P a j → SfM a j) : WGM μ' nr nb sz n w = WGM μ nr nb sz n w := WG_fr (lawV_fr (frM_W h hP)) (frM_B h hP)
theorem WGC_fr {P : Nat → Nat → Prop} {μ μ' : Mem} {nr nb sz n : Nat} {w : Int32} (h : Fr P μ μ') (hP : ∀ a j, P a j → Sf a j) : WGC μ' nr nb sz n w = WGC μ nr nb sz n w := WG_fr (lawV_fr (fr_W h hP)) (fr_A h hP)
theorem pS_SfM {s : Nat} (hs : s = 46 ∨ 75 ≤ s ∧ s ≤ 100) : ∀ a j, pS s a j → SfM a j := fun a j z => by unfold pS pL at z; unfold SfM; omega
section RI2
variable {G : Gx} {d v : Nat} {μ : Mem} {bc bs : Nat} {Q : Option Value → List Sh → Mem → Nat → Nat → Prop} {LR : Mem → Prop}
set_option maxRecDepth 100000 in
set_option maxHeartbeats 1000000 in
theorem k_mRodIs {w : Int32} {r : Int32} {nr nb sz n : Nat} (hd : 6 ≤ d) (hW : WM μ nr nb sz n) (h0 : ¬ (0 ≤ r ∧ r < nI nr) → Q (some (.int (-1000000000))) (LAY v) μ bc bs) (h1 : ∀ k, k < nr → r = nI k → ∀ μ', Fr pK μ μ' → Q (some (.int (rdF w ((WGM μ nr nb sz n (gi μ 144 4)).1 k) ((WGM μ nr nb sz n (gi μ 144 4)).2 k) (lnV ((WGM μ nr nb sz n (gi μ 144 4)).2 k) (gi μ 148 (k))) (gi μ 146 (k)) (gi μ 147 (k)) (gi μ 148 (k)) (if (gi μ 149 (k)) = 0 then 0 else 1) (if (gi μ 150 (k)) = 0 then 0 else 1)))) (LAY v) μ' bc bs) : KC G d mX11_rodIs [.ref 144, .int r, .int w] (LAY v) μ bc bs Q := by
  obtain ⟨w1, w2, ⟨⟨w3, w4, w5⟩, w6, w7⟩, w8, w9, w10⟩ := id hW
  refine KC_intro 0 0 kX11_rodIs (by decide) (by decide) (Nat.zero_le _) (Nat.zero_le _) (Nat.le_of_ble_eq_true rfl) (fun Z hZ => ?_)
  show Z 0 [some (.ref 144), some (.int r), some (.int w)] [] (LAY v) μ 0 0
  refine hZ 400 [5, 16] _ _ _ _ _ _ _ ?_
  simp -implicitDefEqProofs (disch := decide) only [wp_step xX11_rodIs_0, wp_step xX11_rodIs_1, wp_step xX11_rodIs_2, wp_step xX11_rodIs_5, wp_step xX11_rodIs_8, wp_step xX11_rodIs_11, wp_step xX11_rodIs_12, wp_step xX11_rodIs_13, ↓e_virt iX11_rodIs l11_216 iX11_isRod, c11_386, ↓e_virt iX11_rodIs l11_381 iX11_laysLeans, ↓e_getf iX11_rodIs f11_103, ↓e_getf iX11_rodIs f11_106, ↓e_getf iX11_rodIs f11_109, ↓e_getf iX11_rodIs f11_20, ↓e_getf iX11_rodIs f11_24, ↓e_getf iX11_rodIs f11_27, ↓e_getf iX11_rodIs f11_30, ↓e_getf iX11_rodIs f11_34, iX11_rodIs, exec1, ↓p1_e, ↓p2_e, ↓q1_e, ↓q2_e, ↓qi_e, ↓pr_e, ↓pa_e, ↓pa_f, ↓pst_e, ↓qst_e, ↓rst_e, ↓pac_e, ↓pargs_0, ↓pargs_s, ↓gfld_0, ↓gfld_1, ↓gfld_2, ↓gfld_3, ↓pfld_i, ↓pfld_l, ↓pfld_r, ↓sfld_i, ↓sfld_l, ↓sfld_r, brI, pushv, rcv, lget, lset, lset2, isL, rok, szs, List.elem_nil, List.elem_cons, cond_true, cond_false, Option.map_some, beq_self_eq_true, Bool.true_and, Bool.and_true, Bool.false_and, Bool.and_false, Bool.or_false, Bool.false_or, Bool.or_true, Bool.true_or, Nat.reduceAdd, Nat.reduceSub, Nat.reduceMul, Nat.reduceBEq, Nat.reduceEqDiff, Nat.reduceLeDiff, Nat.sub_zero, true_and, and_true, false_and, and_false, true_or, or_true, false_or, or_false, reduceCtorEq, ↓reduceIte, List.getD_cons_zero, List.getD_cons_succ, List.length_cons, List.length_nil, ct_i, ct_r, ct_l, ct_f, ct_n, false_implies, true_implies, y144]
  refine ⟨by omega, k_mIsRod (by omega) w1 w3 w4 ?_⟩
  refine hZ 400 [5, 16] _ _ _ _ _ _ _ ?_
  simp -implicitDefEqProofs (disch := decide) only [wp_step xX11_rodIs_0, wp_step xX11_rodIs_1, wp_step xX11_rodIs_2, wp_step xX11_rodIs_5, wp_step xX11_rodIs_8, wp_step xX11_rodIs_11, wp_step xX11_rodIs_12, wp_step xX11_rodIs_13, ↓e_virt iX11_rodIs l11_216 iX11_isRod, c11_386, ↓e_virt iX11_rodIs l11_381 iX11_laysLeans, ↓e_getf iX11_rodIs f11_103, ↓e_getf iX11_rodIs f11_106, ↓e_getf iX11_rodIs f11_109, ↓e_getf iX11_rodIs f11_20, ↓e_getf iX11_rodIs f11_24, ↓e_getf iX11_rodIs f11_27, ↓e_getf iX11_rodIs f11_30, ↓e_getf iX11_rodIs f11_34, iX11_rodIs, exec1, ↓p1_e, ↓p2_e, ↓q1_e, ↓q2_e, ↓qi_e, ↓pr_e, ↓pa_e, ↓pa_f, ↓pst_e, ↓qst_e, ↓rst_e, ↓pac_e, ↓pargs_0, ↓pargs_s, ↓gfld_0, ↓gfld_1, ↓gfld_2, ↓gfld_3, ↓pfld_i, ↓pfld_l, ↓pfld_r, ↓sfld_i, ↓sfld_l, ↓sfld_r, brI, pushv, rcv, lget, lset, lset2, isL, rok, szs, List.elem_nil, List.elem_cons, cond_true, cond_false, Option.map_some, beq_self_eq_true, Bool.true_and, Bool.and_true, Bool.false_and, Bool.and_false, Bool.or_false, Bool.false_or, Bool.or_true, Bool.true_or, Nat.reduceAdd, Nat.reduceSub, Nat.reduceMul, Nat.reduceBEq, Nat.reduceEqDiff, Nat.reduceLeDiff, Nat.sub_zero, true_and, and_true, false_and, and_false, true_or, or_true, false_or, or_false, reduceCtorEq, ↓reduceIte, List.getD_cons_zero, List.getD_cons_succ, List.length_cons, List.length_nil, ct_i, ct_r, ct_l, ct_f, ct_n, false_implies, true_implies, y144, bI_0, Decidable.not_not]
  refine ⟨fun c1 => ⟨by omega, k_laysLeans (by omega) hW (fun μ1 hF hG hl => ?_)⟩, h0⟩
  obtain ⟨k, hk0, rfl⟩ := ofN c1.1
  have hk : k < nr := (nI_ltI (by omega) (by omega)).mp c1.2
  have hv : vp_in (nI k) 10 := vin (by omega) (by omega)
  have e := h1 k hk rfl μ1 hF
  have f : ∀ a j, ¬ pK a j → gi μ1 a j = gi μ a j := hF.1
  have g4 : gi μ1 146 k = gi μ 146 k := f _ _ (by unfold pK pN; omega)
  have g5 : gi μ1 147 k = gi μ 147 k := f _ _ (by unfold pK pN; omega)
  have g6 : gi μ1 148 k = gi μ 148 k := f _ _ (by unfold pK pN; omega)
  have g7 : gi μ1 149 k = gi μ 149 k := f _ _ (by unfold pK pN; omega)
  have g8 : gi μ1 150 k = gi μ 150 k := f _ _ (by unfold pK pN; omega)
  have gl := hG.1 k hk
  have gm := hG.2 k hk
  have gn := hl k hk
  unfold rdF at e
  refine hZ 400 [5, 16] _ _ _ _ _ _ _ ?_
  simp -implicitDefEqProofs (disch := decide) only [wp_step xX11_rodIs_16, wp_step xX11_rodIs_17, wp_step xX11_rodIs_64, wp_step xX11_rodIs_65, wp_step xX11_rodIs_68, wp_step xX11_rodIs_69, wp_step xX11_rodIs_70, wp_step xX11_rodIs_71, wp_step xX11_rodIs_72, wp_step xX11_rodIs_75, wp_step xX11_rodIs_76, wp_step xX11_rodIs_77, wp_step xX11_rodIs_78, wp_step xX11_rodIs_79, wp_step xX11_rodIs_82, wp_step xX11_rodIs_83, wp_step xX11_rodIs_84, wp_step xX11_rodIs_85, wp_step xX11_rodIs_86, wp_step xX11_rodIs_89, wp_step xX11_rodIs_90, wp_step xX11_rodIs_91, wp_step xX11_rodIs_92, wp_step xX11_rodIs_93, wp_step xX11_rodIs_96, wp_step xX11_rodIs_97, wp_step xX11_rodIs_98, wp_step xX11_rodIs_99, wp_step xX11_rodIs_100, wp_step xX11_rodIs_103, wp_step xX11_rodIs_104, wp_step xX11_rodIs_105, wp_step xX11_rodIs_106, wp_step xX11_rodIs_107, wp_step xX11_rodIs_110, wp_step xX11_rodIs_111, wp_step xX11_rodIs_112, wp_step xX11_rodIs_115, wp_step xX11_rodIs_116, wp_step xX11_rodIs_119, wp_step xX11_rodIs_120, wp_step xX11_rodIs_121, wp_step xX11_rodIs_122, wp_step xX11_rodIs_125, wp_step xX11_rodIs_126, wp_step xX11_rodIs_127, wp_step xX11_rodIs_130, wp_step xX11_rodIs_131, wp_step xX11_rodIs_134, wp_step xX11_rodIs_135, wp_step xX11_rodIs_136, wp_step xX11_rodIs_139, ↓e_virt iX11_rodIs l11_216 iX11_isRod, c11_386, ↓e_virt iX11_rodIs l11_381 iX11_laysLeans, ↓e_getf iX11_rodIs f11_103, ↓e_getf iX11_rodIs f11_106, ↓e_getf iX11_rodIs f11_109, ↓e_getf iX11_rodIs f11_20, ↓e_getf iX11_rodIs f11_24, ↓e_getf iX11_rodIs f11_27, ↓e_getf iX11_rodIs f11_30, ↓e_getf iX11_rodIs f11_34, iX11_rodIs, exec1, ↓p1_e, ↓p2_e, ↓q1_e, ↓q2_e, ↓qi_e, ↓pr_e, ↓pa_e, ↓pa_f, ↓pst_e, ↓qst_e, ↓rst_e, ↓pac_e, ↓pargs_0, ↓pargs_s, ↓gfld_0, ↓gfld_1, ↓gfld_2, ↓gfld_3, ↓pfld_i, ↓pfld_l, ↓pfld_r, ↓sfld_i, ↓sfld_l, ↓sfld_r, brI, pushv, rcv, lget, lset, lset2, isL, rok, szs, List.elem_nil, List.elem_cons, cond_true, cond_false, Option.map_some, beq_self_eq_true, Bool.true_and, Bool.and_true, Bool.false_and, Bool.and_false, Bool.or_false, Bool.false_or, Bool.or_true, Bool.true_or, Nat.reduceAdd, Nat.reduceSub, Nat.reduceMul, Nat.reduceBEq, Nat.reduceEqDiff, Nat.reduceLeDiff, Nat.sub_zero, true_and, and_true, false_and, and_false, true_or, or_true, false_or, or_false, reduceCtorEq, ↓reduceIte, List.getD_cons_zero, List.getD_cons_succ, List.length_cons, List.length_nil, ct_i, ct_r, ct_l, ct_f, ct_n, false_implies, true_implies, y144, y145, y146, y147, y148, y149, y150, y151, y152, y153, y154, y155, y156, y157, y173, y174, y175, swt, swl, List.size_toArray, List.toList_toArray, nci, Int.reduceAdd, Int.reduceToNat, Int.zero_add, nI_clamp (show k < 2 ^ 31 by omega), hv, g4, g5, g6, g7, g8, gl, gm, gn]
  refine ⟨fun q => ?_, fun q => ?_, fun q => ?_, fun q => ?_, fun q => ?_, fun q => ?_, fun q => ?_, fun q => ⟨fun z => ?_, fun z => ?_⟩, fun q => ⟨fun z => ?_, fun z => ?_⟩⟩
  · rw [if_neg (by omega), if_neg (by omega), if_neg (by omega), if_neg (by omega), if_neg (by omega), if_neg (by omega), if_neg (by omega), if_neg (by omega)] at e; exact e
  · simp only [q, Int.reduceEq, if_false, if_true] at e; exact e
  · simp only [q, Int.reduceEq, if_false, if_true] at e; exact e
  · simp only [q, Int.reduceEq, if_false, if_true] at e; exact e
  · simp only [q, Int.reduceEq, if_false, if_true] at e; exact e
  · simp only [q, Int.reduceEq, if_false, if_true] at e; exact e
  · simp only [q, Int.reduceEq, if_false, if_true] at e; exact e
  · simp only [q, Int.reduceEq, if_false, if_true, if_pos z] at e; exact e
  · simp only [q, Int.reduceEq, if_false, if_true, if_neg z] at e; exact e
  · simp only [q, Int.reduceEq, if_false, if_true, if_pos z] at e; exact e
  · simp only [q, Int.reduceEq, if_false, if_true, if_neg z] at e; exact e
theorem both_rodIs (hd : 7 ≤ d) {r w : Int32} (hI : Inv LRel μ) : Both G d LRel mX10_rodIs mX11_rodIs [.int r, .int w] v μ bc bs := by
  obtain ⟨i1, i2, i3, i4, i5⟩ := id hI
  obtain ⟨nr, nb, q1, q2, q3, q4, q5⟩ := id i1
  obtain ⟨⟨n1, n2, n3⟩, -⟩ := id q5
  obtain ⟨sz, n, hC, hM⟩ := i5.both q1 q2 q3 q4 q5
  refine k_rodIs (by omega) hC (fun c => k_mRodIs (by omega) hM (fun _ => ⟨rfl, v, rfl, hI, rfl, rfl⟩) (fun k hk e μ' hF => ⟨?_, v, rfl, hI.keep LRel_eq (keep_fr hF pK_Lo), rfl, rfl⟩)) (fun k hk e c2 μ1 hF => ?_)
  · subst e
    have c2 : ¬ (0 ≤ w ∧ w ≤ 7) := fun z => c ⟨⟨nI_pos' (by omega), nI_lt hk (by omega)⟩, z⟩
    simp only [i_le, show (0 : Int32).toInt = 0 from rfl, show (7 : Int32).toInt = 7 from rfl] at c2
    unfold rdF
    rw [if_neg (by omega), if_neg (by omega), if_neg (by omega), if_neg (by omega), if_neg (by omega), if_neg (by omega), if_neg (by omega), if_neg (by omega)]
  · subst e
    have hM1 : WM μ1 nr nb sz n := hM.fr hF (pS_SfM (Or.inl rfl))
    refine k_mRodIs (by omega) hM1 (fun z => absurd ⟨nI_pos' (by omega), nI_lt hk (by omega)⟩ z) (fun k' hk' e μ2 hF2 => ⟨?_, v, rfl, hI.keep LRel_eq ((keep_fr hF (pS_Lo (Or.inl rfl))).trans (keep_fr hF2 pK_Lo)), rfl, rfl⟩)
    have ek : k' = k := ((nI_eq (by omega) (by omega)).mp e).symm
    subst ek
    have s := q5.2.2.2.2.1
    have f : ∀ a j, 144 ≤ a → gi μ1 a j = gi μ a j := fun a j h => hF.1 a j (by unfold pS pL; omega)
    rw [WGM_fr hF (pS_SfM (Or.inl rfl)), f _ _ (by omega), f _ _ (by omega), f _ _ (by omega), f _ _ (by omega), f _ _ (by omega), f _ _ (by omega), ← i2.1.1]
    have e9 : WGM μ nr nb sz n (gi μ 3 14) = WGC μ nr nb sz n (gi μ 3 14) := (WG_same q5).symm
    rw [e9]
    have s0 := s 0 (by omega) k' hk
    have s1 := s 1 (by omega) k' hk
    have s2 := s 2 (by omega) k' hk
    have s3 := s 3 (by omega) k' hk
    have s4 := s 4 (by omega) k' hk
    simp only [Nat.reduceAdd] at s0 s1 s2 s3 s4
    rw [← s0, ← s1, ← s2, ← s3, ← s4]
    rfl
end RI2
