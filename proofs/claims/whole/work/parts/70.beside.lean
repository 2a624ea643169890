/-- r is rod q or a rod above it -/
def onC (A : Nat → Nat → Int32) : Nat → Nat → Nat → Bool
  | 0, _, _ => false
  | f + 1, q, r => decide (r = q) || (!decide (q = 0) && onC A f (A 0 q).toNatClampNeg r)
theorem onC_f {A : Nat → Nat → Int32} {nr r : Nat} (hA : OnOK A nr) (hn : nr ≤ 10) : ∀ {f g q : Nat}, q < nr → q < f → q < g → onC A f q r = onC A g q r
  | 0, _, _, _, h, _ => absurd h (by omega)
  | _ + 1, 0, _, _, _, h => absurd h (by omega)
  | f + 1, g + 1, q, h0, h1, h2 => by
    rw [onC, onC]
    by_cases c : q = 0
    · subst c; rfl
    · obtain ⟨u, hu, e⟩ := hA q (by omega) h0
      rw [e, nI_clamp (by omega), onC_f hA hn (f := f) (g := g) (q := u) (by omega) (by omega) (by omega)]
theorem feel_off {A : Nat → Nat → Int32} {h : Int32} {r : Nat} : ∀ {f q : Nat}, onC A (f + 1) q r = false → feel A f q h r = 0
  | 0, _, _ => rfl
  | f + 1, q, e => by
    rw [onC] at e
    rw [feel]
    by_cases c : q = 0
    · rw [if_pos c]
    · rw [if_neg c]
      rw [decide_eq_false c, Bool.not_false, Bool.true_and, Bool.or_eq_false_iff] at e
      have e2 := e.2
      have ih := feel_off (h := h) e2
      rw [onC, Bool.or_eq_false_iff] at e2
      rw [if_neg (of_decide_eq_false e2.1), ih]; grind
theorem ctr_off {A : Nat → Nat → Int32} {nr q r : Nat} {arm h p : Int32} (hA : OnOK A nr) (hn : nr ≤ 10) (hq : q < nr) (e : onC A 10 q r = false) : ctr A q arm h p r = 0 := by
  have e2 : onC A 11 q r = false := by rw [onC_f hA hn (f := 11) (g := 10) hq (by omega) (by omega)]; exact e
  unfold ctr
  rw [feel_off e2]
  rw [onC, Bool.or_eq_false_iff] at e
  rw [if_neg (of_decide_eq_false e.1)]; grind
theorem feel_ge {A : Nat → Nat → Int32} {nr r : Nat} {h : Int32} (hA : OnOK A nr) (hn : nr ≤ 10) : ∀ {f q : Nat}, q < nr → q ≤ r → feel A f q h r = 0
  | 0, _, _, _ => rfl
  | f + 1, q, h0, h1 => by
    rw [feel]
    by_cases c : q = 0
    · rw [if_pos c]
    · obtain ⟨u, hu, e⟩ := hA q (by omega) h0
      rw [if_neg c, e, nI_clamp (by omega), if_neg (by omega), feel_ge hA hn (f := f) (q := u) (by omega) (by omega)]; grind
section BES
variable {G : Gx} {d v : Nat} {μ : Mem} {bc bs : Nat} {Q : Option Value → List Sh → Mem → Nat → Nat → Prop}
set_option maxRecDepth 100000 in
set_option maxHeartbeats 1000000 in
theorem k_leanBeside {s b i q nr nb : Nat} (hd : 3 ≤ d) (hS : ScAt v s) (hb : (LAY v)[b]? = some (0, 10, [])) (hr : (gi μ 3 12) = nI nr) (hrb : (gi μ 3 13) = nI nb) (hW : WFd (fun f => gi μ (4 + f)) nr nb) (hi : i < nb) (hq : q < nr) (eq : (gi μ 9 (i)) = nI q) (h : Q (some (.int (bN (!anB (fun r => !onC (fun f => gi μ (4 + f)) 10 q r && (!decide ((gi μ 7 (r)) = 0) && !decide (lnV (gi μ (s + 4) r) (gi μ 6 (r)) = gi μ b r))) nr)))) (LAY v) μ bc bs) : KC G d mX7_leanBeside [.ref s, .int (nI i), .ref b] (LAY v) μ bc bs Q := by
  obtain ⟨a0, a1, a2, a3, a4, hs⟩ := id hS
  obtain ⟨⟨n1, n2, n3⟩, q2, q3⟩ := id hW
  have hA := hW.on
  have hroot : gi μ 4 0 = -1 := (q2 0 (by omega)).1 rfl
  have vi : vp_in (nI i) 40 := vin (by omega) (by omega)
  have hin : 0 ≤ nI i ∧ nI i < nI nb := ⟨nI_pos' (by omega), nI_lt (by omega) (by omega)⟩
  refine KC_intro 0 0 kX7_leanBeside (by decide) (by decide) (Nat.zero_le _) (Nat.zero_le _) (Nat.le_of_ble_eq_true rfl) (fun Z hZ => ?_)
  show Z 0 [some (.ref s), some (.int (nI i)), some (.ref b), none, none, none] [] (LAY v) μ 0 0
  generalize hA2 : onC (fun f => gi μ (4 + f)) 10 q = oc at h
  have second : ∀ (M w4 : Int32), (∀ r, r < 10 → bt M r = oc r) → ∀ r, r ≤ nr → ((∀ j, j < r → (!oc j && (!decide ((gi μ 7 (j)) = 0) && !decide (lnV (gi μ (s + 4) j) (gi μ 6 (j)) = gi μ b j))) = false) → Z 78 [some (.ref s), some (.int (nI i)), some (.ref b), some (.int M), some (.int w4), some (.int (nI r))] [] (LAY v) μ 0 0) := by
    intro M w4 hM
    refine loopN nr (fun x => ?_) (fun r hrr ih x => ?_)
    · refine hZ 400 [10, 31, 47, 78, 125] _ _ _ _ _ _ _ ?_
      simp -implicitDefEqProofs (disch := omega) only [wp_step xX7_leanBeside_78, wp_step xX7_leanBeside_80, wp_step xX7_leanBeside_81, wp_step xX7_leanBeside_84, wp_step xX7_leanBeside_87, ↓e_getf iX7_leanBeside f7_24, ↓e_virt iX7_leanBeside l7_74 iX3_hasRibbon, ↓e_getf iX7_leanBeside f7_38, ↓e_virt iX7_leanBeside l7_45 iX3_hasRod, ↓e_getf iX7_leanBeside f7_68, ↓e_getf iX7_leanBeside f7_65, ↓e_getf iX7_leanBeside f7_77, ↓e_virt iX7_leanBeside l7_87 iX7_lean, iX7_leanBeside, wp_step xX7_leanBeside_140, wp_step xX7_leanBeside_141, ↓e_getf iX7_leanBeside f7_24, ↓e_virt iX7_leanBeside l7_74 iX3_hasRibbon, ↓e_getf iX7_leanBeside f7_38, ↓e_virt iX7_leanBeside l7_45 iX3_hasRod, ↓e_getf iX7_leanBeside f7_68, ↓e_getf iX7_leanBeside f7_65, ↓e_getf iX7_leanBeside f7_77, ↓e_virt iX7_leanBeside l7_87 iX7_lean, iX7_leanBeside, exec1, ↓p1_e, ↓p2_e, ↓q1_e, ↓q2_e, ↓qi_e, ↓pr_e, ↓pa_e, ↓pa_f, ↓pst_e, ↓qst_e, ↓rst_e, ↓pac_e, ↓pargs_0, ↓pargs_s, ↓gfld_0, ↓gfld_1, ↓gfld_2, ↓gfld_3, ↓pfld_i, ↓pfld_l, ↓pfld_r, ↓sfld_i, ↓sfld_l, ↓sfld_r, brI, pushv, rcv, lget, lset, lset2, isL, rok, szs, List.elem_nil, List.elem_cons, cond_true, cond_false, Option.map_some, beq_self_eq_true, Bool.true_and, Bool.and_true, Bool.false_and, Bool.and_false, Bool.or_false, Bool.false_or, Bool.or_true, Bool.true_or, Nat.reduceAdd, Nat.reduceSub, Nat.reduceMul, Nat.reduceBEq, Nat.reduceEqDiff, Nat.reduceLeDiff, Nat.sub_zero, true_and, and_true, false_and, and_false, true_or, or_true, false_or, or_false, reduceCtorEq, ↓reduceIte, List.getD_cons_zero, List.getD_cons_succ, List.length_cons, List.length_nil, ct_i, ct_r, ct_l, ct_f, ct_n, false_implies, true_implies, y3, y4, y5, y6, y7, y8, y9, y10, y11, y12, y13, y14, y15, a0, hr, nle_t (show nr < 2 ^ 31 by omega), not_false_eq_true, true_implies, false_implies, and_true, true_and, not_true_eq_false]
      rw [anB_f x] at h; exact h
    · have vr : vp_in (nI r) 10 := vin (by omega) (by omega)
      have r10 : r < 10 := by omega
      have skip : (!oc r && (!decide ((gi μ 7 (r)) = 0) && !decide (lnV (gi μ (s + 4) r) (gi μ 6 (r)) = gi μ b r))) = false → Z 134 [some (.ref s), some (.int (nI i)), some (.ref b), some (.int M), some (.int w4), some (.int (nI r))] [] (LAY v) μ 0 0 := fun z => by
        refine hZ 400 [10, 31, 47, 78, 125] _ _ _ _ _ _ _ ?_
        simp -implicitDefEqProofs (disch := omega) only [wp_step xX7_leanBeside_134, wp_step xX7_leanBeside_137, ↓e_getf iX7_leanBeside f7_24, ↓e_virt iX7_leanBeside l7_74 iX3_hasRibbon, ↓e_getf iX7_leanBeside f7_38, ↓e_virt iX7_leanBeside l7_45 iX3_hasRod, ↓e_getf iX7_leanBeside f7_68, ↓e_getf iX7_leanBeside f7_65, ↓e_getf iX7_leanBeside f7_77, ↓e_virt iX7_leanBeside l7_87 iX7_lean, iX7_leanBeside, exec1, ↓p1_e, ↓p2_e, ↓q1_e, ↓q2_e, ↓qi_e, ↓pr_e, ↓pa_e, ↓pa_f, ↓pst_e, ↓qst_e, ↓rst_e, ↓pac_e, ↓pargs_0, ↓pargs_s, ↓gfld_0, ↓gfld_1, ↓gfld_2, ↓gfld_3, ↓pfld_i, ↓pfld_l, ↓pfld_r, ↓sfld_i, ↓sfld_l, ↓sfld_r, brI, pushv, rcv, lget, lset, lset2, isL, rok, szs, List.elem_nil, List.elem_cons, cond_true, cond_false, Option.map_some, beq_self_eq_true, Bool.true_and, Bool.and_true, Bool.false_and, Bool.and_false, Bool.or_false, Bool.false_or, Bool.or_true, Bool.true_or, Nat.reduceAdd, Nat.reduceSub, Nat.reduceMul, Nat.reduceBEq, Nat.reduceEqDiff, Nat.reduceLeDiff, Nat.sub_zero, true_and, and_true, false_and, and_false, true_or, or_true, false_or, or_false, reduceCtorEq, ↓reduceIte, List.getD_cons_zero, List.getD_cons_succ, List.length_cons, List.length_nil, ct_i, ct_r, ct_l, ct_f, ct_n, false_implies, true_implies, nI_1]
        refine ih (fun j hj => ?_)
        by_cases y : j = r
        · subst y; exact z
        · exact x j (by omega)
      refine hZ 400 [134, 125] _ _ _ _ _ _ _ ?_
      simp -implicitDefEqProofs (disch := omega) only [wp_step xX7_leanBeside_78, wp_step xX7_leanBeside_80, wp_step xX7_leanBeside_81, wp_step xX7_leanBeside_84, wp_step xX7_leanBeside_87, wp_step xX7_leanBeside_90, wp_step xX7_leanBeside_92, wp_step xX7_leanBeside_93, wp_step xX7_leanBeside_94, wp_step xX7_leanBeside_97, wp_step xX7_leanBeside_98, wp_step xX7_leanBeside_100, wp_step xX7_leanBeside_101, wp_step xX7_leanBeside_102, wp_step xX7_leanBeside_103, wp_step xX7_leanBeside_106, wp_step xX7_leanBeside_107, wp_step xX7_leanBeside_110, wp_step xX7_leanBeside_113, wp_step xX7_leanBeside_115, wp_step xX7_leanBeside_116, wp_step xX7_leanBeside_119, wp_step xX7_leanBeside_120, wp_step xX7_leanBeside_122, ↓e_getf iX7_leanBeside f7_24, ↓e_virt iX7_leanBeside l7_74 iX3_hasRibbon, ↓e_getf iX7_leanBeside f7_38, ↓e_virt iX7_leanBeside l7_45 iX3_hasRod, ↓e_getf iX7_leanBeside f7_68, ↓e_getf iX7_leanBeside f7_65, ↓e_getf iX7_leanBeside f7_77, ↓e_virt iX7_leanBeside l7_87 iX7_lean, iX7_leanBeside, exec1, ↓p1_e, ↓p2_e, ↓q1_e, ↓q2_e, ↓qi_e, ↓pr_e, ↓pa_e, ↓pa_f, ↓pst_e, ↓qst_e, ↓rst_e, ↓pac_e, ↓pargs_0, ↓pargs_s, ↓gfld_0, ↓gfld_1, ↓gfld_2, ↓gfld_3, ↓pfld_i, ↓pfld_l, ↓pfld_r, ↓sfld_i, ↓sfld_l, ↓sfld_r, brI, pushv, rcv, lget, lset, lset2, isL, rok, szs, List.elem_nil, List.elem_cons, cond_true, cond_false, Option.map_some, beq_self_eq_true, Bool.true_and, Bool.and_true, Bool.false_and, Bool.and_false, Bool.or_false, Bool.false_or, Bool.or_true, Bool.true_or, Nat.reduceAdd, Nat.reduceSub, Nat.reduceMul, Nat.reduceBEq, Nat.reduceEqDiff, Nat.reduceLeDiff, Nat.sub_zero, true_and, and_true, false_and, and_false, true_or, or_true, false_or, or_false, reduceCtorEq, ↓reduceIte, List.getD_cons_zero, List.getD_cons_succ, List.length_cons, List.length_nil, ct_i, ct_r, ct_l, ct_f, ct_n, false_implies, true_implies, y3, y4, y5, y6, y7, y8, y9, y10, y11, y12, y13, y14, y15, a0, hb, hr, nle_f hrr (show nr < 2 ^ 31 by omega), nle_f r10 (show 10 < 2 ^ 31 by omega), vr, nI_clamp, bt_sh, Nat.reduceLT, not_false_eq_true, true_implies, false_implies, and_true, true_and, not_true_eq_false]
      rw [hM r r10]
      refine ⟨fun c => skip (by rw [btr c]; rfl), fun c => ⟨fun c2 => skip (by rw [decide_eq_true c2, Bool.not_true, Bool.false_and, Bool.and_false]), fun c2 => ⟨by omega, k_lean (by omega) hS hr n2 hrr ?_⟩⟩⟩
      refine hZ 400 [134] _ _ _ _ _ _ _ ?_
      simp -implicitDefEqProofs (disch := omega) only [wp_step xX7_leanBeside_125, wp_step xX7_leanBeside_126, wp_step xX7_leanBeside_128, wp_step xX7_leanBeside_129, wp_step xX7_leanBeside_132, wp_step xX7_leanBeside_133, ↓e_getf iX7_leanBeside f7_24, ↓e_virt iX7_leanBeside l7_74 iX3_hasRibbon, ↓e_getf iX7_leanBeside f7_38, ↓e_virt iX7_leanBeside l7_45 iX3_hasRod, ↓e_getf iX7_leanBeside f7_68, ↓e_getf iX7_leanBeside f7_65, ↓e_getf iX7_leanBeside f7_77, ↓e_virt iX7_leanBeside l7_87 iX7_lean, iX7_leanBeside, exec1, ↓p1_e, ↓p2_e, ↓q1_e, ↓q2_e, ↓qi_e, ↓pr_e, ↓pa_e, ↓pa_f, ↓pst_e, ↓qst_e, ↓rst_e, ↓pac_e, ↓pargs_0, ↓pargs_s, ↓gfld_0, ↓gfld_1, ↓gfld_2, ↓gfld_3, ↓pfld_i, ↓pfld_l, ↓pfld_r, ↓sfld_i, ↓sfld_l, ↓sfld_r, brI, pushv, rcv, lget, lset, lset2, isL, rok, szs, List.elem_nil, List.elem_cons, cond_true, cond_false, Option.map_some, beq_self_eq_true, Bool.true_and, Bool.and_true, Bool.false_and, Bool.and_false, Bool.or_false, Bool.false_or, Bool.or_true, Bool.true_or, Nat.reduceAdd, Nat.reduceSub, Nat.reduceMul, Nat.reduceBEq, Nat.reduceEqDiff, Nat.reduceLeDiff, Nat.sub_zero, true_and, and_true, false_and, and_false, true_or, or_true, false_or, or_false, reduceCtorEq, ↓reduceIte, List.getD_cons_zero, List.getD_cons_succ, List.length_cons, List.length_nil, ct_i, ct_r, ct_l, ct_f, ct_n, false_implies, true_implies, hb, vr, nI_clamp]
      refine ⟨fun c3 => skip (by rw [decide_eq_true c3, Bool.not_true, Bool.and_false, Bool.and_false]), fun c3 => ?_⟩
      rw [anB_t hrr (by rw [c, decide_eq_false c2, decide_eq_false c3]; rfl)] at h
      exact h
  have first : ∀ k, k ≤ 10 → (∀ M av, ((∃ c, c < nr ∧ av = nI c ∧ ∀ r, r < 10 → (bt M r || onC (fun f => gi μ (4 + f)) (10 - k) c r) = oc r) ∨ (av = -1 ∧ ∀ r, r < 10 → bt M r = oc r)) → Z 31 [some (.ref s), some (.int (nI i)), some (.ref b), some (.int M), some (.int av), some (.int (nI k))] [] (LAY v) μ 0 0) := by
    refine loopN 10 (fun M av hM => ?_) (fun k hk ih M av hM => ?_)
    · refine hZ 400 [78] _ _ _ _ _ _ _ ?_
      simp -implicitDefEqProofs (disch := omega) only [wp_step xX7_leanBeside_31, wp_step xX7_leanBeside_33, wp_step xX7_leanBeside_35, ↓e_getf iX7_leanBeside f7_24, ↓e_virt iX7_leanBeside l7_74 iX3_hasRibbon, ↓e_getf iX7_leanBeside f7_38, ↓e_virt iX7_leanBeside l7_45 iX3_hasRod, ↓e_getf iX7_leanBeside f7_68, ↓e_getf iX7_leanBeside f7_65, ↓e_getf iX7_leanBeside f7_77, ↓e_virt iX7_leanBeside l7_87 iX7_lean, iX7_leanBeside, wp_step xX7_leanBeside_75, wp_step xX7_leanBeside_76, ↓e_getf iX7_leanBeside f7_24, ↓e_virt iX7_leanBeside l7_74 iX3_hasRibbon, ↓e_getf iX7_leanBeside f7_38, ↓e_virt iX7_leanBeside l7_45 iX3_hasRod, ↓e_getf iX7_leanBeside f7_68, ↓e_getf iX7_leanBeside f7_65, ↓e_getf iX7_leanBeside f7_77, ↓e_virt iX7_leanBeside l7_87 iX7_lean, iX7_leanBeside, exec1, ↓p1_e, ↓p2_e, ↓q1_e, ↓q2_e, ↓qi_e, ↓pr_e, ↓pa_e, ↓pa_f, ↓pst_e, ↓qst_e, ↓rst_e, ↓pac_e, ↓pargs_0, ↓pargs_s, ↓gfld_0, ↓gfld_1, ↓gfld_2, ↓gfld_3, ↓pfld_i, ↓pfld_l, ↓pfld_r, ↓sfld_i, ↓sfld_l, ↓sfld_r, brI, pushv, rcv, lget, lset, lset2, isL, rok, szs, List.elem_nil, List.elem_cons, cond_true, cond_false, Option.map_some, beq_self_eq_true, Bool.true_and, Bool.and_true, Bool.false_and, Bool.and_false, Bool.or_false, Bool.false_or, Bool.or_true, Bool.true_or, Nat.reduceAdd, Nat.reduceSub, Nat.reduceMul, Nat.reduceBEq, Nat.reduceEqDiff, Nat.reduceLeDiff, Nat.sub_zero, true_and, and_true, false_and, and_false, true_or, or_true, false_or, or_false, reduceCtorEq, ↓reduceIte, List.getD_cons_zero, List.getD_cons_succ, List.length_cons, List.length_nil, ct_i, ct_r, ct_l, ct_f, ct_n, false_implies, true_implies, show (10 : Int32) = nI 10 from rfl, nle_t (show 10 < 2 ^ 31 by omega), not_false_eq_true, true_implies, false_implies, and_true, true_and, not_true_eq_false]
      refine second M _ (fun r hr => ?_) 0 (by omega) (fun j h => absurd h (by omega))
      rcases hM with ⟨c, hc, -, e⟩ | ⟨-, e⟩
      · have := e r hr
        rw [show 10 - 10 = 0 from rfl, onC, Bool.or_false] at this
        exact this
      · exact e r hr
    · refine hZ 400 [10, 31, 47, 78, 125] _ _ _ _ _ _ _ ?_
      simp -implicitDefEqProofs (disch := omega) only [wp_step xX7_leanBeside_31, wp_step xX7_leanBeside_33, wp_step xX7_leanBeside_35, wp_step xX7_leanBeside_38, wp_step xX7_leanBeside_39, wp_step xX7_leanBeside_42, wp_step xX7_leanBeside_44, ↓e_getf iX7_leanBeside f7_24, ↓e_virt iX7_leanBeside l7_74 iX3_hasRibbon, ↓e_getf iX7_leanBeside f7_38, ↓e_virt iX7_leanBeside l7_45 iX3_hasRod, ↓e_getf iX7_leanBeside f7_68, ↓e_getf iX7_leanBeside f7_65, ↓e_getf iX7_leanBeside f7_77, ↓e_virt iX7_leanBeside l7_87 iX7_lean, iX7_leanBeside, exec1, ↓p1_e, ↓p2_e, ↓q1_e, ↓q2_e, ↓qi_e, ↓pr_e, ↓pa_e, ↓pa_f, ↓pst_e, ↓qst_e, ↓rst_e, ↓pac_e, ↓pargs_0, ↓pargs_s, ↓gfld_0, ↓gfld_1, ↓gfld_2, ↓gfld_3, ↓pfld_i, ↓pfld_l, ↓pfld_r, ↓sfld_i, ↓sfld_l, ↓sfld_r, brI, pushv, rcv, lget, lset, lset2, isL, rok, szs, List.elem_nil, List.elem_cons, cond_true, cond_false, Option.map_some, beq_self_eq_true, Bool.true_and, Bool.and_true, Bool.false_and, Bool.and_false, Bool.or_false, Bool.false_or, Bool.or_true, Bool.true_or, Nat.reduceAdd, Nat.reduceSub, Nat.reduceMul, Nat.reduceBEq, Nat.reduceEqDiff, Nat.reduceLeDiff, Nat.sub_zero, true_and, and_true, false_and, and_false, true_or, or_true, false_or, or_false, reduceCtorEq, ↓reduceIte, List.getD_cons_zero, List.getD_cons_succ, List.length_cons, List.length_nil, ct_i, ct_r, ct_l, ct_f, ct_n, false_implies, true_implies, y3, y4, y5, y6, y7, y8, y9, y10, y11, y12, y13, y14, y15, a0, show (10 : Int32) = nI 10 from rfl, nle_f hk (show 10 < 2 ^ 31 by omega), not_false_eq_true, true_implies, false_implies, and_true, true_and, not_true_eq_false]
      refine ⟨by omega, k_hasRod ?_⟩
      rw [hr]
      rcases hM with ⟨c, hc, rfl, e⟩ | ⟨rfl, e⟩
      · have hcin : 0 ≤ nI c ∧ nI c < nI nr := ⟨nI_pos' (by omega), nI_lt (by omega) (by omega)⟩
        have vc : vp_in (nI c) 10 := vin (by omega) (by omega)
        refine hZ 400 [10, 31, 47, 78, 125] _ _ _ _ _ _ _ ?_
        simp -implicitDefEqProofs (disch := omega) only [wp_step xX7_leanBeside_47, wp_step xX7_leanBeside_50, wp_step xX7_leanBeside_51, wp_step xX7_leanBeside_52, wp_step xX7_leanBeside_54, wp_step xX7_leanBeside_55, wp_step xX7_leanBeside_56, wp_step xX7_leanBeside_57, wp_step xX7_leanBeside_58, wp_step xX7_leanBeside_61, wp_step xX7_leanBeside_64, wp_step xX7_leanBeside_66, wp_step xX7_leanBeside_67, wp_step xX7_leanBeside_69, wp_step xX7_leanBeside_72, ↓e_getf iX7_leanBeside f7_24, ↓e_virt iX7_leanBeside l7_74 iX3_hasRibbon, ↓e_getf iX7_leanBeside f7_38, ↓e_virt iX7_leanBeside l7_45 iX3_hasRod, ↓e_getf iX7_leanBeside f7_68, ↓e_getf iX7_leanBeside f7_65, ↓e_getf iX7_leanBeside f7_77, ↓e_virt iX7_leanBeside l7_87 iX7_lean, iX7_leanBeside, exec1, ↓p1_e, ↓p2_e, ↓q1_e, ↓q2_e, ↓qi_e, ↓pr_e, ↓pa_e, ↓pa_f, ↓pst_e, ↓qst_e, ↓rst_e, ↓pac_e, ↓pargs_0, ↓pargs_s, ↓gfld_0, ↓gfld_1, ↓gfld_2, ↓gfld_3, ↓pfld_i, ↓pfld_l, ↓pfld_r, ↓sfld_i, ↓sfld_l, ↓sfld_r, brI, pushv, rcv, lget, lset, lset2, isL, rok, szs, List.elem_nil, List.elem_cons, cond_true, cond_false, Option.map_some, beq_self_eq_true, Bool.true_and, Bool.and_true, Bool.false_and, Bool.and_false, Bool.or_false, Bool.false_or, Bool.or_true, Bool.true_or, Nat.reduceAdd, Nat.reduceSub, Nat.reduceMul, Nat.reduceBEq, Nat.reduceEqDiff, Nat.reduceLeDiff, Nat.sub_zero, true_and, and_true, false_and, and_false, true_or, or_true, false_or, or_false, reduceCtorEq, ↓reduceIte, List.getD_cons_zero, List.getD_cons_succ, List.length_cons, List.length_nil, ct_i, ct_r, ct_l, ct_f, ct_n, false_implies, true_implies, y3, y4, y5, y6, y7, y8, y9, y10, y11, y12, y13, y14, y15, a0, bI_0, hcin, vc, nI_clamp, nI_1, not_false_eq_true, true_implies, false_implies, and_true, true_and, not_true_eq_false]
        refine ih _ _ ?_
        have e' : ∀ r, r < 10 → (bt (M ||| 1 <<< (nI c &&& 31)) r || (!decide (c = 0) && onC (fun f => gi μ (4 + f)) (10 - (k + 1)) (gi μ 4 c).toNatClampNeg r)) = oc r := fun r hr => by
          have := e r hr
          rw [show 10 - k = (10 - (k + 1)) + 1 by omega, onC, ← Bool.or_assoc] at this
          rw [bt_or (by omega)]; exact this
        by_cases c0 : c = 0
        · subst c0
          refine Or.inr ⟨hroot, fun r hr => ?_⟩
          have := e' r hr
          rw [show (!decide (0 = 0)) = false from rfl, Bool.false_and, Bool.or_false] at this
          exact this
        · obtain ⟨u, hu, eu⟩ := hA c (by omega) hc
          have eu' : gi μ 4 c = nI u := eu
          refine Or.inl ⟨u, by omega, eu', fun r hr => ?_⟩
          have := e' r hr
          rw [decide_eq_false c0, Bool.not_false, Bool.true_and, eu', nI_clamp (by omega)] at this
          exact this
      · refine hZ 400 [78] _ _ _ _ _ _ _ ?_
        simp -implicitDefEqProofs (disch := omega) only [wp_step xX7_leanBeside_47, ↓e_getf iX7_leanBeside f7_24, ↓e_virt iX7_leanBeside l7_74 iX3_hasRibbon, ↓e_getf iX7_leanBeside f7_38, ↓e_virt iX7_leanBeside l7_45 iX3_hasRod, ↓e_getf iX7_leanBeside f7_68, ↓e_getf iX7_leanBeside f7_65, ↓e_getf iX7_leanBeside f7_77, ↓e_virt iX7_leanBeside l7_87 iX7_lean, iX7_leanBeside, wp_step xX7_leanBeside_75, wp_step xX7_leanBeside_76, ↓e_getf iX7_leanBeside f7_24, ↓e_virt iX7_leanBeside l7_74 iX3_hasRibbon, ↓e_getf iX7_leanBeside f7_38, ↓e_virt iX7_leanBeside l7_45 iX3_hasRod, ↓e_getf iX7_leanBeside f7_68, ↓e_getf iX7_leanBeside f7_65, ↓e_getf iX7_leanBeside f7_77, ↓e_virt iX7_leanBeside l7_87 iX7_lean, iX7_leanBeside, exec1, ↓p1_e, ↓p2_e, ↓q1_e, ↓q2_e, ↓qi_e, ↓pr_e, ↓pa_e, ↓pa_f, ↓pst_e, ↓qst_e, ↓rst_e, ↓pac_e, ↓pargs_0, ↓pargs_s, ↓gfld_0, ↓gfld_1, ↓gfld_2, ↓gfld_3, ↓pfld_i, ↓pfld_l, ↓pfld_r, ↓sfld_i, ↓sfld_l, ↓sfld_r, brI, pushv, rcv, lget, lset, lset2, isL, rok, szs, List.elem_nil, List.elem_cons, cond_true, cond_false, Option.map_some, beq_self_eq_true, Bool.true_and, Bool.and_true, Bool.false_and, Bool.and_false, Bool.or_false, Bool.false_or, Bool.or_true, Bool.true_or, Nat.reduceAdd, Nat.reduceSub, Nat.reduceMul, Nat.reduceBEq, Nat.reduceEqDiff, Nat.reduceLeDiff, Nat.sub_zero, true_and, and_true, false_and, and_false, true_or, or_true, false_or, or_false, reduceCtorEq, ↓reduceIte, List.getD_cons_zero, List.getD_cons_succ, List.length_cons, List.length_nil, ct_i, ct_r, ct_l, ct_f, ct_n, false_implies, true_implies, bI_0, show ¬ (0 ≤ (-1 : Int32) ∧ (-1 : Int32) < nI nr) from fun z => absurd z.1 (by decide), not_false_eq_true, true_implies, false_implies, and_true, true_and, not_true_eq_false]
        exact second M _ e 0 (by omega) (fun j h => absurd h (by omega))
  refine hZ 400 [10, 31, 47, 78, 125] _ _ _ _ _ _ _ ?_
  simp -implicitDefEqProofs (disch := omega) only [wp_step xX7_leanBeside_0, wp_step xX7_leanBeside_1, wp_step xX7_leanBeside_2, wp_step xX7_leanBeside_3, wp_step xX7_leanBeside_6, wp_step xX7_leanBeside_7, ↓e_getf iX7_leanBeside f7_24, ↓e_virt iX7_leanBeside l7_74 iX3_hasRibbon, ↓e_getf iX7_leanBeside f7_38, ↓e_virt iX7_leanBeside l7_45 iX3_hasRod, ↓e_getf iX7_leanBeside f7_68, ↓e_getf iX7_leanBeside f7_65, ↓e_getf iX7_leanBeside f7_77, ↓e_virt iX7_leanBeside l7_87 iX7_lean, iX7_leanBeside, exec1, ↓p1_e, ↓p2_e, ↓q1_e, ↓q2_e, ↓qi_e, ↓pr_e, ↓pa_e, ↓pa_f, ↓pst_e, ↓qst_e, ↓rst_e, ↓pac_e, ↓pargs_0, ↓pargs_s, ↓gfld_0, ↓gfld_1, ↓gfld_2, ↓gfld_3, ↓pfld_i, ↓pfld_l, ↓pfld_r, ↓sfld_i, ↓sfld_l, ↓sfld_r, brI, pushv, rcv, lget, lset, lset2, isL, rok, szs, List.elem_nil, List.elem_cons, cond_true, cond_false, Option.map_some, beq_self_eq_true, Bool.true_and, Bool.and_true, Bool.false_and, Bool.and_false, Bool.or_false, Bool.false_or, Bool.or_true, Bool.true_or, Nat.reduceAdd, Nat.reduceSub, Nat.reduceMul, Nat.reduceBEq, Nat.reduceEqDiff, Nat.reduceLeDiff, Nat.sub_zero, true_and, and_true, false_and, and_false, true_or, or_true, false_or, or_false, reduceCtorEq, ↓reduceIte, List.getD_cons_zero, List.getD_cons_succ, List.length_cons, List.length_nil, ct_i, ct_r, ct_l, ct_f, ct_n, false_implies, true_implies, y3, y4, y5, y6, y7, y8, y9, y10, y11, y12, y13, y14, y15, a0]
  refine ⟨by omega, k_hasRibbon ?_⟩
  rw [hrb]
  refine hZ 400 [10, 31, 47, 78, 125] _ _ _ _ _ _ _ ?_
  simp -implicitDefEqProofs (disch := omega) only [wp_step xX7_leanBeside_10, wp_step xX7_leanBeside_13, wp_step xX7_leanBeside_14, wp_step xX7_leanBeside_17, wp_step xX7_leanBeside_20, wp_step xX7_leanBeside_21, wp_step xX7_leanBeside_22, wp_step xX7_leanBeside_25, wp_step xX7_leanBeside_26, wp_step xX7_leanBeside_28, wp_step xX7_leanBeside_29, ↓e_getf iX7_leanBeside f7_24, ↓e_virt iX7_leanBeside l7_74 iX3_hasRibbon, ↓e_getf iX7_leanBeside f7_38, ↓e_virt iX7_leanBeside l7_45 iX3_hasRod, ↓e_getf iX7_leanBeside f7_68, ↓e_getf iX7_leanBeside f7_65, ↓e_getf iX7_leanBeside f7_77, ↓e_virt iX7_leanBeside l7_87 iX7_lean, iX7_leanBeside, exec1, ↓p1_e, ↓p2_e, ↓q1_e, ↓q2_e, ↓qi_e, ↓pr_e, ↓pa_e, ↓pa_f, ↓pst_e, ↓qst_e, ↓rst_e, ↓pac_e, ↓pargs_0, ↓pargs_s, ↓gfld_0, ↓gfld_1, ↓gfld_2, ↓gfld_3, ↓pfld_i, ↓pfld_l, ↓pfld_r, ↓sfld_i, ↓sfld_l, ↓sfld_r, brI, pushv, rcv, lget, lset, lset2, isL, rok, szs, List.elem_nil, List.elem_cons, cond_true, cond_false, Option.map_some, beq_self_eq_true, Bool.true_and, Bool.and_true, Bool.false_and, Bool.and_false, Bool.or_false, Bool.false_or, Bool.or_true, Bool.true_or, Nat.reduceAdd, Nat.reduceSub, Nat.reduceMul, Nat.reduceBEq, Nat.reduceEqDiff, Nat.reduceLeDiff, Nat.sub_zero, true_and, and_true, false_and, and_false, true_or, or_true, false_or, or_false, reduceCtorEq, ↓reduceIte, List.getD_cons_zero, List.getD_cons_succ, List.length_cons, List.length_nil, ct_i, ct_r, ct_l, ct_f, ct_n, false_implies, true_implies, y3, y4, y5, y6, y7, y8, y9, y10, y11, y12, y13, y14, y15, a0, bI_0, hin, vi, nI_clamp, eq, not_false_eq_true, true_implies, false_implies, and_true, true_and, not_true_eq_false]
  refine first 0 (by omega) 0 _ (Or.inl ⟨q, hq, rfl, fun r hr => ?_⟩)
  rw [bt_0, Bool.false_or, ← hA2]
end BES
