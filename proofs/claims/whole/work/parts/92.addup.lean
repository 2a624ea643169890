/-! the book of debts -/
def smN (f : Nat → Nat) : Nat → Nat
  | 0 => 0
  | n + 1 => smN f n + f n
theorem smN_cong {f g : Nat → Nat} : ∀ {n : Nat}, (∀ i, i < n → f i = g i) → smN f n = smN g n
  | 0, _ => rfl
  | n + 1, h => by rw [smN, smN, smN_cong (fun i hi => h i (by omega)), h n (by omega)]
theorem smN_le {f : Nat → Nat} {c : Nat} : ∀ {n : Nat}, (∀ i, i < n → f i ≤ c) → smN f n ≤ n * c
  | 0, _ => by rw [smN, Nat.zero_mul]; exact Nat.le_refl _
  | n + 1, h => by
    have := smN_le (c := c) (n := n) (fun i hi => h i (by omega))
    have := h n (by omega)
    rw [smN, Nat.succ_mul]; omega
theorem smN_0 {f : Nat → Nat} : ∀ {n : Nat}, (∀ i, i < n → f i = 0) → smN f n = 0
  | 0, _ => rfl
  | n + 1, h => by rw [smN, smN_0 (fun i hi => h i (by omega)), h n (by omega)]
/-- ribbon i is owed by a to b -/
def dbB (A : Nat → Nat → Int32) (a b i : Nat) : Bool := !decide (A 11 i = 0) && decide (A 8 i = 1) && decide (A 9 i = nI a) && decide (A 10 i = nI b)
def dbT (A : Nat → Nat → Int32) (a b i : Nat) : Nat := if dbB A a b i = true then (A 7 i).toNatClampNeg else 0
def dbS (A : Nat → Nat → Int32) (nb a b : Nat) : Nat := smN (dbT A a b) nb
theorem dbS_ok {A : Nat → Nat → Int32} {nr nb : Nat} (hn : nb ≤ 40) (h : ∀ i, i < nb → RibOK A nr i) : SOK (dbS A nb) := by
  refine ⟨fun a b => ?_, fun a => smN_0 (fun i hi => ?_)⟩
  · have := smN_le (f := dbT A a b) (c := 99) (n := nb) (fun i hi => ?_)
    · have h2 : nb * 99 ≤ 40 * 99 := Nat.mul_le_mul hn (Nat.le_refl _)
      unfold dbS; omega
    · obtain ⟨-, -, ⟨l, hl, el, -⟩, -⟩ := h i hi
      unfold dbT
      split
      · rw [el, nI_clamp (by omega)]; exact hl
      · omega
  · obtain ⟨-, -, -, -, h5⟩ := h i hi
    unfold dbT
    rw [if_neg]
    intro z
    unfold dbB at z
    obtain ⟨z1, z2⟩ := Bool.and_eq_true_iff.mp z
    obtain ⟨z1, z3⟩ := Bool.and_eq_true_iff.mp z1
    obtain ⟨z1, z4⟩ := Bool.and_eq_true_iff.mp z1
    have e2 := of_decide_eq_true z2
    have e3 := of_decide_eq_true z3
    have e4 := of_decide_eq_true z4
    rcases h5 with ⟨h5, -⟩ | ⟨-, t, -, -, h6⟩
    · rw [h5] at e4; exact absurd e4 (by decide)
    · exact h6 (e2.trans e3.symm)
theorem dbS_cong {A B : Nat → Nat → Int32} {nb a b : Nat} (h : ∀ f, 7 ≤ f → f < 12 → ∀ i, i < nb → A f i = B f i) : dbS A nb a b = dbS B nb a b := smN_cong (fun i hi => by
  unfold dbT dbB
  rw [h 7 (by omega) (by omega) i hi, h 8 (by omega) (by omega) i hi, h 9 (by omega) (by omega) i hi, h 10 (by omega) (by omega) i hi, h 11 (by omega) (by omega) i hi])
theorem row129 {v d : Nat} (h : d < 8) : (LAY v)[129 + d]? = some (0, 8, []) := by
  have e : d = 0 ∨ d = 1 ∨ d = 2 ∨ d = 3 ∨ d = 4 ∨ d = 5 ∨ d = 6 ∨ d = 7 := by omega
  rcases e with rfl | rfl | rfl | rfl | rfl | rfl | rfl | rfl
  · exact y129 v
  · exact y130 v
  · exact y131 v
  · exact y132 v
  · exact y133 v
  · exact y134 v
  · exact y135 v
  · exact y136 v
theorem bt_1 {c i : Nat} (hc : c < 32) : bt (1 <<< (nI c &&& 31)) i = decide (i = c) := by
  have h := bt_or (x := 0) (c := c) (i := i) hc
  rw [bt_0, Bool.false_or, Int32.zero_or] at h
  exact h
theorem mn_g {a b : Nat} (ha : a < 2 ^ 31) (hb : b < 2 ^ 31) : (if nI b < nI a then nI b else nI a) = nI (min a b) := by
  by_cases c : b < a
  · rw [if_pos (nI_lt c (by omega)), Nat.min_eq_right (by omega)]
  · rw [if_neg (nI_nlt (by omega) (by omega)), Nat.min_eq_left (by omega)]
section ADU
variable {G : Gx} {d v : Nat} {μ : Mem} {bc bs : Nat} {Q : Option Value → List Sh → Mem → Nat → Nat → Prop}
def pDb (a _ : Nat) : Prop := 129 ≤ a ∧ a ≤ 136
def DbC (μ : Mem) (S : Nat → Nat → Nat) : Prop := ∀ a b, a < 8 → b < 8 → gi μ (129 + a) b = nI (S a b)
set_option maxRecDepth 100000 in
set_option maxHeartbeats 1000000 in
theorem k_addUp {nr nb : Nat} (hd : 3 ≤ d) (hb : (gi μ 3 13) = nI nb) (hn : nb ≤ 40) (hR : ∀ i, i < nb → RibOK (fun f => gi μ (4 + f)) nr i) (h : ∀ μ', Fr pDb μ μ' → DbC μ' (dbS (fun f => gi μ (4 + f)) nb) → Q none (LAY v) μ' bc bs) : KC G d mX0_addUp [.ref 127] (LAY v) μ bc bs Q := by
  refine KC_intro 0 0 kX0_addUp (by decide) (by decide) (Nat.zero_le _) (Nat.zero_le _) (Nat.le_of_ble_eq_true rfl) (fun Z hZ => ?_)
  show Z 0 [some (.ref 127), none, none, none] [] (LAY v) μ 0 0
  obtain ⟨A, hA⟩ : ∃ A, A = fun f => gi μ (4 + f) := ⟨_, rfl⟩
  rw [← hA] at h hR
  have eA : ∀ f j, A f j = gi μ (4 + f) j := fun f j => by rw [hA]
  have e8 : (8 : Int32) = nI 8 := rfl
  -- the ribbons
  have rib : ∀ i, i ≤ nb → (∀ μ1 w2 w3, Fr pDb μ μ1 → DbC μ1 (dbS A i) → Z 39 [some (.ref 127), some (.int (nI i)), w2, w3] [] (LAY v) μ1 0 0) := by
    refine loopN nb (fun μ1 w2 w3 hF hD => ?_) (fun i hi ih μ1 w2 w3 hF hD => ?_)
    · have f13 : gi μ1 3 13 = nI nb := (hF.1 _ _ (by unfold pDb; omega)).trans hb
      refine hZ 400 [] _ _ _ _ _ _ _ ?_
      simp -implicitDefEqProofs (disch := omega) only [wp_step xX0_addUp_39, wp_step xX0_addUp_40, wp_step xX0_addUp_41, wp_step xX0_addUp_44, wp_step xX0_addUp_47, ↓e_getf iX0_addUp f0_11, ↓e_getf iX0_addUp f0_23, ↓e_getf iX0_addUp f0_44, ↓e_getf iX0_addUp f0_49, ↓e_getf iX0_addUp f0_52, ↓e_getf iX0_addUp f0_55, ↓e_static iX0_addUp jn0_59 l0_59 iX10_areTwo, ↓e_getf iX0_addUp f0_63, iX0_addUp, wp_step xX0_addUp_116, ↓e_getf iX0_addUp f0_11, ↓e_getf iX0_addUp f0_23, ↓e_getf iX0_addUp f0_44, ↓e_getf iX0_addUp f0_49, ↓e_getf iX0_addUp f0_52, ↓e_getf iX0_addUp f0_55, ↓e_static iX0_addUp jn0_59 l0_59 iX10_areTwo, ↓e_getf iX0_addUp f0_63, iX0_addUp, exec1, ↓p1_e, ↓p2_e, ↓q1_e, ↓q2_e, ↓qi_e, ↓pr_e, ↓pa_e, ↓pa_f, ↓pst_e, ↓qst_e, ↓rst_e, ↓pac_e, ↓pargs_0, ↓pargs_s, ↓gfld_0, ↓gfld_1, ↓gfld_2, ↓gfld_3, ↓pfld_i, ↓pfld_l, ↓pfld_r, ↓sfld_i, ↓sfld_l, ↓sfld_r, brI, pushv, rcv, lget, lset, lset2, isL, rok, szs, List.elem_nil, List.elem_cons, cond_true, cond_false, Option.map_some, beq_self_eq_true, Bool.true_and, Bool.and_true, Bool.false_and, Bool.and_false, Bool.or_false, Bool.false_or, Bool.or_true, Bool.true_or, Nat.reduceAdd, Nat.reduceSub, Nat.reduceMul, Nat.reduceBEq, Nat.reduceEqDiff, Nat.reduceLeDiff, Nat.sub_zero, true_and, and_true, false_and, and_false, true_or, or_true, false_or, or_false, reduceCtorEq, ↓reduceIte, List.getD_cons_zero, List.getD_cons_succ, List.length_cons, List.length_nil, ct_i, ct_r, ct_l, ct_f, ct_n, false_implies, true_implies, y3, y4, y5, y6, y7, y8, y9, y10, y11, y12, y13, y14, y15, y127, f13, nle_t (show nb < 2 ^ 31 by omega), not_false_eq_true, true_implies, false_implies, and_true, true_and, not_true_eq_false]
      exact h μ1 hF hD
    · have f13 : gi μ1 3 13 = nI nb := (hF.1 _ _ (by unfold pDb; omega)).trans hb
      have vi : vp_in (nI i) 40 := vin (by omega) (by omega)
      have g : ∀ f, f < 12 → gi μ1 (4 + f) i = A f i := fun f hf => (hF.1 _ _ (by unfold pDb; omega)).trans (eA f i).symm
      have g7 : gi μ1 11 i = A 7 i := g 7 (by omega)
      have g9 : gi μ1 13 i = A 9 i := g 9 (by omega)
      have g10 : gi μ1 14 i = A 10 i := g 10 (by omega)
      have g11 : gi μ1 15 i = A 11 i := g 11 (by omega)
      obtain ⟨-, -, ⟨l, hl, el, -⟩, ⟨o, ho, eo⟩, h5⟩ := hR i hi
      have skip : ∀ w2 w3, (∀ a b, a < 8 → b < 8 → dbB A a b i = false) → Z 110 [some (.ref 127), some (.int (nI i)), w2, w3] [] (LAY v) μ1 0 0 := fun w2 w3 z => by
        refine hZ 400 [39] _ _ _ _ _ _ _ ?_
        simp -implicitDefEqProofs (disch := omega) only [wp_step xX0_addUp_110, wp_step xX0_addUp_113, ↓e_getf iX0_addUp f0_11, ↓e_getf iX0_addUp f0_23, ↓e_getf iX0_addUp f0_44, ↓e_getf iX0_addUp f0_49, ↓e_getf iX0_addUp f0_52, ↓e_getf iX0_addUp f0_55, ↓e_static iX0_addUp jn0_59 l0_59 iX10_areTwo, ↓e_getf iX0_addUp f0_63, iX0_addUp, exec1, ↓p1_e, ↓p2_e, ↓q1_e, ↓q2_e, ↓qi_e, ↓pr_e, ↓pa_e, ↓pa_f, ↓pst_e, ↓qst_e, ↓rst_e, ↓pac_e, ↓pargs_0, ↓pargs_s, ↓gfld_0, ↓gfld_1, ↓gfld_2, ↓gfld_3, ↓pfld_i, ↓pfld_l, ↓pfld_r, ↓sfld_i, ↓sfld_l, ↓sfld_r, brI, pushv, rcv, lget, lset, lset2, isL, rok, szs, List.elem_nil, List.elem_cons, cond_true, cond_false, Option.map_some, beq_self_eq_true, Bool.true_and, Bool.and_true, Bool.false_and, Bool.and_false, Bool.or_false, Bool.false_or, Bool.or_true, Bool.true_or, Nat.reduceAdd, Nat.reduceSub, Nat.reduceMul, Nat.reduceBEq, Nat.reduceEqDiff, Nat.reduceLeDiff, Nat.sub_zero, true_and, and_true, false_and, and_false, true_or, or_true, false_or, or_false, reduceCtorEq, ↓reduceIte, List.getD_cons_zero, List.getD_cons_succ, List.length_cons, List.length_nil, ct_i, ct_r, ct_l, ct_f, ct_n, false_implies, true_implies, nI_1]
        refine ih μ1 _ _ hF (fun a b ha hb => ?_)
        rw [hD a b ha hb]
        unfold dbS
        rw [smN]
        unfold dbT
        rw [if_neg (by rw [z a b ha hb]; decide), Nat.add_zero]
      refine hZ 400 [87, 110] _ _ _ _ _ _ _ ?_
      simp -implicitDefEqProofs (disch := omega) only [wp_step xX0_addUp_39, wp_step xX0_addUp_40, wp_step xX0_addUp_41, wp_step xX0_addUp_44, wp_step xX0_addUp_47, wp_step xX0_addUp_50, wp_step xX0_addUp_51, wp_step xX0_addUp_54, wp_step xX0_addUp_57, wp_step xX0_addUp_58, wp_step xX0_addUp_59, wp_step xX0_addUp_60, wp_step xX0_addUp_61, wp_step xX0_addUp_64, wp_step xX0_addUp_67, wp_step xX0_addUp_68, wp_step xX0_addUp_69, wp_step xX0_addUp_70, wp_step xX0_addUp_71, wp_step xX0_addUp_74, wp_step xX0_addUp_77, wp_step xX0_addUp_78, wp_step xX0_addUp_79, wp_step xX0_addUp_82, wp_step xX0_addUp_83, wp_step xX0_addUp_84, ↓e_getf iX0_addUp f0_11, ↓e_getf iX0_addUp f0_23, ↓e_getf iX0_addUp f0_44, ↓e_getf iX0_addUp f0_49, ↓e_getf iX0_addUp f0_52, ↓e_getf iX0_addUp f0_55, ↓e_static iX0_addUp jn0_59 l0_59 iX10_areTwo, ↓e_getf iX0_addUp f0_63, iX0_addUp, exec1, ↓p1_e, ↓p2_e, ↓q1_e, ↓q2_e, ↓qi_e, ↓pr_e, ↓pa_e, ↓pa_f, ↓pst_e, ↓qst_e, ↓rst_e, ↓pac_e, ↓pargs_0, ↓pargs_s, ↓gfld_0, ↓gfld_1, ↓gfld_2, ↓gfld_3, ↓pfld_i, ↓pfld_l, ↓pfld_r, ↓sfld_i, ↓sfld_l, ↓sfld_r, brI, pushv, rcv, lget, lset, lset2, isL, rok, szs, List.elem_nil, List.elem_cons, cond_true, cond_false, Option.map_some, beq_self_eq_true, Bool.true_and, Bool.and_true, Bool.false_and, Bool.and_false, Bool.or_false, Bool.false_or, Bool.or_true, Bool.true_or, Nat.reduceAdd, Nat.reduceSub, Nat.reduceMul, Nat.reduceBEq, Nat.reduceEqDiff, Nat.reduceLeDiff, Nat.sub_zero, true_and, and_true, false_and, and_false, true_or, or_true, false_or, or_false, reduceCtorEq, ↓reduceIte, List.getD_cons_zero, List.getD_cons_succ, List.length_cons, List.length_nil, ct_i, ct_r, ct_l, ct_f, ct_n, false_implies, true_implies, y3, y4, y5, y6, y7, y8, y9, y10, y11, y12, y13, y14, y15, y127, f13, g9, g10, g11, nle_f hi (show nb < 2 ^ 31 by omega), vi, nI_clamp, not_false_eq_true, true_implies, false_implies, and_true, true_and, not_true_eq_false]
      refine ⟨fun c => skip _ _ (fun a b _ _ => ?_), fun c => ⟨by omega, k_areTwo (by omega) ?_⟩⟩
      · unfold dbB; rw [decide_eq_true c]; rfl
      · rcases h5 with ⟨c8, c10⟩ | ⟨c8, t, ht, et, c9⟩
        · rw [bI_f (by rw [c10]; exact fun z => absurd z.2.1.1 (by decide))]
          refine hZ 400 [110] _ _ _ _ _ _ _ ?_
          simp -implicitDefEqProofs (disch := omega) only [wp_step xX0_addUp_87, ↓e_getf iX0_addUp f0_11, ↓e_getf iX0_addUp f0_23, ↓e_getf iX0_addUp f0_44, ↓e_getf iX0_addUp f0_49, ↓e_getf iX0_addUp f0_52, ↓e_getf iX0_addUp f0_55, ↓e_static iX0_addUp jn0_59 l0_59 iX10_areTwo, ↓e_getf iX0_addUp f0_63, iX0_addUp, exec1, ↓p1_e, ↓p2_e, ↓q1_e, ↓q2_e, ↓qi_e, ↓pr_e, ↓pa_e, ↓pa_f, ↓pst_e, ↓qst_e, ↓rst_e, ↓pac_e, ↓pargs_0, ↓pargs_s, ↓gfld_0, ↓gfld_1, ↓gfld_2, ↓gfld_3, ↓pfld_i, ↓pfld_l, ↓pfld_r, ↓sfld_i, ↓sfld_l, ↓sfld_r, brI, pushv, rcv, lget, lset, lset2, isL, rok, szs, List.elem_nil, List.elem_cons, cond_true, cond_false, Option.map_some, beq_self_eq_true, Bool.true_and, Bool.and_true, Bool.false_and, Bool.and_false, Bool.or_false, Bool.false_or, Bool.or_true, Bool.true_or, Nat.reduceAdd, Nat.reduceSub, Nat.reduceMul, Nat.reduceBEq, Nat.reduceEqDiff, Nat.reduceLeDiff, Nat.sub_zero, true_and, and_true, false_and, and_false, true_or, or_true, false_or, or_false, reduceCtorEq, ↓reduceIte, List.getD_cons_zero, List.getD_cons_succ, List.length_cons, List.length_nil, ct_i, ct_r, ct_l, ct_f, ct_n, false_implies, true_implies, not_false_eq_true, true_implies, false_implies, and_true, true_and, not_true_eq_false]
          refine skip _ _ (fun a b _ _ => ?_)
          unfold dbB; rw [decide_eq_false (p := A 8 i = 1) (by rw [c8]; decide), Bool.and_false, Bool.false_and, Bool.false_and]
        · have two : (0 ≤ A 9 i ∧ A 9 i ≤ 7) ∧ (0 ≤ A 10 i ∧ A 10 i ≤ 7) ∧ A 9 i ≠ A 10 i := by
            rw [eo, et] at c9 ⊢
            exact ⟨⟨nI_pos' (by omega), nI_le (b := 7) (by omega) (by omega)⟩, ⟨nI_pos' (by omega), nI_le (b := 7) (by omega) (by omega)⟩, fun z => c9 z.symm⟩
          rw [bI_t two, eo, et]
          have vo : vp_in (nI o) 8 := vin ho (by omega)
          have vt : vp_in (nI t) 8 := vin ht (by omega)
          refine hZ 400 [39] _ _ _ _ _ _ _ ?_
          simp -implicitDefEqProofs (disch := omega) only [wp_step xX0_addUp_87, wp_step xX0_addUp_90, wp_step xX0_addUp_91, wp_step xX0_addUp_94, wp_step xX0_addUp_95, wp_step xX0_addUp_96, wp_step xX0_addUp_97, wp_step xX0_addUp_98, wp_step xX0_addUp_99, wp_step xX0_addUp_100, wp_step xX0_addUp_103, wp_step xX0_addUp_106, wp_step xX0_addUp_107, wp_step xX0_addUp_108, wp_step xX0_addUp_109, wp_step xX0_addUp_110, wp_step xX0_addUp_113, ↓e_getf iX0_addUp f0_11, ↓e_getf iX0_addUp f0_23, ↓e_getf iX0_addUp f0_44, ↓e_getf iX0_addUp f0_49, ↓e_getf iX0_addUp f0_52, ↓e_getf iX0_addUp f0_55, ↓e_static iX0_addUp jn0_59 l0_59 iX10_areTwo, ↓e_getf iX0_addUp f0_63, iX0_addUp, exec1, ↓p1_e, ↓p2_e, ↓q1_e, ↓q2_e, ↓qi_e, ↓pr_e, ↓pa_e, ↓pa_f, ↓pst_e, ↓qst_e, ↓rst_e, ↓pac_e, ↓pargs_0, ↓pargs_s, ↓gfld_0, ↓gfld_1, ↓gfld_2, ↓gfld_3, ↓pfld_i, ↓pfld_l, ↓pfld_r, ↓sfld_i, ↓sfld_l, ↓sfld_r, brI, pushv, rcv, lget, lset, lset2, isL, rok, szs, List.elem_nil, List.elem_cons, cond_true, cond_false, Option.map_some, beq_self_eq_true, Bool.true_and, Bool.and_true, Bool.false_and, Bool.and_false, Bool.or_false, Bool.false_or, Bool.or_true, Bool.true_or, Nat.reduceAdd, Nat.reduceSub, Nat.reduceMul, Nat.reduceBEq, Nat.reduceEqDiff, Nat.reduceLeDiff, Nat.sub_zero, true_and, and_true, false_and, and_false, true_or, or_true, false_or, or_false, reduceCtorEq, ↓reduceIte, List.getD_cons_zero, List.getD_cons_succ, List.length_cons, List.length_nil, ct_i, ct_r, ct_l, ct_f, ct_n, false_implies, true_implies, y3, y4, y5, y6, y7, y8, y9, y10, y11, y12, y13, y14, y15, y127, y128, row129 ho, vo, vt, vi, nI_clamp, Nat.one_mul, ho, g7, el, hD o t ho ht, nI_add, nI_1, show ¬ (1 : Int32) = 0 by decide, not_false_eq_true, true_implies, false_implies, and_true, true_and, not_true_eq_false]
          refine ih _ _ _ (hF.si (by unfold pDb; omega)) (fun a b ha hb' => ?_)
          unfold dbS
          rw [smN]
          unfold dbT
          have ev : dbB A a b i = (decide (o = a) && decide (t = b)) := by
            unfold dbB
            rw [decide_eq_false c, decide_eq_true c8, eo, et]
            have q : ∀ {x y : Nat}, x < 8 → y < 8 → decide (nI x = nI y) = decide (x = y) := fun {x y} h1 h2 => by
              by_cases z : x = y
              · rw [decide_eq_true z, decide_eq_true (by rw [z])]
              · rw [decide_eq_false z, decide_eq_false (fun y' => z ((nI_eq (by omega) (by omega)).mp y'))]
            rw [q ho ha, q ht hb']; rfl
          rw [ev]
          by_cases z : o = a ∧ t = b
          · obtain ⟨rfl, rfl⟩ := z
            rw [gi_si, decide_eq_true rfl, decide_eq_true rfl, Bool.and_true, if_pos rfl, el, nI_clamp (by omega)]
          · rw [if_neg (fun y => by obtain ⟨y1, y2⟩ := Bool.and_eq_true_iff.mp y; exact z ⟨of_decide_eq_true y1, of_decide_eq_true y2⟩), Nat.add_zero]
            have := hD a b ha hb'
            by_cases z1 : a = o
            · rw [gi_si_k (fun y => z ⟨z1.symm, y.symm⟩)]; exact this
            · rw [gi_si_a (by omega)]; exact this
  -- all is 0 at first
  have zer : ∀ a, a ≤ 8 → (∀ μ1 w2, Fr pDb μ μ1 → (∀ x y, x < a → y < 8 → gi μ1 (129 + x) y = 0) → Z 2 [some (.ref 127), some (.int (nI a)), w2, none] [] (LAY v) μ1 0 0) := by
    refine loopN 8 (fun μ1 w2 hF hz => ?_) (fun a ha ih μ1 w2 hF hz => ?_)
    · refine hZ 400 [39] _ _ _ _ _ _ _ ?_
      simp -implicitDefEqProofs (disch := omega) only [wp_step xX0_addUp_2, wp_step xX0_addUp_3, wp_step xX0_addUp_5, ↓e_getf iX0_addUp f0_11, ↓e_getf iX0_addUp f0_23, ↓e_getf iX0_addUp f0_44, ↓e_getf iX0_addUp f0_49, ↓e_getf iX0_addUp f0_52, ↓e_getf iX0_addUp f0_55, ↓e_static iX0_addUp jn0_59 l0_59 iX10_areTwo, ↓e_getf iX0_addUp f0_63, iX0_addUp, wp_step xX0_addUp_37, wp_step xX0_addUp_38, ↓e_getf iX0_addUp f0_11, ↓e_getf iX0_addUp f0_23, ↓e_getf iX0_addUp f0_44, ↓e_getf iX0_addUp f0_49, ↓e_getf iX0_addUp f0_52, ↓e_getf iX0_addUp f0_55, ↓e_static iX0_addUp jn0_59 l0_59 iX10_areTwo, ↓e_getf iX0_addUp f0_63, iX0_addUp, exec1, ↓p1_e, ↓p2_e, ↓q1_e, ↓q2_e, ↓qi_e, ↓pr_e, ↓pa_e, ↓pa_f, ↓pst_e, ↓qst_e, ↓rst_e, ↓pac_e, ↓pargs_0, ↓pargs_s, ↓gfld_0, ↓gfld_1, ↓gfld_2, ↓gfld_3, ↓pfld_i, ↓pfld_l, ↓pfld_r, ↓sfld_i, ↓sfld_l, ↓sfld_r, brI, pushv, rcv, lget, lset, lset2, isL, rok, szs, List.elem_nil, List.elem_cons, cond_true, cond_false, Option.map_some, beq_self_eq_true, Bool.true_and, Bool.and_true, Bool.false_and, Bool.and_false, Bool.or_false, Bool.false_or, Bool.or_true, Bool.true_or, Nat.reduceAdd, Nat.reduceSub, Nat.reduceMul, Nat.reduceBEq, Nat.reduceEqDiff, Nat.reduceLeDiff, Nat.sub_zero, true_and, and_true, false_and, and_false, true_or, or_true, false_or, or_false, reduceCtorEq, ↓reduceIte, List.getD_cons_zero, List.getD_cons_succ, List.length_cons, List.length_nil, ct_i, ct_r, ct_l, ct_f, ct_n, false_implies, true_implies, e8, nle_t (show 8 < 2 ^ 31 by omega), not_false_eq_true, true_implies, false_implies, and_true, true_and, not_true_eq_false]
      exact rib 0 (by omega) μ1 w2 none hF (fun a b ha hb => hz a b ha hb)
    · have va : vp_in (nI a) 8 := vin ha (by omega)
      have inner : ∀ b, b ≤ 8 → (∀ μ2, Fr pDb μ μ2 → (∀ x y, x < a → y < 8 → gi μ2 (129 + x) y = 0) → (∀ y, y < b → gi μ2 (129 + a) y = 0) → Z 10 [some (.ref 127), some (.int (nI a)), some (.int (nI b)), none] [] (LAY v) μ2 0 0) := by
        refine loopN 8 (fun μ2 hF2 hz2 hy => ?_) (fun b hb ih2 μ2 hF2 hz2 hy => ?_)
        · refine hZ 400 [2] _ _ _ _ _ _ _ ?_
          simp -implicitDefEqProofs (disch := omega) only [wp_step xX0_addUp_10, wp_step xX0_addUp_11, wp_step xX0_addUp_13, ↓e_getf iX0_addUp f0_11, ↓e_getf iX0_addUp f0_23, ↓e_getf iX0_addUp f0_44, ↓e_getf iX0_addUp f0_49, ↓e_getf iX0_addUp f0_52, ↓e_getf iX0_addUp f0_55, ↓e_static iX0_addUp jn0_59 l0_59 iX10_areTwo, ↓e_getf iX0_addUp f0_63, iX0_addUp, wp_step xX0_addUp_31, wp_step xX0_addUp_34, ↓e_getf iX0_addUp f0_11, ↓e_getf iX0_addUp f0_23, ↓e_getf iX0_addUp f0_44, ↓e_getf iX0_addUp f0_49, ↓e_getf iX0_addUp f0_52, ↓e_getf iX0_addUp f0_55, ↓e_static iX0_addUp jn0_59 l0_59 iX10_areTwo, ↓e_getf iX0_addUp f0_63, iX0_addUp, exec1, ↓p1_e, ↓p2_e, ↓q1_e, ↓q2_e, ↓qi_e, ↓pr_e, ↓pa_e, ↓pa_f, ↓pst_e, ↓qst_e, ↓rst_e, ↓pac_e, ↓pargs_0, ↓pargs_s, ↓gfld_0, ↓gfld_1, ↓gfld_2, ↓gfld_3, ↓pfld_i, ↓pfld_l, ↓pfld_r, ↓sfld_i, ↓sfld_l, ↓sfld_r, brI, pushv, rcv, lget, lset, lset2, isL, rok, szs, List.elem_nil, List.elem_cons, cond_true, cond_false, Option.map_some, beq_self_eq_true, Bool.true_and, Bool.and_true, Bool.false_and, Bool.and_false, Bool.or_false, Bool.false_or, Bool.or_true, Bool.true_or, Nat.reduceAdd, Nat.reduceSub, Nat.reduceMul, Nat.reduceBEq, Nat.reduceEqDiff, Nat.reduceLeDiff, Nat.sub_zero, true_and, and_true, false_and, and_false, true_or, or_true, false_or, or_false, reduceCtorEq, ↓reduceIte, List.getD_cons_zero, List.getD_cons_succ, List.length_cons, List.length_nil, ct_i, ct_r, ct_l, ct_f, ct_n, false_implies, true_implies, e8, nle_t (show 8 < 2 ^ 31 by omega), nI_1, not_false_eq_true, true_implies, false_implies, and_true, true_and, not_true_eq_false]
          refine ih μ2 _ hF2 (fun x y hx hy' => ?_)
          by_cases c : x = a
          · subst c; exact hy y hy'
          · exact hz2 x y (by omega) hy'
        · have vb : vp_in (nI b) 8 := vin hb (by omega)
          refine hZ 400 [10] _ _ _ _ _ _ _ ?_
          simp -implicitDefEqProofs (disch := omega) only [wp_step xX0_addUp_10, wp_step xX0_addUp_11, wp_step xX0_addUp_13, wp_step xX0_addUp_16, wp_step xX0_addUp_17, wp_step xX0_addUp_20, wp_step xX0_addUp_21, wp_step xX0_addUp_22, wp_step xX0_addUp_23, wp_step xX0_addUp_24, wp_step xX0_addUp_25, wp_step xX0_addUp_28, ↓e_getf iX0_addUp f0_11, ↓e_getf iX0_addUp f0_23, ↓e_getf iX0_addUp f0_44, ↓e_getf iX0_addUp f0_49, ↓e_getf iX0_addUp f0_52, ↓e_getf iX0_addUp f0_55, ↓e_static iX0_addUp jn0_59 l0_59 iX10_areTwo, ↓e_getf iX0_addUp f0_63, iX0_addUp, exec1, ↓p1_e, ↓p2_e, ↓q1_e, ↓q2_e, ↓qi_e, ↓pr_e, ↓pa_e, ↓pa_f, ↓pst_e, ↓qst_e, ↓rst_e, ↓pac_e, ↓pargs_0, ↓pargs_s, ↓gfld_0, ↓gfld_1, ↓gfld_2, ↓gfld_3, ↓pfld_i, ↓pfld_l, ↓pfld_r, ↓sfld_i, ↓sfld_l, ↓sfld_r, brI, pushv, rcv, lget, lset, lset2, isL, rok, szs, List.elem_nil, List.elem_cons, cond_true, cond_false, Option.map_some, beq_self_eq_true, Bool.true_and, Bool.and_true, Bool.false_and, Bool.and_false, Bool.or_false, Bool.false_or, Bool.or_true, Bool.true_or, Nat.reduceAdd, Nat.reduceSub, Nat.reduceMul, Nat.reduceBEq, Nat.reduceEqDiff, Nat.reduceLeDiff, Nat.sub_zero, true_and, and_true, false_and, and_false, true_or, or_true, false_or, or_false, reduceCtorEq, ↓reduceIte, List.getD_cons_zero, List.getD_cons_succ, List.length_cons, List.length_nil, ct_i, ct_r, ct_l, ct_f, ct_n, false_implies, true_implies, e8, y127, y128, row129 ha, nle_f hb (show 8 < 2 ^ 31 by omega), va, vb, nI_clamp, Nat.one_mul, ha, nI_1, not_false_eq_true, true_implies, false_implies, and_true, true_and, not_true_eq_false]
          refine ih2 _ (hF2.si (by unfold pDb; omega)) (fun x y hx hy' => ?_) (fun y hy' => ?_)
          · rw [gi_si_a (by omega)]; exact hz2 x y hx hy'
          · by_cases c : y = b
            · subst c; rw [gi_si]
            · rw [gi_si_k c]; exact hy y (by omega)
      refine hZ 400 [10] _ _ _ _ _ _ _ ?_
      simp -implicitDefEqProofs (disch := omega) only [wp_step xX0_addUp_2, wp_step xX0_addUp_3, wp_step xX0_addUp_5, wp_step xX0_addUp_8, wp_step xX0_addUp_9, ↓e_getf iX0_addUp f0_11, ↓e_getf iX0_addUp f0_23, ↓e_getf iX0_addUp f0_44, ↓e_getf iX0_addUp f0_49, ↓e_getf iX0_addUp f0_52, ↓e_getf iX0_addUp f0_55, ↓e_static iX0_addUp jn0_59 l0_59 iX10_areTwo, ↓e_getf iX0_addUp f0_63, iX0_addUp, exec1, ↓p1_e, ↓p2_e, ↓q1_e, ↓q2_e, ↓qi_e, ↓pr_e, ↓pa_e, ↓pa_f, ↓pst_e, ↓qst_e, ↓rst_e, ↓pac_e, ↓pargs_0, ↓pargs_s, ↓gfld_0, ↓gfld_1, ↓gfld_2, ↓gfld_3, ↓pfld_i, ↓pfld_l, ↓pfld_r, ↓sfld_i, ↓sfld_l, ↓sfld_r, brI, pushv, rcv, lget, lset, lset2, isL, rok, szs, List.elem_nil, List.elem_cons, cond_true, cond_false, Option.map_some, beq_self_eq_true, Bool.true_and, Bool.and_true, Bool.false_and, Bool.and_false, Bool.or_false, Bool.false_or, Bool.or_true, Bool.true_or, Nat.reduceAdd, Nat.reduceSub, Nat.reduceMul, Nat.reduceBEq, Nat.reduceEqDiff, Nat.reduceLeDiff, Nat.sub_zero, true_and, and_true, false_and, and_false, true_or, or_true, false_or, or_false, reduceCtorEq, ↓reduceIte, List.getD_cons_zero, List.getD_cons_succ, List.length_cons, List.length_nil, ct_i, ct_r, ct_l, ct_f, ct_n, false_implies, true_implies, e8, nle_f ha (show 8 < 2 ^ 31 by omega), not_false_eq_true, true_implies, false_implies, and_true, true_and, not_true_eq_false]
      exact inner 0 (by omega) μ1 hF hz (fun y h => absurd h (by omega))
  refine hZ 400 [2] _ _ _ _ _ _ _ ?_
  simp -implicitDefEqProofs (disch := omega) only [wp_step xX0_addUp_0, wp_step xX0_addUp_1, ↓e_getf iX0_addUp f0_11, ↓e_getf iX0_addUp f0_23, ↓e_getf iX0_addUp f0_44, ↓e_getf iX0_addUp f0_49, ↓e_getf iX0_addUp f0_52, ↓e_getf iX0_addUp f0_55, ↓e_static iX0_addUp jn0_59 l0_59 iX10_areTwo, ↓e_getf iX0_addUp f0_63, iX0_addUp, exec1, ↓p1_e, ↓p2_e, ↓q1_e, ↓q2_e, ↓qi_e, ↓pr_e, ↓pa_e, ↓pa_f, ↓pst_e, ↓qst_e, ↓rst_e, ↓pac_e, ↓pargs_0, ↓pargs_s, ↓gfld_0, ↓gfld_1, ↓gfld_2, ↓gfld_3, ↓pfld_i, ↓pfld_l, ↓pfld_r, ↓sfld_i, ↓sfld_l, ↓sfld_r, brI, pushv, rcv, lget, lset, lset2, isL, rok, szs, List.elem_nil, List.elem_cons, cond_true, cond_false, Option.map_some, beq_self_eq_true, Bool.true_and, Bool.and_true, Bool.false_and, Bool.and_false, Bool.or_false, Bool.false_or, Bool.or_true, Bool.true_or, Nat.reduceAdd, Nat.reduceSub, Nat.reduceMul, Nat.reduceBEq, Nat.reduceEqDiff, Nat.reduceLeDiff, Nat.sub_zero, true_and, and_true, false_and, and_false, true_or, or_true, false_or, or_false, reduceCtorEq, ↓reduceIte, List.getD_cons_zero, List.getD_cons_succ, List.length_cons, List.length_nil, ct_i, ct_r, ct_l, ct_f, ct_n, false_implies, true_implies]
  exact zer 0 (by omega) μ none Fr.rf (fun x y h => absurd h (by omega))
def RwC (μ : Mem) (P : Nat → Nat) (n : Nat) : Prop := ∀ k, k < n → gi μ 137 k = nI (P k)
def BsC (μ : Mem) (B : Bst) : Prop := gi μ 127 5 = nI B.1 ∧ gi μ 127 4 = nI B.2.1 ∧ ∀ k, k < B.2.1 → gi μ 138 k = nI (B.2.2 k)
def pDc (a j : Nat) : Prop := a = 138 ∨ a = 127 ∧ (j = 4 ∨ j = 5)
set_option maxRecDepth 100000 in
set_option maxHeartbeats 1000000 in
theorem k_dCompare {S : Nat → Nat → Nat} {P : Nat → Nat} {n : Nat} {B : Bst} (hd : 1 ≤ d) (hS : SOK S) (hn : n ≤ 8) (hR : RwC μ P n) (hB : BsC μ B) (hO : BOK B) (h : ∀ μ', Fr pDc μ μ' → BsC μ' (lkB S P n B) → Q none (LAY v) μ' bc bs) : KC G d mX0_compare [.ref 127, .int (nI n), .int (nI (mnE S P n))] (LAY v) μ bc bs Q := by
  obtain ⟨b1, b2, b3⟩ := id hB
  obtain ⟨o1, o2⟩ := hO
  refine KC_intro 0 0 kX0_compare (by decide) (by decide) (Nat.zero_le _) (Nat.zero_le _) (Nat.le_of_ble_eq_true rfl) (fun Z hZ => ?_)
  show Z 0 [some (.ref 127), some (.int (nI n)), some (.int (nI (mnE S P n))), none] [] (LAY v) μ 0 0
  have hm := mnE_le (P := P) (n := n) hS
  have hmn : mnE S P n * n ≤ 3960 * 8 := Nat.mul_le_mul hm hn
  generalize hx : mnE S P n * n = x at *
  have upd : (B.1 < x ∨ (x = B.1 ∧ 0 < x ∧ n < B.2.1)) → Z 32 [some (.ref 127), some (.int (nI n)), some (.int (nI (mnE S P n))), some (.int (nI x))] [] (LAY v) μ 0 0 := fun c => by
    refine hZ 400 [] _ _ _ _ _ _ _ ?_
    simp -implicitDefEqProofs (disch := omega) only [wp_step xX0_compare_32, wp_step xX0_compare_33, wp_step xX0_compare_34, wp_step xX0_compare_37, wp_step xX0_compare_38, wp_step xX0_compare_39, wp_step xX0_compare_42, wp_step xX0_compare_43, wp_step xX0_compare_46, wp_step xX0_compare_47, wp_step xX0_compare_48, wp_step xX0_compare_51, wp_step xX0_compare_52, wp_step xX0_compare_54, wp_step xX0_compare_57, ↓e_getf iX0_compare f0_34, ↓e_getf iX0_compare f0_30, ↓e_putf iX0_compare f0_34, ↓e_putf iX0_compare f0_30, ↓e_getf iX0_compare f0_16, ↓e_getf iX0_compare f0_20, ↓e_acp iX0_compare j0_76, iX0_compare, exec1, ↓p1_e, ↓p2_e, ↓q1_e, ↓q2_e, ↓qi_e, ↓pr_e, ↓pa_e, ↓pa_f, ↓pst_e, ↓qst_e, ↓rst_e, ↓pac_e, ↓pargs_0, ↓pargs_s, ↓gfld_0, ↓gfld_1, ↓gfld_2, ↓gfld_3, ↓pfld_i, ↓pfld_l, ↓pfld_r, ↓sfld_i, ↓sfld_l, ↓sfld_r, brI, pushv, rcv, lget, lset, lset2, isL, rok, szs, List.elem_nil, List.elem_cons, cond_true, cond_false, Option.map_some, beq_self_eq_true, Bool.true_and, Bool.and_true, Bool.false_and, Bool.and_false, Bool.or_false, Bool.false_or, Bool.or_true, Bool.true_or, Nat.reduceAdd, Nat.reduceSub, Nat.reduceMul, Nat.reduceBEq, Nat.reduceEqDiff, Nat.reduceLeDiff, Nat.sub_zero, true_and, and_true, false_and, and_false, true_or, or_true, false_or, or_false, reduceCtorEq, ↓reduceIte, List.getD_cons_zero, List.getD_cons_succ, List.length_cons, List.length_nil, ct_i, ct_r, ct_l, ct_f, ct_n, false_implies, true_implies, y127, y137, y138, ac8, Nat.le_refl]
    refine ⟨by omega, h _ ⟨fun a j z => ?_, fun a j => rfl⟩ ?_⟩
    · rw [gi_cpM_a (fun y => z (Or.inl y))]
      by_cases y : a = 127
      · subst y; rw [gi_si_k (fun y => z (Or.inr ⟨rfl, Or.inl y⟩)), gi_si_k (fun y => z (Or.inr ⟨rfl, Or.inr y⟩))]
      · rw [gi_si_a y, gi_si_a y]
    · unfold lkB
      rw [hx, if_pos c]
      refine ⟨?_, ?_, fun k hk => ?_⟩
      · rw [gi_cpM_a (by omega), gi_si_k (by omega), gi_si]
      · rw [gi_cpM_a (by omega), gi_si]
      · rw [gi_cpM_t (by have : k < n := hk; omega), gi_si_a (by omega), gi_si_a (by omega)]; exact hR k hk
  have no : ¬ (B.1 < x ∨ (x = B.1 ∧ 0 < x ∧ n < B.2.1)) → Q none (LAY v) μ bc bs := fun c => by
    refine h μ Fr.rf ?_
    unfold lkB
    rw [hx, if_neg c]; exact hB
  refine hZ 400 [32] _ _ _ _ _ _ _ ?_
  simp -implicitDefEqProofs (disch := omega) only [wp_step xX0_compare_0, wp_step xX0_compare_1, wp_step xX0_compare_2, wp_step xX0_compare_3, wp_step xX0_compare_4, wp_step xX0_compare_5, wp_step xX0_compare_6, wp_step xX0_compare_9, wp_step xX0_compare_12, wp_step xX0_compare_13, wp_step xX0_compare_14, wp_step xX0_compare_17, wp_step xX0_compare_20, wp_step xX0_compare_21, wp_step xX0_compare_24, wp_step xX0_compare_25, wp_step xX0_compare_26, wp_step xX0_compare_29, ↓e_getf iX0_compare f0_34, ↓e_getf iX0_compare f0_30, ↓e_putf iX0_compare f0_34, ↓e_putf iX0_compare f0_30, ↓e_getf iX0_compare f0_16, ↓e_getf iX0_compare f0_20, ↓e_acp iX0_compare j0_76, iX0_compare, wp_step xX0_compare_57, ↓e_getf iX0_compare f0_34, ↓e_getf iX0_compare f0_30, ↓e_putf iX0_compare f0_34, ↓e_putf iX0_compare f0_30, ↓e_getf iX0_compare f0_16, ↓e_getf iX0_compare f0_20, ↓e_acp iX0_compare j0_76, iX0_compare, exec1, ↓p1_e, ↓p2_e, ↓q1_e, ↓q2_e, ↓qi_e, ↓pr_e, ↓pa_e, ↓pa_f, ↓pst_e, ↓qst_e, ↓rst_e, ↓pac_e, ↓pargs_0, ↓pargs_s, ↓gfld_0, ↓gfld_1, ↓gfld_2, ↓gfld_3, ↓pfld_i, ↓pfld_l, ↓pfld_r, ↓sfld_i, ↓sfld_l, ↓sfld_r, brI, pushv, rcv, lget, lset, lset2, isL, rok, szs, List.elem_nil, List.elem_cons, cond_true, cond_false, Option.map_some, beq_self_eq_true, Bool.true_and, Bool.and_true, Bool.false_and, Bool.and_false, Bool.or_false, Bool.false_or, Bool.or_true, Bool.true_or, Nat.reduceAdd, Nat.reduceSub, Nat.reduceMul, Nat.reduceBEq, Nat.reduceEqDiff, Nat.reduceLeDiff, Nat.sub_zero, true_and, and_true, false_and, and_false, true_or, or_true, false_or, or_false, reduceCtorEq, ↓reduceIte, List.getD_cons_zero, List.getD_cons_succ, List.length_cons, List.length_nil, ct_i, ct_r, ct_l, ct_f, ct_n, false_implies, true_implies, y127, b1, b2, nI_mul, hx]
  refine ⟨fun c => upd (Or.inl ((nI_ltI (by omega) (by omega)).mp c)), fun c => ?_⟩
  have c' : ¬ B.1 < x := fun z => c (nI_lt z (by omega))
  refine ⟨fun c2 => no (fun z => ?_), fun c2 => ⟨fun c3 => no (fun z => ?_), fun c3 => ⟨fun c4 => no (fun z => ?_), fun c4 => upd (Or.inr ⟨?_, ?_, ?_⟩)⟩⟩⟩
  · rcases z with z | z
    · exact c' z
    · exact c2 (by rw [z.1])
  · rcases z with z | z
    · exact c' z
    · exact nI_nle z.2.1 (by omega) c3
  · rcases z with z | z
    · exact c' z
    · have := (nI_leI (by omega) (by omega)).mp c4; omega
  · exact (nI_eq (by omega) (by omega)).mp c2
  · exact Nat.pos_of_ne_zero (fun z => c3 (by rw [z]; decide))
  · exact Nat.not_le.mp (fun z => c4 (nI_le z (by omega)))
end ADU
