section MRG
variable {G : Gx} {d v : Nat} {μ : Mem} {bc bs : Nat} {Q : Option Value → List Sh → Mem → Nat → Nat → Prop}
theorem sm_dbS {A : Nat → Nat → Int32} {nr a b : Nat} : ∀ {nb : Nat}, (∀ i, i < nb → RibOK A nr i) → sm (fun i => owT (A 11 i) (A 8 i) (A 9 i) (A 10 i) (A 7 i) (nI a) (nI b)) nb = nI (dbS A nb a b)
  | 0, _ => rfl
  | nb + 1, h => by
    rw [sm, sm_dbS (fun i hi => h i (by omega))]
    unfold dbS
    rw [smN]
    obtain ⟨-, -, ⟨l, hl, el, -⟩, -⟩ := h nb (by omega)
    have e : owT (A 11 nb) (A 8 nb) (A 9 nb) (A 10 nb) (A 7 nb) (nI a) (nI b) = nI (dbT A a b nb) := by
      unfold owT dbT
      by_cases c : ¬ A 11 nb = 0 ∧ A 8 nb = 1 ∧ A 9 nb = nI a ∧ A 10 nb = nI b
      · rw [if_pos c, if_pos (by unfold dbB; rw [decide_eq_false c.1, decide_eq_true c.2.1, decide_eq_true c.2.2.1, decide_eq_true c.2.2.2]; rfl), el, nI_clamp (by omega)]
      · rw [if_neg c, if_neg]
        · rfl
        · intro z
          unfold dbB at z
          obtain ⟨z1, z2⟩ := Bool.and_eq_true_iff.mp z
          obtain ⟨z1, z3⟩ := Bool.and_eq_true_iff.mp z1
          obtain ⟨z1, z4⟩ := Bool.and_eq_true_iff.mp z1
          refine c ⟨fun y => ?_, of_decide_eq_true z4, of_decide_eq_true z3, of_decide_eq_true z2⟩
          rw [decide_eq_true y] at z1; exact absurd z1 (by decide)
    rw [e, nI_add]
def DbR (μ : Mem) (S : Nat → Nat → Nat) : Prop := ∀ a b, a < 8 → b < 8 → gi μ 189 (8 * a + b) = nI (S a b)
def RwR (μ : Mem) (P : Nat → Nat) (n : Nat) : Prop := ∀ k, k < n → gi μ 190 k = nI (P k)
def BsR (μ : Mem) (B : Bst) : Prop := gi μ 144 65 = nI B.1 ∧ gi μ 144 64 = nI B.2.1 ∧ ∀ k, k < B.2.1 → gi μ 191 k = nI (B.2.2 k)
set_option maxRecDepth 100000 in
set_option maxHeartbeats 1000000 in
theorem k_mIsOn {P : Nat → Nat} {n q : Nat} (hn : n ≤ 8) (hq : q < 100) (hR : RwR μ P n) (hP : ∀ k, k < n → P k < 8) (h : Q (some (.int (bN (onP P n q)))) (LAY v) μ bc bs) : KC G d mX11_isOn [.ref 144, .int (nI n), .int (nI q)] (LAY v) μ bc bs Q := by
  refine KC_intro 0 0 kX11_isOn (by decide) (by decide) (Nat.zero_le _) (Nat.zero_le _) (Nat.le_of_ble_eq_true rfl) (fun Z hZ => ?_)
  show Z 0 [some (.ref 144), some (.int (nI n)), some (.int (nI q)), none] [] (LAY v) μ 0 0
  have loop : ∀ k, k ≤ n → ((∀ j, j < k → decide (P j = q) = false) → Z 2 [some (.ref 144), some (.int (nI n)), some (.int (nI q)), some (.int (nI k))] [] (LAY v) μ 0 0) := by
    refine loopN n (fun z => ?_) (fun k hk ih z => ?_)
    · refine hZ 400 [2] _ _ _ _ _ _ _ ?_
      simp -implicitDefEqProofs (disch := omega) only [wp_step xX11_isOn_2, wp_step xX11_isOn_3, wp_step xX11_isOn_4, ↓e_getf iX11_isOn f11_155, iX11_isOn, wp_step xX11_isOn_25, wp_step xX11_isOn_26, ↓e_getf iX11_isOn f11_155, iX11_isOn, exec1, ↓p1_e, ↓p2_e, ↓q1_e, ↓q2_e, ↓qi_e, ↓pr_e, ↓pa_e, ↓pa_f, ↓pst_e, ↓qst_e, ↓rst_e, ↓pac_e, ↓pargs_0, ↓pargs_s, ↓gfld_0, ↓gfld_1, ↓gfld_2, ↓gfld_3, ↓pfld_i, ↓pfld_l, ↓pfld_r, ↓sfld_i, ↓sfld_l, ↓sfld_r, brI, pushv, rcv, lget, lset, lset2, isL, rok, szs, List.elem_nil, List.elem_cons, cond_true, cond_false, Option.map_some, beq_self_eq_true, Bool.true_and, Bool.and_true, Bool.false_and, Bool.and_false, Bool.or_false, Bool.false_or, Bool.or_true, Bool.true_or, Nat.reduceAdd, Nat.reduceSub, Nat.reduceMul, Nat.reduceBEq, Nat.reduceEqDiff, Nat.reduceLeDiff, Nat.sub_zero, true_and, and_true, false_and, and_false, true_or, or_true, false_or, or_false, reduceCtorEq, ↓reduceIte, List.getD_cons_zero, List.getD_cons_succ, List.length_cons, List.length_nil, ct_i, ct_r, ct_l, ct_f, ct_n, false_implies, true_implies, nle_t (show n < 2 ^ 31 by omega), not_false_eq_true, true_implies, false_implies, and_true, true_and, not_true_eq_false]
      rw [show onP P n q = false from anB_f z] at h; exact h
    · have vk : vp_in (nI k) 9 := vin (by omega) (by omega)
      have pk := hP k hk
      refine hZ 400 [2] _ _ _ _ _ _ _ ?_
      simp -implicitDefEqProofs (disch := omega) only [wp_step xX11_isOn_2, wp_step xX11_isOn_3, wp_step xX11_isOn_4, wp_step xX11_isOn_7, wp_step xX11_isOn_8, wp_step xX11_isOn_11, wp_step xX11_isOn_12, wp_step xX11_isOn_13, wp_step xX11_isOn_14, wp_step xX11_isOn_17, wp_step xX11_isOn_18, wp_step xX11_isOn_19, wp_step xX11_isOn_22, ↓e_getf iX11_isOn f11_155, iX11_isOn, exec1, ↓p1_e, ↓p2_e, ↓q1_e, ↓q2_e, ↓qi_e, ↓pr_e, ↓pa_e, ↓pa_f, ↓pst_e, ↓qst_e, ↓rst_e, ↓pac_e, ↓pargs_0, ↓pargs_s, ↓gfld_0, ↓gfld_1, ↓gfld_2, ↓gfld_3, ↓pfld_i, ↓pfld_l, ↓pfld_r, ↓sfld_i, ↓sfld_l, ↓sfld_r, brI, pushv, rcv, lget, lset, lset2, isL, rok, szs, List.elem_nil, List.elem_cons, cond_true, cond_false, Option.map_some, beq_self_eq_true, Bool.true_and, Bool.and_true, Bool.false_and, Bool.and_false, Bool.or_false, Bool.false_or, Bool.or_true, Bool.true_or, Nat.reduceAdd, Nat.reduceSub, Nat.reduceMul, Nat.reduceBEq, Nat.reduceEqDiff, Nat.reduceLeDiff, Nat.sub_zero, true_and, and_true, false_and, and_false, true_or, or_true, false_or, or_false, reduceCtorEq, ↓reduceIte, List.getD_cons_zero, List.getD_cons_succ, List.length_cons, List.length_nil, ct_i, ct_r, ct_l, ct_f, ct_n, false_implies, true_implies, y144, y190, nle_f hk (show n < 2 ^ 31 by omega), vk, nI_clamp, hR k hk, nI_eq, nI_1, not_false_eq_true, true_implies, false_implies, and_true, true_and, not_true_eq_false]
      refine ⟨fun c => ih (fun j hj => ?_), fun c => ?_⟩
      · by_cases y : j = k
        · subst y; exact decide_eq_false c
        · exact z j (by omega)
      · rw [show onP P n q = true from anB_t hk (decide_eq_true c)] at h; exact h
  refine hZ 400 [2] _ _ _ _ _ _ _ ?_
  simp -implicitDefEqProofs (disch := omega) only [wp_step xX11_isOn_0, wp_step xX11_isOn_1, ↓e_getf iX11_isOn f11_155, iX11_isOn, exec1, ↓p1_e, ↓p2_e, ↓q1_e, ↓q2_e, ↓qi_e, ↓pr_e, ↓pa_e, ↓pa_f, ↓pst_e, ↓qst_e, ↓rst_e, ↓pac_e, ↓pargs_0, ↓pargs_s, ↓gfld_0, ↓gfld_1, ↓gfld_2, ↓gfld_3, ↓pfld_i, ↓pfld_l, ↓pfld_r, ↓sfld_i, ↓sfld_l, ↓sfld_r, brI, pushv, rcv, lget, lset, lset2, isL, rok, szs, List.elem_nil, List.elem_cons, cond_true, cond_false, Option.map_some, beq_self_eq_true, Bool.true_and, Bool.and_true, Bool.false_and, Bool.and_false, Bool.or_false, Bool.false_or, Bool.or_true, Bool.true_or, Nat.reduceAdd, Nat.reduceSub, Nat.reduceMul, Nat.reduceBEq, Nat.reduceEqDiff, Nat.reduceLeDiff, Nat.sub_zero, true_and, and_true, false_and, and_false, true_or, or_true, false_or, or_false, reduceCtorEq, ↓reduceIte, List.getD_cons_zero, List.getD_cons_succ, List.length_cons, List.length_nil, ct_i, ct_r, ct_l, ct_f, ct_n, false_implies, true_implies]
  exact loop 0 (by omega) (fun j h => absurd h (by omega))
def pLk (a j : Nat) : Prop := a = 191 ∨ a = 144 ∧ (j = 64 ∨ j = 65)
set_option maxRecDepth 100000 in
set_option maxHeartbeats 1000000 in
theorem k_mLooksAt {S : Nat → Nat → Nat} {P : Nat → Nat} {n : Nat} {B : Bst} (h2 : 2 ≤ n) (hn : n ≤ 8) (hS : SOK S) (hD : DbR μ S) (hR : RwR μ P n) (hP : PaO S P n) (hB : BsR μ B) (hO : BOK B) (h : ∀ μ', Fr pLk μ μ' → BsR μ' (lkB S P n B) → Q none (LAY v) μ' bc bs) : KC G d mX11_looksAt [.ref 144, .int (nI n)] (LAY v) μ bc bs Q := by
  obtain ⟨b1, b2, b3⟩ := id hB
  obtain ⟨o1, o2⟩ := hO
  refine KC_intro 0 0 kX11_looksAt (by decide) (by decide) (Nat.zero_le _) (Nat.zero_le _) (Nat.le_of_ble_eq_true rfl) (fun Z hZ => ?_)
  show Z 0 [some (.ref 144), some (.int (nI n)), none, none, none] [] (LAY v) μ 0 0
  have p0 := hP.1 0 (by omega)
  have p7 := hP.1 (n - 1) (by omega)
  have r0 : gi μ 190 0 = nI (P 0) := hR 0 (by omega)
  have r7 : gi μ 190 (n - 1) = nI (P (n - 1)) := hR (n - 1) (by omega)
  have e1 : nI n - 1 = nI (n - 1) := nI_sub (b := 1) (by omega)
  have v1 : vp_in (nI (n - 1)) 9 := vin (by omega) (by omega)
  have v0 : vp_in 0 9 := vin (i := 0) (by omega) (by omega)
  have c0 : (0 : Int32).toNatClampNeg = 0 := rfl
  have vx : vp_in (nI (8 * P (n - 1) + P 0)) 64 := vin (by omega) (by omega)
  have sb := hS.1 (P (n - 1)) (P 0)
  obtain ⟨cl, hcl⟩ : ∃ cl, cl = S (P (n - 1)) (P 0) := ⟨_, rfl⟩
  have ex : gi μ 189 (8 * P (n - 1) + P 0) = nI cl := by rw [hcl]; exact hD _ _ p7 p0
  rw [← hcl] at sb
  by_cases z : cl = 0
  · refine hZ 400 [] _ _ _ _ _ _ _ ?_
    simp -implicitDefEqProofs (disch := omega) only [wp_step xX11_looksAt_0, wp_step xX11_looksAt_1, wp_step xX11_looksAt_2, wp_step xX11_looksAt_5, wp_step xX11_looksAt_6, wp_step xX11_looksAt_9, wp_step xX11_looksAt_11, wp_step xX11_looksAt_12, wp_step xX11_looksAt_15, wp_step xX11_looksAt_16, wp_step xX11_looksAt_17, wp_step xX11_looksAt_18, wp_step xX11_looksAt_19, wp_step xX11_looksAt_20, wp_step xX11_looksAt_21, wp_step xX11_looksAt_24, wp_step xX11_looksAt_25, wp_step xX11_looksAt_26, wp_step xX11_looksAt_27, wp_step xX11_looksAt_28, wp_step xX11_looksAt_31, ↓e_getf iX11_looksAt f11_152, ↓e_getf iX11_looksAt f11_155, ↓e_getf iX11_looksAt f11_473, ↓e_getf iX11_looksAt f11_476, ↓e_putf iX11_looksAt f11_473, ↓e_putf iX11_looksAt f11_476, ↓e_getf iX11_looksAt f11_158, iX11_looksAt, exec1, ↓p1_e, ↓p2_e, ↓q1_e, ↓q2_e, ↓qi_e, ↓pr_e, ↓pa_e, ↓pa_f, ↓pst_e, ↓qst_e, ↓rst_e, ↓pac_e, ↓pargs_0, ↓pargs_s, ↓gfld_0, ↓gfld_1, ↓gfld_2, ↓gfld_3, ↓pfld_i, ↓pfld_l, ↓pfld_r, ↓sfld_i, ↓sfld_l, ↓sfld_r, brI, pushv, rcv, lget, lset, lset2, isL, rok, szs, List.elem_nil, List.elem_cons, cond_true, cond_false, Option.map_some, beq_self_eq_true, Bool.true_and, Bool.and_true, Bool.false_and, Bool.and_false, Bool.or_false, Bool.false_or, Bool.or_true, Bool.true_or, Nat.reduceAdd, Nat.reduceSub, Nat.reduceMul, Nat.reduceBEq, Nat.reduceEqDiff, Nat.reduceLeDiff, Nat.sub_zero, true_and, and_true, false_and, and_false, true_or, or_true, false_or, or_false, reduceCtorEq, ↓reduceIte, List.getD_cons_zero, List.getD_cons_succ, List.length_cons, List.length_nil, ct_i, ct_r, ct_l, ct_f, ct_n, false_implies, true_implies, y144, y189, y190, show (nI n < 2) = False from eq_false (nI_nlt (b := 2) h2 (by omega)), e1, v1, v0, c0, nI_clamp, r0, r7, dix, vx, ex, z, show (nI 0 = 0) = True from eq_true rfl, not_false_eq_true, true_implies, false_implies, and_true, true_and, not_true_eq_false]
    refine h μ Fr.rf ?_
    rw [lkB_0 (by unfold mnE; rw [← hcl, z]; exact Nat.min_zero _)]; exact hB
  · have lp : ∀ k, k ≤ n - 1 → Z 58 [some (.ref 144), some (.int (nI n)), some (.int (nI (min (lsE S P (k + 1)) cl))), some (.int (nI k)), none] [] (LAY v) μ 0 0 := by
      refine loopN (n - 1) ?_ (fun k hk ih => ?_)
      · have em : min (lsE S P (n - 1 + 1)) cl = mnE S P n := by unfold mnE; rw [← hcl, show n - 1 + 1 = n by omega]
        rw [em]
        have hm := mnE_le (P := P) (n := n) hS
        have hmn : mnE S P n * n ≤ 3960 * 8 := Nat.mul_le_mul hm hn
        have mp : 0 < mnE S P n := by unfold mnE; rw [← hcl]; have := hP.2.2; omega
        have xp : 0 < mnE S P n * n := Nat.mul_pos mp (by omega)
        have no : ¬ (B.1 < mnE S P n * n ∨ (mnE S P n * n = B.1 ∧ 0 < mnE S P n * n ∧ n < B.2.1)) → Q none (LAY v) μ bc bs := fun c => by
          refine h μ Fr.rf ?_
          unfold lkB
          rw [if_neg c]; exact hB
        generalize hx : mnE S P n * n = x at *
        have upd : (B.1 < x ∨ (x = B.1 ∧ 0 < x ∧ n < B.2.1)) → Z 151 [some (.ref 144), some (.int (nI n)), some (.int (nI (mnE S P n))), some (.int (nI x)), none] [] (LAY v) μ 0 0 := fun c => by
          have cp : ∀ e, e ≤ n → (∀ μ1, Fr pLk μ μ1 → gi μ1 144 65 = nI x → gi μ1 144 64 = nI n → (∀ k, k < e → gi μ1 191 k = nI (P k)) → Z 164 [some (.ref 144), some (.int (nI n)), some (.int (nI (mnE S P n))), some (.int (nI x)), some (.int (nI e))] [] (LAY v) μ1 0 0) := by
            refine loopN n (fun μ1 hF a1 a2 a3 => ?_) (fun e he ih μ1 hF a1 a2 a3 => ?_)
            · refine hZ 400 [] _ _ _ _ _ _ _ ?_
              simp -implicitDefEqProofs (disch := omega) only [wp_step xX11_looksAt_164, wp_step xX11_looksAt_166, wp_step xX11_looksAt_167, ↓e_getf iX11_looksAt f11_152, ↓e_getf iX11_looksAt f11_155, ↓e_getf iX11_looksAt f11_473, ↓e_getf iX11_looksAt f11_476, ↓e_putf iX11_looksAt f11_473, ↓e_putf iX11_looksAt f11_476, ↓e_getf iX11_looksAt f11_158, iX11_looksAt, wp_step xX11_looksAt_190, ↓e_getf iX11_looksAt f11_152, ↓e_getf iX11_looksAt f11_155, ↓e_getf iX11_looksAt f11_473, ↓e_getf iX11_looksAt f11_476, ↓e_putf iX11_looksAt f11_473, ↓e_putf iX11_looksAt f11_476, ↓e_getf iX11_looksAt f11_158, iX11_looksAt, exec1, ↓p1_e, ↓p2_e, ↓q1_e, ↓q2_e, ↓qi_e, ↓pr_e, ↓pa_e, ↓pa_f, ↓pst_e, ↓qst_e, ↓rst_e, ↓pac_e, ↓pargs_0, ↓pargs_s, ↓gfld_0, ↓gfld_1, ↓gfld_2, ↓gfld_3, ↓pfld_i, ↓pfld_l, ↓pfld_r, ↓sfld_i, ↓sfld_l, ↓sfld_r, brI, pushv, rcv, lget, lset, lset2, isL, rok, szs, List.elem_nil, List.elem_cons, cond_true, cond_false, Option.map_some, beq_self_eq_true, Bool.true_and, Bool.and_true, Bool.false_and, Bool.and_false, Bool.or_false, Bool.false_or, Bool.or_true, Bool.true_or, Nat.reduceAdd, Nat.reduceSub, Nat.reduceMul, Nat.reduceBEq, Nat.reduceEqDiff, Nat.reduceLeDiff, Nat.sub_zero, true_and, and_true, false_and, and_false, true_or, or_true, false_or, or_false, reduceCtorEq, ↓reduceIte, List.getD_cons_zero, List.getD_cons_succ, List.length_cons, List.length_nil, ct_i, ct_r, ct_l, ct_f, ct_n, false_implies, true_implies, nle_t (show n < 2 ^ 31 by omega), not_false_eq_true, true_implies, false_implies, and_true, true_and, not_true_eq_false]
              refine h μ1 hF ?_
              unfold lkB
              rw [hx, if_pos c]
              exact ⟨a1, a2, a3⟩
            · have ve : vp_in (nI e) 9 := vin (by omega) (by omega)
              have r : gi μ1 190 e = nI (P e) := (hF.1 _ _ (by unfold pLk; omega)).trans (hR e he)
              refine hZ 400 [164] _ _ _ _ _ _ _ ?_
              simp -implicitDefEqProofs (disch := omega) only [wp_step xX11_looksAt_164, wp_step xX11_looksAt_166, wp_step xX11_looksAt_167, wp_step xX11_looksAt_170, wp_step xX11_looksAt_171, wp_step xX11_looksAt_174, wp_step xX11_looksAt_176, wp_step xX11_looksAt_177, wp_step xX11_looksAt_180, wp_step xX11_looksAt_182, wp_step xX11_looksAt_183, wp_step xX11_looksAt_184, wp_step xX11_looksAt_187, ↓e_getf iX11_looksAt f11_152, ↓e_getf iX11_looksAt f11_155, ↓e_getf iX11_looksAt f11_473, ↓e_getf iX11_looksAt f11_476, ↓e_putf iX11_looksAt f11_473, ↓e_putf iX11_looksAt f11_476, ↓e_getf iX11_looksAt f11_158, iX11_looksAt, exec1, ↓p1_e, ↓p2_e, ↓q1_e, ↓q2_e, ↓qi_e, ↓pr_e, ↓pa_e, ↓pa_f, ↓pst_e, ↓qst_e, ↓rst_e, ↓pac_e, ↓pargs_0, ↓pargs_s, ↓gfld_0, ↓gfld_1, ↓gfld_2, ↓gfld_3, ↓pfld_i, ↓pfld_l, ↓pfld_r, ↓sfld_i, ↓sfld_l, ↓sfld_r, brI, pushv, rcv, lget, lset, lset2, isL, rok, szs, List.elem_nil, List.elem_cons, cond_true, cond_false, Option.map_some, beq_self_eq_true, Bool.true_and, Bool.and_true, Bool.false_and, Bool.and_false, Bool.or_false, Bool.false_or, Bool.or_true, Bool.true_or, Nat.reduceAdd, Nat.reduceSub, Nat.reduceMul, Nat.reduceBEq, Nat.reduceEqDiff, Nat.reduceLeDiff, Nat.sub_zero, true_and, and_true, false_and, and_false, true_or, or_true, false_or, or_false, reduceCtorEq, ↓reduceIte, List.getD_cons_zero, List.getD_cons_succ, List.length_cons, List.length_nil, ct_i, ct_r, ct_l, ct_f, ct_n, false_implies, true_implies, y144, y190, y191, nle_f he (show n < 2 ^ 31 by omega), ve, nI_clamp, r, nI_1, not_false_eq_true, true_implies, false_implies, and_true, true_and, not_true_eq_false]
              refine ih _ (hF.si (Or.inl rfl)) (by rw [gi_si_a (by omega)]; exact a1) (by rw [gi_si_a (by omega)]; exact a2) (fun k hk => ?_)
              by_cases y : k = e
              · subst y; rw [gi_si]
              · rw [gi_si_k y]; exact a3 k (by omega)
          refine hZ 400 [164] _ _ _ _ _ _ _ ?_
          simp -implicitDefEqProofs (disch := omega) only [wp_step xX11_looksAt_151, wp_step xX11_looksAt_152, wp_step xX11_looksAt_153, wp_step xX11_looksAt_156, wp_step xX11_looksAt_157, wp_step xX11_looksAt_158, wp_step xX11_looksAt_161, wp_step xX11_looksAt_162, ↓e_getf iX11_looksAt f11_152, ↓e_getf iX11_looksAt f11_155, ↓e_getf iX11_looksAt f11_473, ↓e_getf iX11_looksAt f11_476, ↓e_putf iX11_looksAt f11_473, ↓e_putf iX11_looksAt f11_476, ↓e_getf iX11_looksAt f11_158, iX11_looksAt, exec1, ↓p1_e, ↓p2_e, ↓q1_e, ↓q2_e, ↓qi_e, ↓pr_e, ↓pa_e, ↓pa_f, ↓pst_e, ↓qst_e, ↓rst_e, ↓pac_e, ↓pargs_0, ↓pargs_s, ↓gfld_0, ↓gfld_1, ↓gfld_2, ↓gfld_3, ↓pfld_i, ↓pfld_l, ↓pfld_r, ↓sfld_i, ↓sfld_l, ↓sfld_r, brI, pushv, rcv, lget, lset, lset2, isL, rok, szs, List.elem_nil, List.elem_cons, cond_true, cond_false, Option.map_some, beq_self_eq_true, Bool.true_and, Bool.and_true, Bool.false_and, Bool.and_false, Bool.or_false, Bool.false_or, Bool.or_true, Bool.true_or, Nat.reduceAdd, Nat.reduceSub, Nat.reduceMul, Nat.reduceBEq, Nat.reduceEqDiff, Nat.reduceLeDiff, Nat.sub_zero, true_and, and_true, false_and, and_false, true_or, or_true, false_or, or_false, reduceCtorEq, ↓reduceIte, List.getD_cons_zero, List.getD_cons_succ, List.length_cons, List.length_nil, ct_i, ct_r, ct_l, ct_f, ct_n, false_implies, true_implies, y144]
          exact cp 0 (by omega) _ ((Fr.rf.si (Or.inr ⟨rfl, Or.inr rfl⟩)).si (Or.inr ⟨rfl, Or.inl rfl⟩)) (by rw [gi_si_k (by omega), gi_si]) gi_si (fun k hk => absurd hk (by omega))
        refine hZ 400 [151] _ _ _ _ _ _ _ ?_
        simp -implicitDefEqProofs (disch := omega) only [wp_step xX11_looksAt_58, wp_step xX11_looksAt_59, wp_step xX11_looksAt_60, wp_step xX11_looksAt_61, wp_step xX11_looksAt_62, ↓e_getf iX11_looksAt f11_152, ↓e_getf iX11_looksAt f11_155, ↓e_getf iX11_looksAt f11_473, ↓e_getf iX11_looksAt f11_476, ↓e_putf iX11_looksAt f11_473, ↓e_putf iX11_looksAt f11_476, ↓e_getf iX11_looksAt f11_158, iX11_looksAt, wp_step xX11_looksAt_122, wp_step xX11_looksAt_123, wp_step xX11_looksAt_124, wp_step xX11_looksAt_125, wp_step xX11_looksAt_126, wp_step xX11_looksAt_127, wp_step xX11_looksAt_128, wp_step xX11_looksAt_131, wp_step xX11_looksAt_134, wp_step xX11_looksAt_135, wp_step xX11_looksAt_136, wp_step xX11_looksAt_139, wp_step xX11_looksAt_142, wp_step xX11_looksAt_143, wp_step xX11_looksAt_144, wp_step xX11_looksAt_147, wp_step xX11_looksAt_150, ↓e_getf iX11_looksAt f11_152, ↓e_getf iX11_looksAt f11_155, ↓e_getf iX11_looksAt f11_473, ↓e_getf iX11_looksAt f11_476, ↓e_putf iX11_looksAt f11_473, ↓e_putf iX11_looksAt f11_476, ↓e_getf iX11_looksAt f11_158, iX11_looksAt, exec1, ↓p1_e, ↓p2_e, ↓q1_e, ↓q2_e, ↓qi_e, ↓pr_e, ↓pa_e, ↓pa_f, ↓pst_e, ↓qst_e, ↓rst_e, ↓pac_e, ↓pargs_0, ↓pargs_s, ↓gfld_0, ↓gfld_1, ↓gfld_2, ↓gfld_3, ↓pfld_i, ↓pfld_l, ↓pfld_r, ↓sfld_i, ↓sfld_l, ↓sfld_r, brI, pushv, rcv, lget, lset, lset2, isL, rok, szs, List.elem_nil, List.elem_cons, cond_true, cond_false, Option.map_some, beq_self_eq_true, Bool.true_and, Bool.and_true, Bool.false_and, Bool.and_false, Bool.or_false, Bool.false_or, Bool.or_true, Bool.true_or, Nat.reduceAdd, Nat.reduceSub, Nat.reduceMul, Nat.reduceBEq, Nat.reduceEqDiff, Nat.reduceLeDiff, Nat.sub_zero, true_and, and_true, false_and, and_false, true_or, or_true, false_or, or_false, reduceCtorEq, ↓reduceIte, List.getD_cons_zero, List.getD_cons_succ, List.length_cons, List.length_nil, ct_i, ct_r, ct_l, ct_f, ct_n, false_implies, true_implies, y144, b1, b2, nI_1, show n - 1 + 1 = n by omega, nle_t (show n < 2 ^ 31 by omega), nI_mul, hx, not_false_eq_true, true_implies, false_implies, and_true, true_and, not_true_eq_false]
        refine ⟨fun c => no (fun y => ?_), fun c => ?_⟩
        · have := (nI_ltI (by omega) (by omega)).mp c; omega
        · have c' : ¬ x < B.1 := fun y => c (nI_lt y (by omega))
          refine ⟨fun c2 => upd (Or.inl ?_), fun c2 => ⟨fun c3 => upd (Or.inr ⟨?_, xp, ?_⟩), fun c3 => no (fun y => ?_)⟩⟩
          · have : ¬ x = B.1 := fun y => c2 (by rw [y]); omega
          · exact (nI_eq (by omega) (by omega)).mp c2
          · exact (nI_ltI (by omega) (by omega)).mp c3
          · have y1 := (nI_eq (by omega) (by omega)).mp c2
            have y2 : ¬ n < B.2.1 := fun z => c3 (nI_lt z (by omega))
            omega
      · have vk : vp_in (nI k) 9 := vin (by omega) (by omega)
        have vk1 : vp_in (nI (k + 1)) 9 := vin (by omega) (by omega)
        have pk := hP.1 k (by omega)
        have pk1 := hP.1 (k + 1) (by omega)
        have vy : vp_in (nI (8 * P k + P (k + 1))) 64 := vin (by omega) (by omega)
        have ey := hD _ _ pk pk1
        have sk := hS.1 (P k) (P (k + 1))
        rw [lsE] at ih
        refine hZ 400 [58] _ _ _ _ _ _ _ ?_
        simp -implicitDefEqProofs (disch := omega) only [wp_step xX11_looksAt_58, wp_step xX11_looksAt_59, wp_step xX11_looksAt_60, wp_step xX11_looksAt_61, wp_step xX11_looksAt_62, wp_step xX11_looksAt_65, wp_step xX11_looksAt_66, wp_step xX11_looksAt_69, wp_step xX11_looksAt_71, wp_step xX11_looksAt_72, wp_step xX11_looksAt_75, wp_step xX11_looksAt_76, wp_step xX11_looksAt_77, wp_step xX11_looksAt_78, wp_step xX11_looksAt_79, wp_step xX11_looksAt_82, wp_step xX11_looksAt_83, wp_step xX11_looksAt_84, wp_step xX11_looksAt_85, wp_step xX11_looksAt_86, wp_step xX11_looksAt_87, wp_step xX11_looksAt_88, wp_step xX11_looksAt_89, wp_step xX11_looksAt_92, wp_step xX11_looksAt_93, wp_step xX11_looksAt_96, wp_step xX11_looksAt_98, wp_step xX11_looksAt_99, wp_step xX11_looksAt_102, wp_step xX11_looksAt_103, wp_step xX11_looksAt_104, wp_step xX11_looksAt_105, wp_step xX11_looksAt_106, wp_step xX11_looksAt_109, wp_step xX11_looksAt_110, wp_step xX11_looksAt_111, wp_step xX11_looksAt_112, wp_step xX11_looksAt_113, wp_step xX11_looksAt_114, wp_step xX11_looksAt_115, wp_step xX11_looksAt_116, wp_step xX11_looksAt_119, ↓e_getf iX11_looksAt f11_152, ↓e_getf iX11_looksAt f11_155, ↓e_getf iX11_looksAt f11_473, ↓e_getf iX11_looksAt f11_476, ↓e_putf iX11_looksAt f11_473, ↓e_putf iX11_looksAt f11_476, ↓e_getf iX11_looksAt f11_158, iX11_looksAt, exec1, ↓p1_e, ↓p2_e, ↓q1_e, ↓q2_e, ↓qi_e, ↓pr_e, ↓pa_e, ↓pa_f, ↓pst_e, ↓qst_e, ↓rst_e, ↓pac_e, ↓pargs_0, ↓pargs_s, ↓gfld_0, ↓gfld_1, ↓gfld_2, ↓gfld_3, ↓pfld_i, ↓pfld_l, ↓pfld_r, ↓sfld_i, ↓sfld_l, ↓sfld_r, brI, pushv, rcv, lget, lset, lset2, isL, rok, szs, List.elem_nil, List.elem_cons, cond_true, cond_false, Option.map_some, beq_self_eq_true, Bool.true_and, Bool.and_true, Bool.false_and, Bool.and_false, Bool.or_false, Bool.false_or, Bool.or_true, Bool.true_or, Nat.reduceAdd, Nat.reduceSub, Nat.reduceMul, Nat.reduceBEq, Nat.reduceEqDiff, Nat.reduceLeDiff, Nat.sub_zero, true_and, and_true, false_and, and_false, true_or, or_true, false_or, or_false, reduceCtorEq, ↓reduceIte, List.getD_cons_zero, List.getD_cons_succ, List.length_cons, List.length_nil, ct_i, ct_r, ct_l, ct_f, ct_n, false_implies, true_implies, y144, y189, y190, nI_1, nle_f (show k + 1 < n by omega) (show n < 2 ^ 31 by omega), vk, vk1, nI_clamp, hR k (by omega), hR (k + 1) (by omega), dix, vy, ey, not_false_eq_true, true_implies, false_implies, and_true, true_and, not_true_eq_false]
        refine ⟨fun c => ?_, fun c => ?_⟩
        · have := (nI_leI (by omega) (by omega)).mp c
          rw [show min (min (lsE S P (k + 1)) (S (P k) (P (k + 1)))) cl = min (lsE S P (k + 1)) cl by omega] at ih
          exact ih
        · have : ¬ min (lsE S P (k + 1)) cl ≤ S (P k) (P (k + 1)) := fun y => c (nI_le y (by omega))
          rw [show min (min (lsE S P (k + 1)) (S (P k) (P (k + 1)))) cl = S (P k) (P (k + 1)) by omega] at ih
          exact ih
    have l0 := lp 0 (by omega)
    rw [show min (lsE S P (0 + 1)) cl = cl by show min 268435455 cl = cl; omega] at l0
    refine hZ 400 [58] _ _ _ _ _ _ _ ?_
    simp -implicitDefEqProofs (disch := omega) only [wp_step xX11_looksAt_0, wp_step xX11_looksAt_1, wp_step xX11_looksAt_2, wp_step xX11_looksAt_5, wp_step xX11_looksAt_6, wp_step xX11_looksAt_9, wp_step xX11_looksAt_11, wp_step xX11_looksAt_12, wp_step xX11_looksAt_15, wp_step xX11_looksAt_16, wp_step xX11_looksAt_17, wp_step xX11_looksAt_18, wp_step xX11_looksAt_19, wp_step xX11_looksAt_20, wp_step xX11_looksAt_21, wp_step xX11_looksAt_24, wp_step xX11_looksAt_25, wp_step xX11_looksAt_26, wp_step xX11_looksAt_27, wp_step xX11_looksAt_28, ↓e_getf iX11_looksAt f11_152, ↓e_getf iX11_looksAt f11_155, ↓e_getf iX11_looksAt f11_473, ↓e_getf iX11_looksAt f11_476, ↓e_putf iX11_looksAt f11_473, ↓e_putf iX11_looksAt f11_476, ↓e_getf iX11_looksAt f11_158, iX11_looksAt, wp_step xX11_looksAt_32, wp_step xX11_looksAt_33, wp_step xX11_looksAt_36, wp_step xX11_looksAt_38, wp_step xX11_looksAt_39, wp_step xX11_looksAt_42, wp_step xX11_looksAt_43, wp_step xX11_looksAt_44, wp_step xX11_looksAt_45, wp_step xX11_looksAt_46, wp_step xX11_looksAt_47, wp_step xX11_looksAt_48, wp_step xX11_looksAt_51, wp_step xX11_looksAt_52, wp_step xX11_looksAt_53, wp_step xX11_looksAt_54, wp_step xX11_looksAt_55, wp_step xX11_looksAt_56, wp_step xX11_looksAt_57, ↓e_getf iX11_looksAt f11_152, ↓e_getf iX11_looksAt f11_155, ↓e_getf iX11_looksAt f11_473, ↓e_getf iX11_looksAt f11_476, ↓e_putf iX11_looksAt f11_473, ↓e_putf iX11_looksAt f11_476, ↓e_getf iX11_looksAt f11_158, iX11_looksAt, exec1, ↓p1_e, ↓p2_e, ↓q1_e, ↓q2_e, ↓qi_e, ↓pr_e, ↓pa_e, ↓pa_f, ↓pst_e, ↓qst_e, ↓rst_e, ↓pac_e, ↓pargs_0, ↓pargs_s, ↓gfld_0, ↓gfld_1, ↓gfld_2, ↓gfld_3, ↓pfld_i, ↓pfld_l, ↓pfld_r, ↓sfld_i, ↓sfld_l, ↓sfld_r, brI, pushv, rcv, lget, lset, lset2, isL, rok, szs, List.elem_nil, List.elem_cons, cond_true, cond_false, Option.map_some, beq_self_eq_true, Bool.true_and, Bool.and_true, Bool.false_and, Bool.and_false, Bool.or_false, Bool.false_or, Bool.or_true, Bool.true_or, Nat.reduceAdd, Nat.reduceSub, Nat.reduceMul, Nat.reduceBEq, Nat.reduceEqDiff, Nat.reduceLeDiff, Nat.sub_zero, true_and, and_true, false_and, and_false, true_or, or_true, false_or, or_false, reduceCtorEq, ↓reduceIte, List.getD_cons_zero, List.getD_cons_succ, List.length_cons, List.length_nil, ct_i, ct_r, ct_l, ct_f, ct_n, false_implies, true_implies, y144, y189, y190, show (nI n < 2) = False from eq_false (nI_nlt (b := 2) h2 (by omega)), e1, v1, v0, c0, nI_clamp, r0, r7, dix, vx, ex, show (nI cl = 0) = False from eq_false (nI_ne0 (by omega) (by omega)), not_false_eq_true, true_implies, false_implies, and_true, true_and, not_true_eq_false]
    exact l0
end MRG
