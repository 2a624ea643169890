section GOS
variable {G : Gx} {d v : Nat} {μ : Mem} {bc bs : Nat} {Q : Option Value → List Sh → Mem → Nat → Nat → Prop} {m : Nat}
def p180 (a _ : Nat) : Prop := a = 180
theorem swF_lt {f : Nat → Nat} {k j i c n : Nat} (hf : ∀ x, x < n → f x < c) (hk : k < n) (hj : j < n) (hi : i < n) : swF f k j i < c := by
  unfold swF
  split
  · exact hf k hk
  · split
    · exact hf j hj
    · exact hf i hi
theorem jF_ok {f : Nat → Nat} {x : Nat} : ∀ {t : Nat}, (∃ j, j < t ∧ x ≤ f j) → jF f x t < t
  | 0, ⟨j, h, _⟩ => absurd h (by omega)
  | t + 1, ⟨j, h1, h2⟩ => by
    rw [jF]
    by_cases c : x ≤ f t
    · rw [if_pos c]; omega
    · rw [if_neg c]
      have := jF_ok (f := f) (x := x) (t := t) ⟨j, by
        by_cases e : j = t
        · rw [e] at h2; exact absurd h2 c
        · omega, h2⟩
      omega
set_option maxRecDepth 100000 in
set_option maxHeartbeats 1000000 in
theorem k_mGoesOn {f : Nat → Nat} (hm1 : 1 ≤ m) (hm : m ≤ 6) (hf : ∀ j, j < m → f j < 6) (hR : ∀ j, j < m → gi μ 180 j = nI (f j)) (h0 : nwF m f = none → Q (some (.int 0)) (LAY v) μ bc bs) (h1 : ∀ h, nwF m f = some h → ∀ μ', Fr p180 μ μ' → (∀ j, j < m → gi μ' 180 j = nI (h j)) → Q (some (.int 1)) (LAY v) μ' bc bs) : KC G d mX11_goesOn [.ref 144, .int (nI m)] (LAY v) μ bc bs Q := by
  refine KC_intro 0 0 kX11_goesOn (by decide) (by decide) (Nat.zero_le _) (Nat.zero_le _) (Nat.le_of_ble_eq_true rfl) (fun Z hZ => ?_)
  show Z 0 [some (.ref 144), some (.int (nI m)), none, none, none, none, none] [] (LAY v) μ 0 0
  have rest : ∀ k, kF f (m - 1) = some k → k + 1 < m → Z 37 [some (.ref 144), some (.int (nI m)), some (.int (nI k)), none, none, none, none] [] (LAY v) μ 0 0 := by
    intro k ek hk
    have fk := hf k (by omega)
    have vk : vp_in (nI k) 6 := vin (by omega) (by omega)
    have en : nwF m f = some (fun i => if k < i ∧ i < m then swF f k (jF f (f k) m) (m + k - i) else swF f k (jF f (f k) m) i) := by unfold nwF; rw [ek]
    have hJ : jF f (f k) m < m := jF_ok ⟨k, by omega, Nat.le_refl _⟩
    obtain ⟨J, eJ⟩ : ∃ J, J = jF f (f k) m := ⟨_, rfl⟩
    rw [← eJ] at en hJ
    obtain ⟨g, eg⟩ : ∃ g, g = swF f k J := ⟨_, rfl⟩
    rw [← eg] at en
    have gl : ∀ i, i < m → g i < 6 := fun i hi => by rw [eg]; exact swF_lt hf (by omega) hJ hi
    have e1 : nI m - 1 = nI (m - 1) := nI_sub (b := 1) hm1
    -- the rest is turned round
    have turn : ∀ u s, (m - 1 - s) - (k + 1 + s) ≤ u → k + 1 + s ≤ m - s → ∀ μ1 w4, Fr p180 μ μ1 → (∀ i, i < m → gi μ1 180 i = nI (if (k < i ∧ i < k + 1 + s) ∨ (m - 1 - s < i ∧ i < m) then g (m + k - i) else g i)) → Z 100 [some (.ref 144), some (.int (nI m)), some (.int (nI k)), some (.int (nI J)), w4, some (.int (nI (k + 1 + s))), some (.int (nI (m - 1 - s)))] [] (LAY v) μ1 0 0 := by
      intro u
      have out : ∀ s, k + 1 + s ≤ m - s → m - 1 - s ≤ k + 1 + s → ∀ μ1 w4, Fr p180 μ μ1 → (∀ i, i < m → gi μ1 180 i = nI (if (k < i ∧ i < k + 1 + s) ∨ (m - 1 - s < i ∧ i < m) then g (m + k - i) else g i)) → Z 100 [some (.ref 144), some (.int (nI m)), some (.int (nI k)), some (.int (nI J)), w4, some (.int (nI (k + 1 + s))), some (.int (nI (m - 1 - s)))] [] (LAY v) μ1 0 0 := fun s hs hle μ1 w4 hF hq => by
        refine hZ 400 [] _ _ _ _ _ _ _ ?_
        simp -implicitDefEqProofs (disch := omega) only [wp_step xX11_goesOn_100, wp_step xX11_goesOn_102, wp_step xX11_goesOn_104, ↓e_getf iX11_goesOn f11_124, iX11_goesOn, wp_step xX11_goesOn_148, wp_step xX11_goesOn_149, ↓e_getf iX11_goesOn f11_124, iX11_goesOn, exec1, ↓p1_e, ↓p2_e, ↓q1_e, ↓q2_e, ↓qi_e, ↓pr_e, ↓pa_e, ↓pa_f, ↓pst_e, ↓qst_e, ↓rst_e, ↓pac_e, ↓pargs_0, ↓pargs_s, ↓gfld_0, ↓gfld_1, ↓gfld_2, ↓gfld_3, ↓pfld_i, ↓pfld_l, ↓pfld_r, ↓sfld_i, ↓sfld_l, ↓sfld_r, brI, pushv, rcv, lget, lset, lset2, isL, rok, szs, List.elem_nil, List.elem_cons, cond_true, cond_false, Option.map_some, beq_self_eq_true, Bool.true_and, Bool.and_true, Bool.false_and, Bool.and_false, Bool.or_false, Bool.false_or, Bool.or_true, Bool.true_or, Nat.reduceAdd, Nat.reduceSub, Nat.reduceMul, Nat.reduceBEq, Nat.reduceEqDiff, Nat.reduceLeDiff, Nat.sub_zero, true_and, and_true, false_and, and_false, true_or, or_true, false_or, or_false, reduceCtorEq, ↓reduceIte, List.getD_cons_zero, List.getD_cons_succ, List.length_cons, List.length_nil, ct_i, ct_r, ct_l, ct_f, ct_n, false_implies, true_implies, show (nI (m - 1 - s) ≤ nI (k + 1 + s)) = True from eq_true (nI_le hle (by omega)), not_false_eq_true, true_implies, false_implies, and_true, true_and, not_true_eq_false]
        refine h1 _ en μ1 hF (fun i hi => ?_)
        rw [hq i hi]
        congr 1
        by_cases c : (k < i ∧ i < k + 1 + s) ∨ (m - 1 - s < i ∧ i < m)
        · rw [if_pos c, if_pos (by omega)]
        · rw [if_neg c]
          by_cases c2 : k < i ∧ i < m
          · rw [if_pos c2, show m + k - i = i by omega]
          · rw [if_neg c2]
      induction u with
      | zero => intro s hu hs μ1 w4 hF hq; exact out s hs (by omega) μ1 w4 hF hq
      | succ u ih =>
        intro s hu hs μ1 w4 hF hq
        by_cases cl : m - 1 - s ≤ k + 1 + s
        · exact out s hs cl μ1 w4 hF hq
        · have vl : vp_in (nI (k + 1 + s)) 6 := vin (by omega) (by omega)
          have vh : vp_in (nI (m - 1 - s)) 6 := vin (by omega) (by omega)
          have ql : gi μ1 180 (k + 1 + s) = nI (g (k + 1 + s)) := by rw [hq _ (by omega), if_neg (by omega)]
          have qh : gi μ1 180 (m - 1 - s) = nI (g (m - 1 - s)) := by rw [hq _ (by omega), if_neg (by omega)]
          have eh : nI (m - 1 - s) + -1 = nI (m - 1 - (s + 1)) := by rw [show m - 1 - s = (m - 1 - (s + 1)) + 1 by omega]; exact nI_m1 _
          refine hZ 400 [100] _ _ _ _ _ _ _ ?_
          simp -implicitDefEqProofs (disch := omega) only [wp_step xX11_goesOn_100, wp_step xX11_goesOn_102, wp_step xX11_goesOn_104, wp_step xX11_goesOn_107, wp_step xX11_goesOn_108, wp_step xX11_goesOn_111, wp_step xX11_goesOn_113, wp_step xX11_goesOn_114, wp_step xX11_goesOn_116, wp_step xX11_goesOn_117, wp_step xX11_goesOn_120, wp_step xX11_goesOn_122, wp_step xX11_goesOn_123, wp_step xX11_goesOn_126, wp_step xX11_goesOn_128, wp_step xX11_goesOn_129, wp_step xX11_goesOn_130, wp_step xX11_goesOn_131, wp_step xX11_goesOn_134, wp_step xX11_goesOn_136, wp_step xX11_goesOn_138, wp_step xX11_goesOn_139, wp_step xX11_goesOn_142, wp_step xX11_goesOn_145, ↓e_getf iX11_goesOn f11_124, iX11_goesOn, exec1, ↓p1_e, ↓p2_e, ↓q1_e, ↓q2_e, ↓qi_e, ↓pr_e, ↓pa_e, ↓pa_f, ↓pst_e, ↓qst_e, ↓rst_e, ↓pac_e, ↓pargs_0, ↓pargs_s, ↓gfld_0, ↓gfld_1, ↓gfld_2, ↓gfld_3, ↓pfld_i, ↓pfld_l, ↓pfld_r, ↓sfld_i, ↓sfld_l, ↓sfld_r, brI, pushv, rcv, lget, lset, lset2, isL, rok, szs, List.elem_nil, List.elem_cons, cond_true, cond_false, Option.map_some, beq_self_eq_true, Bool.true_and, Bool.and_true, Bool.false_and, Bool.and_false, Bool.or_false, Bool.false_or, Bool.or_true, Bool.true_or, Nat.reduceAdd, Nat.reduceSub, Nat.reduceMul, Nat.reduceBEq, Nat.reduceEqDiff, Nat.reduceLeDiff, Nat.sub_zero, true_and, and_true, false_and, and_false, true_or, or_true, false_or, or_false, reduceCtorEq, ↓reduceIte, List.getD_cons_zero, List.getD_cons_succ, List.length_cons, List.length_nil, ct_i, ct_r, ct_l, ct_f, ct_n, false_implies, true_implies, y144, y180, show (nI (m - 1 - s) ≤ nI (k + 1 + s)) = False from eq_false (nI_ge (by omega) (by omega)), vl, vh, nI_clamp, ql, qh, gi_si_k, nI_1, eh, not_false_eq_true, true_implies, false_implies, and_true, true_and, not_true_eq_false]
          refine ih (s + 1) (by omega) (by omega) _ _ ((hF.si rfl).si rfl) (fun i hi => ?_)
          by_cases y1 : i = m - 1 - s
          · subst y1; rw [gi_si, if_pos (by omega)]; congr 2; omega
          · rw [gi_si_k y1]
            by_cases y2 : i = k + 1 + s
            · subst y2; rw [gi_si, if_pos (by omega)]; congr 2; omega
            · rw [gi_si_k y2, hq i hi]
              by_cases c : (k < i ∧ i < k + 1 + s) ∨ (m - 1 - s < i ∧ i < m)
              · rw [if_pos c, if_pos (by omega)]
              · rw [if_neg c, if_neg (by omega)]
    have swap : Z 62 [some (.ref 144), some (.int (nI m)), some (.int (nI k)), some (.int (nI J)), none, none, none] [] (LAY v) μ 0 0 := by
      have vJ : vp_in (nI J) 6 := vin (by omega) (by omega)
      refine hZ 400 [100] _ _ _ _ _ _ _ ?_
      simp -implicitDefEqProofs (disch := omega) only [wp_step xX11_goesOn_62, wp_step xX11_goesOn_63, wp_step xX11_goesOn_66, wp_step xX11_goesOn_67, wp_step xX11_goesOn_68, wp_step xX11_goesOn_70, wp_step xX11_goesOn_71, wp_step xX11_goesOn_74, wp_step xX11_goesOn_75, wp_step xX11_goesOn_76, wp_step xX11_goesOn_79, wp_step xX11_goesOn_80, wp_step xX11_goesOn_81, wp_step xX11_goesOn_82, wp_step xX11_goesOn_83, wp_step xX11_goesOn_86, wp_step xX11_goesOn_87, wp_step xX11_goesOn_89, wp_step xX11_goesOn_90, wp_step xX11_goesOn_91, wp_step xX11_goesOn_92, wp_step xX11_goesOn_93, wp_step xX11_goesOn_95, wp_step xX11_goesOn_96, wp_step xX11_goesOn_97, wp_step xX11_goesOn_98, ↓e_getf iX11_goesOn f11_124, iX11_goesOn, exec1, ↓p1_e, ↓p2_e, ↓q1_e, ↓q2_e, ↓qi_e, ↓pr_e, ↓pa_e, ↓pa_f, ↓pst_e, ↓qst_e, ↓rst_e, ↓pac_e, ↓pargs_0, ↓pargs_s, ↓gfld_0, ↓gfld_1, ↓gfld_2, ↓gfld_3, ↓pfld_i, ↓pfld_l, ↓pfld_r, ↓sfld_i, ↓sfld_l, ↓sfld_r, brI, pushv, rcv, lget, lset, lset2, isL, rok, szs, List.elem_nil, List.elem_cons, cond_true, cond_false, Option.map_some, beq_self_eq_true, Bool.true_and, Bool.and_true, Bool.false_and, Bool.and_false, Bool.or_false, Bool.false_or, Bool.or_true, Bool.true_or, Nat.reduceAdd, Nat.reduceSub, Nat.reduceMul, Nat.reduceBEq, Nat.reduceEqDiff, Nat.reduceLeDiff, Nat.sub_zero, true_and, and_true, false_and, and_false, true_or, or_true, false_or, or_false, reduceCtorEq, ↓reduceIte, List.getD_cons_zero, List.getD_cons_succ, List.length_cons, List.length_nil, ct_i, ct_r, ct_l, ct_f, ct_n, false_implies, true_implies, y144, y180, vk, vJ, nI_clamp, hR k (by omega), hR J hJ, e1, nI_1]
      have hF' : Fr p180 μ (si (si μ 180 k (nI (f J))) 180 J (nI (f k))) := (Fr.rf.si (show p180 180 k from rfl)).si (show p180 180 J from rfl)
      have := turn (m - 1 - (k + 1)) 0 (by omega) (by omega) (si (si μ 180 k (nI (f J))) 180 J (nI (f k))) (some (.int (nI (f k)))) hF' (fun i hi => ?_)
      · rw [Nat.add_zero, Nat.sub_zero] at this
        exact this
      · rw [if_neg (by omega), eg]
        unfold swF
        by_cases y1 : i = J
        · rw [if_pos y1, y1, gi_si]
        · rw [if_neg y1, gi_si_k y1]
          by_cases y2 : i = k
          · rw [if_pos y2, y2, gi_si]
          · rw [if_neg y2, gi_si_k y2]; exact hR i hi
    have find : ∀ t, t < m → jF f (f k) (t + 1) = J → (∃ j, j ≤ t ∧ f k ≤ f j) → Z 41 [some (.ref 144), some (.int (nI m)), some (.int (nI k)), some (.int (nI t)), none, none, none] [] (LAY v) μ 0 0 := by
      intro t
      induction t with
      | zero =>
        intro ht e ⟨j, j1, j2⟩
        have : j = 0 := by omega
        subst this
        rw [jF, if_pos j2] at e
        subst e
        have f0 := hf 0 (by omega)
        refine hZ 400 [62] _ _ _ _ _ _ _ ?_
        simp -implicitDefEqProofs (disch := omega) only [wp_step xX11_goesOn_41, wp_step xX11_goesOn_42, wp_step xX11_goesOn_45, wp_step xX11_goesOn_46, wp_step xX11_goesOn_47, wp_step xX11_goesOn_48, wp_step xX11_goesOn_51, wp_step xX11_goesOn_52, wp_step xX11_goesOn_53, ↓e_getf iX11_goesOn f11_124, iX11_goesOn, exec1, ↓p1_e, ↓p2_e, ↓q1_e, ↓q2_e, ↓qi_e, ↓pr_e, ↓pa_e, ↓pa_f, ↓pst_e, ↓qst_e, ↓rst_e, ↓pac_e, ↓pargs_0, ↓pargs_s, ↓gfld_0, ↓gfld_1, ↓gfld_2, ↓gfld_3, ↓pfld_i, ↓pfld_l, ↓pfld_r, ↓sfld_i, ↓sfld_l, ↓sfld_r, brI, pushv, rcv, lget, lset, lset2, isL, rok, szs, List.elem_nil, List.elem_cons, cond_true, cond_false, Option.map_some, beq_self_eq_true, Bool.true_and, Bool.and_true, Bool.false_and, Bool.and_false, Bool.or_false, Bool.false_or, Bool.or_true, Bool.true_or, Nat.reduceAdd, Nat.reduceSub, Nat.reduceMul, Nat.reduceBEq, Nat.reduceEqDiff, Nat.reduceLeDiff, Nat.sub_zero, true_and, and_true, false_and, and_false, true_or, or_true, false_or, or_false, reduceCtorEq, ↓reduceIte, List.getD_cons_zero, List.getD_cons_succ, List.length_cons, List.length_nil, ct_i, ct_r, ct_l, ct_f, ct_n, false_implies, true_implies, y144, y180, vk, show vp_in (nI 0) 6 from vin (by omega) (by omega), nI_clamp, hR k (by omega), hR 0 (by omega), show (nI (f k) ≤ nI (f 0)) = True from eq_true (nI_le j2 (by omega)), not_false_eq_true, true_implies, false_implies, and_true, true_and, not_true_eq_false]
        exact swap
      | succ t iht =>
        intro ht e ⟨j, j1, j2⟩
        have ft := hf (t + 1) ht
        have vt : vp_in (nI (t + 1)) 6 := vin (by omega) (by omega)
        rw [jF] at e
        by_cases c : f k ≤ f (t + 1)
        · rw [if_pos c] at e
          refine hZ 400 [62] _ _ _ _ _ _ _ ?_
          simp -implicitDefEqProofs (disch := omega) only [wp_step xX11_goesOn_41, wp_step xX11_goesOn_42, wp_step xX11_goesOn_45, wp_step xX11_goesOn_46, wp_step xX11_goesOn_47, wp_step xX11_goesOn_48, wp_step xX11_goesOn_51, wp_step xX11_goesOn_52, wp_step xX11_goesOn_53, ↓e_getf iX11_goesOn f11_124, iX11_goesOn, exec1, ↓p1_e, ↓p2_e, ↓q1_e, ↓q2_e, ↓qi_e, ↓pr_e, ↓pa_e, ↓pa_f, ↓pst_e, ↓qst_e, ↓rst_e, ↓pac_e, ↓pargs_0, ↓pargs_s, ↓gfld_0, ↓gfld_1, ↓gfld_2, ↓gfld_3, ↓pfld_i, ↓pfld_l, ↓pfld_r, ↓sfld_i, ↓sfld_l, ↓sfld_r, brI, pushv, rcv, lget, lset, lset2, isL, rok, szs, List.elem_nil, List.elem_cons, cond_true, cond_false, Option.map_some, beq_self_eq_true, Bool.true_and, Bool.and_true, Bool.false_and, Bool.and_false, Bool.or_false, Bool.false_or, Bool.or_true, Bool.true_or, Nat.reduceAdd, Nat.reduceSub, Nat.reduceMul, Nat.reduceBEq, Nat.reduceEqDiff, Nat.reduceLeDiff, Nat.sub_zero, true_and, and_true, false_and, and_false, true_or, or_true, false_or, or_false, reduceCtorEq, ↓reduceIte, List.getD_cons_zero, List.getD_cons_succ, List.length_cons, List.length_nil, ct_i, ct_r, ct_l, ct_f, ct_n, false_implies, true_implies, y144, y180, vk, vt, nI_clamp, hR k (by omega), hR (t + 1) ht, show (nI (f k) ≤ nI (f (t + 1))) = True from eq_true (nI_le c (by omega)), not_false_eq_true, true_implies, false_implies, and_true, true_and, not_true_eq_false]
          rw [e]; exact swap
        · rw [if_neg c] at e
          refine hZ 400 [41] _ _ _ _ _ _ _ ?_
          simp -implicitDefEqProofs (disch := omega) only [wp_step xX11_goesOn_41, wp_step xX11_goesOn_42, wp_step xX11_goesOn_45, wp_step xX11_goesOn_46, wp_step xX11_goesOn_47, wp_step xX11_goesOn_48, wp_step xX11_goesOn_51, wp_step xX11_goesOn_52, wp_step xX11_goesOn_53, wp_step xX11_goesOn_56, wp_step xX11_goesOn_59, ↓e_getf iX11_goesOn f11_124, iX11_goesOn, exec1, ↓p1_e, ↓p2_e, ↓q1_e, ↓q2_e, ↓qi_e, ↓pr_e, ↓pa_e, ↓pa_f, ↓pst_e, ↓qst_e, ↓rst_e, ↓pac_e, ↓pargs_0, ↓pargs_s, ↓gfld_0, ↓gfld_1, ↓gfld_2, ↓gfld_3, ↓pfld_i, ↓pfld_l, ↓pfld_r, ↓sfld_i, ↓sfld_l, ↓sfld_r, brI, pushv, rcv, lget, lset, lset2, isL, rok, szs, List.elem_nil, List.elem_cons, cond_true, cond_false, Option.map_some, beq_self_eq_true, Bool.true_and, Bool.and_true, Bool.false_and, Bool.and_false, Bool.or_false, Bool.false_or, Bool.or_true, Bool.true_or, Nat.reduceAdd, Nat.reduceSub, Nat.reduceMul, Nat.reduceBEq, Nat.reduceEqDiff, Nat.reduceLeDiff, Nat.sub_zero, true_and, and_true, false_and, and_false, true_or, or_true, false_or, or_false, reduceCtorEq, ↓reduceIte, List.getD_cons_zero, List.getD_cons_succ, List.length_cons, List.length_nil, ct_i, ct_r, ct_l, ct_f, ct_n, false_implies, true_implies, y144, y180, vk, vt, nI_clamp, hR k (by omega), hR (t + 1) ht, show (nI (f k) ≤ nI (f (t + 1))) = False from eq_false (nI_ge (by omega) (by omega)), nI_m1, not_false_eq_true, true_implies, false_implies, and_true, true_and, not_true_eq_false]
          refine iht (by omega) e ⟨j, ?_, j2⟩
          by_cases y : j = t + 1
          · rw [y] at j2; exact absurd j2 c
          · omega
    refine hZ 400 [41] _ _ _ _ _ _ _ ?_
    simp -implicitDefEqProofs (disch := omega) only [wp_step xX11_goesOn_37, wp_step xX11_goesOn_38, wp_step xX11_goesOn_39, wp_step xX11_goesOn_40, ↓e_getf iX11_goesOn f11_124, iX11_goesOn, exec1, ↓p1_e, ↓p2_e, ↓q1_e, ↓q2_e, ↓qi_e, ↓pr_e, ↓pa_e, ↓pa_f, ↓pst_e, ↓qst_e, ↓rst_e, ↓pac_e, ↓pargs_0, ↓pargs_s, ↓gfld_0, ↓gfld_1, ↓gfld_2, ↓gfld_3, ↓pfld_i, ↓pfld_l, ↓pfld_r, ↓sfld_i, ↓sfld_l, ↓sfld_r, brI, pushv, rcv, lget, lset, lset2, isL, rok, szs, List.elem_nil, List.elem_cons, cond_true, cond_false, Option.map_some, beq_self_eq_true, Bool.true_and, Bool.and_true, Bool.false_and, Bool.and_false, Bool.or_false, Bool.false_or, Bool.or_true, Bool.true_or, Nat.reduceAdd, Nat.reduceSub, Nat.reduceMul, Nat.reduceBEq, Nat.reduceEqDiff, Nat.reduceLeDiff, Nat.sub_zero, true_and, and_true, false_and, and_false, true_or, or_true, false_or, or_false, reduceCtorEq, ↓reduceIte, List.getD_cons_zero, List.getD_cons_succ, List.length_cons, List.length_nil, ct_i, ct_r, ct_l, ct_f, ct_n, false_implies, true_implies, e1]
    exact find (m - 1) (by omega) (by rw [show m - 1 + 1 = m by omega, eJ]) ⟨k, by omega, Nat.le_refl _⟩
  have look : ∀ t, t + 1 ≤ m → kF f t = kF f (m - 1) → Z 4 [some (.ref 144), some (.int (nI m)), some (.int (gv t)), none, none, none, none] [] (LAY v) μ 0 0 := by
    intro t
    induction t with
    | zero =>
      intro _ e
      refine hZ 400 [] _ _ _ _ _ _ _ ?_
      simp -implicitDefEqProofs (disch := omega) only [wp_step xX11_goesOn_4, wp_step xX11_goesOn_5, ↓e_getf iX11_goesOn f11_124, iX11_goesOn, wp_step xX11_goesOn_31, wp_step xX11_goesOn_32, wp_step xX11_goesOn_35, wp_step xX11_goesOn_36, ↓e_getf iX11_goesOn f11_124, iX11_goesOn, exec1, ↓p1_e, ↓p2_e, ↓q1_e, ↓q2_e, ↓qi_e, ↓pr_e, ↓pa_e, ↓pa_f, ↓pst_e, ↓qst_e, ↓rst_e, ↓pac_e, ↓pargs_0, ↓pargs_s, ↓gfld_0, ↓gfld_1, ↓gfld_2, ↓gfld_3, ↓pfld_i, ↓pfld_l, ↓pfld_r, ↓sfld_i, ↓sfld_l, ↓sfld_r, brI, pushv, rcv, lget, lset, lset2, isL, rok, szs, List.elem_nil, List.elem_cons, cond_true, cond_false, Option.map_some, beq_self_eq_true, Bool.true_and, Bool.and_true, Bool.false_and, Bool.and_false, Bool.or_false, Bool.false_or, Bool.or_true, Bool.true_or, Nat.reduceAdd, Nat.reduceSub, Nat.reduceMul, Nat.reduceBEq, Nat.reduceEqDiff, Nat.reduceLeDiff, Nat.sub_zero, true_and, and_true, false_and, and_false, true_or, or_true, false_or, or_false, reduceCtorEq, ↓reduceIte, List.getD_cons_zero, List.getD_cons_succ, List.length_cons, List.length_nil, ct_i, ct_r, ct_l, ct_f, ct_n, false_implies, true_implies, gv, show ((-1 : Int32) < 0) = True from eq_true (by decide), show ((0 : Int32) ≤ -1) = False from eq_false (by decide), not_false_eq_true, true_implies, false_implies, and_true, true_and, not_true_eq_false]
      refine h0 ?_
      unfold nwF
      rw [← e]; rfl
    | succ t iht =>
      intro ht e
      have v1 : vp_in (nI t) 6 := vin (by omega) (by omega)
      have v2 : vp_in (nI (t + 1)) 6 := vin (by omega) (by omega)
      have f1 := hf t (by omega)
      have f2 := hf (t + 1) (by omega)
      rw [kF] at e
      by_cases c : f t ≤ f (t + 1)
      · rw [if_pos c] at e
        refine hZ 400 [37] _ _ _ _ _ _ _ ?_
        simp -implicitDefEqProofs (disch := omega) only [wp_step xX11_goesOn_4, wp_step xX11_goesOn_5, wp_step xX11_goesOn_8, wp_step xX11_goesOn_9, wp_step xX11_goesOn_12, wp_step xX11_goesOn_13, wp_step xX11_goesOn_14, wp_step xX11_goesOn_15, wp_step xX11_goesOn_18, wp_step xX11_goesOn_19, wp_step xX11_goesOn_20, wp_step xX11_goesOn_21, wp_step xX11_goesOn_22, ↓e_getf iX11_goesOn f11_124, iX11_goesOn, wp_step xX11_goesOn_31, wp_step xX11_goesOn_32, ↓e_getf iX11_goesOn f11_124, iX11_goesOn, exec1, ↓p1_e, ↓p2_e, ↓q1_e, ↓q2_e, ↓qi_e, ↓pr_e, ↓pa_e, ↓pa_f, ↓pst_e, ↓qst_e, ↓rst_e, ↓pac_e, ↓pargs_0, ↓pargs_s, ↓gfld_0, ↓gfld_1, ↓gfld_2, ↓gfld_3, ↓pfld_i, ↓pfld_l, ↓pfld_r, ↓sfld_i, ↓sfld_l, ↓sfld_r, brI, pushv, rcv, lget, lset, lset2, isL, rok, szs, List.elem_nil, List.elem_cons, cond_true, cond_false, Option.map_some, beq_self_eq_true, Bool.true_and, Bool.and_true, Bool.false_and, Bool.and_false, Bool.or_false, Bool.false_or, Bool.or_true, Bool.true_or, Nat.reduceAdd, Nat.reduceSub, Nat.reduceMul, Nat.reduceBEq, Nat.reduceEqDiff, Nat.reduceLeDiff, Nat.sub_zero, true_and, and_true, false_and, and_false, true_or, or_true, false_or, or_false, reduceCtorEq, ↓reduceIte, List.getD_cons_zero, List.getD_cons_succ, List.length_cons, List.length_nil, ct_i, ct_r, ct_l, ct_f, ct_n, false_implies, true_implies, y144, y180, gv, show (nI t < 0) = False from eq_false (nI_pos (by omega)), show ((0 : Int32) ≤ nI t) = True from eq_true (nI_pos' (by omega)), v1, v2, nI_clamp, nI_1, hR t (by omega), hR (t + 1) (by omega), show (nI (f t) ≤ nI (f (t + 1))) = True from eq_true (nI_le c (by omega)), not_false_eq_true, true_implies, false_implies, and_true, true_and, not_true_eq_false]
        exact rest t e.symm (by omega)
      · rw [if_neg c] at e
        refine hZ 400 [4] _ _ _ _ _ _ _ ?_
        simp -implicitDefEqProofs (disch := omega) only [wp_step xX11_goesOn_4, wp_step xX11_goesOn_5, wp_step xX11_goesOn_8, wp_step xX11_goesOn_9, wp_step xX11_goesOn_12, wp_step xX11_goesOn_13, wp_step xX11_goesOn_14, wp_step xX11_goesOn_15, wp_step xX11_goesOn_18, wp_step xX11_goesOn_19, wp_step xX11_goesOn_20, wp_step xX11_goesOn_21, wp_step xX11_goesOn_22, wp_step xX11_goesOn_25, wp_step xX11_goesOn_28, ↓e_getf iX11_goesOn f11_124, iX11_goesOn, exec1, ↓p1_e, ↓p2_e, ↓q1_e, ↓q2_e, ↓qi_e, ↓pr_e, ↓pa_e, ↓pa_f, ↓pst_e, ↓qst_e, ↓rst_e, ↓pac_e, ↓pargs_0, ↓pargs_s, ↓gfld_0, ↓gfld_1, ↓gfld_2, ↓gfld_3, ↓pfld_i, ↓pfld_l, ↓pfld_r, ↓sfld_i, ↓sfld_l, ↓sfld_r, brI, pushv, rcv, lget, lset, lset2, isL, rok, szs, List.elem_nil, List.elem_cons, cond_true, cond_false, Option.map_some, beq_self_eq_true, Bool.true_and, Bool.and_true, Bool.false_and, Bool.and_false, Bool.or_false, Bool.false_or, Bool.or_true, Bool.true_or, Nat.reduceAdd, Nat.reduceSub, Nat.reduceMul, Nat.reduceBEq, Nat.reduceEqDiff, Nat.reduceLeDiff, Nat.sub_zero, true_and, and_true, false_and, and_false, true_or, or_true, false_or, or_false, reduceCtorEq, ↓reduceIte, List.getD_cons_zero, List.getD_cons_succ, List.length_cons, List.length_nil, ct_i, ct_r, ct_l, ct_f, ct_n, false_implies, true_implies, y144, y180, gv, show (nI t < 0) = False from eq_false (nI_pos (by omega)), v1, v2, nI_clamp, nI_1, hR t (by omega), hR (t + 1) (by omega), show (nI (f t) ≤ nI (f (t + 1))) = False from eq_false (nI_ge (by omega) (by omega)), gv_s, not_false_eq_true, true_implies, false_implies, and_true, true_and, not_true_eq_false]
        exact iht (by omega) e
  have e2 : nI m - 2 = gv (m - 1) := by
    by_cases c : m = 1
    · subst c; rfl
    · rw [show nI m - 2 = nI (m - 2) from nI_sub (b := 2) (by omega), show m - 1 = (m - 2) + 1 by omega]; rfl
  refine hZ 400 [4] _ _ _ _ _ _ _ ?_
  simp -implicitDefEqProofs (disch := omega) only [wp_step xX11_goesOn_0, wp_step xX11_goesOn_1, wp_step xX11_goesOn_2, wp_step xX11_goesOn_3, ↓e_getf iX11_goesOn f11_124, iX11_goesOn, exec1, ↓p1_e, ↓p2_e, ↓q1_e, ↓q2_e, ↓qi_e, ↓pr_e, ↓pa_e, ↓pa_f, ↓pst_e, ↓qst_e, ↓rst_e, ↓pac_e, ↓pargs_0, ↓pargs_s, ↓gfld_0, ↓gfld_1, ↓gfld_2, ↓gfld_3, ↓pfld_i, ↓pfld_l, ↓pfld_r, ↓sfld_i, ↓sfld_l, ↓sfld_r, brI, pushv, rcv, lget, lset, lset2, isL, rok, szs, List.elem_nil, List.elem_cons, cond_true, cond_false, Option.map_some, beq_self_eq_true, Bool.true_and, Bool.and_true, Bool.false_and, Bool.and_false, Bool.or_false, Bool.false_or, Bool.or_true, Bool.true_or, Nat.reduceAdd, Nat.reduceSub, Nat.reduceMul, Nat.reduceBEq, Nat.reduceEqDiff, Nat.reduceLeDiff, Nat.sub_zero, true_and, and_true, false_and, and_false, true_or, or_true, false_or, or_false, reduceCtorEq, ↓reduceIte, List.getD_cons_zero, List.getD_cons_succ, List.length_cons, List.length_nil, ct_i, ct_r, ct_l, ct_f, ct_n, false_implies, true_implies, e2]
  exact look (m - 1) (by omega) rfl
end GOS
