theorem XEj.mv {c o c' o' : Nat → Int32} {q q' : Nat} {t : Tr} (x : XEj c o q q' t) (h : Agr q q' c o c' o') : XEj c' o' q q' t := ⟨x.1.mv h, fun j j1 j2 z => by
  rw [(h j j1 j2).1] at z; rw [(h j j1 j2).2]; exact x.2 j j1 j2 z⟩
theorem XEj.bin {c o : Nat → Int32} {q q1 q2 : Nat} {a b : Tr} {op : Int32} (hop : isTm op = true ∨ isPl op = true) (xa : XEj c o q q1 a) (xb : XEj c o q1 q2 b) (h1 : c q2 = op) : XEj c o q (q2 + 1) (tBin op a b) := ⟨XE.bin hop xa.1 xb.1 h1, fun j j1 j2 z => by
  by_cases y : j < q1
  · exact xa.2 j j1 y z
  · by_cases y2 : j < q2
    · exact xb.2 j (by omega) y2 z
    · rw [show j = q2 by omega, h1] at z
      rcases hop with hop | hop
      · rcases of_decide_eq_true hop with e | e | e <;> (rw [e] at z; exact absurd z (by decide))
      · rcases of_decide_eq_true hop with e | e <;> (rw [e] at z; exact absurd z (by decide))⟩
theorem Rok.bin {L : Nat} {fb : Nat → Nat} {μ μ1 μ3 : Mem} {p q p1 p2 nd nd1 : Nat} {t t' : Tr} {op : Int32} (hop : isTm op = true ∨ isPl op = true) (h1 : Rok XEj L fb nd μ p q t p1 μ1) (hn : nd1 + 1 ≤ nd) (hx : ∀ q1, gi μ1 38 7 = nI q1 → q1 ≤ p1 → Rok XEj L fb nd1 (si μ1 37 3 (nI (p1 + 1))) (p1 + 1) q1 t' p2 μ3) : ∃ q2, gi μ3 38 7 = nI q2 ∧ q2 < 200 ∧ Rok XEj L fb nd μ p q (tBin op t t') p2 (si (si (si μ3 39 q2 op) 40 q2 0) 38 7 (nI (q2 + 1))) := by
  obtain ⟨q1, hF, hR, hp, hq, hs, hk, hX, hnd⟩ := h1
  obtain ⟨q2, hF3, hR3, hp3, hq3, hs3, hk3, hX3, hnd3⟩ := hx q1 hR.2.2.2.1 hR.2.2.2.2
  have hL := hR3.1.2.1
  have h5 := hR3.2.2.1
  have h6 := hR.2.2.2.2
  have hF3' : Fr pRo μ μ3 := (hF.si (by unfold pRo; omega)).trans hF3
  have k3 : ∀ j, j < q1 → gi μ3 39 j = gi μ1 39 j ∧ gi μ3 40 j = gi μ1 40 j := fun j hj => by
    have := hk3 j hj
    rw [gi_si_a (by omega), gi_si_a (by omega)] at this; exact this
  have e39 : ∀ j, j ≠ q2 → gi (si (si (si μ3 39 q2 op) 40 q2 0) 38 7 (nI (q2 + 1))) 39 j = gi μ3 39 j ∧ gi (si (si (si μ3 39 q2 op) 40 q2 0) 38 7 (nI (q2 + 1))) 40 j = gi μ3 40 j := fun j hj => by
    rw [gi_si_a (by omega), gi_si_a (by omega), gi_si_k hj, gi_si_a (by omega), gi_si_k hj, gi_si_a (by omega)]; exact ⟨rfl, rfl⟩
  refine ⟨q2, hR3.2.2.2.1, by omega, q2 + 1, ((hF3'.si (by unfold pRo; omega)).si (by unfold pRo; omega)).si (by unfold pRo; omega), hR3.emit (by omega), by omega, by omega, by omega, fun j hj => ?_, XEj.bin hop (hX.mv (fun j j1 j2 => ?_)) (hX3.mv (fun j j1 j2 => ?_)) ?_, ?_⟩
  · obtain ⟨x1, x2⟩ := e39 j (by omega)
    obtain ⟨y1, y2⟩ := k3 j (by omega)
    obtain ⟨z1, z2⟩ := hk j hj
    exact ⟨x1.trans (y1.trans z1), x2.trans (y2.trans z2)⟩
  · obtain ⟨x1, x2⟩ := e39 j (by omega)
    obtain ⟨y1, y2⟩ := k3 j (by omega)
    exact ⟨x1.trans y1, x2.trans y2⟩
  · exact e39 j (by omega)
  · rw [gi_si_a (by omega), gi_si_a (by omega), gi_si]
  · show max t.2.2 (t'.2.2 + 1) ≤ nd
    omega
/-- a reading that keeps its contract -/
def RdOK (X : (Nat → Int32) → (Nat → Int32) → Nat → Nat → Tr → Prop) (G : Gx) (v L : Nat) (fb : Nat → Nat) (M : MI) (k D nd : Nat) (f : Nat → Rs) : Prop := ∀ d μ bc bs Q p q, D ≤ d → RdS μ L fb p q → Rpost X L fb nd μ p q (f p) (fun x μ' => Q (some (.int x)) (LAY v) μ' bc bs) → KC G d M [.ref 37, .int (nI (6 - k))] (LAY v) μ bc bs Q
theorem Rok.up {X : (Nat → Int32) → (Nat → Int32) → Nat → Nat → Tr → Prop} {L : Nat} {fb : Nat → Nat} {μ μ1 : Mem} {p q p1 nd nd1 : Nat} {t : Tr} (h : Rok X L fb nd1 μ p q t p1 μ1) (hn : nd1 ≤ nd) : Rok X L fb nd μ p q t p1 μ1 := by
  obtain ⟨q1, h1, h2, h3, h4, h5, h6, h7, h8⟩ := h
  exact ⟨q1, h1, h2, h3, h4, h5, h6, h7, by omega⟩
section RDS
variable {G : Gx} {v : Nat} {L : Nat} {fb : Nat → Nat}
set_option maxRecDepth 100000 in
set_option maxHeartbeats 1000000 in
theorem k_readTerm {fac : Nat → Rs} {k D nd : Nat} (HF : RdOK XEj G v L fb mX2_readFactor k D nd fac) (h3 : 2 ≤ D) : RdOK XEj G v L fb mX2_readTerm k (D + 1) (nd + 1) (lvR (nxC L fb) isTm fac) := by
  intro d μ bc bs Q p q hd hR h
  have hL := hR.1.2.1
  obtain ⟨R, hR0⟩ : ∃ R, R = lvR (nxC L fb) isTm fac p := ⟨_, rfl⟩
  rw [← hR0] at h
  refine KC_intro 0 0 kX2_readTerm (by decide) (by decide) (Nat.zero_le _) (Nat.zero_le _) (Nat.le_of_ble_eq_true rfl) (fun Z hZ => ?_)
  show Z 0 [some (.ref 37), some (.int (nI (6 - k))), none] [] (LAY v) μ 0 0
  have out : ∀ p1 t μ1 w2, Rok XEj L fb (nd + 1) μ p q t p1 μ1 → R = .inr (t, p1) → Z 85 [some (.ref 37), some (.int (nI (6 - k))), w2] [] (LAY v) μ1 0 0 := fun p1 t μ1 w2 hk e => by
    rw [e] at h
    refine hZ 400 [] _ _ _ _ _ _ _ ?_
    simp -implicitDefEqProofs (disch := omega) only [wp_step xX2_readTerm_85, wp_step xX2_readTerm_86, ↓e_virt iX2_readTerm l2_95 iX2_readFactor, ↓e_getf iX2_readTerm f2_26, ↓e_getf iX2_readTerm f2_22, ↓e_virt iX2_readTerm l2_49 iX2_next, ↓e_putf iX2_readTerm f2_26, ↓e_getf iX2_readTerm f2_12, ↓e_virt iX2_readTerm l2_72 iX1_emit, iX2_readTerm, exec1, ↓p1_e, ↓p2_e, ↓q1_e, ↓q2_e, ↓qi_e, ↓pr_e, ↓pa_e, ↓pa_f, ↓pst_e, ↓qst_e, ↓rst_e, ↓pac_e, ↓pargs_0, ↓pargs_s, ↓gfld_0, ↓gfld_1, ↓gfld_2, ↓gfld_3, ↓pfld_i, ↓pfld_l, ↓pfld_r, ↓sfld_i, ↓sfld_l, ↓sfld_r, brI, pushv, rcv, lget, lset, lset2, isL, rok, szs, List.elem_nil, List.elem_cons, cond_true, cond_false, Option.map_some, beq_self_eq_true, Bool.true_and, Bool.and_true, Bool.false_and, Bool.and_false, Bool.or_false, Bool.false_or, Bool.or_true, Bool.true_or, Nat.reduceAdd, Nat.reduceSub, Nat.reduceMul, Nat.reduceBEq, Nat.reduceEqDiff, Nat.reduceLeDiff, Nat.sub_zero, true_and, and_true, false_and, and_false, true_or, or_true, false_or, or_false, reduceCtorEq, ↓reduceIte, List.getD_cons_zero, List.getD_cons_succ, List.length_cons, List.length_nil, ct_i, ct_r, ct_l, ct_f, ct_n, false_implies, true_implies]
    exact h μ1 hk
  have loop : ∀ n p1 t μ1 w2, Rok XEj L fb (nd + 1) μ p q t p1 μ1 → L - p1 ≤ n → R = loopR (nxC L fb) isTm fac n p1 t → Z 10 [some (.ref 37), some (.int (nI (6 - k))), w2] [] (LAY v) μ1 0 0 := by
    intro n
    have stop : ∀ t μ1 w2, Rok XEj L fb (nd + 1) μ p q t L μ1 → R = .inr (t, L) → Z 10 [some (.ref 37), some (.int (nI (6 - k))), w2] [] (LAY v) μ1 0 0 := fun t μ1 w2 hk e => by
      obtain ⟨q1, -, ⟨⟨s1, -⟩, s2, -⟩, -⟩ := id hk
      refine hZ 400 [85] _ _ _ _ _ _ _ ?_
      simp -implicitDefEqProofs (disch := omega) only [wp_step xX2_readTerm_10, wp_step xX2_readTerm_11, wp_step xX2_readTerm_14, wp_step xX2_readTerm_15, wp_step xX2_readTerm_18, ↓e_virt iX2_readTerm l2_95 iX2_readFactor, ↓e_getf iX2_readTerm f2_26, ↓e_getf iX2_readTerm f2_22, ↓e_virt iX2_readTerm l2_49 iX2_next, ↓e_putf iX2_readTerm f2_26, ↓e_getf iX2_readTerm f2_12, ↓e_virt iX2_readTerm l2_72 iX1_emit, iX2_readTerm, exec1, ↓p1_e, ↓p2_e, ↓q1_e, ↓q2_e, ↓qi_e, ↓pr_e, ↓pa_e, ↓pa_f, ↓pst_e, ↓qst_e, ↓rst_e, ↓pac_e, ↓pargs_0, ↓pargs_s, ↓gfld_0, ↓gfld_1, ↓gfld_2, ↓gfld_3, ↓pfld_i, ↓pfld_l, ↓pfld_r, ↓sfld_i, ↓sfld_l, ↓sfld_r, brI, pushv, rcv, lget, lset, lset2, isL, rok, szs, List.elem_nil, List.elem_cons, cond_true, cond_false, Option.map_some, beq_self_eq_true, Bool.true_and, Bool.and_true, Bool.false_and, Bool.and_false, Bool.or_false, Bool.false_or, Bool.or_true, Bool.true_or, Nat.reduceAdd, Nat.reduceSub, Nat.reduceMul, Nat.reduceBEq, Nat.reduceEqDiff, Nat.reduceLeDiff, Nat.sub_zero, true_and, and_true, false_and, and_false, true_or, or_true, false_or, or_false, reduceCtorEq, ↓reduceIte, List.getD_cons_zero, List.getD_cons_succ, List.length_cons, List.length_nil, ct_i, ct_r, ct_l, ct_f, ct_n, false_implies, true_implies, y37, s1, s2, nle_t (show L < 2 ^ 31 by omega), not_false_eq_true, true_implies, false_implies, and_true, true_and, not_true_eq_false]
      exact out L t μ1 w2 hk e
    have ne : isTm (nxC L fb L) = false := by unfold nxC; rw [if_neg (by omega)]; decide
    induction n with
    | zero =>
      intro p1 t μ1 w2 hk hn e
      obtain ⟨q1, -, ⟨-, -, s3, -⟩, -⟩ := id hk
      have : p1 = L := by omega
      subst this
      exact stop t μ1 w2 hk e
    | succ n ih =>
      intro p1 t μ1 w2 hk hn e
      obtain ⟨q1, kF, kR, kp, kq, ks, kk, kX, knd⟩ := id hk
      obtain ⟨s1, s2, s3, s4, s5⟩ := id kR
      by_cases cL : p1 = L
      · subst cL
        rw [loopR, ne, if_neg (by decide)] at e
        exact stop t μ1 w2 hk e
      · have hlt : p1 < L := by omega
        rw [loopR] at e
        have go : isTm (nxC L fb p1) = true → ∀ w2, Z 48 [some (.ref 37), some (.int (nI (6 - k))), w2] [] (LAY v) μ1 0 0 := fun eo w2 => by
          rw [eo, if_pos rfl] at e
          refine hZ 400 [52] _ _ _ _ _ _ _ ?_
          simp -implicitDefEqProofs (disch := omega) only [wp_step xX2_readTerm_48, wp_step xX2_readTerm_49, ↓e_virt iX2_readTerm l2_95 iX2_readFactor, ↓e_getf iX2_readTerm f2_26, ↓e_getf iX2_readTerm f2_22, ↓e_virt iX2_readTerm l2_49 iX2_next, ↓e_putf iX2_readTerm f2_26, ↓e_getf iX2_readTerm f2_12, ↓e_virt iX2_readTerm l2_72 iX1_emit, iX2_readTerm, exec1, ↓p1_e, ↓p2_e, ↓q1_e, ↓q2_e, ↓qi_e, ↓pr_e, ↓pa_e, ↓pa_f, ↓pst_e, ↓qst_e, ↓rst_e, ↓pac_e, ↓pargs_0, ↓pargs_s, ↓gfld_0, ↓gfld_1, ↓gfld_2, ↓gfld_3, ↓pfld_i, ↓pfld_l, ↓pfld_r, ↓sfld_i, ↓sfld_l, ↓sfld_r, brI, pushv, rcv, lget, lset, lset2, isL, rok, szs, List.elem_nil, List.elem_cons, cond_true, cond_false, Option.map_some, beq_self_eq_true, Bool.true_and, Bool.and_true, Bool.false_and, Bool.and_false, Bool.or_false, Bool.false_or, Bool.or_true, Bool.true_or, Nat.reduceAdd, Nat.reduceSub, Nat.reduceMul, Nat.reduceBEq, Nat.reduceEqDiff, Nat.reduceLeDiff, Nat.sub_zero, true_and, and_true, false_and, and_false, true_or, or_true, false_or, or_false, reduceCtorEq, ↓reduceIte, List.getD_cons_zero, List.getD_cons_succ, List.length_cons, List.length_nil, ct_i, ct_r, ct_l, ct_f, ct_n, false_implies, true_implies, y37]
          refine ⟨by omega, k_next (by omega) s1 s2 s3 ?_⟩
          refine hZ 400 [68] _ _ _ _ _ _ _ ?_
          simp -implicitDefEqProofs (disch := omega) only [wp_step xX2_readTerm_52, wp_step xX2_readTerm_53, wp_step xX2_readTerm_54, wp_step xX2_readTerm_55, wp_step xX2_readTerm_58, wp_step xX2_readTerm_59, wp_step xX2_readTerm_60, wp_step xX2_readTerm_63, wp_step xX2_readTerm_64, wp_step xX2_readTerm_65, ↓e_virt iX2_readTerm l2_95 iX2_readFactor, ↓e_getf iX2_readTerm f2_26, ↓e_getf iX2_readTerm f2_22, ↓e_virt iX2_readTerm l2_49 iX2_next, ↓e_putf iX2_readTerm f2_26, ↓e_getf iX2_readTerm f2_12, ↓e_virt iX2_readTerm l2_72 iX1_emit, iX2_readTerm, exec1, ↓p1_e, ↓p2_e, ↓q1_e, ↓q2_e, ↓qi_e, ↓pr_e, ↓pa_e, ↓pa_f, ↓pst_e, ↓qst_e, ↓rst_e, ↓pac_e, ↓pargs_0, ↓pargs_s, ↓gfld_0, ↓gfld_1, ↓gfld_2, ↓gfld_3, ↓pfld_i, ↓pfld_l, ↓pfld_r, ↓sfld_i, ↓sfld_l, ↓sfld_r, brI, pushv, rcv, lget, lset, lset2, isL, rok, szs, List.elem_nil, List.elem_cons, cond_true, cond_false, Option.map_some, beq_self_eq_true, Bool.true_and, Bool.and_true, Bool.false_and, Bool.and_false, Bool.or_false, Bool.false_or, Bool.or_true, Bool.true_or, Nat.reduceAdd, Nat.reduceSub, Nat.reduceMul, Nat.reduceBEq, Nat.reduceEqDiff, Nat.reduceLeDiff, Nat.sub_zero, true_and, and_true, false_and, and_false, true_or, or_true, false_or, or_false, reduceCtorEq, ↓reduceIte, List.getD_cons_zero, List.getD_cons_succ, List.length_cons, List.length_nil, ct_i, ct_r, ct_l, ct_f, ct_n, false_implies, true_implies, y37, s2, nI_1]
          refine ⟨by omega, HF _ _ _ _ _ (p1 + 1) q1 (by omega) (kR.go hlt) ?_⟩
          cases ef : fac (p1 + 1) with
          | inl er =>
            rw [ef, bd] at e
            rw [e] at h
            intro μ3 hF3 hf3
            refine hZ 400 [] _ _ _ _ _ _ _ ?_
            simp -implicitDefEqProofs (disch := omega) only [wp_step xX2_readTerm_68, wp_step xX2_readTerm_71, wp_step xX2_readTerm_72, ↓e_virt iX2_readTerm l2_95 iX2_readFactor, ↓e_getf iX2_readTerm f2_26, ↓e_getf iX2_readTerm f2_22, ↓e_virt iX2_readTerm l2_49 iX2_next, ↓e_putf iX2_readTerm f2_26, ↓e_getf iX2_readTerm f2_12, ↓e_virt iX2_readTerm l2_72 iX1_emit, iX2_readTerm, exec1, ↓p1_e, ↓p2_e, ↓q1_e, ↓q2_e, ↓qi_e, ↓pr_e, ↓pa_e, ↓pa_f, ↓pst_e, ↓qst_e, ↓rst_e, ↓pac_e, ↓pargs_0, ↓pargs_s, ↓gfld_0, ↓gfld_1, ↓gfld_2, ↓gfld_3, ↓pfld_i, ↓pfld_l, ↓pfld_r, ↓sfld_i, ↓sfld_l, ↓sfld_r, brI, pushv, rcv, lget, lset, lset2, isL, rok, szs, List.elem_nil, List.elem_cons, cond_true, cond_false, Option.map_some, beq_self_eq_true, Bool.true_and, Bool.and_true, Bool.false_and, Bool.and_false, Bool.or_false, Bool.false_or, Bool.or_true, Bool.true_or, Nat.reduceAdd, Nat.reduceSub, Nat.reduceMul, Nat.reduceBEq, Nat.reduceEqDiff, Nat.reduceLeDiff, Nat.sub_zero, true_and, and_true, false_and, and_false, true_or, or_true, false_or, or_false, reduceCtorEq, ↓reduceIte, List.getD_cons_zero, List.getD_cons_succ, List.length_cons, List.length_nil, ct_i, ct_r, ct_l, ct_f, ct_n, false_implies, true_implies, not_false_eq_true, true_implies, false_implies, and_true, true_and, not_true_eq_false]
            exact h μ3 (((kF.mono pRo_b).si (Or.inl (by unfold pRo; omega))).trans hF3) hf3
          | inr y =>
            rw [ef, bd] at e
            intro μ3 hk3
            obtain ⟨q2, f7, l2, hk4⟩ := Rok.bin (nd1 := nd) (op := nxC L fb p1) (Or.inl eo) hk (by omega) (fun q1' f1 f2 => by
              have : q1' = q1 := (nI_eq (by omega) (by omega)).mp (f1.symm.trans s4)
              rw [this]; exact hk3)
            refine hZ 400 [82] _ _ _ _ _ _ _ ?_
            simp -implicitDefEqProofs (disch := omega) only [wp_step xX2_readTerm_68, wp_step xX2_readTerm_71, wp_step xX2_readTerm_72, wp_step xX2_readTerm_73, wp_step xX2_readTerm_74, wp_step xX2_readTerm_77, wp_step xX2_readTerm_78, wp_step xX2_readTerm_79, ↓e_virt iX2_readTerm l2_95 iX2_readFactor, ↓e_getf iX2_readTerm f2_26, ↓e_getf iX2_readTerm f2_22, ↓e_virt iX2_readTerm l2_49 iX2_next, ↓e_putf iX2_readTerm f2_26, ↓e_getf iX2_readTerm f2_12, ↓e_virt iX2_readTerm l2_72 iX1_emit, iX2_readTerm, exec1, ↓p1_e, ↓p2_e, ↓q1_e, ↓q2_e, ↓qi_e, ↓pr_e, ↓pa_e, ↓pa_f, ↓pst_e, ↓qst_e, ↓rst_e, ↓pac_e, ↓pargs_0, ↓pargs_s, ↓gfld_0, ↓gfld_1, ↓gfld_2, ↓gfld_3, ↓pfld_i, ↓pfld_l, ↓pfld_r, ↓sfld_i, ↓sfld_l, ↓sfld_r, brI, pushv, rcv, lget, lset, lset2, isL, rok, szs, List.elem_nil, List.elem_cons, cond_true, cond_false, Option.map_some, beq_self_eq_true, Bool.true_and, Bool.and_true, Bool.false_and, Bool.and_false, Bool.or_false, Bool.false_or, Bool.or_true, Bool.true_or, Nat.reduceAdd, Nat.reduceSub, Nat.reduceMul, Nat.reduceBEq, Nat.reduceEqDiff, Nat.reduceLeDiff, Nat.sub_zero, true_and, and_true, false_and, and_false, true_or, or_true, false_or, or_false, reduceCtorEq, ↓reduceIte, List.getD_cons_zero, List.getD_cons_succ, List.length_cons, List.length_nil, ct_i, ct_r, ct_l, ct_f, ct_n, false_implies, true_implies, y37, y38, show ¬ (1 : Int32) = 0 by decide, not_false_eq_true, true_implies, false_implies, and_true, true_and, not_true_eq_false]
            refine ⟨by omega, k_emit f7 l2 ?_⟩
            refine hZ 400 [10] _ _ _ _ _ _ _ ?_
            simp -implicitDefEqProofs (disch := omega) only [wp_step xX2_readTerm_82, ↓e_virt iX2_readTerm l2_95 iX2_readFactor, ↓e_getf iX2_readTerm f2_26, ↓e_getf iX2_readTerm f2_22, ↓e_virt iX2_readTerm l2_49 iX2_next, ↓e_putf iX2_readTerm f2_26, ↓e_getf iX2_readTerm f2_12, ↓e_virt iX2_readTerm l2_72 iX1_emit, iX2_readTerm, exec1, ↓p1_e, ↓p2_e, ↓q1_e, ↓q2_e, ↓qi_e, ↓pr_e, ↓pa_e, ↓pa_f, ↓pst_e, ↓qst_e, ↓rst_e, ↓pac_e, ↓pargs_0, ↓pargs_s, ↓gfld_0, ↓gfld_1, ↓gfld_2, ↓gfld_3, ↓pfld_i, ↓pfld_l, ↓pfld_r, ↓sfld_i, ↓sfld_l, ↓sfld_r, brI, pushv, rcv, lget, lset, lset2, isL, rok, szs, List.elem_nil, List.elem_cons, cond_true, cond_false, Option.map_some, beq_self_eq_true, Bool.true_and, Bool.and_true, Bool.false_and, Bool.and_false, Bool.or_false, Bool.false_or, Bool.or_true, Bool.true_or, Nat.reduceAdd, Nat.reduceSub, Nat.reduceMul, Nat.reduceBEq, Nat.reduceEqDiff, Nat.reduceLeDiff, Nat.sub_zero, true_and, and_true, false_and, and_false, true_or, or_true, false_or, or_false, reduceCtorEq, ↓reduceIte, List.getD_cons_zero, List.getD_cons_succ, List.length_cons, List.length_nil, ct_i, ct_r, ct_l, ct_f, ct_n, false_implies, true_implies]
            have hpp : p1 + 1 < y.2 := by obtain ⟨_, -, -, z, -⟩ := hk3; exact z
            exact ih y.2 _ _ _ hk4 (by omega) e
        have no : isTm (nxC L fb p1) = false → ∀ w2, Z 85 [some (.ref 37), some (.int (nI (6 - k))), w2] [] (LAY v) μ1 0 0 := fun eo w2 => by
          rw [eo, if_neg (by decide)] at e
          exact out p1 t μ1 w2 hk e
        refine hZ 400 [25] _ _ _ _ _ _ _ ?_
        simp -implicitDefEqProofs (disch := omega) only [wp_step xX2_readTerm_10, wp_step xX2_readTerm_11, wp_step xX2_readTerm_14, wp_step xX2_readTerm_15, wp_step xX2_readTerm_18, wp_step xX2_readTerm_21, wp_step xX2_readTerm_22, ↓e_virt iX2_readTerm l2_95 iX2_readFactor, ↓e_getf iX2_readTerm f2_26, ↓e_getf iX2_readTerm f2_22, ↓e_virt iX2_readTerm l2_49 iX2_next, ↓e_putf iX2_readTerm f2_26, ↓e_getf iX2_readTerm f2_12, ↓e_virt iX2_readTerm l2_72 iX1_emit, iX2_readTerm, exec1, ↓p1_e, ↓p2_e, ↓q1_e, ↓q2_e, ↓qi_e, ↓pr_e, ↓pa_e, ↓pa_f, ↓pst_e, ↓qst_e, ↓rst_e, ↓pac_e, ↓pargs_0, ↓pargs_s, ↓gfld_0, ↓gfld_1, ↓gfld_2, ↓gfld_3, ↓pfld_i, ↓pfld_l, ↓pfld_r, ↓sfld_i, ↓sfld_l, ↓sfld_r, brI, pushv, rcv, lget, lset, lset2, isL, rok, szs, List.elem_nil, List.elem_cons, cond_true, cond_false, Option.map_some, beq_self_eq_true, Bool.true_and, Bool.and_true, Bool.false_and, Bool.and_false, Bool.or_false, Bool.false_or, Bool.or_true, Bool.true_or, Nat.reduceAdd, Nat.reduceSub, Nat.reduceMul, Nat.reduceBEq, Nat.reduceEqDiff, Nat.reduceLeDiff, Nat.sub_zero, true_and, and_true, false_and, and_false, true_or, or_true, false_or, or_false, reduceCtorEq, ↓reduceIte, List.getD_cons_zero, List.getD_cons_succ, List.length_cons, List.length_nil, ct_i, ct_r, ct_l, ct_f, ct_n, false_implies, true_implies, y37, s1.1, s2, nle_f hlt (show L < 2 ^ 31 by omega), not_false_eq_true, true_implies, false_implies, and_true, true_and, not_true_eq_false]
        refine ⟨by omega, k_next (by omega) s1 s2 s3 ?_⟩
        by_cases c0 : nxC L fb p1 = 42
        · refine hZ 400 [48] _ _ _ _ _ _ _ ?_
          simp -implicitDefEqProofs (disch := omega) only [wp_step xX2_readTerm_25, wp_step xX2_readTerm_27, ↓e_virt iX2_readTerm l2_95 iX2_readFactor, ↓e_getf iX2_readTerm f2_26, ↓e_getf iX2_readTerm f2_22, ↓e_virt iX2_readTerm l2_49 iX2_next, ↓e_putf iX2_readTerm f2_26, ↓e_getf iX2_readTerm f2_12, ↓e_virt iX2_readTerm l2_72 iX1_emit, iX2_readTerm, exec1, ↓p1_e, ↓p2_e, ↓q1_e, ↓q2_e, ↓qi_e, ↓pr_e, ↓pa_e, ↓pa_f, ↓pst_e, ↓qst_e, ↓rst_e, ↓pac_e, ↓pargs_0, ↓pargs_s, ↓gfld_0, ↓gfld_1, ↓gfld_2, ↓gfld_3, ↓pfld_i, ↓pfld_l, ↓pfld_r, ↓sfld_i, ↓sfld_l, ↓sfld_r, brI, pushv, rcv, lget, lset, lset2, isL, rok, szs, List.elem_nil, List.elem_cons, cond_true, cond_false, Option.map_some, beq_self_eq_true, Bool.true_and, Bool.and_true, Bool.false_and, Bool.and_false, Bool.or_false, Bool.false_or, Bool.or_true, Bool.true_or, Nat.reduceAdd, Nat.reduceSub, Nat.reduceMul, Nat.reduceBEq, Nat.reduceEqDiff, Nat.reduceLeDiff, Nat.sub_zero, true_and, and_true, false_and, and_false, true_or, or_true, false_or, or_false, reduceCtorEq, ↓reduceIte, List.getD_cons_zero, List.getD_cons_succ, List.length_cons, List.length_nil, ct_i, ct_r, ct_l, ct_f, ct_n, false_implies, true_implies, c0, not_false_eq_true, true_implies, false_implies, and_true, true_and, not_true_eq_false]
          exact go (by rw [c0]; decide) _
        refine hZ 400 [34] _ _ _ _ _ _ _ ?_
        simp -implicitDefEqProofs (disch := omega) only [wp_step xX2_readTerm_25, wp_step xX2_readTerm_27, wp_step xX2_readTerm_30, wp_step xX2_readTerm_31, ↓e_virt iX2_readTerm l2_95 iX2_readFactor, ↓e_getf iX2_readTerm f2_26, ↓e_getf iX2_readTerm f2_22, ↓e_virt iX2_readTerm l2_49 iX2_next, ↓e_putf iX2_readTerm f2_26, ↓e_getf iX2_readTerm f2_12, ↓e_virt iX2_readTerm l2_72 iX1_emit, iX2_readTerm, exec1, ↓p1_e, ↓p2_e, ↓q1_e, ↓q2_e, ↓qi_e, ↓pr_e, ↓pa_e, ↓pa_f, ↓pst_e, ↓qst_e, ↓rst_e, ↓pac_e, ↓pargs_0, ↓pargs_s, ↓gfld_0, ↓gfld_1, ↓gfld_2, ↓gfld_3, ↓pfld_i, ↓pfld_l, ↓pfld_r, ↓sfld_i, ↓sfld_l, ↓sfld_r, brI, pushv, rcv, lget, lset, lset2, isL, rok, szs, List.elem_nil, List.elem_cons, cond_true, cond_false, Option.map_some, beq_self_eq_true, Bool.true_and, Bool.and_true, Bool.false_and, Bool.and_false, Bool.or_false, Bool.false_or, Bool.or_true, Bool.true_or, Nat.reduceAdd, Nat.reduceSub, Nat.reduceMul, Nat.reduceBEq, Nat.reduceEqDiff, Nat.reduceLeDiff, Nat.sub_zero, true_and, and_true, false_and, and_false, true_or, or_true, false_or, or_false, reduceCtorEq, ↓reduceIte, List.getD_cons_zero, List.getD_cons_succ, List.length_cons, List.length_nil, ct_i, ct_r, ct_l, ct_f, ct_n, false_implies, true_implies, y37, c0, not_false_eq_true, true_implies, false_implies, and_true, true_and, not_true_eq_false]
        refine ⟨by omega, k_next (by omega) s1 s2 s3 ?_⟩
        by_cases c1 : nxC L fb p1 = 47
        · refine hZ 400 [48] _ _ _ _ _ _ _ ?_
          simp -implicitDefEqProofs (disch := omega) only [wp_step xX2_readTerm_34, wp_step xX2_readTerm_36, ↓e_virt iX2_readTerm l2_95 iX2_readFactor, ↓e_getf iX2_readTerm f2_26, ↓e_getf iX2_readTerm f2_22, ↓e_virt iX2_readTerm l2_49 iX2_next, ↓e_putf iX2_readTerm f2_26, ↓e_getf iX2_readTerm f2_12, ↓e_virt iX2_readTerm l2_72 iX1_emit, iX2_readTerm, exec1, ↓p1_e, ↓p2_e, ↓q1_e, ↓q2_e, ↓qi_e, ↓pr_e, ↓pa_e, ↓pa_f, ↓pst_e, ↓qst_e, ↓rst_e, ↓pac_e, ↓pargs_0, ↓pargs_s, ↓gfld_0, ↓gfld_1, ↓gfld_2, ↓gfld_3, ↓pfld_i, ↓pfld_l, ↓pfld_r, ↓sfld_i, ↓sfld_l, ↓sfld_r, brI, pushv, rcv, lget, lset, lset2, isL, rok, szs, List.elem_nil, List.elem_cons, cond_true, cond_false, Option.map_some, beq_self_eq_true, Bool.true_and, Bool.and_true, Bool.false_and, Bool.and_false, Bool.or_false, Bool.false_or, Bool.or_true, Bool.true_or, Nat.reduceAdd, Nat.reduceSub, Nat.reduceMul, Nat.reduceBEq, Nat.reduceEqDiff, Nat.reduceLeDiff, Nat.sub_zero, true_and, and_true, false_and, and_false, true_or, or_true, false_or, or_false, reduceCtorEq, ↓reduceIte, List.getD_cons_zero, List.getD_cons_succ, List.length_cons, List.length_nil, ct_i, ct_r, ct_l, ct_f, ct_n, false_implies, true_implies, c1, not_false_eq_true, true_implies, false_implies, and_true, true_and, not_true_eq_false]
          exact go (by rw [c1]; decide) _
        refine hZ 400 [43] _ _ _ _ _ _ _ ?_
        simp -implicitDefEqProofs (disch := omega) only [wp_step xX2_readTerm_34, wp_step xX2_readTerm_36, wp_step xX2_readTerm_39, wp_step xX2_readTerm_40, ↓e_virt iX2_readTerm l2_95 iX2_readFactor, ↓e_getf iX2_readTerm f2_26, ↓e_getf iX2_readTerm f2_22, ↓e_virt iX2_readTerm l2_49 iX2_next, ↓e_putf iX2_readTerm f2_26, ↓e_getf iX2_readTerm f2_12, ↓e_virt iX2_readTerm l2_72 iX1_emit, iX2_readTerm, exec1, ↓p1_e, ↓p2_e, ↓q1_e, ↓q2_e, ↓qi_e, ↓pr_e, ↓pa_e, ↓pa_f, ↓pst_e, ↓qst_e, ↓rst_e, ↓pac_e, ↓pargs_0, ↓pargs_s, ↓gfld_0, ↓gfld_1, ↓gfld_2, ↓gfld_3, ↓pfld_i, ↓pfld_l, ↓pfld_r, ↓sfld_i, ↓sfld_l, ↓sfld_r, brI, pushv, rcv, lget, lset, lset2, isL, rok, szs, List.elem_nil, List.elem_cons, cond_true, cond_false, Option.map_some, beq_self_eq_true, Bool.true_and, Bool.and_true, Bool.false_and, Bool.and_false, Bool.or_false, Bool.false_or, Bool.or_true, Bool.true_or, Nat.reduceAdd, Nat.reduceSub, Nat.reduceMul, Nat.reduceBEq, Nat.reduceEqDiff, Nat.reduceLeDiff, Nat.sub_zero, true_and, and_true, false_and, and_false, true_or, or_true, false_or, or_false, reduceCtorEq, ↓reduceIte, List.getD_cons_zero, List.getD_cons_succ, List.length_cons, List.length_nil, ct_i, ct_r, ct_l, ct_f, ct_n, false_implies, true_implies, y37, c1, not_false_eq_true, true_implies, false_implies, and_true, true_and, not_true_eq_false]
        refine ⟨by omega, k_next (by omega) s1 s2 s3 ?_⟩
        by_cases c2 : nxC L fb p1 = 37
        · refine hZ 400 [48] _ _ _ _ _ _ _ ?_
          simp -implicitDefEqProofs (disch := omega) only [wp_step xX2_readTerm_43, wp_step xX2_readTerm_45, ↓e_virt iX2_readTerm l2_95 iX2_readFactor, ↓e_getf iX2_readTerm f2_26, ↓e_getf iX2_readTerm f2_22, ↓e_virt iX2_readTerm l2_49 iX2_next, ↓e_putf iX2_readTerm f2_26, ↓e_getf iX2_readTerm f2_12, ↓e_virt iX2_readTerm l2_72 iX1_emit, iX2_readTerm, exec1, ↓p1_e, ↓p2_e, ↓q1_e, ↓q2_e, ↓qi_e, ↓pr_e, ↓pa_e, ↓pa_f, ↓pst_e, ↓qst_e, ↓rst_e, ↓pac_e, ↓pargs_0, ↓pargs_s, ↓gfld_0, ↓gfld_1, ↓gfld_2, ↓gfld_3, ↓pfld_i, ↓pfld_l, ↓pfld_r, ↓sfld_i, ↓sfld_l, ↓sfld_r, brI, pushv, rcv, lget, lset, lset2, isL, rok, szs, List.elem_nil, List.elem_cons, cond_true, cond_false, Option.map_some, beq_self_eq_true, Bool.true_and, Bool.and_true, Bool.false_and, Bool.and_false, Bool.or_false, Bool.false_or, Bool.or_true, Bool.true_or, Nat.reduceAdd, Nat.reduceSub, Nat.reduceMul, Nat.reduceBEq, Nat.reduceEqDiff, Nat.reduceLeDiff, Nat.sub_zero, true_and, and_true, false_and, and_false, true_or, or_true, false_or, or_false, reduceCtorEq, ↓reduceIte, List.getD_cons_zero, List.getD_cons_succ, List.length_cons, List.length_nil, ct_i, ct_r, ct_l, ct_f, ct_n, false_implies, true_implies, c2, not_false_eq_true, true_implies, false_implies, and_true, true_and, not_true_eq_false]
          exact go (by rw [c2]; decide) _
        · refine hZ 400 [85] _ _ _ _ _ _ _ ?_
          simp -implicitDefEqProofs (disch := omega) only [wp_step xX2_readTerm_43, wp_step xX2_readTerm_45, ↓e_virt iX2_readTerm l2_95 iX2_readFactor, ↓e_getf iX2_readTerm f2_26, ↓e_getf iX2_readTerm f2_22, ↓e_virt iX2_readTerm l2_49 iX2_next, ↓e_putf iX2_readTerm f2_26, ↓e_getf iX2_readTerm f2_12, ↓e_virt iX2_readTerm l2_72 iX1_emit, iX2_readTerm, exec1, ↓p1_e, ↓p2_e, ↓q1_e, ↓q2_e, ↓qi_e, ↓pr_e, ↓pa_e, ↓pa_f, ↓pst_e, ↓qst_e, ↓rst_e, ↓pac_e, ↓pargs_0, ↓pargs_s, ↓gfld_0, ↓gfld_1, ↓gfld_2, ↓gfld_3, ↓pfld_i, ↓pfld_l, ↓pfld_r, ↓sfld_i, ↓sfld_l, ↓sfld_r, brI, pushv, rcv, lget, lset, lset2, isL, rok, szs, List.elem_nil, List.elem_cons, cond_true, cond_false, Option.map_some, beq_self_eq_true, Bool.true_and, Bool.and_true, Bool.false_and, Bool.and_false, Bool.or_false, Bool.false_or, Bool.or_true, Bool.true_or, Nat.reduceAdd, Nat.reduceSub, Nat.reduceMul, Nat.reduceBEq, Nat.reduceEqDiff, Nat.reduceLeDiff, Nat.sub_zero, true_and, and_true, false_and, and_false, true_or, or_true, false_or, or_false, reduceCtorEq, ↓reduceIte, List.getD_cons_zero, List.getD_cons_succ, List.length_cons, List.length_nil, ct_i, ct_r, ct_l, ct_f, ct_n, false_implies, true_implies, c2, not_false_eq_true, true_implies, false_implies, and_true, true_and, not_true_eq_false]
          refine no (decide_eq_false ?_) _
          rintro (z | z | z)
          · exact c0 z
          · exact c1 z
          · exact c2 z
  refine hZ 400 [5] _ _ _ _ _ _ _ ?_
  simp -implicitDefEqProofs (disch := omega) only [wp_step xX2_readTerm_0, wp_step xX2_readTerm_1, wp_step xX2_readTerm_2, ↓e_virt iX2_readTerm l2_95 iX2_readFactor, ↓e_getf iX2_readTerm f2_26, ↓e_getf iX2_readTerm f2_22, ↓e_virt iX2_readTerm l2_49 iX2_next, ↓e_putf iX2_readTerm f2_26, ↓e_getf iX2_readTerm f2_12, ↓e_virt iX2_readTerm l2_72 iX1_emit, iX2_readTerm, exec1, ↓p1_e, ↓p2_e, ↓q1_e, ↓q2_e, ↓qi_e, ↓pr_e, ↓pa_e, ↓pa_f, ↓pst_e, ↓qst_e, ↓rst_e, ↓pac_e, ↓pargs_0, ↓pargs_s, ↓gfld_0, ↓gfld_1, ↓gfld_2, ↓gfld_3, ↓pfld_i, ↓pfld_l, ↓pfld_r, ↓sfld_i, ↓sfld_l, ↓sfld_r, brI, pushv, rcv, lget, lset, lset2, isL, rok, szs, List.elem_nil, List.elem_cons, cond_true, cond_false, Option.map_some, beq_self_eq_true, Bool.true_and, Bool.and_true, Bool.false_and, Bool.and_false, Bool.or_false, Bool.false_or, Bool.or_true, Bool.true_or, Nat.reduceAdd, Nat.reduceSub, Nat.reduceMul, Nat.reduceBEq, Nat.reduceEqDiff, Nat.reduceLeDiff, Nat.sub_zero, true_and, and_true, false_and, and_false, true_or, or_true, false_or, or_false, reduceCtorEq, ↓reduceIte, List.getD_cons_zero, List.getD_cons_succ, List.length_cons, List.length_nil, ct_i, ct_r, ct_l, ct_f, ct_n, false_implies, true_implies, y37]
  refine ⟨by omega, HF _ _ _ _ _ p q (by omega) hR ?_⟩
  unfold lvR at hR0
  cases ef : fac p with
  | inl er =>
    rw [ef, bd] at hR0
    rw [hR0] at h
    intro μ3 hF3 hf3
    refine hZ 400 [] _ _ _ _ _ _ _ ?_
    simp -implicitDefEqProofs (disch := omega) only [wp_step xX2_readTerm_5, wp_step xX2_readTerm_8, wp_step xX2_readTerm_9, ↓e_virt iX2_readTerm l2_95 iX2_readFactor, ↓e_getf iX2_readTerm f2_26, ↓e_getf iX2_readTerm f2_22, ↓e_virt iX2_readTerm l2_49 iX2_next, ↓e_putf iX2_readTerm f2_26, ↓e_getf iX2_readTerm f2_12, ↓e_virt iX2_readTerm l2_72 iX1_emit, iX2_readTerm, exec1, ↓p1_e, ↓p2_e, ↓q1_e, ↓q2_e, ↓qi_e, ↓pr_e, ↓pa_e, ↓pa_f, ↓pst_e, ↓qst_e, ↓rst_e, ↓pac_e, ↓pargs_0, ↓pargs_s, ↓gfld_0, ↓gfld_1, ↓gfld_2, ↓gfld_3, ↓pfld_i, ↓pfld_l, ↓pfld_r, ↓sfld_i, ↓sfld_l, ↓sfld_r, brI, pushv, rcv, lget, lset, lset2, isL, rok, szs, List.elem_nil, List.elem_cons, cond_true, cond_false, Option.map_some, beq_self_eq_true, Bool.true_and, Bool.and_true, Bool.false_and, Bool.and_false, Bool.or_false, Bool.false_or, Bool.or_true, Bool.true_or, Nat.reduceAdd, Nat.reduceSub, Nat.reduceMul, Nat.reduceBEq, Nat.reduceEqDiff, Nat.reduceLeDiff, Nat.sub_zero, true_and, and_true, false_and, and_false, true_or, or_true, false_or, or_false, reduceCtorEq, ↓reduceIte, List.getD_cons_zero, List.getD_cons_succ, List.length_cons, List.length_nil, ct_i, ct_r, ct_l, ct_f, ct_n, false_implies, true_implies, not_false_eq_true, true_implies, false_implies, and_true, true_and, not_true_eq_false]
    exact h μ3 hF3 hf3
  | inr y =>
    rw [ef, bd] at hR0
    intro μ3 hk3
    refine hZ 400 [10] _ _ _ _ _ _ _ ?_
    simp -implicitDefEqProofs (disch := omega) only [wp_step xX2_readTerm_5, ↓e_virt iX2_readTerm l2_95 iX2_readFactor, ↓e_getf iX2_readTerm f2_26, ↓e_getf iX2_readTerm f2_22, ↓e_virt iX2_readTerm l2_49 iX2_next, ↓e_putf iX2_readTerm f2_26, ↓e_getf iX2_readTerm f2_12, ↓e_virt iX2_readTerm l2_72 iX1_emit, iX2_readTerm, exec1, ↓p1_e, ↓p2_e, ↓q1_e, ↓q2_e, ↓qi_e, ↓pr_e, ↓pa_e, ↓pa_f, ↓pst_e, ↓qst_e, ↓rst_e, ↓pac_e, ↓pargs_0, ↓pargs_s, ↓gfld_0, ↓gfld_1, ↓gfld_2, ↓gfld_3, ↓pfld_i, ↓pfld_l, ↓pfld_r, ↓sfld_i, ↓sfld_l, ↓sfld_r, brI, pushv, rcv, lget, lset, lset2, isL, rok, szs, List.elem_nil, List.elem_cons, cond_true, cond_false, Option.map_some, beq_self_eq_true, Bool.true_and, Bool.and_true, Bool.false_and, Bool.and_false, Bool.or_false, Bool.false_or, Bool.or_true, Bool.true_or, Nat.reduceAdd, Nat.reduceSub, Nat.reduceMul, Nat.reduceBEq, Nat.reduceEqDiff, Nat.reduceLeDiff, Nat.sub_zero, true_and, and_true, false_and, and_false, true_or, or_true, false_or, or_false, reduceCtorEq, ↓reduceIte, List.getD_cons_zero, List.getD_cons_succ, List.length_cons, List.length_nil, ct_i, ct_r, ct_l, ct_f, ct_n, false_implies, true_implies, show ¬ (1 : Int32) = 0 by decide, not_false_eq_true, true_implies, false_implies, and_true, true_and, not_true_eq_false]
    exact loop 201 y.2 y.1 μ3 none (hk3.up (by omega)) (by omega) hR0
set_option maxRecDepth 100000 in
set_option maxHeartbeats 1000000 in
theorem k_readSum {fac : Nat → Rs} {k D nd : Nat} (HF : RdOK XEj G v L fb mX2_readTerm k D nd fac) (h3 : 2 ≤ D) : RdOK XEj G v L fb mX2_readSum k (D + 1) (nd + 1) (lvR (nxC L fb) isPl fac) := by
  intro d μ bc bs Q p q hd hR h
  have hL := hR.1.2.1
  obtain ⟨R, hR0⟩ : ∃ R, R = lvR (nxC L fb) isPl fac p := ⟨_, rfl⟩
  rw [← hR0] at h
  refine KC_intro 0 0 kX2_readSum (by decide) (by decide) (Nat.zero_le _) (Nat.zero_le _) (Nat.le_of_ble_eq_true rfl) (fun Z hZ => ?_)
  show Z 0 [some (.ref 37), some (.int (nI (6 - k))), none] [] (LAY v) μ 0 0
  have out : ∀ p1 t μ1 w2, Rok XEj L fb (nd + 1) μ p q t p1 μ1 → R = .inr (t, p1) → Z 76 [some (.ref 37), some (.int (nI (6 - k))), w2] [] (LAY v) μ1 0 0 := fun p1 t μ1 w2 hk e => by
    rw [e] at h
    refine hZ 400 [] _ _ _ _ _ _ _ ?_
    simp -implicitDefEqProofs (disch := omega) only [wp_step xX2_readSum_76, wp_step xX2_readSum_77, ↓e_virt iX2_readSum l2_92 iX2_readTerm, ↓e_getf iX2_readSum f2_26, ↓e_getf iX2_readSum f2_22, ↓e_virt iX2_readSum l2_49 iX2_next, ↓e_putf iX2_readSum f2_26, ↓e_getf iX2_readSum f2_12, ↓e_virt iX2_readSum l2_72 iX1_emit, iX2_readSum, exec1, ↓p1_e, ↓p2_e, ↓q1_e, ↓q2_e, ↓qi_e, ↓pr_e, ↓pa_e, ↓pa_f, ↓pst_e, ↓qst_e, ↓rst_e, ↓pac_e, ↓pargs_0, ↓pargs_s, ↓gfld_0, ↓gfld_1, ↓gfld_2, ↓gfld_3, ↓pfld_i, ↓pfld_l, ↓pfld_r, ↓sfld_i, ↓sfld_l, ↓sfld_r, brI, pushv, rcv, lget, lset, lset2, isL, rok, szs, List.elem_nil, List.elem_cons, cond_true, cond_false, Option.map_some, beq_self_eq_true, Bool.true_and, Bool.and_true, Bool.false_and, Bool.and_false, Bool.or_false, Bool.false_or, Bool.or_true, Bool.true_or, Nat.reduceAdd, Nat.reduceSub, Nat.reduceMul, Nat.reduceBEq, Nat.reduceEqDiff, Nat.reduceLeDiff, Nat.sub_zero, true_and, and_true, false_and, and_false, true_or, or_true, false_or, or_false, reduceCtorEq, ↓reduceIte, List.getD_cons_zero, List.getD_cons_succ, List.length_cons, List.length_nil, ct_i, ct_r, ct_l, ct_f, ct_n, false_implies, true_implies]
    exact h μ1 hk
  have loop : ∀ n p1 t μ1 w2, Rok XEj L fb (nd + 1) μ p q t p1 μ1 → L - p1 ≤ n → R = loopR (nxC L fb) isPl fac n p1 t → Z 10 [some (.ref 37), some (.int (nI (6 - k))), w2] [] (LAY v) μ1 0 0 := by
    intro n
    have stop : ∀ t μ1 w2, Rok XEj L fb (nd + 1) μ p q t L μ1 → R = .inr (t, L) → Z 10 [some (.ref 37), some (.int (nI (6 - k))), w2] [] (LAY v) μ1 0 0 := fun t μ1 w2 hk e => by
      obtain ⟨q1, -, ⟨⟨s1, -⟩, s2, -⟩, -⟩ := id hk
      refine hZ 400 [76] _ _ _ _ _ _ _ ?_
      simp -implicitDefEqProofs (disch := omega) only [wp_step xX2_readSum_10, wp_step xX2_readSum_11, wp_step xX2_readSum_14, wp_step xX2_readSum_15, wp_step xX2_readSum_18, ↓e_virt iX2_readSum l2_92 iX2_readTerm, ↓e_getf iX2_readSum f2_26, ↓e_getf iX2_readSum f2_22, ↓e_virt iX2_readSum l2_49 iX2_next, ↓e_putf iX2_readSum f2_26, ↓e_getf iX2_readSum f2_12, ↓e_virt iX2_readSum l2_72 iX1_emit, iX2_readSum, exec1, ↓p1_e, ↓p2_e, ↓q1_e, ↓q2_e, ↓qi_e, ↓pr_e, ↓pa_e, ↓pa_f, ↓pst_e, ↓qst_e, ↓rst_e, ↓pac_e, ↓pargs_0, ↓pargs_s, ↓gfld_0, ↓gfld_1, ↓gfld_2, ↓gfld_3, ↓pfld_i, ↓pfld_l, ↓pfld_r, ↓sfld_i, ↓sfld_l, ↓sfld_r, brI, pushv, rcv, lget, lset, lset2, isL, rok, szs, List.elem_nil, List.elem_cons, cond_true, cond_false, Option.map_some, beq_self_eq_true, Bool.true_and, Bool.and_true, Bool.false_and, Bool.and_false, Bool.or_false, Bool.false_or, Bool.or_true, Bool.true_or, Nat.reduceAdd, Nat.reduceSub, Nat.reduceMul, Nat.reduceBEq, Nat.reduceEqDiff, Nat.reduceLeDiff, Nat.sub_zero, true_and, and_true, false_and, and_false, true_or, or_true, false_or, or_false, reduceCtorEq, ↓reduceIte, List.getD_cons_zero, List.getD_cons_succ, List.length_cons, List.length_nil, ct_i, ct_r, ct_l, ct_f, ct_n, false_implies, true_implies, y37, s1, s2, nle_t (show L < 2 ^ 31 by omega), not_false_eq_true, true_implies, false_implies, and_true, true_and, not_true_eq_false]
      exact out L t μ1 w2 hk e
    have ne : isPl (nxC L fb L) = false := by unfold nxC; rw [if_neg (by omega)]; decide
    induction n with
    | zero =>
      intro p1 t μ1 w2 hk hn e
      obtain ⟨q1, -, ⟨-, -, s3, -⟩, -⟩ := id hk
      have : p1 = L := by omega
      subst this
      exact stop t μ1 w2 hk e
    | succ n ih =>
      intro p1 t μ1 w2 hk hn e
      obtain ⟨q1, kF, kR, kp, kq, ks, kk, kX, knd⟩ := id hk
      obtain ⟨s1, s2, s3, s4, s5⟩ := id kR
      by_cases cL : p1 = L
      · subst cL
        rw [loopR, ne, if_neg (by decide)] at e
        exact stop t μ1 w2 hk e
      · have hlt : p1 < L := by omega
        rw [loopR] at e
        have go : isPl (nxC L fb p1) = true → ∀ w2, Z 39 [some (.ref 37), some (.int (nI (6 - k))), w2] [] (LAY v) μ1 0 0 := fun eo w2 => by
          rw [eo, if_pos rfl] at e
          refine hZ 400 [43] _ _ _ _ _ _ _ ?_
          simp -implicitDefEqProofs (disch := omega) only [wp_step xX2_readSum_39, wp_step xX2_readSum_40, ↓e_virt iX2_readSum l2_92 iX2_readTerm, ↓e_getf iX2_readSum f2_26, ↓e_getf iX2_readSum f2_22, ↓e_virt iX2_readSum l2_49 iX2_next, ↓e_putf iX2_readSum f2_26, ↓e_getf iX2_readSum f2_12, ↓e_virt iX2_readSum l2_72 iX1_emit, iX2_readSum, exec1, ↓p1_e, ↓p2_e, ↓q1_e, ↓q2_e, ↓qi_e, ↓pr_e, ↓pa_e, ↓pa_f, ↓pst_e, ↓qst_e, ↓rst_e, ↓pac_e, ↓pargs_0, ↓pargs_s, ↓gfld_0, ↓gfld_1, ↓gfld_2, ↓gfld_3, ↓pfld_i, ↓pfld_l, ↓pfld_r, ↓sfld_i, ↓sfld_l, ↓sfld_r, brI, pushv, rcv, lget, lset, lset2, isL, rok, szs, List.elem_nil, List.elem_cons, cond_true, cond_false, Option.map_some, beq_self_eq_true, Bool.true_and, Bool.and_true, Bool.false_and, Bool.and_false, Bool.or_false, Bool.false_or, Bool.or_true, Bool.true_or, Nat.reduceAdd, Nat.reduceSub, Nat.reduceMul, Nat.reduceBEq, Nat.reduceEqDiff, Nat.reduceLeDiff, Nat.sub_zero, true_and, and_true, false_and, and_false, true_or, or_true, false_or, or_false, reduceCtorEq, ↓reduceIte, List.getD_cons_zero, List.getD_cons_succ, List.length_cons, List.length_nil, ct_i, ct_r, ct_l, ct_f, ct_n, false_implies, true_implies, y37]
          refine ⟨by omega, k_next (by omega) s1 s2 s3 ?_⟩
          refine hZ 400 [59] _ _ _ _ _ _ _ ?_
          simp -implicitDefEqProofs (disch := omega) only [wp_step xX2_readSum_43, wp_step xX2_readSum_44, wp_step xX2_readSum_45, wp_step xX2_readSum_46, wp_step xX2_readSum_49, wp_step xX2_readSum_50, wp_step xX2_readSum_51, wp_step xX2_readSum_54, wp_step xX2_readSum_55, wp_step xX2_readSum_56, ↓e_virt iX2_readSum l2_92 iX2_readTerm, ↓e_getf iX2_readSum f2_26, ↓e_getf iX2_readSum f2_22, ↓e_virt iX2_readSum l2_49 iX2_next, ↓e_putf iX2_readSum f2_26, ↓e_getf iX2_readSum f2_12, ↓e_virt iX2_readSum l2_72 iX1_emit, iX2_readSum, exec1, ↓p1_e, ↓p2_e, ↓q1_e, ↓q2_e, ↓qi_e, ↓pr_e, ↓pa_e, ↓pa_f, ↓pst_e, ↓qst_e, ↓rst_e, ↓pac_e, ↓pargs_0, ↓pargs_s, ↓gfld_0, ↓gfld_1, ↓gfld_2, ↓gfld_3, ↓pfld_i, ↓pfld_l, ↓pfld_r, ↓sfld_i, ↓sfld_l, ↓sfld_r, brI, pushv, rcv, lget, lset, lset2, isL, rok, szs, List.elem_nil, List.elem_cons, cond_true, cond_false, Option.map_some, beq_self_eq_true, Bool.true_and, Bool.and_true, Bool.false_and, Bool.and_false, Bool.or_false, Bool.false_or, Bool.or_true, Bool.true_or, Nat.reduceAdd, Nat.reduceSub, Nat.reduceMul, Nat.reduceBEq, Nat.reduceEqDiff, Nat.reduceLeDiff, Nat.sub_zero, true_and, and_true, false_and, and_false, true_or, or_true, false_or, or_false, reduceCtorEq, ↓reduceIte, List.getD_cons_zero, List.getD_cons_succ, List.length_cons, List.length_nil, ct_i, ct_r, ct_l, ct_f, ct_n, false_implies, true_implies, y37, s2, nI_1]
          refine ⟨by omega, HF _ _ _ _ _ (p1 + 1) q1 (by omega) (kR.go hlt) ?_⟩
          cases ef : fac (p1 + 1) with
          | inl er =>
            rw [ef, bd] at e
            rw [e] at h
            intro μ3 hF3 hf3
            refine hZ 400 [] _ _ _ _ _ _ _ ?_
            simp -implicitDefEqProofs (disch := omega) only [wp_step xX2_readSum_59, wp_step xX2_readSum_62, wp_step xX2_readSum_63, ↓e_virt iX2_readSum l2_92 iX2_readTerm, ↓e_getf iX2_readSum f2_26, ↓e_getf iX2_readSum f2_22, ↓e_virt iX2_readSum l2_49 iX2_next, ↓e_putf iX2_readSum f2_26, ↓e_getf iX2_readSum f2_12, ↓e_virt iX2_readSum l2_72 iX1_emit, iX2_readSum, exec1, ↓p1_e, ↓p2_e, ↓q1_e, ↓q2_e, ↓qi_e, ↓pr_e, ↓pa_e, ↓pa_f, ↓pst_e, ↓qst_e, ↓rst_e, ↓pac_e, ↓pargs_0, ↓pargs_s, ↓gfld_0, ↓gfld_1, ↓gfld_2, ↓gfld_3, ↓pfld_i, ↓pfld_l, ↓pfld_r, ↓sfld_i, ↓sfld_l, ↓sfld_r, brI, pushv, rcv, lget, lset, lset2, isL, rok, szs, List.elem_nil, List.elem_cons, cond_true, cond_false, Option.map_some, beq_self_eq_true, Bool.true_and, Bool.and_true, Bool.false_and, Bool.and_false, Bool.or_false, Bool.false_or, Bool.or_true, Bool.true_or, Nat.reduceAdd, Nat.reduceSub, Nat.reduceMul, Nat.reduceBEq, Nat.reduceEqDiff, Nat.reduceLeDiff, Nat.sub_zero, true_and, and_true, false_and, and_false, true_or, or_true, false_or, or_false, reduceCtorEq, ↓reduceIte, List.getD_cons_zero, List.getD_cons_succ, List.length_cons, List.length_nil, ct_i, ct_r, ct_l, ct_f, ct_n, false_implies, true_implies, not_false_eq_true, true_implies, false_implies, and_true, true_and, not_true_eq_false]
            exact h μ3 (((kF.mono pRo_b).si (Or.inl (by unfold pRo; omega))).trans hF3) hf3
          | inr y =>
            rw [ef, bd] at e
            intro μ3 hk3
            obtain ⟨q2, f7, l2, hk4⟩ := Rok.bin (nd1 := nd) (op := nxC L fb p1) (Or.inr eo) hk (by omega) (fun q1' f1 f2 => by
              have : q1' = q1 := (nI_eq (by omega) (by omega)).mp (f1.symm.trans s4)
              rw [this]; exact hk3)
            refine hZ 400 [73] _ _ _ _ _ _ _ ?_
            simp -implicitDefEqProofs (disch := omega) only [wp_step xX2_readSum_59, wp_step xX2_readSum_62, wp_step xX2_readSum_63, wp_step xX2_readSum_64, wp_step xX2_readSum_65, wp_step xX2_readSum_68, wp_step xX2_readSum_69, wp_step xX2_readSum_70, ↓e_virt iX2_readSum l2_92 iX2_readTerm, ↓e_getf iX2_readSum f2_26, ↓e_getf iX2_readSum f2_22, ↓e_virt iX2_readSum l2_49 iX2_next, ↓e_putf iX2_readSum f2_26, ↓e_getf iX2_readSum f2_12, ↓e_virt iX2_readSum l2_72 iX1_emit, iX2_readSum, exec1, ↓p1_e, ↓p2_e, ↓q1_e, ↓q2_e, ↓qi_e, ↓pr_e, ↓pa_e, ↓pa_f, ↓pst_e, ↓qst_e, ↓rst_e, ↓pac_e, ↓pargs_0, ↓pargs_s, ↓gfld_0, ↓gfld_1, ↓gfld_2, ↓gfld_3, ↓pfld_i, ↓pfld_l, ↓pfld_r, ↓sfld_i, ↓sfld_l, ↓sfld_r, brI, pushv, rcv, lget, lset, lset2, isL, rok, szs, List.elem_nil, List.elem_cons, cond_true, cond_false, Option.map_some, beq_self_eq_true, Bool.true_and, Bool.and_true, Bool.false_and, Bool.and_false, Bool.or_false, Bool.false_or, Bool.or_true, Bool.true_or, Nat.reduceAdd, Nat.reduceSub, Nat.reduceMul, Nat.reduceBEq, Nat.reduceEqDiff, Nat.reduceLeDiff, Nat.sub_zero, true_and, and_true, false_and, and_false, true_or, or_true, false_or, or_false, reduceCtorEq, ↓reduceIte, List.getD_cons_zero, List.getD_cons_succ, List.length_cons, List.length_nil, ct_i, ct_r, ct_l, ct_f, ct_n, false_implies, true_implies, y37, y38, show ¬ (1 : Int32) = 0 by decide, not_false_eq_true, true_implies, false_implies, and_true, true_and, not_true_eq_false]
            refine ⟨by omega, k_emit f7 l2 ?_⟩
            refine hZ 400 [10] _ _ _ _ _ _ _ ?_
            simp -implicitDefEqProofs (disch := omega) only [wp_step xX2_readSum_73, ↓e_virt iX2_readSum l2_92 iX2_readTerm, ↓e_getf iX2_readSum f2_26, ↓e_getf iX2_readSum f2_22, ↓e_virt iX2_readSum l2_49 iX2_next, ↓e_putf iX2_readSum f2_26, ↓e_getf iX2_readSum f2_12, ↓e_virt iX2_readSum l2_72 iX1_emit, iX2_readSum, exec1, ↓p1_e, ↓p2_e, ↓q1_e, ↓q2_e, ↓qi_e, ↓pr_e, ↓pa_e, ↓pa_f, ↓pst_e, ↓qst_e, ↓rst_e, ↓pac_e, ↓pargs_0, ↓pargs_s, ↓gfld_0, ↓gfld_1, ↓gfld_2, ↓gfld_3, ↓pfld_i, ↓pfld_l, ↓pfld_r, ↓sfld_i, ↓sfld_l, ↓sfld_r, brI, pushv, rcv, lget, lset, lset2, isL, rok, szs, List.elem_nil, List.elem_cons, cond_true, cond_false, Option.map_some, beq_self_eq_true, Bool.true_and, Bool.and_true, Bool.false_and, Bool.and_false, Bool.or_false, Bool.false_or, Bool.or_true, Bool.true_or, Nat.reduceAdd, Nat.reduceSub, Nat.reduceMul, Nat.reduceBEq, Nat.reduceEqDiff, Nat.reduceLeDiff, Nat.sub_zero, true_and, and_true, false_and, and_false, true_or, or_true, false_or, or_false, reduceCtorEq, ↓reduceIte, List.getD_cons_zero, List.getD_cons_succ, List.length_cons, List.length_nil, ct_i, ct_r, ct_l, ct_f, ct_n, false_implies, true_implies]
            have hpp : p1 + 1 < y.2 := by obtain ⟨_, -, -, z, -⟩ := hk3; exact z
            exact ih y.2 _ _ _ hk4 (by omega) e
        have no : isPl (nxC L fb p1) = false → ∀ w2, Z 76 [some (.ref 37), some (.int (nI (6 - k))), w2] [] (LAY v) μ1 0 0 := fun eo w2 => by
          rw [eo, if_neg (by decide)] at e
          exact out p1 t μ1 w2 hk e
        refine hZ 400 [25] _ _ _ _ _ _ _ ?_
        simp -implicitDefEqProofs (disch := omega) only [wp_step xX2_readSum_10, wp_step xX2_readSum_11, wp_step xX2_readSum_14, wp_step xX2_readSum_15, wp_step xX2_readSum_18, wp_step xX2_readSum_21, wp_step xX2_readSum_22, ↓e_virt iX2_readSum l2_92 iX2_readTerm, ↓e_getf iX2_readSum f2_26, ↓e_getf iX2_readSum f2_22, ↓e_virt iX2_readSum l2_49 iX2_next, ↓e_putf iX2_readSum f2_26, ↓e_getf iX2_readSum f2_12, ↓e_virt iX2_readSum l2_72 iX1_emit, iX2_readSum, exec1, ↓p1_e, ↓p2_e, ↓q1_e, ↓q2_e, ↓qi_e, ↓pr_e, ↓pa_e, ↓pa_f, ↓pst_e, ↓qst_e, ↓rst_e, ↓pac_e, ↓pargs_0, ↓pargs_s, ↓gfld_0, ↓gfld_1, ↓gfld_2, ↓gfld_3, ↓pfld_i, ↓pfld_l, ↓pfld_r, ↓sfld_i, ↓sfld_l, ↓sfld_r, brI, pushv, rcv, lget, lset, lset2, isL, rok, szs, List.elem_nil, List.elem_cons, cond_true, cond_false, Option.map_some, beq_self_eq_true, Bool.true_and, Bool.and_true, Bool.false_and, Bool.and_false, Bool.or_false, Bool.false_or, Bool.or_true, Bool.true_or, Nat.reduceAdd, Nat.reduceSub, Nat.reduceMul, Nat.reduceBEq, Nat.reduceEqDiff, Nat.reduceLeDiff, Nat.sub_zero, true_and, and_true, false_and, and_false, true_or, or_true, false_or, or_false, reduceCtorEq, ↓reduceIte, List.getD_cons_zero, List.getD_cons_succ, List.length_cons, List.length_nil, ct_i, ct_r, ct_l, ct_f, ct_n, false_implies, true_implies, y37, s1.1, s2, nle_f hlt (show L < 2 ^ 31 by omega), not_false_eq_true, true_implies, false_implies, and_true, true_and, not_true_eq_false]
        refine ⟨by omega, k_next (by omega) s1 s2 s3 ?_⟩
        by_cases c0 : nxC L fb p1 = 43
        · refine hZ 400 [39] _ _ _ _ _ _ _ ?_
          simp -implicitDefEqProofs (disch := omega) only [wp_step xX2_readSum_25, wp_step xX2_readSum_27, ↓e_virt iX2_readSum l2_92 iX2_readTerm, ↓e_getf iX2_readSum f2_26, ↓e_getf iX2_readSum f2_22, ↓e_virt iX2_readSum l2_49 iX2_next, ↓e_putf iX2_readSum f2_26, ↓e_getf iX2_readSum f2_12, ↓e_virt iX2_readSum l2_72 iX1_emit, iX2_readSum, exec1, ↓p1_e, ↓p2_e, ↓q1_e, ↓q2_e, ↓qi_e, ↓pr_e, ↓pa_e, ↓pa_f, ↓pst_e, ↓qst_e, ↓rst_e, ↓pac_e, ↓pargs_0, ↓pargs_s, ↓gfld_0, ↓gfld_1, ↓gfld_2, ↓gfld_3, ↓pfld_i, ↓pfld_l, ↓pfld_r, ↓sfld_i, ↓sfld_l, ↓sfld_r, brI, pushv, rcv, lget, lset, lset2, isL, rok, szs, List.elem_nil, List.elem_cons, cond_true, cond_false, Option.map_some, beq_self_eq_true, Bool.true_and, Bool.and_true, Bool.false_and, Bool.and_false, Bool.or_false, Bool.false_or, Bool.or_true, Bool.true_or, Nat.reduceAdd, Nat.reduceSub, Nat.reduceMul, Nat.reduceBEq, Nat.reduceEqDiff, Nat.reduceLeDiff, Nat.sub_zero, true_and, and_true, false_and, and_false, true_or, or_true, false_or, or_false, reduceCtorEq, ↓reduceIte, List.getD_cons_zero, List.getD_cons_succ, List.length_cons, List.length_nil, ct_i, ct_r, ct_l, ct_f, ct_n, false_implies, true_implies, c0, not_false_eq_true, true_implies, false_implies, and_true, true_and, not_true_eq_false]
          exact go (by rw [c0]; decide) _
        refine hZ 400 [34] _ _ _ _ _ _ _ ?_
        simp -implicitDefEqProofs (disch := omega) only [wp_step xX2_readSum_25, wp_step xX2_readSum_27, wp_step xX2_readSum_30, wp_step xX2_readSum_31, ↓e_virt iX2_readSum l2_92 iX2_readTerm, ↓e_getf iX2_readSum f2_26, ↓e_getf iX2_readSum f2_22, ↓e_virt iX2_readSum l2_49 iX2_next, ↓e_putf iX2_readSum f2_26, ↓e_getf iX2_readSum f2_12, ↓e_virt iX2_readSum l2_72 iX1_emit, iX2_readSum, exec1, ↓p1_e, ↓p2_e, ↓q1_e, ↓q2_e, ↓qi_e, ↓pr_e, ↓pa_e, ↓pa_f, ↓pst_e, ↓qst_e, ↓rst_e, ↓pac_e, ↓pargs_0, ↓pargs_s, ↓gfld_0, ↓gfld_1, ↓gfld_2, ↓gfld_3, ↓pfld_i, ↓pfld_l, ↓pfld_r, ↓sfld_i, ↓sfld_l, ↓sfld_r, brI, pushv, rcv, lget, lset, lset2, isL, rok, szs, List.elem_nil, List.elem_cons, cond_true, cond_false, Option.map_some, beq_self_eq_true, Bool.true_and, Bool.and_true, Bool.false_and, Bool.and_false, Bool.or_false, Bool.false_or, Bool.or_true, Bool.true_or, Nat.reduceAdd, Nat.reduceSub, Nat.reduceMul, Nat.reduceBEq, Nat.reduceEqDiff, Nat.reduceLeDiff, Nat.sub_zero, true_and, and_true, false_and, and_false, true_or, or_true, false_or, or_false, reduceCtorEq, ↓reduceIte, List.getD_cons_zero, List.getD_cons_succ, List.length_cons, List.length_nil, ct_i, ct_r, ct_l, ct_f, ct_n, false_implies, true_implies, y37, c0, not_false_eq_true, true_implies, false_implies, and_true, true_and, not_true_eq_false]
        refine ⟨by omega, k_next (by omega) s1 s2 s3 ?_⟩
        by_cases c1 : nxC L fb p1 = 45
        · refine hZ 400 [39] _ _ _ _ _ _ _ ?_
          simp -implicitDefEqProofs (disch := omega) only [wp_step xX2_readSum_34, wp_step xX2_readSum_36, ↓e_virt iX2_readSum l2_92 iX2_readTerm, ↓e_getf iX2_readSum f2_26, ↓e_getf iX2_readSum f2_22, ↓e_virt iX2_readSum l2_49 iX2_next, ↓e_putf iX2_readSum f2_26, ↓e_getf iX2_readSum f2_12, ↓e_virt iX2_readSum l2_72 iX1_emit, iX2_readSum, exec1, ↓p1_e, ↓p2_e, ↓q1_e, ↓q2_e, ↓qi_e, ↓pr_e, ↓pa_e, ↓pa_f, ↓pst_e, ↓qst_e, ↓rst_e, ↓pac_e, ↓pargs_0, ↓pargs_s, ↓gfld_0, ↓gfld_1, ↓gfld_2, ↓gfld_3, ↓pfld_i, ↓pfld_l, ↓pfld_r, ↓sfld_i, ↓sfld_l, ↓sfld_r, brI, pushv, rcv, lget, lset, lset2, isL, rok, szs, List.elem_nil, List.elem_cons, cond_true, cond_false, Option.map_some, beq_self_eq_true, Bool.true_and, Bool.and_true, Bool.false_and, Bool.and_false, Bool.or_false, Bool.false_or, Bool.or_true, Bool.true_or, Nat.reduceAdd, Nat.reduceSub, Nat.reduceMul, Nat.reduceBEq, Nat.reduceEqDiff, Nat.reduceLeDiff, Nat.sub_zero, true_and, and_true, false_and, and_false, true_or, or_true, false_or, or_false, reduceCtorEq, ↓reduceIte, List.getD_cons_zero, List.getD_cons_succ, List.length_cons, List.length_nil, ct_i, ct_r, ct_l, ct_f, ct_n, false_implies, true_implies, c1, not_false_eq_true, true_implies, false_implies, and_true, true_and, not_true_eq_false]
          exact go (by rw [c1]; decide) _
        · refine hZ 400 [76] _ _ _ _ _ _ _ ?_
          simp -implicitDefEqProofs (disch := omega) only [wp_step xX2_readSum_34, wp_step xX2_readSum_36, ↓e_virt iX2_readSum l2_92 iX2_readTerm, ↓e_getf iX2_readSum f2_26, ↓e_getf iX2_readSum f2_22, ↓e_virt iX2_readSum l2_49 iX2_next, ↓e_putf iX2_readSum f2_26, ↓e_getf iX2_readSum f2_12, ↓e_virt iX2_readSum l2_72 iX1_emit, iX2_readSum, exec1, ↓p1_e, ↓p2_e, ↓q1_e, ↓q2_e, ↓qi_e, ↓pr_e, ↓pa_e, ↓pa_f, ↓pst_e, ↓qst_e, ↓rst_e, ↓pac_e, ↓pargs_0, ↓pargs_s, ↓gfld_0, ↓gfld_1, ↓gfld_2, ↓gfld_3, ↓pfld_i, ↓pfld_l, ↓pfld_r, ↓sfld_i, ↓sfld_l, ↓sfld_r, brI, pushv, rcv, lget, lset, lset2, isL, rok, szs, List.elem_nil, List.elem_cons, cond_true, cond_false, Option.map_some, beq_self_eq_true, Bool.true_and, Bool.and_true, Bool.false_and, Bool.and_false, Bool.or_false, Bool.false_or, Bool.or_true, Bool.true_or, Nat.reduceAdd, Nat.reduceSub, Nat.reduceMul, Nat.reduceBEq, Nat.reduceEqDiff, Nat.reduceLeDiff, Nat.sub_zero, true_and, and_true, false_and, and_false, true_or, or_true, false_or, or_false, reduceCtorEq, ↓reduceIte, List.getD_cons_zero, List.getD_cons_succ, List.length_cons, List.length_nil, ct_i, ct_r, ct_l, ct_f, ct_n, false_implies, true_implies, c1, not_false_eq_true, true_implies, false_implies, and_true, true_and, not_true_eq_false]
          refine no (decide_eq_false ?_) _
          rintro (z | z)
          · exact c0 z
          · exact c1 z
  refine hZ 400 [5] _ _ _ _ _ _ _ ?_
  simp -implicitDefEqProofs (disch := omega) only [wp_step xX2_readSum_0, wp_step xX2_readSum_1, wp_step xX2_readSum_2, ↓e_virt iX2_readSum l2_92 iX2_readTerm, ↓e_getf iX2_readSum f2_26, ↓e_getf iX2_readSum f2_22, ↓e_virt iX2_readSum l2_49 iX2_next, ↓e_putf iX2_readSum f2_26, ↓e_getf iX2_readSum f2_12, ↓e_virt iX2_readSum l2_72 iX1_emit, iX2_readSum, exec1, ↓p1_e, ↓p2_e, ↓q1_e, ↓q2_e, ↓qi_e, ↓pr_e, ↓pa_e, ↓pa_f, ↓pst_e, ↓qst_e, ↓rst_e, ↓pac_e, ↓pargs_0, ↓pargs_s, ↓gfld_0, ↓gfld_1, ↓gfld_2, ↓gfld_3, ↓pfld_i, ↓pfld_l, ↓pfld_r, ↓sfld_i, ↓sfld_l, ↓sfld_r, brI, pushv, rcv, lget, lset, lset2, isL, rok, szs, List.elem_nil, List.elem_cons, cond_true, cond_false, Option.map_some, beq_self_eq_true, Bool.true_and, Bool.and_true, Bool.false_and, Bool.and_false, Bool.or_false, Bool.false_or, Bool.or_true, Bool.true_or, Nat.reduceAdd, Nat.reduceSub, Nat.reduceMul, Nat.reduceBEq, Nat.reduceEqDiff, Nat.reduceLeDiff, Nat.sub_zero, true_and, and_true, false_and, and_false, true_or, or_true, false_or, or_false, reduceCtorEq, ↓reduceIte, List.getD_cons_zero, List.getD_cons_succ, List.length_cons, List.length_nil, ct_i, ct_r, ct_l, ct_f, ct_n, false_implies, true_implies, y37]
  refine ⟨by omega, HF _ _ _ _ _ p q (by omega) hR ?_⟩
  unfold lvR at hR0
  cases ef : fac p with
  | inl er =>
    rw [ef, bd] at hR0
    rw [hR0] at h
    intro μ3 hF3 hf3
    refine hZ 400 [] _ _ _ _ _ _ _ ?_
    simp -implicitDefEqProofs (disch := omega) only [wp_step xX2_readSum_5, wp_step xX2_readSum_8, wp_step xX2_readSum_9, ↓e_virt iX2_readSum l2_92 iX2_readTerm, ↓e_getf iX2_readSum f2_26, ↓e_getf iX2_readSum f2_22, ↓e_virt iX2_readSum l2_49 iX2_next, ↓e_putf iX2_readSum f2_26, ↓e_getf iX2_readSum f2_12, ↓e_virt iX2_readSum l2_72 iX1_emit, iX2_readSum, exec1, ↓p1_e, ↓p2_e, ↓q1_e, ↓q2_e, ↓qi_e, ↓pr_e, ↓pa_e, ↓pa_f, ↓pst_e, ↓qst_e, ↓rst_e, ↓pac_e, ↓pargs_0, ↓pargs_s, ↓gfld_0, ↓gfld_1, ↓gfld_2, ↓gfld_3, ↓pfld_i, ↓pfld_l, ↓pfld_r, ↓sfld_i, ↓sfld_l, ↓sfld_r, brI, pushv, rcv, lget, lset, lset2, isL, rok, szs, List.elem_nil, List.elem_cons, cond_true, cond_false, Option.map_some, beq_self_eq_true, Bool.true_and, Bool.and_true, Bool.false_and, Bool.and_false, Bool.or_false, Bool.false_or, Bool.or_true, Bool.true_or, Nat.reduceAdd, Nat.reduceSub, Nat.reduceMul, Nat.reduceBEq, Nat.reduceEqDiff, Nat.reduceLeDiff, Nat.sub_zero, true_and, and_true, false_and, and_false, true_or, or_true, false_or, or_false, reduceCtorEq, ↓reduceIte, List.getD_cons_zero, List.getD_cons_succ, List.length_cons, List.length_nil, ct_i, ct_r, ct_l, ct_f, ct_n, false_implies, true_implies, not_false_eq_true, true_implies, false_implies, and_true, true_and, not_true_eq_false]
    exact h μ3 hF3 hf3
  | inr y =>
    rw [ef, bd] at hR0
    intro μ3 hk3
    refine hZ 400 [10] _ _ _ _ _ _ _ ?_
    simp -implicitDefEqProofs (disch := omega) only [wp_step xX2_readSum_5, ↓e_virt iX2_readSum l2_92 iX2_readTerm, ↓e_getf iX2_readSum f2_26, ↓e_getf iX2_readSum f2_22, ↓e_virt iX2_readSum l2_49 iX2_next, ↓e_putf iX2_readSum f2_26, ↓e_getf iX2_readSum f2_12, ↓e_virt iX2_readSum l2_72 iX1_emit, iX2_readSum, exec1, ↓p1_e, ↓p2_e, ↓q1_e, ↓q2_e, ↓qi_e, ↓pr_e, ↓pa_e, ↓pa_f, ↓pst_e, ↓qst_e, ↓rst_e, ↓pac_e, ↓pargs_0, ↓pargs_s, ↓gfld_0, ↓gfld_1, ↓gfld_2, ↓gfld_3, ↓pfld_i, ↓pfld_l, ↓pfld_r, ↓sfld_i, ↓sfld_l, ↓sfld_r, brI, pushv, rcv, lget, lset, lset2, isL, rok, szs, List.elem_nil, List.elem_cons, cond_true, cond_false, Option.map_some, beq_self_eq_true, Bool.true_and, Bool.and_true, Bool.false_and, Bool.and_false, Bool.or_false, Bool.false_or, Bool.or_true, Bool.true_or, Nat.reduceAdd, Nat.reduceSub, Nat.reduceMul, Nat.reduceBEq, Nat.reduceEqDiff, Nat.reduceLeDiff, Nat.sub_zero, true_and, and_true, false_and, and_false, true_or, or_true, false_or, or_false, reduceCtorEq, ↓reduceIte, List.getD_cons_zero, List.getD_cons_succ, List.length_cons, List.length_nil, ct_i, ct_r, ct_l, ct_f, ct_n, false_implies, true_implies, show ¬ (1 : Int32) = 0 by decide, not_false_eq_true, true_implies, false_implies, and_true, true_and, not_true_eq_false]
    exact loop 201 y.2 y.1 μ3 none (hk3.up (by omega)) (by omega) hR0
end RDS
