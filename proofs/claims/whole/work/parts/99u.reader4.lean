/-! conditions, read -/
def XCj (code opd : Nat → Int32) (q q' : Nat) (t : Tr) : Prop := XC code opd q q' t ∧ JO code opd q q'
theorem XCj.mv {c o c' o' : Nat → Int32} {q q' : Nat} {t : Tr} (x : XCj c o q q' t) (h : Agr q q' c o c' o') : XCj c' o' q q' t := ⟨x.1.mv h, fun j j1 j2 z => by
  rw [(h j j1 j2).1] at z; rw [(h j j1 j2).2]; exact x.2 j j1 j2 z⟩
def Rc (L : Nat) (fb : Nat → Nat) (μ : Mem) (p q : Nat) (t : Tr) (p' : Nat) (μ' : Mem) : Prop := ∃ q', Fr pRo μ μ' ∧ RdS μ' L fb p' q' ∧ p < p' ∧ q ≤ q' ∧ q' - q ≤ p' - p ∧ (∀ j, j < q → gi μ' 39 j = gi μ 39 j ∧ gi μ' 40 j = gi μ 40 j) ∧ XCj (gi μ' 39) (gi μ' 40) q q' t
def RcPost (L : Nat) (fb : Nat → Nat) (μ : Mem) (p q : Nat) (r : Rs) (Q : Int32 → Mem → Prop) : Prop := match r with
  | .inl e => ∀ μ', Fr pRb μ μ' → gi μ' 37 4 = flt e.1 e.2 → Q 0 μ'
  | .inr x => ∀ μ', Rc L fb μ p q x.1 x.2 μ' → Q 1 μ'
def RcOK (G : Gx) (v L : Nat) (fb : Nat → Nat) (M : MI) (k D : Nat) (f : Nat → Rs) : Prop := ∀ d μ bc bs Q p q, D ≤ d → RdS μ L fb p q → RcPost L fb μ p q (f p) (fun x μ' => Q (some (.int x)) (LAY v) μ' bc bs) → KC G d M [.ref 37, .int (nI (6 - k))] (LAY v) μ bc bs Q
/-- the jumps not aimed yet, last first -/
def jcV : List Nat → Int32
  | [] => -1
  | j :: _ => nI j
def ChOK (o : Nat → Int32) : List Nat → Prop
  | [] => True
  | j :: t => o j = jcV t ∧ (∀ i ∈ t, i < j) ∧ ChOK o t
theorem ChOK.mv {o o' : Nat → Int32} : ∀ {js : List Nat}, (∀ j ∈ js, o' j = o j) → ChOK o js → ChOK o' js
  | [], _, _ => trivial
  | j :: t, h, q => ⟨(h j List.mem_cons_self).trans q.1, q.2.1, ChOK.mv (fun i hi => h i (List.mem_cons_of_mem _ hi)) q.2.2⟩
theorem ChOK.len {o : Nat → Int32} : ∀ {js : List Nat} {q : Nat}, ChOK o js → (∀ j ∈ js, j < q) → js.length ≤ q
  | [], _, _, _ => by simp
  | j :: t, q, h, hq => by
    have := ChOK.len (q := j) h.2.2 h.2.1
    have := hq j List.mem_cons_self
    rw [List.length_cons]; omega
section RDU
variable {G : Gx} {d v : Nat} {μ : Mem} {bc bs : Nat} {Q : Option Value → List Sh → Mem → Nat → Nat → Prop} {L : Nat} {fb : Nat → Nat} {p q : Nat}
set_option maxRecDepth 100000 in
set_option maxHeartbeats 1000000 in
theorem k_emitJump {op x : Int32} (hd : 1 ≤ d) (hq : gi μ 38 7 = nI q) (h2 : q < 200) (h : Q (some (.int (nI q))) (LAY v) (si (si (si μ 39 q op) 40 q x) 38 7 (nI (q + 1))) bc bs) : KC G d mX1_emitJump [.ref 38, .int op, .int x] (LAY v) μ bc bs Q := by
  refine KC_intro 0 0 kX1_emitJump (by decide) (by decide) (Nat.zero_le _) (Nat.zero_le _) (Nat.le_of_ble_eq_true rfl) (fun Z hZ => ?_)
  show Z 0 [some (.ref 38), some (.int op), some (.int x)] [] (LAY v) μ 0 0
  refine hZ 400 [6] _ _ _ _ _ _ _ ?_
  simp -implicitDefEqProofs (disch := omega) only [wp_step xX1_emitJump_0, wp_step xX1_emitJump_1, wp_step xX1_emitJump_2, wp_step xX1_emitJump_3, ↓e_virt iX1_emitJump l1_105 iX1_emit, ↓e_getf iX1_emitJump f1_89, iX1_emitJump, exec1, ↓p1_e, ↓p2_e, ↓q1_e, ↓q2_e, ↓qi_e, ↓pr_e, ↓pa_e, ↓pa_f, ↓pst_e, ↓qst_e, ↓rst_e, ↓pac_e, ↓pargs_0, ↓pargs_s, ↓gfld_0, ↓gfld_1, ↓gfld_2, ↓gfld_3, ↓pfld_i, ↓pfld_l, ↓pfld_r, ↓sfld_i, ↓sfld_l, ↓sfld_r, brI, pushv, rcv, lget, lset, lset2, isL, rok, szs, List.elem_nil, List.elem_cons, cond_true, cond_false, Option.map_some, beq_self_eq_true, Bool.true_and, Bool.and_true, Bool.false_and, Bool.and_false, Bool.or_false, Bool.false_or, Bool.or_true, Bool.true_or, Nat.reduceAdd, Nat.reduceSub, Nat.reduceMul, Nat.reduceBEq, Nat.reduceEqDiff, Nat.reduceLeDiff, Nat.sub_zero, true_and, and_true, false_and, and_false, true_or, or_true, false_or, or_false, reduceCtorEq, ↓reduceIte, List.getD_cons_zero, List.getD_cons_succ, List.length_cons, List.length_nil, ct_i, ct_r, ct_l, ct_f, ct_n, false_implies, true_implies, y38]
  refine ⟨by omega, k_emit hq h2 ?_⟩
  refine hZ 400 [] _ _ _ _ _ _ _ ?_
  simp -implicitDefEqProofs (disch := omega) only [wp_step xX1_emitJump_6, wp_step xX1_emitJump_7, wp_step xX1_emitJump_10, wp_step xX1_emitJump_11, wp_step xX1_emitJump_12, ↓e_virt iX1_emitJump l1_105 iX1_emit, ↓e_getf iX1_emitJump f1_89, iX1_emitJump, exec1, ↓p1_e, ↓p2_e, ↓q1_e, ↓q2_e, ↓qi_e, ↓pr_e, ↓pa_e, ↓pa_f, ↓pst_e, ↓qst_e, ↓rst_e, ↓pac_e, ↓pargs_0, ↓pargs_s, ↓gfld_0, ↓gfld_1, ↓gfld_2, ↓gfld_3, ↓pfld_i, ↓pfld_l, ↓pfld_r, ↓sfld_i, ↓sfld_l, ↓sfld_r, brI, pushv, rcv, lget, lset, lset2, isL, rok, szs, List.elem_nil, List.elem_cons, cond_true, cond_false, Option.map_some, beq_self_eq_true, Bool.true_and, Bool.and_true, Bool.false_and, Bool.and_false, Bool.or_false, Bool.false_or, Bool.or_true, Bool.true_or, Nat.reduceAdd, Nat.reduceSub, Nat.reduceMul, Nat.reduceBEq, Nat.reduceEqDiff, Nat.reduceLeDiff, Nat.sub_zero, true_and, and_true, false_and, and_false, true_or, or_true, false_or, or_false, reduceCtorEq, ↓reduceIte, List.getD_cons_zero, List.getD_cons_succ, List.length_cons, List.length_nil, ct_i, ct_r, ct_l, ct_f, ct_n, false_implies, true_implies, y38, gi_si, nI_pred]
  exact h
set_option maxRecDepth 100000 in
set_option maxHeartbeats 1000000 in
theorem k_aimHere {js : List Nat} (hq : gi μ 38 7 = nI q) (h2 : q ≤ 200) (hC : ChOK (gi μ 40) js) (hj : ∀ j ∈ js, j < q) (h : ∀ μ', Fr (fun a j => a = 40 ∧ j ∈ js) μ μ' → (∀ j ∈ js, gi μ' 40 j = nI q) → Q none (LAY v) μ' bc bs) : KC G d mX1_aimHere [.ref 38, .int (jcV js)] (LAY v) μ bc bs Q := by
  have hl := hC.len hj
  refine KC_intro 0 0 kX1_aimHere (by decide) (by decide) (Nat.zero_le _) (Nat.zero_le _) (Nat.le_of_ble_eq_true rfl) (fun Z hZ => ?_)
  show Z 0 [some (.ref 38), some (.int (jcV js)), none, none, none] [] (LAY v) μ 0 0
  have loop : ∀ (t : List Nat) k, k + t.length ≤ 200 → ∀ μ1, ChOK (gi μ1 40) t → (∀ j ∈ t, j < q) → gi μ1 38 7 = nI q → (∀ μ', Fr (fun a j => a = 40 ∧ j ∈ t) μ1 μ' → (∀ j ∈ t, gi μ' 40 j = nI q) → Q none (LAY v) μ' bc bs) → ∀ w4, Z 4 [some (.ref 38), some (.int (jcV js)), some (.int (jcV t)), some (.int (nI k)), w4] [] (LAY v) μ1 0 0 := by
    intro t
    induction t with
    | nil =>
      intro k hk μ1 _ _ _ hQ w4
      have fin := hQ μ1 Fr.rf (fun j hj => by simp at hj)
      by_cases c : k = 200
      · subst c
        refine hZ 400 [] _ _ _ _ _ _ _ ?_
        simp -implicitDefEqProofs (disch := omega) only [wp_step xX1_aimHere_4, wp_step xX1_aimHere_5, wp_step xX1_aimHere_8, ↓e_getf iX1_aimHere f1_89, ↓e_getf iX1_aimHere f1_15, iX1_aimHere, wp_step xX1_aimHere_50, ↓e_getf iX1_aimHere f1_89, ↓e_getf iX1_aimHere f1_15, iX1_aimHere, exec1, ↓p1_e, ↓p2_e, ↓q1_e, ↓q2_e, ↓qi_e, ↓pr_e, ↓pa_e, ↓pa_f, ↓pst_e, ↓qst_e, ↓rst_e, ↓pac_e, ↓pargs_0, ↓pargs_s, ↓gfld_0, ↓gfld_1, ↓gfld_2, ↓gfld_3, ↓pfld_i, ↓pfld_l, ↓pfld_r, ↓sfld_i, ↓sfld_l, ↓sfld_r, brI, pushv, rcv, lget, lset, lset2, isL, rok, szs, List.elem_nil, List.elem_cons, cond_true, cond_false, Option.map_some, beq_self_eq_true, Bool.true_and, Bool.and_true, Bool.false_and, Bool.and_false, Bool.or_false, Bool.false_or, Bool.or_true, Bool.true_or, Nat.reduceAdd, Nat.reduceSub, Nat.reduceMul, Nat.reduceBEq, Nat.reduceEqDiff, Nat.reduceLeDiff, Nat.sub_zero, true_and, and_true, false_and, and_false, true_or, or_true, false_or, or_false, reduceCtorEq, ↓reduceIte, List.getD_cons_zero, List.getD_cons_succ, List.length_cons, List.length_nil, ct_i, ct_r, ct_l, ct_f, ct_n, false_implies, true_implies, show (200 ≤ nI 200) = True from eq_true (by decide), not_false_eq_true, true_implies, false_implies, and_true, true_and, not_true_eq_false]
        exact fin
      · rw [List.length_nil] at hk
        refine hZ 400 [] _ _ _ _ _ _ _ ?_
        simp -implicitDefEqProofs (disch := omega) only [wp_step xX1_aimHere_4, wp_step xX1_aimHere_5, wp_step xX1_aimHere_8, wp_step xX1_aimHere_11, wp_step xX1_aimHere_12, ↓e_getf iX1_aimHere f1_89, ↓e_getf iX1_aimHere f1_15, iX1_aimHere, wp_step xX1_aimHere_50, ↓e_getf iX1_aimHere f1_89, ↓e_getf iX1_aimHere f1_15, iX1_aimHere, exec1, ↓p1_e, ↓p2_e, ↓q1_e, ↓q2_e, ↓qi_e, ↓pr_e, ↓pa_e, ↓pa_f, ↓pst_e, ↓qst_e, ↓rst_e, ↓pac_e, ↓pargs_0, ↓pargs_s, ↓gfld_0, ↓gfld_1, ↓gfld_2, ↓gfld_3, ↓pfld_i, ↓pfld_l, ↓pfld_r, ↓sfld_i, ↓sfld_l, ↓sfld_r, brI, pushv, rcv, lget, lset, lset2, isL, rok, szs, List.elem_nil, List.elem_cons, cond_true, cond_false, Option.map_some, beq_self_eq_true, Bool.true_and, Bool.and_true, Bool.false_and, Bool.and_false, Bool.or_false, Bool.false_or, Bool.or_true, Bool.true_or, Nat.reduceAdd, Nat.reduceSub, Nat.reduceMul, Nat.reduceBEq, Nat.reduceEqDiff, Nat.reduceLeDiff, Nat.sub_zero, true_and, and_true, false_and, and_false, true_or, or_true, false_or, or_false, reduceCtorEq, ↓reduceIte, List.getD_cons_zero, List.getD_cons_succ, List.length_cons, List.length_nil, ct_i, ct_r, ct_l, ct_f, ct_n, false_implies, true_implies, jcV, show (200 ≤ nI k) = False from eq_false (nI_ge (a := k) (b := 200) (by omega) (by omega)), show ((-1 : Int32) < 0) = True from eq_true (by decide), not_false_eq_true, true_implies, false_implies, and_true, true_and, not_true_eq_false]
        exact fin
    | cons j t ih =>
      intro k hk μ1 hC1 hj1 hq1 hQ w4
      obtain ⟨c1, c2, c3⟩ := hC1
      rw [List.length_cons] at hk
      have hjq := hj1 j List.mem_cons_self
      have vj : vp_in (nI j) 200 := vin (by omega) (by omega)
      refine hZ 400 [4] _ _ _ _ _ _ _ ?_
      simp -implicitDefEqProofs (disch := omega) only [wp_step xX1_aimHere_4, wp_step xX1_aimHere_5, wp_step xX1_aimHere_8, wp_step xX1_aimHere_11, wp_step xX1_aimHere_12, wp_step xX1_aimHere_15, wp_step xX1_aimHere_16, wp_step xX1_aimHere_17, wp_step xX1_aimHere_20, wp_step xX1_aimHere_23, wp_step xX1_aimHere_24, wp_step xX1_aimHere_27, wp_step xX1_aimHere_28, wp_step xX1_aimHere_29, wp_step xX1_aimHere_31, wp_step xX1_aimHere_32, wp_step xX1_aimHere_35, wp_step xX1_aimHere_36, wp_step xX1_aimHere_37, wp_step xX1_aimHere_40, wp_step xX1_aimHere_41, wp_step xX1_aimHere_43, wp_step xX1_aimHere_44, wp_step xX1_aimHere_47, ↓e_getf iX1_aimHere f1_89, ↓e_getf iX1_aimHere f1_15, iX1_aimHere, exec1, ↓p1_e, ↓p2_e, ↓q1_e, ↓q2_e, ↓qi_e, ↓pr_e, ↓pa_e, ↓pa_f, ↓pst_e, ↓qst_e, ↓rst_e, ↓pac_e, ↓pargs_0, ↓pargs_s, ↓gfld_0, ↓gfld_1, ↓gfld_2, ↓gfld_3, ↓pfld_i, ↓pfld_l, ↓pfld_r, ↓sfld_i, ↓sfld_l, ↓sfld_r, brI, pushv, rcv, lget, lset, lset2, isL, rok, szs, List.elem_nil, List.elem_cons, cond_true, cond_false, Option.map_some, beq_self_eq_true, Bool.true_and, Bool.and_true, Bool.false_and, Bool.and_false, Bool.or_false, Bool.false_or, Bool.or_true, Bool.true_or, Nat.reduceAdd, Nat.reduceSub, Nat.reduceMul, Nat.reduceBEq, Nat.reduceEqDiff, Nat.reduceLeDiff, Nat.sub_zero, true_and, and_true, false_and, and_false, true_or, or_true, false_or, or_false, reduceCtorEq, ↓reduceIte, List.getD_cons_zero, List.getD_cons_succ, List.length_cons, List.length_nil, ct_i, ct_r, ct_l, ct_f, ct_n, false_implies, true_implies, y38, y40, jcV, hq1, vj, nI_clamp, nI_1, show (200 ≤ nI k) = False from eq_false (nI_ge (a := k) (b := 200) (by omega) (by omega)), show (nI j < 0) = False from eq_false (nI_pos (by omega)), nle_f hjq (show q < 2 ^ 31 by omega), not_false_eq_true, true_implies, false_implies, and_true, true_and, not_true_eq_false]
      rw [c1]
      refine ih (k + 1) (by omega) _ (c3.mv (fun i hi => ?_)) (fun i hi => hj1 i (List.mem_cons_of_mem _ hi)) ((gi_si_a (by omega)).trans hq1) (fun μ' hF ha => hQ μ' ?_ (fun i hi => ?_)) _
      · rw [gi_si_k (by have := c2 i hi; omega)]
      · exact (Fr.rf.si ⟨rfl, List.mem_cons_self⟩).trans (hF.mono (fun a i z => ⟨z.1, List.mem_cons_of_mem _ z.2⟩))
      · by_cases y : i ∈ t
        · exact ha i y
        · have : i = j := by
            rcases List.mem_cons.mp hi with z | z
            · exact z
            · exact absurd z y
          subst this
          rw [hF.1 40 i (fun z => y z.2), gi_si]
  refine hZ 400 [4] _ _ _ _ _ _ _ ?_
  simp -implicitDefEqProofs (disch := omega) only [wp_step xX1_aimHere_0, wp_step xX1_aimHere_1, wp_step xX1_aimHere_2, wp_step xX1_aimHere_3, ↓e_getf iX1_aimHere f1_89, ↓e_getf iX1_aimHere f1_15, iX1_aimHere, exec1, ↓p1_e, ↓p2_e, ↓q1_e, ↓q2_e, ↓qi_e, ↓pr_e, ↓pa_e, ↓pa_f, ↓pst_e, ↓qst_e, ↓rst_e, ↓pac_e, ↓pargs_0, ↓pargs_s, ↓gfld_0, ↓gfld_1, ↓gfld_2, ↓gfld_3, ↓pfld_i, ↓pfld_l, ↓pfld_r, ↓sfld_i, ↓sfld_l, ↓sfld_r, brI, pushv, rcv, lget, lset, lset2, isL, rok, szs, List.elem_nil, List.elem_cons, cond_true, cond_false, Option.map_some, beq_self_eq_true, Bool.true_and, Bool.and_true, Bool.false_and, Bool.and_false, Bool.or_false, Bool.false_or, Bool.or_true, Bool.true_or, Nat.reduceAdd, Nat.reduceSub, Nat.reduceMul, Nat.reduceBEq, Nat.reduceEqDiff, Nat.reduceLeDiff, Nat.sub_zero, true_and, and_true, false_and, and_false, true_or, or_true, false_or, or_false, reduceCtorEq, ↓reduceIte, List.getD_cons_zero, List.getD_cons_succ, List.length_cons, List.length_nil, ct_i, ct_r, ct_l, ct_f, ct_n, false_implies, true_implies]
  exact loop js 0 (by omega) μ hC hj hq h none
/-- a chain under way -/
def RH (s : Bool) (L : Nat) (fb : Nat → Nat) (μ : Mem) (p q : Nat) (t : Tr) (js : List Nat) (p1 : Nat) (μ1 : Mem) : Prop := ∃ q1, Fr pRo μ μ1 ∧ RdS μ1 L fb p1 q1 ∧ p < p1 ∧ q ≤ q1 ∧ q1 - q ≤ p1 - p ∧ (∀ j, j < q → gi μ1 39 j = gi μ 39 j ∧ gi μ1 40 j = gi μ 40 j) ∧ XH s (gi μ1 39) (gi μ1 40) js q q1 t ∧ (∀ j ∈ js, q ≤ j ∧ j < q1) ∧ ChOK (gi μ1 40) js ∧ ∀ j, q ≤ j → j < q1 → j ∉ js → (gi μ1 39 j = 4 ∨ gi μ1 39 j = 5) → ∃ x, x ≤ 200 ∧ gi μ1 40 j = nI x
theorem RH.one {s : Bool} {t : Tr} {p1 : Nat} {μ1 : Mem} (h : Rc L fb μ p q t p1 μ1) : RH s L fb μ p q t [] p1 μ1 := by
  obtain ⟨q1, h1, h2, h3, h4, h5, h6, h7⟩ := h
  exact ⟨q1, h1, h2, h3, h4, h5, h6, XH.one h7.1, fun j hj => by simp at hj, trivial, fun j j1 j2 _ => h7.2 j j1 j2⟩
theorem RH.fin {s : Bool} {t : Tr} {js : List Nat} {p1 : Nat} {μ1 μ2 : Mem} (h : RH s L fb μ p q t js p1 μ1) (hF : Fr (fun a j => a = 40 ∧ j ∈ js) μ1 μ2) (ha : ∀ q1, gi μ1 38 7 = nI q1 → q1 ≤ 200 → ∀ j ∈ js, gi μ2 40 j = nI q1) : Rc L fb μ p q t p1 μ2 := by
  obtain ⟨q1, h1, h2, h3, h4, h5, h6, h7, h8, h9, h10⟩ := h
  have hL := h2.1.2.1
  have l1 := h2.2.2.1
  have l2 := h2.2.2.2.2
  have ha := ha q1 h2.2.2.2.1 (by omega)
  have e39 : ∀ j, gi μ2 39 j = gi μ1 39 j := fun j => hF.1 _ _ (by omega)
  have e40 : ∀ j, j ∉ js → gi μ2 40 j = gi μ1 40 j := fun j hj => hF.1 _ _ (fun z => hj z.2)
  refine ⟨q1, h1.trans (hF.mono (fun a j z => by unfold pRo; omega)), ⟨h2.1.fr (hF.mono (fun a j z => by unfold pRb pRo; omega)), (hF.1 _ _ (by omega)).trans h2.2.1, l1, (hF.1 _ _ (by omega)).trans h2.2.2.2.1, l2⟩, h3, h4, h5, fun j hj => ?_, h7.fin h8 (fun j _ _ => ⟨e39 j, e40 j⟩) ha, fun j j1 j2 z => ?_⟩
  · rw [e39, e40 j (fun z => by have := h8 j z; omega)]; exact h6 j hj
  · by_cases y : j ∈ js
    · exact ⟨q1, by omega, ha j y⟩
    · rw [e39] at z; rw [e40 j y]; exact h10 j j1 j2 y z
theorem RH.step {s : Bool} {t t' : Tr} {js : List Nat} {p1 p2 q1 : Nat} {μ1 μ2 μ3 : Mem} (h : RH s L fb μ p q t js p1 μ1) (hq1 : gi μ1 38 7 = nI q1) (hq : q1 < 200) (hm : μ2 = si (si (si (si μ1 37 3 (nI (p1 + 1))) 39 q1 (jpS s)) 40 q1 (jcV js)) 38 7 (nI (q1 + 1))) (hx : Rc L fb μ2 (p1 + 1) (q1 + 1) t' p2 μ3) : RH s L fb μ p q (tBin (jpO s) t t') (q1 :: js) p2 μ3 := by
  obtain ⟨q1', h1, h2, h3, h4, h5, h6, h7, h8, h9, h10⟩ := h
  have hL := h2.1.2.1
  have l1 := h2.2.2.1
  have l2 := h2.2.2.2.2
  have eq : q1' = q1 := (nI_eq (by omega) (by omega)).mp (h2.2.2.2.1.symm.trans hq1)
  subst eq
  obtain ⟨q2, x1, x2, x3, x4, x5, x6, x7⟩ := hx
  have e2 : ∀ j, j ≠ q1' → gi μ2 39 j = gi μ1 39 j ∧ gi μ2 40 j = gi μ1 40 j := fun j hj => by
    rw [hm, gi_si_a (by omega), gi_si_a (by omega), gi_si_k hj, gi_si_a (by omega), gi_si_a (by omega), gi_si_k hj, gi_si_a (by omega), gi_si_a (by omega)]; exact ⟨rfl, rfl⟩
  have c2 : gi μ2 39 q1' = jpS s ∧ gi μ2 40 q1' = jcV js := by
    rw [hm, gi_si_a (by omega), gi_si_a (by omega), gi_si, gi_si_a (by omega), gi_si]; exact ⟨rfl, rfl⟩
  have e3 : ∀ j, j < q1' → gi μ3 39 j = gi μ1 39 j ∧ gi μ3 40 j = gi μ1 40 j := fun j hj => ⟨(x6 j (by omega)).1.trans (e2 j (by omega)).1, (x6 j (by omega)).2.trans (e2 j (by omega)).2⟩
  have c3 : gi μ3 39 q1' = jpS s ∧ gi μ3 40 q1' = jcV js := ⟨(x6 q1' (by omega)).1.trans c2.1, (x6 q1' (by omega)).2.trans c2.2⟩
  have hF2 : Fr pRo μ μ2 := by rw [hm]; exact (((h1.si (by unfold pRo; omega)).si (by unfold pRo; omega)).si (by unfold pRo; omega)).si (by unfold pRo; omega)
  have h7' : XH s (gi μ3 39) (gi μ3 40) js q q1' t := ⟨h7.1, h7.2.1, fun c o sz E F hb ag => h7.2.2 c o sz E F hb (fun j j1 j2 => ⟨(ag j j1 j2).1.trans (e3 j j2).1, fun n => ((ag j j1 j2).2 n).trans (e3 j j2).2⟩)⟩
  refine ⟨q2, hF2.trans x1, x2, by omega, by omega, by omega, fun j hj => ?_, h7'.step (fun j hj => (h8 j hj).2) c3.1 x7.1, fun j hj => ?_, ⟨c3.2, fun i hi => (h8 i hi).2, h9.mv (fun i hi => (e3 i (h8 i hi).2).2)⟩, fun j j1 j2 n z => ?_⟩
  · obtain ⟨a1, a2⟩ := e3 j (by omega)
    obtain ⟨b1, b2⟩ := h6 j hj
    exact ⟨a1.trans b1, a2.trans b2⟩
  · rcases List.mem_cons.mp hj with z | z
    · subst z; omega
    · have := h8 j z; omega
  · have n1 : j ≠ q1' := fun e => n (by rw [e]; exact List.mem_cons_self)
    have n2 : j ∉ js := fun e => n (List.mem_cons_of_mem _ e)
    by_cases y : j < q1'
    · rw [(e3 j y).1] at z; rw [(e3 j y).2]; exact h10 j j1 y n2 z
    · exact x7.2 j (by omega) j2 z
end RDU
