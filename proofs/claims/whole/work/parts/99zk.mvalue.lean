def c91 : List Int32 → Nat
  | [] => 0
  | x :: t => if x = 91 then c91 t + 1 else c91 t
theorem c91_fl {P : Int32 → Bool} : ∀ S, c91 (flS P S).1 ≤ c91 S
  | [] => Nat.le_refl _
  | x :: t => by
    rw [flS]
    by_cases y : P x = true
    · rw [if_pos y, c91]
      have := c91_fl (P := P) t
      split
      · exact Nat.le_succ_of_le this
      · exact this
    · rw [if_neg y]; exact Nat.le_refl _
theorem c91_rep {S : List Int32} : ∀ n, c91 (List.replicate n 91 ++ S) = n + c91 S
  | 0 => by rw [List.replicate_zero, List.nil_append, Nat.zero_add]
  | n + 1 => by rw [List.replicate_succ, List.cons_append, c91, if_pos rfl, c91_rep n]; omega
theorem brM_le {nx : Nat → Int32} : ∀ {k p : Nat} {y : Nat × Tr × Nat}, brM nx k p = .inr y → y.1 ≤ k
  | 0, p, y, h => by
    rw [brM] at h
    by_cases c : nx p = 91
    · rw [if_pos c] at h; simp at h
    · rw [if_neg c, atM] at h
      cases ea : atomR nx p with
      | inl e => rw [ea] at h; simp at h
      | inr x => rw [ea] at h; rw [← Sum.inr.inj h]; exact Nat.le_refl _
  | k + 1, p, y, h => by
    rw [brM] at h
    by_cases c : nx p = 91
    · rw [if_pos c] at h
      cases eb : brM nx k (p + 1) with
      | inl e => rw [eb] at h; simp at h
      | inr x => rw [eb] at h; rw [← Sum.inr.inj h]; exact Nat.succ_le_succ (brM_le eb)
    · rw [if_neg c, atM] at h
      cases ea : atomR nx p with
      | inl e => rw [ea] at h; simp at h
      | inr x => rw [ea] at h; rw [← Sum.inr.inj h]; exact Nat.zero_le _
theorem brM_Gd {L : Nat} {fb : Nat → Nat} : ∀ {k p : Nat} {e : Nat × Nat}, p ≤ L → brM (nxC L fb) k p = .inl e → 1 ≤ e.1 ∧ e.1 ≤ 5 ∧ e.2 ≤ L := by
  have at' : ∀ {p : Nat} {e : Nat × Nat}, p ≤ L → atM (nxC L fb) p = .inl e → 1 ≤ e.1 ∧ e.1 ≤ 5 ∧ e.2 ≤ L := fun {p e} hp h => by
    rw [atM] at h
    have g := atomR_Gd (L := L) (fb := fb) hp
    cases ea : atomR (nxC L fb) p with
    | inl e' => rw [ea] at h g; rw [← Sum.inl.inj h]; exact g
    | inr x => rw [ea] at h; simp at h
  intro k
  induction k with
  | zero =>
    intro p e hp h
    rw [brM] at h
    by_cases c : nxC L fb p = 91
    · rw [if_pos c] at h; rw [← Sum.inl.inj h]; exact ⟨Nat.le_of_ble_eq_true rfl, Nat.le_of_ble_eq_true rfl, hp⟩
    · rw [if_neg c] at h; exact at' hp h
  | succ k ih =>
    intro p e hp h
    rw [brM] at h
    by_cases c : nxC L fb p = 91
    · rw [if_pos c] at h
      have := nxC_lt (by decide) c
      cases eb : brM (nxC L fb) k (p + 1) with
      | inl e' => rw [eb] at h; rw [← Sum.inl.inj h]; exact ih (by omega) eb
      | inr x => rw [eb] at h; simp at h
    · rw [if_neg c] at h; exact at' hp h
/-- a sum that no closing bracket follows -/
def vaR (nx : Nat → Int32) (k p : Nat) : Rs := bd (sumK nx k p) (fun t q => if nx q = 93 then .inl (1, q) else .inr (t, q))
section MMD
variable {G : Gx} {d v : Nat} {μ : Mem} {bc bs : Nat} {Q : Option Value → List Sh → Mem → Nat → Nat → Prop} {L : Nat} {fb : Nat → Nat} {p o : Nat} {S : List Int32} {C : List (Int32 × Int32)}
theorem MS.flag {j : Nat} {x : Int32} (h : MS μ L fb p o S C) (hj : j = 38 ∨ j = 39) : MS (si μ 144 j x) L fb p o S C := by
  obtain ⟨s1, s2, s3, s4, s5, s6, s7, s8, s9, s10, s11⟩ := h
  have e : ∀ i, i ≠ 38 → i ≠ 39 → gi (si μ 144 j x) 144 i = gi μ 144 i := fun i h1 h2 => gi_si_k (by omega)
  exact ⟨s1.fr (Fr.rf.si (by unfold pMr; omega)), (e _ (by omega) (by omega)).trans s2, s3, (e _ (by omega) (by omega)).trans s4, (e _ (by omega) (by omega)).trans s5, s6, (e _ (by omega) (by omega)).trans s7, s8.cong (fun j _ => gi_si_a (by omega)), (e _ (by omega) (by omega)).trans s9, s10.cong (fun j => ⟨gi_si_a (by omega), gi_si_a (by omega)⟩), s11⟩
theorem flt_nz {e : Nat × Nat} {x : Int32} (hL : L ≤ 200) (hG : 1 ≤ e.1 ∧ e.1 ≤ 5 ∧ e.2 ≤ L) (hx : x = flt e.1 e.2) : ¬ x = 0 := fun z => by
  have := flt_ne hL hG
  rw [← hx, z] at this
  exact absurd this (by decide)
set_option maxRecDepth 100000 in
set_option maxHeartbeats 1000000 in
theorem k_mValue {k : Nat} (hd : 4 ≤ d) (hk : o + k = 6) (hS : MS μ L fb p o S C) (hc : c91 S = 0) (ht : isTm (tpM S) = false) (hp : isPl (tpM S) = false) (h91 : tpM S ≠ 91) (h1 : ∀ e, vaR (nxC L fb) k p = .inl e → ∀ μ', Fr pMr μ μ' → gi μ' 144 33 = flt e.1 e.2 → Q none (LAY v) μ' bc bs) (h2 : ∀ x, vaR (nxC L fb) k p = .inr x → ∀ μ', Fr pMr μ μ' → gi μ' 144 38 = gi μ 144 38 → MS μ' L fb x.2 o S (C ++ x.1.1) → Q none (LAY v) μ' bc bs) : KC G d mX11_value [.ref 144] (LAY v) μ bc bs Q := by
  have hL := hS.1.2.1
  refine KC_intro 0 0 kX11_value (by decide) (by decide) (Nat.zero_le _) (Nat.zero_le _) (Nat.le_of_ble_eq_true rfl) (fun Z hZ => ?_)
  show Z 0 [some (.ref 144), none] [] (LAY v) μ 0 0
  obtain ⟨E, hE⟩ : ∃ E : Nat × Nat → Prop, E = fun e => (1 ≤ e.1 ∧ e.1 ≤ 5 ∧ e.2 ≤ L) → ∀ μ1, Fr pMr μ μ1 → gi μ1 144 33 = flt e.1 e.2 → Q none (LAY v) μ1 bc bs := ⟨_, rfl⟩
  obtain ⟨X, hX⟩ : ∃ X : StP, X = fun S C p k => ∀ μ1, Fr pMr μ μ1 → gi μ1 144 38 = gi μ 144 38 → MS μ1 L fb p (6 - k) S C → Z 57 [some (.ref 144), some (.int 0)] [] (LAY v) μ1 0 0 := ⟨_, rfl⟩
  obtain ⟨Am, hAm⟩ : ∃ Am : StP, Am = fun S C p k => c91 S + k ≤ 6 → ∀ μ1, Fr pMr μ μ1 → gi μ1 144 38 = gi μ 144 38 → MS μ1 L fb p (6 - k) S C → Z 29 [some (.ref 144), some (.int 1)] [] (LAY v) μ1 0 0 := ⟨_, rfl⟩
  obtain ⟨Bm, hBm⟩ : ∃ Bm : StP, Bm = fun S C p k => c91 S + k ≤ 6 → ∀ μ1, Fr pMr μ μ1 → gi μ1 144 38 = gi μ 144 38 → gi μ1 144 39 = 0 → MS μ1 L fb p (6 - k) S C → Z 7 [some (.ref 144), some (.int 1)] [] (LAY v) μ1 0 0 := ⟨_, rfl⟩
  have bad57 : ∀ e μ1, E e → (1 ≤ e.1 ∧ e.1 ≤ 5 ∧ e.2 ≤ L) → Fr pMr μ μ1 → gi μ1 144 33 = flt e.1 e.2 → Z 7 [some (.ref 144), some (.int 0)] [] (LAY v) μ1 0 0 := fun e μ1 he hG hF hb => by
    rw [hE] at he
    have hne := flt_nz hL hG hb
    refine hZ 400 [61] _ _ _ _ _ _ _ ?_
    simp -implicitDefEqProofs (disch := omega) only [wp_step xX11_value_7, wp_step xX11_value_8, ↓e_putf iX11_value f11_309, ↓e_virt iX11_value l11_253 iX11_isGood, ↓e_getf iX11_value f11_309, ↓e_virt iX11_value l11_313 iX11_factor, ↓e_virt iX11_value l11_316 iX11_stays, ↓e_virt iX11_value l11_284 iX11_top, ↓e_getf iX11_value f11_244, ↓e_virt iX11_value l11_266 iX11_wrongs, iX11_value, wp_step xX11_value_57, wp_step xX11_value_58, ↓e_putf iX11_value f11_309, ↓e_virt iX11_value l11_253 iX11_isGood, ↓e_getf iX11_value f11_309, ↓e_virt iX11_value l11_313 iX11_factor, ↓e_virt iX11_value l11_316 iX11_stays, ↓e_virt iX11_value l11_284 iX11_top, ↓e_getf iX11_value f11_244, ↓e_virt iX11_value l11_266 iX11_wrongs, iX11_value, exec1, ↓p1_e, ↓p2_e, ↓q1_e, ↓q2_e, ↓qi_e, ↓pr_e, ↓pa_e, ↓pa_f, ↓pst_e, ↓qst_e, ↓rst_e, ↓pac_e, ↓pargs_0, ↓pargs_s, ↓gfld_0, ↓gfld_1, ↓gfld_2, ↓gfld_3, ↓pfld_i, ↓pfld_l, ↓pfld_r, ↓sfld_i, ↓sfld_l, ↓sfld_r, brI, pushv, rcv, lget, lset, lset2, isL, rok, szs, List.elem_nil, List.elem_cons, cond_true, cond_false, Option.map_some, beq_self_eq_true, Bool.true_and, Bool.and_true, Bool.false_and, Bool.and_false, Bool.or_false, Bool.false_or, Bool.or_true, Bool.true_or, Nat.reduceAdd, Nat.reduceSub, Nat.reduceMul, Nat.reduceBEq, Nat.reduceEqDiff, Nat.reduceLeDiff, Nat.sub_zero, true_and, and_true, false_and, and_false, true_or, or_true, false_or, or_false, reduceCtorEq, ↓reduceIte, List.getD_cons_zero, List.getD_cons_succ, List.length_cons, List.length_nil, ct_i, ct_r, ct_l, ct_f, ct_n, false_implies, true_implies, y144, not_false_eq_true, true_implies, false_implies, and_true, true_and, not_true_eq_false]
    refine ⟨by omega, k_mGood (fun z => absurd z hne) (fun _ => ?_)⟩
    refine hZ 400 [] _ _ _ _ _ _ _ ?_
    simp -implicitDefEqProofs (disch := omega) only [wp_step xX11_value_61, ↓e_putf iX11_value f11_309, ↓e_virt iX11_value l11_253 iX11_isGood, ↓e_getf iX11_value f11_309, ↓e_virt iX11_value l11_313 iX11_factor, ↓e_virt iX11_value l11_316 iX11_stays, ↓e_virt iX11_value l11_284 iX11_top, ↓e_getf iX11_value f11_244, ↓e_virt iX11_value l11_266 iX11_wrongs, iX11_value, wp_step xX11_value_82, ↓e_putf iX11_value f11_309, ↓e_virt iX11_value l11_253 iX11_isGood, ↓e_getf iX11_value f11_309, ↓e_virt iX11_value l11_313 iX11_factor, ↓e_virt iX11_value l11_316 iX11_stays, ↓e_virt iX11_value l11_284 iX11_top, ↓e_getf iX11_value f11_244, ↓e_virt iX11_value l11_266 iX11_wrongs, iX11_value, exec1, ↓p1_e, ↓p2_e, ↓q1_e, ↓q2_e, ↓qi_e, ↓pr_e, ↓pa_e, ↓pa_f, ↓pst_e, ↓qst_e, ↓rst_e, ↓pac_e, ↓pargs_0, ↓pargs_s, ↓gfld_0, ↓gfld_1, ↓gfld_2, ↓gfld_3, ↓pfld_i, ↓pfld_l, ↓pfld_r, ↓sfld_i, ↓sfld_l, ↓sfld_r, brI, pushv, rcv, lget, lset, lset2, isL, rok, szs, List.elem_nil, List.elem_cons, cond_true, cond_false, Option.map_some, beq_self_eq_true, Bool.true_and, Bool.and_true, Bool.false_and, Bool.and_false, Bool.or_false, Bool.false_or, Bool.or_true, Bool.true_or, Nat.reduceAdd, Nat.reduceSub, Nat.reduceMul, Nat.reduceBEq, Nat.reduceEqDiff, Nat.reduceLeDiff, Nat.sub_zero, true_and, and_true, false_and, and_false, true_or, or_true, false_or, or_false, reduceCtorEq, ↓reduceIte, List.getD_cons_zero, List.getD_cons_succ, List.length_cons, List.length_nil, ct_i, ct_r, ct_l, ct_f, ct_n, false_implies, true_implies, not_false_eq_true, true_implies, false_implies, and_true, true_and, not_true_eq_false]
    exact he hG μ1 hF hb
  have bad29 : ∀ e μ1, E e → (1 ≤ e.1 ∧ e.1 ≤ 5 ∧ e.2 ≤ L) → Fr pMr μ μ1 → gi μ1 144 33 = flt e.1 e.2 → Z 29 [some (.ref 144), some (.int 1)] [] (LAY v) μ1 0 0 := fun e μ1 he hG hF hb => by
    have hb' : gi (si μ1 144 39 0) 144 33 = flt e.1 e.2 := (gi_si_k (by omega)).trans hb
    have hne := flt_nz hL hG hb'
    refine hZ 400 [38] _ _ _ _ _ _ _ ?_
    simp -implicitDefEqProofs (disch := omega) only [wp_step xX11_value_29, wp_step xX11_value_30, wp_step xX11_value_31, wp_step xX11_value_34, wp_step xX11_value_35, ↓e_putf iX11_value f11_309, ↓e_virt iX11_value l11_253 iX11_isGood, ↓e_getf iX11_value f11_309, ↓e_virt iX11_value l11_313 iX11_factor, ↓e_virt iX11_value l11_316 iX11_stays, ↓e_virt iX11_value l11_284 iX11_top, ↓e_getf iX11_value f11_244, ↓e_virt iX11_value l11_266 iX11_wrongs, iX11_value, exec1, ↓p1_e, ↓p2_e, ↓q1_e, ↓q2_e, ↓qi_e, ↓pr_e, ↓pa_e, ↓pa_f, ↓pst_e, ↓qst_e, ↓rst_e, ↓pac_e, ↓pargs_0, ↓pargs_s, ↓gfld_0, ↓gfld_1, ↓gfld_2, ↓gfld_3, ↓pfld_i, ↓pfld_l, ↓pfld_r, ↓sfld_i, ↓sfld_l, ↓sfld_r, brI, pushv, rcv, lget, lset, lset2, isL, rok, szs, List.elem_nil, List.elem_cons, cond_true, cond_false, Option.map_some, beq_self_eq_true, Bool.true_and, Bool.and_true, Bool.false_and, Bool.and_false, Bool.or_false, Bool.false_or, Bool.or_true, Bool.true_or, Nat.reduceAdd, Nat.reduceSub, Nat.reduceMul, Nat.reduceBEq, Nat.reduceEqDiff, Nat.reduceLeDiff, Nat.sub_zero, true_and, and_true, false_and, and_false, true_or, or_true, false_or, or_false, reduceCtorEq, ↓reduceIte, List.getD_cons_zero, List.getD_cons_succ, List.length_cons, List.length_nil, ct_i, ct_r, ct_l, ct_f, ct_n, false_implies, true_implies, y144]
    refine ⟨by omega, k_mGood (fun z => absurd z hne) (fun _ => ?_)⟩
    refine hZ 400 [7] _ _ _ _ _ _ _ ?_
    simp -implicitDefEqProofs (disch := omega) only [wp_step xX11_value_38, ↓e_putf iX11_value f11_309, ↓e_virt iX11_value l11_253 iX11_isGood, ↓e_getf iX11_value f11_309, ↓e_virt iX11_value l11_313 iX11_factor, ↓e_virt iX11_value l11_316 iX11_stays, ↓e_virt iX11_value l11_284 iX11_top, ↓e_getf iX11_value f11_244, ↓e_virt iX11_value l11_266 iX11_wrongs, iX11_value, wp_step xX11_value_52, wp_step xX11_value_53, wp_step xX11_value_54, ↓e_putf iX11_value f11_309, ↓e_virt iX11_value l11_253 iX11_isGood, ↓e_getf iX11_value f11_309, ↓e_virt iX11_value l11_313 iX11_factor, ↓e_virt iX11_value l11_316 iX11_stays, ↓e_virt iX11_value l11_284 iX11_top, ↓e_getf iX11_value f11_244, ↓e_virt iX11_value l11_266 iX11_wrongs, iX11_value, exec1, ↓p1_e, ↓p2_e, ↓q1_e, ↓q2_e, ↓qi_e, ↓pr_e, ↓pa_e, ↓pa_f, ↓pst_e, ↓qst_e, ↓rst_e, ↓pac_e, ↓pargs_0, ↓pargs_s, ↓gfld_0, ↓gfld_1, ↓gfld_2, ↓gfld_3, ↓pfld_i, ↓pfld_l, ↓pfld_r, ↓sfld_i, ↓sfld_l, ↓sfld_r, brI, pushv, rcv, lget, lset, lset2, isL, rok, szs, List.elem_nil, List.elem_cons, cond_true, cond_false, Option.map_some, beq_self_eq_true, Bool.true_and, Bool.and_true, Bool.false_and, Bool.and_false, Bool.or_false, Bool.false_or, Bool.or_true, Bool.true_or, Nat.reduceAdd, Nat.reduceSub, Nat.reduceMul, Nat.reduceBEq, Nat.reduceEqDiff, Nat.reduceLeDiff, Nat.sub_zero, true_and, and_true, false_and, and_false, true_or, or_true, false_or, or_false, reduceCtorEq, ↓reduceIte, List.getD_cons_zero, List.getD_cons_succ, List.length_cons, List.length_nil, ct_i, ct_r, ct_l, ct_f, ct_n, false_implies, true_implies, not_false_eq_true, true_implies, false_implies, and_true, true_and, not_true_eq_false]
    exact bad57 e _ he hG (hF.si (by unfold pMr; omega)) hb'
  have rX : ∀ S C p k, E (1, p) → X (91 :: S) C p k := fun S C p k he => by
    rw [hX]
    intro μ1 hF e38 hS1
    rw [hE] at he
    refine hZ 400 [61] _ _ _ _ _ _ _ ?_
    simp -implicitDefEqProofs (disch := omega) only [wp_step xX11_value_57, wp_step xX11_value_58, ↓e_putf iX11_value f11_309, ↓e_virt iX11_value l11_253 iX11_isGood, ↓e_getf iX11_value f11_309, ↓e_virt iX11_value l11_313 iX11_factor, ↓e_virt iX11_value l11_316 iX11_stays, ↓e_virt iX11_value l11_284 iX11_top, ↓e_getf iX11_value f11_244, ↓e_virt iX11_value l11_266 iX11_wrongs, iX11_value, exec1, ↓p1_e, ↓p2_e, ↓q1_e, ↓q2_e, ↓qi_e, ↓pr_e, ↓pa_e, ↓pa_f, ↓pst_e, ↓qst_e, ↓rst_e, ↓pac_e, ↓pargs_0, ↓pargs_s, ↓gfld_0, ↓gfld_1, ↓gfld_2, ↓gfld_3, ↓pfld_i, ↓pfld_l, ↓pfld_r, ↓sfld_i, ↓sfld_l, ↓sfld_r, brI, pushv, rcv, lget, lset, lset2, isL, rok, szs, List.elem_nil, List.elem_cons, cond_true, cond_false, Option.map_some, beq_self_eq_true, Bool.true_and, Bool.and_true, Bool.false_and, Bool.and_false, Bool.or_false, Bool.false_or, Bool.or_true, Bool.true_or, Nat.reduceAdd, Nat.reduceSub, Nat.reduceMul, Nat.reduceBEq, Nat.reduceEqDiff, Nat.reduceLeDiff, Nat.sub_zero, true_and, and_true, false_and, and_false, true_or, or_true, false_or, or_false, reduceCtorEq, ↓reduceIte, List.getD_cons_zero, List.getD_cons_succ, List.length_cons, List.length_nil, ct_i, ct_r, ct_l, ct_f, ct_n, false_implies, true_implies, y144]
    refine ⟨by omega, k_mGood (fun _ => ?_) (fun z => absurd hS1.2.2.2.1 z)⟩
    refine hZ 400 [68] _ _ _ _ _ _ _ ?_
    simp -implicitDefEqProofs (disch := omega) only [wp_step xX11_value_61, wp_step xX11_value_64, wp_step xX11_value_65, ↓e_putf iX11_value f11_309, ↓e_virt iX11_value l11_253 iX11_isGood, ↓e_getf iX11_value f11_309, ↓e_virt iX11_value l11_313 iX11_factor, ↓e_virt iX11_value l11_316 iX11_stays, ↓e_virt iX11_value l11_284 iX11_top, ↓e_getf iX11_value f11_244, ↓e_virt iX11_value l11_266 iX11_wrongs, iX11_value, exec1, ↓p1_e, ↓p2_e, ↓q1_e, ↓q2_e, ↓qi_e, ↓pr_e, ↓pa_e, ↓pa_f, ↓pst_e, ↓qst_e, ↓rst_e, ↓pac_e, ↓pargs_0, ↓pargs_s, ↓gfld_0, ↓gfld_1, ↓gfld_2, ↓gfld_3, ↓pfld_i, ↓pfld_l, ↓pfld_r, ↓sfld_i, ↓sfld_l, ↓sfld_r, brI, pushv, rcv, lget, lset, lset2, isL, rok, szs, List.elem_nil, List.elem_cons, cond_true, cond_false, Option.map_some, beq_self_eq_true, Bool.true_and, Bool.and_true, Bool.false_and, Bool.and_false, Bool.or_false, Bool.false_or, Bool.or_true, Bool.true_or, Nat.reduceAdd, Nat.reduceSub, Nat.reduceMul, Nat.reduceBEq, Nat.reduceEqDiff, Nat.reduceLeDiff, Nat.sub_zero, true_and, and_true, false_and, and_false, true_or, or_true, false_or, or_false, reduceCtorEq, ↓reduceIte, List.getD_cons_zero, List.getD_cons_succ, List.length_cons, List.length_nil, ct_i, ct_r, ct_l, ct_f, ct_n, false_implies, true_implies, y144, show ¬ (1 : Int32) = 0 by decide, not_false_eq_true, true_implies, false_implies, and_true, true_and, not_true_eq_false]
    refine ⟨by omega, k_mTop hS1 ?_⟩
    refine hZ 400 [82] _ _ _ _ _ _ _ ?_
    simp -implicitDefEqProofs (disch := omega) only [wp_step xX11_value_68, wp_step xX11_value_70, wp_step xX11_value_73, wp_step xX11_value_74, wp_step xX11_value_75, wp_step xX11_value_76, wp_step xX11_value_79, ↓e_putf iX11_value f11_309, ↓e_virt iX11_value l11_253 iX11_isGood, ↓e_getf iX11_value f11_309, ↓e_virt iX11_value l11_313 iX11_factor, ↓e_virt iX11_value l11_316 iX11_stays, ↓e_virt iX11_value l11_284 iX11_top, ↓e_getf iX11_value f11_244, ↓e_virt iX11_value l11_266 iX11_wrongs, iX11_value, exec1, ↓p1_e, ↓p2_e, ↓q1_e, ↓q2_e, ↓qi_e, ↓pr_e, ↓pa_e, ↓pa_f, ↓pst_e, ↓qst_e, ↓rst_e, ↓pac_e, ↓pargs_0, ↓pargs_s, ↓gfld_0, ↓gfld_1, ↓gfld_2, ↓gfld_3, ↓pfld_i, ↓pfld_l, ↓pfld_r, ↓sfld_i, ↓sfld_l, ↓sfld_r, brI, pushv, rcv, lget, lset, lset2, isL, rok, szs, List.elem_nil, List.elem_cons, cond_true, cond_false, Option.map_some, beq_self_eq_true, Bool.true_and, Bool.and_true, Bool.false_and, Bool.and_false, Bool.or_false, Bool.false_or, Bool.or_true, Bool.true_or, Nat.reduceAdd, Nat.reduceSub, Nat.reduceMul, Nat.reduceBEq, Nat.reduceEqDiff, Nat.reduceLeDiff, Nat.sub_zero, true_and, and_true, false_and, and_false, true_or, or_true, false_or, or_false, reduceCtorEq, ↓reduceIte, List.getD_cons_zero, List.getD_cons_succ, List.length_cons, List.length_nil, ct_i, ct_r, ct_l, ct_f, ct_n, false_implies, true_implies, y144, tpM, hS1.2.1, not_false_eq_true, true_implies, false_implies, and_true, true_and, not_true_eq_false]
    refine ⟨by omega, k_mWrongs (f := 1) hS1.2.2.2.1 ?_⟩
    refine hZ 400 [] _ _ _ _ _ _ _ ?_
    simp -implicitDefEqProofs (disch := omega) only [wp_step xX11_value_82, ↓e_putf iX11_value f11_309, ↓e_virt iX11_value l11_253 iX11_isGood, ↓e_getf iX11_value f11_309, ↓e_virt iX11_value l11_313 iX11_factor, ↓e_virt iX11_value l11_316 iX11_stays, ↓e_virt iX11_value l11_284 iX11_top, ↓e_getf iX11_value f11_244, ↓e_virt iX11_value l11_266 iX11_wrongs, iX11_value, exec1, ↓p1_e, ↓p2_e, ↓q1_e, ↓q2_e, ↓qi_e, ↓pr_e, ↓pa_e, ↓pa_f, ↓pst_e, ↓qst_e, ↓rst_e, ↓pac_e, ↓pargs_0, ↓pargs_s, ↓gfld_0, ↓gfld_1, ↓gfld_2, ↓gfld_3, ↓pfld_i, ↓pfld_l, ↓pfld_r, ↓sfld_i, ↓sfld_l, ↓sfld_r, brI, pushv, rcv, lget, lset, lset2, isL, rok, szs, List.elem_nil, List.elem_cons, cond_true, cond_false, Option.map_some, beq_self_eq_true, Bool.true_and, Bool.and_true, Bool.false_and, Bool.and_false, Bool.or_false, Bool.false_or, Bool.or_true, Bool.true_or, Nat.reduceAdd, Nat.reduceSub, Nat.reduceMul, Nat.reduceBEq, Nat.reduceEqDiff, Nat.reduceLeDiff, Nat.sub_zero, true_and, and_true, false_and, and_false, true_or, or_true, false_or, or_false, reduceCtorEq, ↓reduceIte, List.getD_cons_zero, List.getD_cons_succ, List.length_cons, List.length_nil, ct_i, ct_r, ct_l, ct_f, ct_n, false_implies, true_implies]
    exact he ⟨Nat.le_refl _, Nat.le_of_ble_eq_true rfl, hS1.2.2.1⟩ _ (hF.si (by unfold pMr; omega)) gi_si
  have rA : ∀ S C p k, AV (nxC L fb) Am Bm X E S C p k → Am S C p k := fun S C p k h => by
    obtain ⟨a1, a2, a3, a4⟩ := h
    rw [hAm]
    intro hk6 μ1 hF e38 hS1
    have hS2 := hS1.flag (j := 39) (x := 0) (Or.inr rfl)
    have hF2 : Fr pMr μ (si μ1 144 39 0) := hF.si (by unfold pMr; omega)
    have e38' : gi (si μ1 144 39 0) 144 38 = gi μ 144 38 := (gi_si_k (by omega)).trans e38
    have cf : ∀ b, c91 (flS (smP b) S).1 ≤ c91 S := fun b => c91_fl S
    have pL := hS1.2.2.1
    refine hZ 400 [38] _ _ _ _ _ _ _ ?_
    simp -implicitDefEqProofs (disch := omega) only [wp_step xX11_value_29, wp_step xX11_value_30, wp_step xX11_value_31, wp_step xX11_value_34, wp_step xX11_value_35, ↓e_putf iX11_value f11_309, ↓e_virt iX11_value l11_253 iX11_isGood, ↓e_getf iX11_value f11_309, ↓e_virt iX11_value l11_313 iX11_factor, ↓e_virt iX11_value l11_316 iX11_stays, ↓e_virt iX11_value l11_284 iX11_top, ↓e_getf iX11_value f11_244, ↓e_virt iX11_value l11_266 iX11_wrongs, iX11_value, exec1, ↓p1_e, ↓p2_e, ↓q1_e, ↓q2_e, ↓qi_e, ↓pr_e, ↓pa_e, ↓pa_f, ↓pst_e, ↓qst_e, ↓rst_e, ↓pac_e, ↓pargs_0, ↓pargs_s, ↓gfld_0, ↓gfld_1, ↓gfld_2, ↓gfld_3, ↓pfld_i, ↓pfld_l, ↓pfld_r, ↓sfld_i, ↓sfld_l, ↓sfld_r, brI, pushv, rcv, lget, lset, lset2, isL, rok, szs, List.elem_nil, List.elem_cons, cond_true, cond_false, Option.map_some, beq_self_eq_true, Bool.true_and, Bool.and_true, Bool.false_and, Bool.and_false, Bool.or_false, Bool.false_or, Bool.or_true, Bool.true_or, Nat.reduceAdd, Nat.reduceSub, Nat.reduceMul, Nat.reduceBEq, Nat.reduceEqDiff, Nat.reduceLeDiff, Nat.sub_zero, true_and, and_true, false_and, and_false, true_or, or_true, false_or, or_false, reduceCtorEq, ↓reduceIte, List.getD_cons_zero, List.getD_cons_succ, List.length_cons, List.length_nil, ct_i, ct_r, ct_l, ct_f, ct_n, false_implies, true_implies, y144]
    refine ⟨by omega, k_mGood (fun _ => ?_) (fun z => absurd hS2.2.2.2.1 z)⟩
    refine hZ 400 [45] _ _ _ _ _ _ _ ?_
    simp -implicitDefEqProofs (disch := omega) only [wp_step xX11_value_38, wp_step xX11_value_41, wp_step xX11_value_42, ↓e_putf iX11_value f11_309, ↓e_virt iX11_value l11_253 iX11_isGood, ↓e_getf iX11_value f11_309, ↓e_virt iX11_value l11_313 iX11_factor, ↓e_virt iX11_value l11_316 iX11_stays, ↓e_virt iX11_value l11_284 iX11_top, ↓e_getf iX11_value f11_244, ↓e_virt iX11_value l11_266 iX11_wrongs, iX11_value, exec1, ↓p1_e, ↓p2_e, ↓q1_e, ↓q2_e, ↓qi_e, ↓pr_e, ↓pa_e, ↓pa_f, ↓pst_e, ↓qst_e, ↓rst_e, ↓pac_e, ↓pargs_0, ↓pargs_s, ↓gfld_0, ↓gfld_1, ↓gfld_2, ↓gfld_3, ↓pfld_i, ↓pfld_l, ↓pfld_r, ↓sfld_i, ↓sfld_l, ↓sfld_r, brI, pushv, rcv, lget, lset, lset2, isL, rok, szs, List.elem_nil, List.elem_cons, cond_true, cond_false, Option.map_some, beq_self_eq_true, Bool.true_and, Bool.and_true, Bool.false_and, Bool.and_false, Bool.or_false, Bool.false_or, Bool.or_true, Bool.true_or, Nat.reduceAdd, Nat.reduceSub, Nat.reduceMul, Nat.reduceBEq, Nat.reduceEqDiff, Nat.reduceLeDiff, Nat.sub_zero, true_and, and_true, false_and, and_false, true_or, or_true, false_or, or_false, reduceCtorEq, ↓reduceIte, List.getD_cons_zero, List.getD_cons_succ, List.length_cons, List.length_nil, ct_i, ct_r, ct_l, ct_f, ct_n, false_implies, true_implies, y144, show ¬ (1 : Int32) = 0 by decide, not_false_eq_true, true_implies, false_implies, and_true, true_and, not_true_eq_false]
    refine ⟨by omega, k_mStays (by omega) hS2 ?_ (fun c μ3 hF3 f39 f38 hS3 => ?_) (fun c1 c2 c3 μ3 hF3 f39 f38 hS3 => ?_) (fun c1 c2 μ3 hF3 hb => ?_) (fun c1 T hT μ3 hF3 f39 f38 hS3 => ?_)⟩
    · intro z
      have := cf true
      cases ef : (flS (smP true) S).1 with
      | nil => rw [ef] at z; exact absurd z (by decide)
      | cons x T =>
        rw [ef] at z this
        rw [c91, if_pos (show x = 91 from z)] at this
        omega
    · have b1 := a1 c
      rw [hBm] at b1
      have : c91 (nxC L fb p :: (flS (smP (isPl (nxC L fb p))) S).1) = c91 (flS (smP (isPl (nxC L fb p))) S).1 := by
        rw [c91, if_neg]
        intro z
        rw [z] at c
        exact absurd c (by decide)
      have c2 := cf (isPl (nxC L fb p))
      refine hZ 400 [7] _ _ _ _ _ _ _ ?_
      simp -implicitDefEqProofs (disch := omega) only [wp_step xX11_value_45, wp_step xX11_value_48, wp_step xX11_value_49, ↓e_putf iX11_value f11_309, ↓e_virt iX11_value l11_253 iX11_isGood, ↓e_getf iX11_value f11_309, ↓e_virt iX11_value l11_313 iX11_factor, ↓e_virt iX11_value l11_316 iX11_stays, ↓e_virt iX11_value l11_284 iX11_top, ↓e_getf iX11_value f11_244, ↓e_virt iX11_value l11_266 iX11_wrongs, iX11_value, wp_step xX11_value_53, wp_step xX11_value_54, ↓e_putf iX11_value f11_309, ↓e_virt iX11_value l11_253 iX11_isGood, ↓e_getf iX11_value f11_309, ↓e_virt iX11_value l11_313 iX11_factor, ↓e_virt iX11_value l11_316 iX11_stays, ↓e_virt iX11_value l11_284 iX11_top, ↓e_getf iX11_value f11_244, ↓e_virt iX11_value l11_266 iX11_wrongs, iX11_value, exec1, ↓p1_e, ↓p2_e, ↓q1_e, ↓q2_e, ↓qi_e, ↓pr_e, ↓pa_e, ↓pa_f, ↓pst_e, ↓qst_e, ↓rst_e, ↓pac_e, ↓pargs_0, ↓pargs_s, ↓gfld_0, ↓gfld_1, ↓gfld_2, ↓gfld_3, ↓pfld_i, ↓pfld_l, ↓pfld_r, ↓sfld_i, ↓sfld_l, ↓sfld_r, brI, pushv, rcv, lget, lset, lset2, isL, rok, szs, List.elem_nil, List.elem_cons, cond_true, cond_false, Option.map_some, beq_self_eq_true, Bool.true_and, Bool.and_true, Bool.false_and, Bool.and_false, Bool.or_false, Bool.false_or, Bool.or_true, Bool.true_or, Nat.reduceAdd, Nat.reduceSub, Nat.reduceMul, Nat.reduceBEq, Nat.reduceEqDiff, Nat.reduceLeDiff, Nat.sub_zero, true_and, and_true, false_and, and_false, true_or, or_true, false_or, or_false, reduceCtorEq, ↓reduceIte, List.getD_cons_zero, List.getD_cons_succ, List.length_cons, List.length_nil, ct_i, ct_r, ct_l, ct_f, ct_n, false_implies, true_implies, show ¬ (1 : Int32) = 0 by decide, not_false_eq_true, true_implies, false_implies, and_true, true_and, not_true_eq_false]
      exact b1 (by omega) μ3 (hF2.trans hF3) (f38.trans e38') (f39.trans gi_si) hS3
    · have b2 := a2 c1 c2 c3
      rw [hX] at b2
      refine hZ 400 [57] _ _ _ _ _ _ _ ?_
      simp -implicitDefEqProofs (disch := omega) only [wp_step xX11_value_45, ↓e_putf iX11_value f11_309, ↓e_virt iX11_value l11_253 iX11_isGood, ↓e_getf iX11_value f11_309, ↓e_virt iX11_value l11_313 iX11_factor, ↓e_virt iX11_value l11_316 iX11_stays, ↓e_virt iX11_value l11_284 iX11_top, ↓e_getf iX11_value f11_244, ↓e_virt iX11_value l11_266 iX11_wrongs, iX11_value, wp_step xX11_value_52, wp_step xX11_value_53, wp_step xX11_value_54, ↓e_putf iX11_value f11_309, ↓e_virt iX11_value l11_253 iX11_isGood, ↓e_getf iX11_value f11_309, ↓e_virt iX11_value l11_313 iX11_factor, ↓e_virt iX11_value l11_316 iX11_stays, ↓e_virt iX11_value l11_284 iX11_top, ↓e_getf iX11_value f11_244, ↓e_virt iX11_value l11_266 iX11_wrongs, iX11_value, wp_step xX11_value_7, wp_step xX11_value_8, ↓e_putf iX11_value f11_309, ↓e_virt iX11_value l11_253 iX11_isGood, ↓e_getf iX11_value f11_309, ↓e_virt iX11_value l11_313 iX11_factor, ↓e_virt iX11_value l11_316 iX11_stays, ↓e_virt iX11_value l11_284 iX11_top, ↓e_getf iX11_value f11_244, ↓e_virt iX11_value l11_266 iX11_wrongs, iX11_value, exec1, ↓p1_e, ↓p2_e, ↓q1_e, ↓q2_e, ↓qi_e, ↓pr_e, ↓pa_e, ↓pa_f, ↓pst_e, ↓qst_e, ↓rst_e, ↓pac_e, ↓pargs_0, ↓pargs_s, ↓gfld_0, ↓gfld_1, ↓gfld_2, ↓gfld_3, ↓pfld_i, ↓pfld_l, ↓pfld_r, ↓sfld_i, ↓sfld_l, ↓sfld_r, brI, pushv, rcv, lget, lset, lset2, isL, rok, szs, List.elem_nil, List.elem_cons, cond_true, cond_false, Option.map_some, beq_self_eq_true, Bool.true_and, Bool.and_true, Bool.false_and, Bool.and_false, Bool.or_false, Bool.false_or, Bool.or_true, Bool.true_or, Nat.reduceAdd, Nat.reduceSub, Nat.reduceMul, Nat.reduceBEq, Nat.reduceEqDiff, Nat.reduceLeDiff, Nat.sub_zero, true_and, and_true, false_and, and_false, true_or, or_true, false_or, or_false, reduceCtorEq, ↓reduceIte, List.getD_cons_zero, List.getD_cons_succ, List.length_cons, List.length_nil, ct_i, ct_r, ct_l, ct_f, ct_n, false_implies, true_implies, not_false_eq_true, true_implies, false_implies, and_true, true_and, not_true_eq_false]
      exact b2 μ3 (hF2.trans hF3) (f38.trans e38') hS3
    · refine hZ 400 [7] _ _ _ _ _ _ _ ?_
      simp -implicitDefEqProofs (disch := omega) only [wp_step xX11_value_45, ↓e_putf iX11_value f11_309, ↓e_virt iX11_value l11_253 iX11_isGood, ↓e_getf iX11_value f11_309, ↓e_virt iX11_value l11_313 iX11_factor, ↓e_virt iX11_value l11_316 iX11_stays, ↓e_virt iX11_value l11_284 iX11_top, ↓e_getf iX11_value f11_244, ↓e_virt iX11_value l11_266 iX11_wrongs, iX11_value, wp_step xX11_value_52, wp_step xX11_value_53, wp_step xX11_value_54, ↓e_putf iX11_value f11_309, ↓e_virt iX11_value l11_253 iX11_isGood, ↓e_getf iX11_value f11_309, ↓e_virt iX11_value l11_313 iX11_factor, ↓e_virt iX11_value l11_316 iX11_stays, ↓e_virt iX11_value l11_284 iX11_top, ↓e_getf iX11_value f11_244, ↓e_virt iX11_value l11_266 iX11_wrongs, iX11_value, exec1, ↓p1_e, ↓p2_e, ↓q1_e, ↓q2_e, ↓qi_e, ↓pr_e, ↓pa_e, ↓pa_f, ↓pst_e, ↓qst_e, ↓rst_e, ↓pac_e, ↓pargs_0, ↓pargs_s, ↓gfld_0, ↓gfld_1, ↓gfld_2, ↓gfld_3, ↓pfld_i, ↓pfld_l, ↓pfld_r, ↓sfld_i, ↓sfld_l, ↓sfld_r, brI, pushv, rcv, lget, lset, lset2, isL, rok, szs, List.elem_nil, List.elem_cons, cond_true, cond_false, Option.map_some, beq_self_eq_true, Bool.true_and, Bool.and_true, Bool.false_and, Bool.and_false, Bool.or_false, Bool.false_or, Bool.or_true, Bool.true_or, Nat.reduceAdd, Nat.reduceSub, Nat.reduceMul, Nat.reduceBEq, Nat.reduceEqDiff, Nat.reduceLeDiff, Nat.sub_zero, true_and, and_true, false_and, and_false, true_or, or_true, false_or, or_false, reduceCtorEq, ↓reduceIte, List.getD_cons_zero, List.getD_cons_succ, List.length_cons, List.length_nil, ct_i, ct_r, ct_l, ct_f, ct_n, false_implies, true_implies, not_false_eq_true, true_implies, false_implies, and_true, true_and, not_true_eq_false]
      exact bad57 (1, p) μ3 (a3 c1 c2) ⟨Nat.le_refl _, Nat.le_of_ble_eq_true rfl, pL⟩ (hF2.trans hF3) hb
    · have b4 := a4 c1 T hT
      have := cf true
      rw [hT, c91, if_pos rfl] at this
      rw [hAm] at b4
      refine hZ 400 [15] _ _ _ _ _ _ _ ?_
      simp -implicitDefEqProofs (disch := omega) only [wp_step xX11_value_45, wp_step xX11_value_48, wp_step xX11_value_49, wp_step xX11_value_52, wp_step xX11_value_53, wp_step xX11_value_54, ↓e_putf iX11_value f11_309, ↓e_virt iX11_value l11_253 iX11_isGood, ↓e_getf iX11_value f11_309, ↓e_virt iX11_value l11_313 iX11_factor, ↓e_virt iX11_value l11_316 iX11_stays, ↓e_virt iX11_value l11_284 iX11_top, ↓e_getf iX11_value f11_244, ↓e_virt iX11_value l11_266 iX11_wrongs, iX11_value, wp_step xX11_value_7, wp_step xX11_value_8, wp_step xX11_value_11, wp_step xX11_value_12, ↓e_putf iX11_value f11_309, ↓e_virt iX11_value l11_253 iX11_isGood, ↓e_getf iX11_value f11_309, ↓e_virt iX11_value l11_313 iX11_factor, ↓e_virt iX11_value l11_316 iX11_stays, ↓e_virt iX11_value l11_284 iX11_top, ↓e_getf iX11_value f11_244, ↓e_virt iX11_value l11_266 iX11_wrongs, iX11_value, exec1, ↓p1_e, ↓p2_e, ↓q1_e, ↓q2_e, ↓qi_e, ↓pr_e, ↓pa_e, ↓pa_f, ↓pst_e, ↓qst_e, ↓rst_e, ↓pac_e, ↓pargs_0, ↓pargs_s, ↓gfld_0, ↓gfld_1, ↓gfld_2, ↓gfld_3, ↓pfld_i, ↓pfld_l, ↓pfld_r, ↓sfld_i, ↓sfld_l, ↓sfld_r, brI, pushv, rcv, lget, lset, lset2, isL, rok, szs, List.elem_nil, List.elem_cons, cond_true, cond_false, Option.map_some, beq_self_eq_true, Bool.true_and, Bool.and_true, Bool.false_and, Bool.and_false, Bool.or_false, Bool.false_or, Bool.or_true, Bool.true_or, Nat.reduceAdd, Nat.reduceSub, Nat.reduceMul, Nat.reduceBEq, Nat.reduceEqDiff, Nat.reduceLeDiff, Nat.sub_zero, true_and, and_true, false_and, and_false, true_or, or_true, false_or, or_false, reduceCtorEq, ↓reduceIte, List.getD_cons_zero, List.getD_cons_succ, List.length_cons, List.length_nil, ct_i, ct_r, ct_l, ct_f, ct_n, false_implies, true_implies, y144, show ¬ (1 : Int32) = 0 by decide, not_false_eq_true, true_implies, false_implies, and_true, true_and, not_true_eq_false]
      refine ⟨by omega, k_mGood (fun _ => ?_) (fun z => absurd hS3.2.2.2.1 z)⟩
      refine hZ 400 [29] _ _ _ _ _ _ _ ?_
      simp -implicitDefEqProofs (disch := omega) only [wp_step xX11_value_15, wp_step xX11_value_18, wp_step xX11_value_19, wp_step xX11_value_22, ↓e_putf iX11_value f11_309, ↓e_virt iX11_value l11_253 iX11_isGood, ↓e_getf iX11_value f11_309, ↓e_virt iX11_value l11_313 iX11_factor, ↓e_virt iX11_value l11_316 iX11_stays, ↓e_virt iX11_value l11_284 iX11_top, ↓e_getf iX11_value f11_244, ↓e_virt iX11_value l11_266 iX11_wrongs, iX11_value, exec1, ↓p1_e, ↓p2_e, ↓q1_e, ↓q2_e, ↓qi_e, ↓pr_e, ↓pa_e, ↓pa_f, ↓pst_e, ↓qst_e, ↓rst_e, ↓pac_e, ↓pargs_0, ↓pargs_s, ↓gfld_0, ↓gfld_1, ↓gfld_2, ↓gfld_3, ↓pfld_i, ↓pfld_l, ↓pfld_r, ↓sfld_i, ↓sfld_l, ↓sfld_r, brI, pushv, rcv, lget, lset, lset2, isL, rok, szs, List.elem_nil, List.elem_cons, cond_true, cond_false, Option.map_some, beq_self_eq_true, Bool.true_and, Bool.and_true, Bool.false_and, Bool.and_false, Bool.or_false, Bool.false_or, Bool.or_true, Bool.true_or, Nat.reduceAdd, Nat.reduceSub, Nat.reduceMul, Nat.reduceBEq, Nat.reduceEqDiff, Nat.reduceLeDiff, Nat.sub_zero, true_and, and_true, false_and, and_false, true_or, or_true, false_or, or_false, reduceCtorEq, ↓reduceIte, List.getD_cons_zero, List.getD_cons_succ, List.length_cons, List.length_nil, ct_i, ct_r, ct_l, ct_f, ct_n, false_implies, true_implies, y144, f39, show ¬ (1 : Int32) = 0 by decide, not_false_eq_true, true_implies, false_implies, and_true, true_and, not_true_eq_false]
      exact b4 (by omega) μ3 (hF2.trans hF3) (f38.trans e38') (by rw [show 6 - (k + 1) = 6 - k - 1 by omega]; exact hS3)
  have rB : ∀ S C p k, BV (nxC L fb) Am E S C p k → Bm S C p k := fun S C p k h => by
    obtain ⟨a1, a2⟩ := h
    rw [hBm]
    intro hk6 μ1 hF e38 e39 hS1
    have pL := hS1.2.2.1
    refine hZ 400 [15] _ _ _ _ _ _ _ ?_
    simp -implicitDefEqProofs (disch := omega) only [wp_step xX11_value_7, wp_step xX11_value_8, wp_step xX11_value_11, wp_step xX11_value_12, ↓e_putf iX11_value f11_309, ↓e_virt iX11_value l11_253 iX11_isGood, ↓e_getf iX11_value f11_309, ↓e_virt iX11_value l11_313 iX11_factor, ↓e_virt iX11_value l11_316 iX11_stays, ↓e_virt iX11_value l11_284 iX11_top, ↓e_getf iX11_value f11_244, ↓e_virt iX11_value l11_266 iX11_wrongs, iX11_value, exec1, ↓p1_e, ↓p2_e, ↓q1_e, ↓q2_e, ↓qi_e, ↓pr_e, ↓pa_e, ↓pa_f, ↓pst_e, ↓qst_e, ↓rst_e, ↓pac_e, ↓pargs_0, ↓pargs_s, ↓gfld_0, ↓gfld_1, ↓gfld_2, ↓gfld_3, ↓pfld_i, ↓pfld_l, ↓pfld_r, ↓sfld_i, ↓sfld_l, ↓sfld_r, brI, pushv, rcv, lget, lset, lset2, isL, rok, szs, List.elem_nil, List.elem_cons, cond_true, cond_false, Option.map_some, beq_self_eq_true, Bool.true_and, Bool.and_true, Bool.false_and, Bool.and_false, Bool.or_false, Bool.false_or, Bool.or_true, Bool.true_or, Nat.reduceAdd, Nat.reduceSub, Nat.reduceMul, Nat.reduceBEq, Nat.reduceEqDiff, Nat.reduceLeDiff, Nat.sub_zero, true_and, and_true, false_and, and_false, true_or, or_true, false_or, or_false, reduceCtorEq, ↓reduceIte, List.getD_cons_zero, List.getD_cons_succ, List.length_cons, List.length_nil, ct_i, ct_r, ct_l, ct_f, ct_n, false_implies, true_implies, y144, show ¬ (1 : Int32) = 0 by decide, not_false_eq_true, true_implies, false_implies, and_true, true_and, not_true_eq_false]
    refine ⟨by omega, k_mGood (fun _ => ?_) (fun z => absurd hS1.2.2.2.1 z)⟩
    refine hZ 400 [29] _ _ _ _ _ _ _ ?_
    simp -implicitDefEqProofs (disch := omega) only [wp_step xX11_value_15, wp_step xX11_value_18, wp_step xX11_value_19, wp_step xX11_value_22, wp_step xX11_value_25, wp_step xX11_value_26, ↓e_putf iX11_value f11_309, ↓e_virt iX11_value l11_253 iX11_isGood, ↓e_getf iX11_value f11_309, ↓e_virt iX11_value l11_313 iX11_factor, ↓e_virt iX11_value l11_316 iX11_stays, ↓e_virt iX11_value l11_284 iX11_top, ↓e_getf iX11_value f11_244, ↓e_virt iX11_value l11_266 iX11_wrongs, iX11_value, exec1, ↓p1_e, ↓p2_e, ↓q1_e, ↓q2_e, ↓qi_e, ↓pr_e, ↓pa_e, ↓pa_f, ↓pst_e, ↓qst_e, ↓rst_e, ↓pac_e, ↓pargs_0, ↓pargs_s, ↓gfld_0, ↓gfld_1, ↓gfld_2, ↓gfld_3, ↓pfld_i, ↓pfld_l, ↓pfld_r, ↓sfld_i, ↓sfld_l, ↓sfld_r, brI, pushv, rcv, lget, lset, lset2, isL, rok, szs, List.elem_nil, List.elem_cons, cond_true, cond_false, Option.map_some, beq_self_eq_true, Bool.true_and, Bool.and_true, Bool.false_and, Bool.and_false, Bool.or_false, Bool.false_or, Bool.or_true, Bool.true_or, Nat.reduceAdd, Nat.reduceSub, Nat.reduceMul, Nat.reduceBEq, Nat.reduceEqDiff, Nat.reduceLeDiff, Nat.sub_zero, true_and, and_true, false_and, and_false, true_or, or_true, false_or, or_false, reduceCtorEq, ↓reduceIte, List.getD_cons_zero, List.getD_cons_succ, List.length_cons, List.length_nil, ct_i, ct_r, ct_l, ct_f, ct_n, false_implies, true_implies, y144, e39, show ¬ (1 : Int32) = 0 by decide, not_false_eq_true, true_implies, false_implies, and_true, true_and, not_true_eq_false]
    refine ⟨by omega, k_mFactor (k := k) (by omega) (by omega) hS1 (fun e he μ2 hF2 hb => ?_) (fun y hy μ2 hF2 f38 hS2 => ?_)⟩
    · exact bad29 e μ2 (a1 e he) (brM_Gd pL he) (hF.trans hF2) hb
    · have := a2 y hy
      have yk := brM_le hy
      rw [hAm] at this
      refine this (by rw [c91_rep]; omega) μ2 (hF.trans hF2) (f38.trans e38) ?_
      rw [show 6 - (k - y.1) = 6 - k + y.1 by omega]; exact hS2
  have nT : ∀ p, isTm (nxC L fb p) = true → p < L := fun p z => nxC_ge (P := isTm) (by decide) z
  have nP : ∀ p, isPl (nxC L fb p) = true → p < L := fun p z => nxC_ge (P := isPl) (by decide) z
  have F := F_AV hL nT nP rA rB rX
  have ho : 6 - k = o := by omega
  have pL := hS.2.2.1
  have main : BV (nxC L fb) Am E S C p k := by
    have gs := sumK_Gd (L := L) (fb := fb) (k := k) pL
    refine S_AV (X := X) (Bm := Bm) hL nT nP (fun S C p => rB S C p k) (F k) p S C ht hp (fun e he => ?_) (fun x hx c1 c2 => ?_)
    · rw [hE]; intro hG μ1 hF hb
      exact h1 e (by rw [vaR, he]; rfl) μ1 hF hb
    · rw [vaR, hx] at h1 h2
      unfold bd at h1 h2
      dsimp only at h1 h2
      have e0 : flS (smP true) S = (S, []) := flS_no (by unfold smP; rw [ht, hp]; rfl)
      refine ⟨fun z => ?_, fun _ _ h93 => ?_, fun h93 _ => ?_, fun h93 T hT => ?_⟩
      · rcases z with z | z
        · exact absurd (z.symm.trans c1) (by decide)
        · exact absurd (z.symm.trans c2) (by decide)
      · rw [if_neg h93] at h2
        rw [e0, List.append_nil, hX]
        intro μ1 hF e38 hS1
        refine hZ 400 [61] _ _ _ _ _ _ _ ?_
        simp -implicitDefEqProofs (disch := omega) only [wp_step xX11_value_57, wp_step xX11_value_58, ↓e_putf iX11_value f11_309, ↓e_virt iX11_value l11_253 iX11_isGood, ↓e_getf iX11_value f11_309, ↓e_virt iX11_value l11_313 iX11_factor, ↓e_virt iX11_value l11_316 iX11_stays, ↓e_virt iX11_value l11_284 iX11_top, ↓e_getf iX11_value f11_244, ↓e_virt iX11_value l11_266 iX11_wrongs, iX11_value, exec1, ↓p1_e, ↓p2_e, ↓q1_e, ↓q2_e, ↓qi_e, ↓pr_e, ↓pa_e, ↓pa_f, ↓pst_e, ↓qst_e, ↓rst_e, ↓pac_e, ↓pargs_0, ↓pargs_s, ↓gfld_0, ↓gfld_1, ↓gfld_2, ↓gfld_3, ↓pfld_i, ↓pfld_l, ↓pfld_r, ↓sfld_i, ↓sfld_l, ↓sfld_r, brI, pushv, rcv, lget, lset, lset2, isL, rok, szs, List.elem_nil, List.elem_cons, cond_true, cond_false, Option.map_some, beq_self_eq_true, Bool.true_and, Bool.and_true, Bool.false_and, Bool.and_false, Bool.or_false, Bool.false_or, Bool.or_true, Bool.true_or, Nat.reduceAdd, Nat.reduceSub, Nat.reduceMul, Nat.reduceBEq, Nat.reduceEqDiff, Nat.reduceLeDiff, Nat.sub_zero, true_and, and_true, false_and, and_false, true_or, or_true, false_or, or_false, reduceCtorEq, ↓reduceIte, List.getD_cons_zero, List.getD_cons_succ, List.length_cons, List.length_nil, ct_i, ct_r, ct_l, ct_f, ct_n, false_implies, true_implies, y144]
        refine ⟨by omega, k_mGood (fun _ => ?_) (fun z => absurd hS1.2.2.2.1 z)⟩
        refine hZ 400 [68] _ _ _ _ _ _ _ ?_
        simp -implicitDefEqProofs (disch := omega) only [wp_step xX11_value_61, wp_step xX11_value_64, wp_step xX11_value_65, ↓e_putf iX11_value f11_309, ↓e_virt iX11_value l11_253 iX11_isGood, ↓e_getf iX11_value f11_309, ↓e_virt iX11_value l11_313 iX11_factor, ↓e_virt iX11_value l11_316 iX11_stays, ↓e_virt iX11_value l11_284 iX11_top, ↓e_getf iX11_value f11_244, ↓e_virt iX11_value l11_266 iX11_wrongs, iX11_value, exec1, ↓p1_e, ↓p2_e, ↓q1_e, ↓q2_e, ↓qi_e, ↓pr_e, ↓pa_e, ↓pa_f, ↓pst_e, ↓qst_e, ↓rst_e, ↓pac_e, ↓pargs_0, ↓pargs_s, ↓gfld_0, ↓gfld_1, ↓gfld_2, ↓gfld_3, ↓pfld_i, ↓pfld_l, ↓pfld_r, ↓sfld_i, ↓sfld_l, ↓sfld_r, brI, pushv, rcv, lget, lset, lset2, isL, rok, szs, List.elem_nil, List.elem_cons, cond_true, cond_false, Option.map_some, beq_self_eq_true, Bool.true_and, Bool.and_true, Bool.false_and, Bool.and_false, Bool.or_false, Bool.false_or, Bool.or_true, Bool.true_or, Nat.reduceAdd, Nat.reduceSub, Nat.reduceMul, Nat.reduceBEq, Nat.reduceEqDiff, Nat.reduceLeDiff, Nat.sub_zero, true_and, and_true, false_and, and_false, true_or, or_true, false_or, or_false, reduceCtorEq, ↓reduceIte, List.getD_cons_zero, List.getD_cons_succ, List.length_cons, List.length_nil, ct_i, ct_r, ct_l, ct_f, ct_n, false_implies, true_implies, y144, show ¬ (1 : Int32) = 0 by decide, not_false_eq_true, true_implies, false_implies, and_true, true_and, not_true_eq_false]
        refine ⟨by omega, k_mTop hS1 ?_⟩
        refine hZ 400 [] _ _ _ _ _ _ _ ?_
        simp -implicitDefEqProofs (disch := omega) only [wp_step xX11_value_68, wp_step xX11_value_70, ↓e_putf iX11_value f11_309, ↓e_virt iX11_value l11_253 iX11_isGood, ↓e_getf iX11_value f11_309, ↓e_virt iX11_value l11_313 iX11_factor, ↓e_virt iX11_value l11_316 iX11_stays, ↓e_virt iX11_value l11_284 iX11_top, ↓e_getf iX11_value f11_244, ↓e_virt iX11_value l11_266 iX11_wrongs, iX11_value, wp_step xX11_value_82, ↓e_putf iX11_value f11_309, ↓e_virt iX11_value l11_253 iX11_isGood, ↓e_getf iX11_value f11_309, ↓e_virt iX11_value l11_313 iX11_factor, ↓e_virt iX11_value l11_316 iX11_stays, ↓e_virt iX11_value l11_284 iX11_top, ↓e_getf iX11_value f11_244, ↓e_virt iX11_value l11_266 iX11_wrongs, iX11_value, exec1, ↓p1_e, ↓p2_e, ↓q1_e, ↓q2_e, ↓qi_e, ↓pr_e, ↓pa_e, ↓pa_f, ↓pst_e, ↓qst_e, ↓rst_e, ↓pac_e, ↓pargs_0, ↓pargs_s, ↓gfld_0, ↓gfld_1, ↓gfld_2, ↓gfld_3, ↓pfld_i, ↓pfld_l, ↓pfld_r, ↓sfld_i, ↓sfld_l, ↓sfld_r, brI, pushv, rcv, lget, lset, lset2, isL, rok, szs, List.elem_nil, List.elem_cons, cond_true, cond_false, Option.map_some, beq_self_eq_true, Bool.true_and, Bool.and_true, Bool.false_and, Bool.and_false, Bool.or_false, Bool.false_or, Bool.or_true, Bool.true_or, Nat.reduceAdd, Nat.reduceSub, Nat.reduceMul, Nat.reduceBEq, Nat.reduceEqDiff, Nat.reduceLeDiff, Nat.sub_zero, true_and, and_true, false_and, and_false, true_or, or_true, false_or, or_false, reduceCtorEq, ↓reduceIte, List.getD_cons_zero, List.getD_cons_succ, List.length_cons, List.length_nil, ct_i, ct_r, ct_l, ct_f, ct_n, false_implies, true_implies, h91, not_false_eq_true, true_implies, false_implies, and_true, true_and, not_true_eq_false]
        exact h2 x rfl μ1 hF e38 (by rw [ho] at hS1; exact hS1)
      · rw [if_pos h93] at h1
        rw [hE]; intro hG μ1 hF hb
        exact h1 (1, x.2) rfl μ1 hF hb
      · rw [e0] at hT
        rw [show S = 91 :: T from hT] at h91
        exact absurd rfl h91
  have fin := rB S C p k main
  rw [hBm] at fin
  refine hZ 400 [7] _ _ _ _ _ _ _ ?_
  simp -implicitDefEqProofs (disch := omega) only [wp_step xX11_value_0, wp_step xX11_value_1, wp_step xX11_value_2, wp_step xX11_value_3, wp_step xX11_value_4, ↓e_putf iX11_value f11_309, ↓e_virt iX11_value l11_253 iX11_isGood, ↓e_getf iX11_value f11_309, ↓e_virt iX11_value l11_313 iX11_factor, ↓e_virt iX11_value l11_316 iX11_stays, ↓e_virt iX11_value l11_284 iX11_top, ↓e_getf iX11_value f11_244, ↓e_virt iX11_value l11_266 iX11_wrongs, iX11_value, exec1, ↓p1_e, ↓p2_e, ↓q1_e, ↓q2_e, ↓qi_e, ↓pr_e, ↓pa_e, ↓pa_f, ↓pst_e, ↓qst_e, ↓rst_e, ↓pac_e, ↓pargs_0, ↓pargs_s, ↓gfld_0, ↓gfld_1, ↓gfld_2, ↓gfld_3, ↓pfld_i, ↓pfld_l, ↓pfld_r, ↓sfld_i, ↓sfld_l, ↓sfld_r, brI, pushv, rcv, lget, lset, lset2, isL, rok, szs, List.elem_nil, List.elem_cons, cond_true, cond_false, Option.map_some, beq_self_eq_true, Bool.true_and, Bool.and_true, Bool.false_and, Bool.and_false, Bool.or_false, Bool.false_or, Bool.or_true, Bool.true_or, Nat.reduceAdd, Nat.reduceSub, Nat.reduceMul, Nat.reduceBEq, Nat.reduceEqDiff, Nat.reduceLeDiff, Nat.sub_zero, true_and, and_true, false_and, and_false, true_or, or_true, false_or, or_false, reduceCtorEq, ↓reduceIte, List.getD_cons_zero, List.getD_cons_succ, List.length_cons, List.length_nil, ct_i, ct_r, ct_l, ct_f, ct_n, false_implies, true_implies, y144]
  exact fin (by omega) _ (Fr.rf.si (by unfold pMr; omega)) (gi_si_k (by omega)) gi_si (by rw [ho]; exact hS.flag (Or.inr rfl))
end MMD
