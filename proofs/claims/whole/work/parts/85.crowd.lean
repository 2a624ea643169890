/-! the most alike, as a number -/
def mx (f : Nat → Nat) : Nat → Nat
  | 0 => 0
  | n + 1 => max (mx f n) (f n)
theorem mx_le {f : Nat → Nat} {m : Nat} : ∀ {n : Nat}, mx f n ≤ m ↔ ∀ j, j < n → f j ≤ m
  | 0 => ⟨fun _ j h => absurd h (by omega), fun _ => Nat.zero_le _⟩
  | n + 1 => by
    rw [mx, Nat.max_le, mx_le (n := n)]
    constructor
    · intro ⟨q1, q2⟩ j hj
      by_cases c : j = n
      · subst c; exact q2
      · exact q1 j (by omega)
    · intro q
      exact ⟨fun j hj => q j (by omega), q n (by omega)⟩
def mstA (a : Nat → Int64) (n : Nat) : Nat := mx (fun j => cnt a (a j) n - cnt a (a j) j) n
theorem mstA_most {a : Nat → Int64} {n : Nat} : Most a n (mstA a n) := Most.of (fun _ => mx_le)
theorem mstA_cong {a b : Nat → Int64} {n : Nat} (h : ∀ j, j < n → a j = b j) : mstA a n = mstA b n := mstA_most.uni mstA_most (fun _ => cnt_cong h)
theorem cd_div {x : Nat × Nat} (h1 : x.1 < 40) (h2 : x.2 ≤ 99) : cdN x / 100 = nI x.1 ∧ cdN x - cdN x / 100 * 100 = nI x.2 := by
  unfold cdN
  refine ⟨?_, ?_⟩
  · rw [show (100 : Int32) = nI 100 from rfl, nI_div (by omega) (by omega)]; congr 1; omega
  · rw [show (100 : Int32) = nI 100 from rfl, nI_rem (by omega) (by omega)]; congr 1; omega
section CRW
variable {G : Gx} {d v : Nat} {μ : Mem} {bc bs : Nat} {Q : Option Value → List Sh → Mem → Nat → Nat → Prop} {nr nb sz n : Nat}
theorem pcL_fr {LV : (Nat → Int32) → Bool → Int32} {A A' : Nat → Nat → Int32} {w l : Int32} {i : Nat} (h : ∀ f, f < 12 → A' f = A f) : pcL LV A' nr nb w i l = pcL LV A nr nb w i l := by
  unfold pcL
  refine picL_cong (fun r _ => by unfold snB; rw [h 3 (by omega)]) (fun r _ _ => ?_)
  have e2 : mo0 LV A' nr nb w r = mo0 LV A nr nb w r := by unfold mo0; rw [WG_fr rfl h]
  have e3 : cL LV A' w i l r = cL LV A w i l r := by unfold cL; rw [ctr_fr h, h 5 (by omega), h 6 (by omega), hvL_fr h, hvL_fr h, hvA_fr h]
  rw [e2, e3, h 2 (by omega)]
def pcM (μ : Mem) (nr nb sz n : Nat) (w : Int32) (x : Nat × Nat) : Int64 := pcL (lawV (fun f => gi μ (30 + f)) sz n) (fun f => gi μ (4 + f)) nr nb w x.1 (nI x.2)
theorem pcM_fi {P : Nat → Nat → Prop} {μ' : Mem} (h : Fi P μ μ') (hP : ∀ a j, P a j → Sf a j) {w : Int32} {x : Nat × Nat} : pcM μ' nr nb sz n w x = pcM μ nr nb sz n w x := by
  have e : ∀ a j, ¬ Sf a j → gi μ' a j = gi μ a j := fun a j z => h a j (fun y => z (hP a j y))
  unfold pcM
  rw [pcL_fr (A := fun f => gi μ (4 + f)) (fun f hf => funext fun j => e _ _ (by unfold Sf; omega)), lawV_fr (A := fun f => gi μ (30 + f)) (fun f hf => funext fun j => e _ _ (by unfold Sf; omega))]
theorem GSt.sl {A : Nat → Nat → Int32} {LV : (Nat → Int32) → Bool → Int32} {w : Int32} {a k : Nat} {y : Int64} (q : GSt μ A LV nr nb sz n w) : GSt (sl μ a k y) A LV nr nb sz n w := q
def pCw (a j : Nat) : Prop := pS 46 a j ∨ a = 207
theorem pCw_Sf : ∀ a j, pCw a j → Sf a j := fun a j z => by unfold pCw pS pL at z; unfold Sf; omega
/-- the list of the cases stands in the class -/
def CsS (μ : Mem) (L : List (Nat × Nat)) (nb : Nat) : Prop := L.length ≤ 3920 ∧ gi μ 125 6 = nI L.length ∧ (∀ k, k < L.length → gi μ 206 k = cdN (cg L k)) ∧ ∀ k, k < L.length → (cg L k).1 < nb ∧ 1 ≤ (cg L k).2 ∧ (cg L k).2 ≤ 99 ∧ ¬ gi μ 15 (cg L k).1 = 0
theorem CsS.fi {P : Nat → Nat → Prop} {μ' : Mem} {L : List (Nat × Nat)} (h : Fi P μ μ') (hP : ∀ a j, P a j → a ≠ 206 ∧ a ≠ 15 ∧ ¬ (a = 125 ∧ j = 6)) (q : CsS μ L nb) : CsS μ' L nb := by
  obtain ⟨q1, q2, q3, q4⟩ := q
  refine ⟨q1, (h _ _ (fun z => (hP _ _ z).2.2 ⟨rfl, rfl⟩)).trans q2, fun k hk => (h _ _ (fun z => (hP _ _ z).1 rfl)).trans (q3 k hk), fun k hk => ?_⟩
  rw [h 15 _ (fun z => (hP _ _ z).2.1 rfl)]
  exact q4 k hk
set_option maxRecDepth 100000 in
set_option maxHeartbeats 1000000 in
theorem k_crowdBy {L : List (Nat × Nat)} {w : Int32} {c1 c2 : Nat} (hd : 6 ≤ d) (hv : v = 1 ∧ c1 = 1 ∧ c2 = 3920 ∨ v = 2 ∧ c1 = 0 ∧ c2 = 0) (hbc : c1 ≤ bc) (hbs : c2 ≤ bs) (hW : WC μ nr nb sz n) (hL : CsS μ L nb) (h : ∀ μ', Fi pCw μ μ' → Q (some (.int (nI (mstA (fun k => pcM μ nr nb sz n w (cg L k)) L.length)))) (LAY 2) μ' (bc - c1) (bs - c2)) : KC G d mX9_crowdBy [.ref 125, .int w] (LAY v) μ bc bs Q := by
  refine KC_intro c1 c2 kX9_crowdBy (by decide) (by decide) hbc hbs (Nat.le_of_ble_eq_true rfl) (fun Z hZ => ?_)
  show Z 0 [some (.ref 125), some (.int w), none] [] (LAY v) μ c1 c2
  have body : ∀ μ0 b c, Fi (fun a _ => a = 207) μ μ0 → Z 16 [some (.ref 125), some (.int w), none] [] (LAY 2) μ0 b c := by
    intro μ0 b c h0
    have hW0 : WC μ0 nr nb sz n := hW.fi h0 (fun a j z => by unfold Sf; omega)
    have hL0 : CsS μ0 L nb := hL.fi h0 (fun a j z => by omega)
    have hn := hW0.2.2.1.1.2.2
    have ep : (fun k => pcM μ nr nb sz n w (cg L k)) = fun k => pcM μ0 nr nb sz n w (cg L k) := funext fun k => (pcM_fi h0 (fun a j z => by unfold Sf; omega)).symm
    rw [ep] at h
    have hWf := hW0.2.2.1
    refine hZ 400 [24] _ _ _ _ _ _ _ ?_
    simp -implicitDefEqProofs (disch := omega) only [wp_step xX9_crowdBy_16, wp_step xX9_crowdBy_17, wp_step xX9_crowdBy_20, wp_step xX9_crowdBy_21, ↓e_getf iX9_crowdBy f9_127, ↓e_putf iX9_crowdBy f9_127, ↓e_getf iX9_crowdBy f9_23, ↓e_virt iX9_crowdBy l9_50 iX7_weigh, ↓e_getf iX9_crowdBy f9_108, ↓e_getf iX9_crowdBy f9_105, ↓e_virt iX9_crowdBy l9_131 iX9_pictureOf, ↓e_static iX9_crowdBy jn9_135 l9_135 iX9_sort, ↓e_static iX9_crowdBy jn9_139 l9_139 iX9_longestStretch, iX9_crowdBy, exec1, ↓p1_e, ↓p2_e, ↓q1_e, ↓q2_e, ↓qi_e, ↓pr_e, ↓pa_e, ↓pa_f, ↓pst_e, ↓qst_e, ↓rst_e, ↓pac_e, ↓pargs_0, ↓pargs_s, ↓gfld_0, ↓gfld_1, ↓gfld_2, ↓gfld_3, ↓pfld_i, ↓pfld_l, ↓pfld_r, ↓sfld_i, ↓sfld_l, ↓sfld_r, brI, pushv, rcv, lget, lset, lset2, isL, rok, szs, List.elem_nil, List.elem_cons, cond_true, cond_false, Option.map_some, beq_self_eq_true, Bool.true_and, Bool.and_true, Bool.false_and, Bool.and_false, Bool.or_false, Bool.false_or, Bool.or_true, Bool.true_or, Nat.reduceAdd, Nat.reduceSub, Nat.reduceMul, Nat.reduceBEq, Nat.reduceEqDiff, Nat.reduceLeDiff, Nat.sub_zero, true_and, and_true, false_and, and_false, true_or, or_true, false_or, or_false, reduceCtorEq, ↓reduceIte, List.getD_cons_zero, List.getD_cons_succ, List.length_cons, List.length_nil, ct_i, ct_r, ct_l, ct_f, ct_n, false_implies, true_implies, yW2, y46, y47, y48, y49, y50]
    refine ⟨by omega, k_weigh (by omega) ScAt.main hW0 (fun μ1 hF1 hG => ?_)⟩
    obtain ⟨g1, g2, g3⟩ := hG
    obtain ⟨A, hA⟩ : ∃ A, A = fun f => gi μ0 (4 + f) := ⟨_, rfl⟩
    obtain ⟨LV, hLV⟩ : ∃ LV, LV = lawV (fun f => gi μ0 (30 + f)) sz n := ⟨_, rfl⟩
    have pe : ∀ k, pcM μ0 nr nb sz n w (cg L k) = pcL LV A nr nb w (cg L k).1 (nI (cg L k).2) := fun k => by unfold pcM; rw [hA, hLV]
    rw [← hA, ← hLV] at g1 g2 g3
    rw [← hA] at hWf
    have a11 : ∀ j, A 11 j = gi μ0 15 j := fun j => by rw [hA]
    have hS1 : GSt μ1 A LV nr nb sz n w := ⟨hW0.fr hF1 (pS_Sf (Or.inl rfl)), fun f hf => by rw [fr_A hF1 (pS_Sf (Or.inl rfl)) f hf, hA], by rw [hLV]; exact lawV_fr (fr_W hF1 (pS_Sf (Or.inl rfl))), fun x hx => g2 x hx, fun j hj c => by have := g3 j hj; rw [if_neg c, if_neg c] at this; exact this⟩
    have hL1 : CsS μ1 L nb := hL0.fi (Fi.of hF1) (fun a j z => by unfold pS pL at z; omega)
    obtain ⟨PP, hPP⟩ : ∃ PP : Nat → Int64, PP = fun k => pcM μ0 nr nb sz n w (cg L k) := ⟨_, rfl⟩
    rw [← hPP] at h
    have hPk : ∀ k, PP k = pcL LV A nr nb w (cg L k).1 (nI (cg L k).2) := fun k => by rw [hPP]; exact pe k
    have l1 := hL0.1
    have fin : ∀ μ2 w2, Fi pPo μ1 μ2 → (∀ j, j < L.length → gl μ2 207 j = PP j) → Z 94 [some (.ref 125), some (.int w), w2] [] (LAY 2) μ2 b c := fun μ2 w2 hF2 hp => by
      have g6 : gi μ2 125 6 = nI L.length := (hF2 _ _ (by unfold pPo pAsk pL; omega)).trans hL1.2.1
      refine hZ 400 [105] _ _ _ _ _ _ _ ?_
      simp -implicitDefEqProofs (disch := omega) only [wp_step xX9_crowdBy_94, wp_step xX9_crowdBy_95, wp_step xX9_crowdBy_98, wp_step xX9_crowdBy_99, wp_step xX9_crowdBy_102, ↓e_getf iX9_crowdBy f9_127, ↓e_putf iX9_crowdBy f9_127, ↓e_getf iX9_crowdBy f9_23, ↓e_virt iX9_crowdBy l9_50 iX7_weigh, ↓e_getf iX9_crowdBy f9_108, ↓e_getf iX9_crowdBy f9_105, ↓e_virt iX9_crowdBy l9_131 iX9_pictureOf, ↓e_static iX9_crowdBy jn9_135 l9_135 iX9_sort, ↓e_static iX9_crowdBy jn9_139 l9_139 iX9_longestStretch, iX9_crowdBy, exec1, ↓p1_e, ↓p2_e, ↓q1_e, ↓q2_e, ↓qi_e, ↓pr_e, ↓pa_e, ↓pa_f, ↓pst_e, ↓qst_e, ↓rst_e, ↓pac_e, ↓pargs_0, ↓pargs_s, ↓gfld_0, ↓gfld_1, ↓gfld_2, ↓gfld_3, ↓pfld_i, ↓pfld_l, ↓pfld_r, ↓sfld_i, ↓sfld_l, ↓sfld_r, brI, pushv, rcv, lget, lset, lset2, isL, rok, szs, List.elem_nil, List.elem_cons, cond_true, cond_false, Option.map_some, beq_self_eq_true, Bool.true_and, Bool.and_true, Bool.false_and, Bool.and_false, Bool.or_false, Bool.false_or, Bool.or_true, Bool.true_or, Nat.reduceAdd, Nat.reduceSub, Nat.reduceMul, Nat.reduceBEq, Nat.reduceEqDiff, Nat.reduceLeDiff, Nat.sub_zero, true_and, and_true, false_and, and_false, true_or, or_true, false_or, or_false, reduceCtorEq, ↓reduceIte, List.getD_cons_zero, List.getD_cons_succ, List.length_cons, List.length_nil, ct_i, ct_r, ct_l, ct_f, ct_n, false_implies, true_implies, yW2, y207b, g6]
      refine ⟨by omega, k_sort (by omega) l1 (fun μ3 hG3 hc3 hs3 => ?_)⟩
      have g6' : gi μ3 125 6 = nI L.length := (hG3.1 _ _).trans g6
      refine hZ 400 [116] _ _ _ _ _ _ _ ?_
      simp -implicitDefEqProofs (disch := omega) only [wp_step xX9_crowdBy_105, wp_step xX9_crowdBy_106, wp_step xX9_crowdBy_109, wp_step xX9_crowdBy_110, wp_step xX9_crowdBy_113, ↓e_getf iX9_crowdBy f9_127, ↓e_putf iX9_crowdBy f9_127, ↓e_getf iX9_crowdBy f9_23, ↓e_virt iX9_crowdBy l9_50 iX7_weigh, ↓e_getf iX9_crowdBy f9_108, ↓e_getf iX9_crowdBy f9_105, ↓e_virt iX9_crowdBy l9_131 iX9_pictureOf, ↓e_static iX9_crowdBy jn9_135 l9_135 iX9_sort, ↓e_static iX9_crowdBy jn9_139 l9_139 iX9_longestStretch, iX9_crowdBy, exec1, ↓p1_e, ↓p2_e, ↓q1_e, ↓q2_e, ↓qi_e, ↓pr_e, ↓pa_e, ↓pa_f, ↓pst_e, ↓qst_e, ↓rst_e, ↓pac_e, ↓pargs_0, ↓pargs_s, ↓gfld_0, ↓gfld_1, ↓gfld_2, ↓gfld_3, ↓pfld_i, ↓pfld_l, ↓pfld_r, ↓sfld_i, ↓sfld_l, ↓sfld_r, brI, pushv, rcv, lget, lset, lset2, isL, rok, szs, List.elem_nil, List.elem_cons, cond_true, cond_false, Option.map_some, beq_self_eq_true, Bool.true_and, Bool.and_true, Bool.false_and, Bool.and_false, Bool.or_false, Bool.false_or, Bool.or_true, Bool.true_or, Nat.reduceAdd, Nat.reduceSub, Nat.reduceMul, Nat.reduceBEq, Nat.reduceEqDiff, Nat.reduceLeDiff, Nat.sub_zero, true_and, and_true, false_and, and_false, true_or, or_true, false_or, or_false, reduceCtorEq, ↓reduceIte, List.getD_cons_zero, List.getD_cons_succ, List.length_cons, List.length_nil, ct_i, ct_r, ct_l, ct_f, ct_n, false_implies, true_implies, yW2, y207b, g6']
      refine ⟨by omega, k_longest (by omega) l1 hs3 (fun M hM => ?_)⟩
      refine hZ 400 [] _ _ _ _ _ _ _ ?_
      simp -implicitDefEqProofs (disch := omega) only [wp_step xX9_crowdBy_116, ↓e_getf iX9_crowdBy f9_127, ↓e_putf iX9_crowdBy f9_127, ↓e_getf iX9_crowdBy f9_23, ↓e_virt iX9_crowdBy l9_50 iX7_weigh, ↓e_getf iX9_crowdBy f9_108, ↓e_getf iX9_crowdBy f9_105, ↓e_virt iX9_crowdBy l9_131 iX9_pictureOf, ↓e_static iX9_crowdBy jn9_135 l9_135 iX9_sort, ↓e_static iX9_crowdBy jn9_139 l9_139 iX9_longestStretch, iX9_crowdBy, exec1, ↓p1_e, ↓p2_e, ↓q1_e, ↓q2_e, ↓qi_e, ↓pr_e, ↓pa_e, ↓pa_f, ↓pst_e, ↓qst_e, ↓rst_e, ↓pac_e, ↓pargs_0, ↓pargs_s, ↓gfld_0, ↓gfld_1, ↓gfld_2, ↓gfld_3, ↓pfld_i, ↓pfld_l, ↓pfld_r, ↓sfld_i, ↓sfld_l, ↓sfld_r, brI, pushv, rcv, lget, lset, lset2, isL, rok, szs, List.elem_nil, List.elem_cons, cond_true, cond_false, Option.map_some, beq_self_eq_true, Bool.true_and, Bool.and_true, Bool.false_and, Bool.and_false, Bool.or_false, Bool.false_or, Bool.or_true, Bool.true_or, Nat.reduceAdd, Nat.reduceSub, Nat.reduceMul, Nat.reduceBEq, Nat.reduceEqDiff, Nat.reduceLeDiff, Nat.sub_zero, true_and, and_true, false_and, and_false, true_or, or_true, false_or, or_false, reduceCtorEq, ↓reduceIte, List.getD_cons_zero, List.getD_cons_succ, List.length_cons, List.length_nil, ct_i, ct_r, ct_l, ct_f, ct_n, false_implies, true_implies]
      have eM : M = mstA PP L.length := hM.uni mstA_most (fun x => (hc3 x).trans (cnt_cong hp))
      rw [eM]
      refine h μ3 (((h0.mono (fun a j z => Or.inr z)).trans ((Fi.of hF1).mono (fun a j z => Or.inl z))).trans (Fi.trans (hF2.mono (fun a j z => ?_)) (fun a j _ => hG3.1 a j)))
      unfold pPo pAsk pL at z; unfold pS pL; omega
    have loop : ∀ k, k ≤ L.length → (∀ μ2, Fi pPo μ1 μ2 → GSt μ2 A LV nr nb sz n w → (∀ j, j < k → gl μ2 207 j = PP j) → Z 26 [some (.ref 125), some (.int w), some (.int (nI k))] [] (LAY 2) μ2 b c) := by
      refine loopN L.length (fun μ2 hF2 hS2 hp => ?_) (fun k hk ih μ2 hF2 hS2 hp => ?_)
      · have g6 : gi μ2 125 6 = nI L.length := (hF2 _ _ (by unfold pPo pAsk pL; omega)).trans hL1.2.1
        refine hZ 400 [94] _ _ _ _ _ _ _ ?_
        simp -implicitDefEqProofs (disch := omega) only [wp_step xX9_crowdBy_26, wp_step xX9_crowdBy_27, wp_step xX9_crowdBy_28, wp_step xX9_crowdBy_31, ↓e_getf iX9_crowdBy f9_127, ↓e_putf iX9_crowdBy f9_127, ↓e_getf iX9_crowdBy f9_23, ↓e_virt iX9_crowdBy l9_50 iX7_weigh, ↓e_getf iX9_crowdBy f9_108, ↓e_getf iX9_crowdBy f9_105, ↓e_virt iX9_crowdBy l9_131 iX9_pictureOf, ↓e_static iX9_crowdBy jn9_135 l9_135 iX9_sort, ↓e_static iX9_crowdBy jn9_139 l9_139 iX9_longestStretch, iX9_crowdBy, exec1, ↓p1_e, ↓p2_e, ↓q1_e, ↓q2_e, ↓qi_e, ↓pr_e, ↓pa_e, ↓pa_f, ↓pst_e, ↓qst_e, ↓rst_e, ↓pac_e, ↓pargs_0, ↓pargs_s, ↓gfld_0, ↓gfld_1, ↓gfld_2, ↓gfld_3, ↓pfld_i, ↓pfld_l, ↓pfld_r, ↓sfld_i, ↓sfld_l, ↓sfld_r, brI, pushv, rcv, lget, lset, lset2, isL, rok, szs, List.elem_nil, List.elem_cons, cond_true, cond_false, Option.map_some, beq_self_eq_true, Bool.true_and, Bool.and_true, Bool.false_and, Bool.and_false, Bool.or_false, Bool.false_or, Bool.or_true, Bool.true_or, Nat.reduceAdd, Nat.reduceSub, Nat.reduceMul, Nat.reduceBEq, Nat.reduceEqDiff, Nat.reduceLeDiff, Nat.sub_zero, true_and, and_true, false_and, and_false, true_or, or_true, false_or, or_false, reduceCtorEq, ↓reduceIte, List.getD_cons_zero, List.getD_cons_succ, List.length_cons, List.length_nil, ct_i, ct_r, ct_l, ct_f, ct_n, false_implies, true_implies, yW2, g6, nle_t (show L.length < 2 ^ 31 by omega), not_false_eq_true, true_implies, false_implies, and_true, true_and, not_true_eq_false]
        exact fin μ2 _ hF2 hp
      · have hL2 : CsS μ2 L nb := hL1.fi hF2 (fun a j z => by unfold pPo pAsk pL at z; omega)
        obtain ⟨-, g6, gk, gm⟩ := hL2
        obtain ⟨m1, m2, m3, m4⟩ := hL0.2.2.2 k hk
        obtain ⟨d1, d2⟩ := cd_div (x := cg L k) (by omega) m3
        rw [d1] at d2
        have vk : vp_in (nI k) 3920 := vin (by omega) (by omega)
        refine hZ 400 [94, 87] _ _ _ _ _ _ _ ?_
        simp -implicitDefEqProofs (disch := omega) only [wp_step xX9_crowdBy_26, wp_step xX9_crowdBy_27, wp_step xX9_crowdBy_28, wp_step xX9_crowdBy_31, wp_step xX9_crowdBy_34, wp_step xX9_crowdBy_35, wp_step xX9_crowdBy_36, wp_step xX9_crowdBy_39, wp_step xX9_crowdBy_40, wp_step xX9_crowdBy_43, wp_step xX9_crowdBy_44, wp_step xX9_crowdBy_47, wp_step xX9_crowdBy_50, wp_step xX9_crowdBy_51, wp_step xX9_crowdBy_52, wp_step xX9_crowdBy_55, wp_step xX9_crowdBy_56, wp_step xX9_crowdBy_59, wp_step xX9_crowdBy_60, wp_step xX9_crowdBy_63, wp_step xX9_crowdBy_64, wp_step xX9_crowdBy_65, wp_step xX9_crowdBy_66, wp_step xX9_crowdBy_69, wp_step xX9_crowdBy_70, wp_step xX9_crowdBy_71, wp_step xX9_crowdBy_73, wp_step xX9_crowdBy_74, wp_step xX9_crowdBy_75, wp_step xX9_crowdBy_78, wp_step xX9_crowdBy_79, wp_step xX9_crowdBy_80, wp_step xX9_crowdBy_82, wp_step xX9_crowdBy_83, wp_step xX9_crowdBy_84, ↓e_getf iX9_crowdBy f9_127, ↓e_putf iX9_crowdBy f9_127, ↓e_getf iX9_crowdBy f9_23, ↓e_virt iX9_crowdBy l9_50 iX7_weigh, ↓e_getf iX9_crowdBy f9_108, ↓e_getf iX9_crowdBy f9_105, ↓e_virt iX9_crowdBy l9_131 iX9_pictureOf, ↓e_static iX9_crowdBy jn9_135 l9_135 iX9_sort, ↓e_static iX9_crowdBy jn9_139 l9_139 iX9_longestStretch, iX9_crowdBy, exec1, ↓p1_e, ↓p2_e, ↓q1_e, ↓q2_e, ↓qi_e, ↓pr_e, ↓pa_e, ↓pa_f, ↓pst_e, ↓qst_e, ↓rst_e, ↓pac_e, ↓pargs_0, ↓pargs_s, ↓gfld_0, ↓gfld_1, ↓gfld_2, ↓gfld_3, ↓pfld_i, ↓pfld_l, ↓pfld_r, ↓sfld_i, ↓sfld_l, ↓sfld_r, brI, pushv, rcv, lget, lset, lset2, isL, rok, szs, List.elem_nil, List.elem_cons, cond_true, cond_false, Option.map_some, beq_self_eq_true, Bool.true_and, Bool.and_true, Bool.false_and, Bool.and_false, Bool.or_false, Bool.false_or, Bool.or_true, Bool.true_or, Nat.reduceAdd, Nat.reduceSub, Nat.reduceMul, Nat.reduceBEq, Nat.reduceEqDiff, Nat.reduceLeDiff, Nat.sub_zero, true_and, and_true, false_and, and_false, true_or, or_true, false_or, or_false, reduceCtorEq, ↓reduceIte, List.getD_cons_zero, List.getD_cons_succ, List.length_cons, List.length_nil, ct_i, ct_r, ct_l, ct_f, ct_n, false_implies, true_implies, yW2, y206b, y207b, g6, nle_f hk (show L.length < 2 ^ 31 by omega), show (nI 3920 ≤ nI k) = False from eq_false (nI_ge (by omega) (by omega)), vk, nI_clamp, gk k hk, d2, d1, show ((100 : Int32) = 0) = False from eq_false (by decide), Nat.reduceLT, not_false_eq_true, true_implies, false_implies, and_true, true_and, not_true_eq_false]
        refine ⟨by omega, k_pictureOf (by omega) hS2 hWf m1 (by rw [a11]; exact m4) (fun μ3 hF3 hS3 => ?_)⟩
        rw [← hPk]
        refine hZ 400 [26] _ _ _ _ _ _ _ ?_
        simp -implicitDefEqProofs (disch := omega) only [wp_step xX9_crowdBy_87, wp_step xX9_crowdBy_88, wp_step xX9_crowdBy_91, ↓e_getf iX9_crowdBy f9_127, ↓e_putf iX9_crowdBy f9_127, ↓e_getf iX9_crowdBy f9_23, ↓e_virt iX9_crowdBy l9_50 iX7_weigh, ↓e_getf iX9_crowdBy f9_108, ↓e_getf iX9_crowdBy f9_105, ↓e_virt iX9_crowdBy l9_131 iX9_pictureOf, ↓e_static iX9_crowdBy jn9_135 l9_135 iX9_sort, ↓e_static iX9_crowdBy jn9_139 l9_139 iX9_longestStretch, iX9_crowdBy, exec1, ↓p1_e, ↓p2_e, ↓q1_e, ↓q2_e, ↓qi_e, ↓pr_e, ↓pa_e, ↓pa_f, ↓pst_e, ↓qst_e, ↓rst_e, ↓pac_e, ↓pargs_0, ↓pargs_s, ↓gfld_0, ↓gfld_1, ↓gfld_2, ↓gfld_3, ↓pfld_i, ↓pfld_l, ↓pfld_r, ↓sfld_i, ↓sfld_l, ↓sfld_r, brI, pushv, rcv, lget, lset, lset2, isL, rok, szs, List.elem_nil, List.elem_cons, cond_true, cond_false, Option.map_some, beq_self_eq_true, Bool.true_and, Bool.and_true, Bool.false_and, Bool.and_false, Bool.or_false, Bool.false_or, Bool.or_true, Bool.true_or, Nat.reduceAdd, Nat.reduceSub, Nat.reduceMul, Nat.reduceBEq, Nat.reduceEqDiff, Nat.reduceLeDiff, Nat.sub_zero, true_and, and_true, false_and, and_false, true_or, or_true, false_or, or_false, reduceCtorEq, ↓reduceIte, List.getD_cons_zero, List.getD_cons_succ, List.length_cons, List.length_nil, ct_i, ct_r, ct_l, ct_f, ct_n, false_implies, true_implies, y207b, vk, nI_clamp, nI_1]
        refine ih _ ((hF2.trans (Fi.of hF3)).sl) hS3.sl (fun j hj => ?_)
        by_cases e : j = k
        · subst e; rw [gl_sl]
        · rw [gl_sl_k e, hF3.2]; exact hp j (by omega)
    refine hZ 400 [26] _ _ _ _ _ _ _ ?_
    simp -implicitDefEqProofs (disch := omega) only [wp_step xX9_crowdBy_24, wp_step xX9_crowdBy_25, ↓e_getf iX9_crowdBy f9_127, ↓e_putf iX9_crowdBy f9_127, ↓e_getf iX9_crowdBy f9_23, ↓e_virt iX9_crowdBy l9_50 iX7_weigh, ↓e_getf iX9_crowdBy f9_108, ↓e_getf iX9_crowdBy f9_105, ↓e_virt iX9_crowdBy l9_131 iX9_pictureOf, ↓e_static iX9_crowdBy jn9_135 l9_135 iX9_sort, ↓e_static iX9_crowdBy jn9_139 l9_139 iX9_longestStretch, iX9_crowdBy, exec1, ↓p1_e, ↓p2_e, ↓q1_e, ↓q2_e, ↓qi_e, ↓pr_e, ↓pa_e, ↓pa_f, ↓pst_e, ↓qst_e, ↓rst_e, ↓pac_e, ↓pargs_0, ↓pargs_s, ↓gfld_0, ↓gfld_1, ↓gfld_2, ↓gfld_3, ↓pfld_i, ↓pfld_l, ↓pfld_r, ↓sfld_i, ↓sfld_l, ↓sfld_r, brI, pushv, rcv, lget, lset, lset2, isL, rok, szs, List.elem_nil, List.elem_cons, cond_true, cond_false, Option.map_some, beq_self_eq_true, Bool.true_and, Bool.and_true, Bool.false_and, Bool.and_false, Bool.or_false, Bool.false_or, Bool.or_true, Bool.true_or, Nat.reduceAdd, Nat.reduceSub, Nat.reduceMul, Nat.reduceBEq, Nat.reduceEqDiff, Nat.reduceLeDiff, Nat.sub_zero, true_and, and_true, false_and, and_false, true_or, or_true, false_or, or_false, reduceCtorEq, ↓reduceIte, List.getD_cons_zero, List.getD_cons_succ, List.length_cons, List.length_nil, ct_i, ct_r, ct_l, ct_f, ct_n, false_implies, true_implies]
    exact loop 0 (by omega) μ1 Fi.rf hS1 (fun j h => absurd h (by omega))
  rcases hv with ⟨rfl, rfl, rfl⟩ | ⟨rfl, rfl, rfl⟩
  · refine hZ 400 [16] _ _ _ _ _ _ _ ?_
    simp -implicitDefEqProofs (disch := omega) only [wp_step xX9_crowdBy_0, wp_step xX9_crowdBy_1, wp_step xX9_crowdBy_4, wp_step xX9_crowdBy_7, wp_step xX9_crowdBy_8, wp_step xX9_crowdBy_11, wp_step xX9_crowdBy_13, ↓e_getf iX9_crowdBy f9_127, ↓e_putf iX9_crowdBy f9_127, ↓e_getf iX9_crowdBy f9_23, ↓e_virt iX9_crowdBy l9_50 iX7_weigh, ↓e_getf iX9_crowdBy f9_108, ↓e_getf iX9_crowdBy f9_105, ↓e_virt iX9_crowdBy l9_131 iX9_pictureOf, ↓e_static iX9_crowdBy jn9_135 l9_135 iX9_sort, ↓e_static iX9_crowdBy jn9_139 l9_139 iX9_longestStretch, iX9_crowdBy, exec1, ↓p1_e, ↓p2_e, ↓q1_e, ↓q2_e, ↓qi_e, ↓pr_e, ↓pa_e, ↓pa_f, ↓pst_e, ↓qst_e, ↓rst_e, ↓pac_e, ↓pargs_0, ↓pargs_s, ↓gfld_0, ↓gfld_1, ↓gfld_2, ↓gfld_3, ↓pfld_i, ↓pfld_l, ↓pfld_r, ↓sfld_i, ↓sfld_l, ↓sfld_r, brI, pushv, rcv, lget, lset, lset2, isL, rok, szs, List.elem_nil, List.elem_cons, cond_true, cond_false, Option.map_some, beq_self_eq_true, Bool.true_and, Bool.and_true, Bool.false_and, Bool.and_false, Bool.or_false, Bool.false_or, Bool.or_true, Bool.true_or, Nat.reduceAdd, Nat.reduceSub, Nat.reduceMul, Nat.reduceBEq, Nat.reduceEqDiff, Nat.reduceLeDiff, Nat.sub_zero, true_and, and_true, false_and, and_false, true_or, or_true, false_or, or_false, reduceCtorEq, ↓reduceIte, List.getD_cons_zero, List.getD_cons_succ, List.length_cons, List.length_nil, ct_i, ct_r, ct_l, ct_f, ct_n, false_implies, true_implies, yW1, p3920, c3920, atk_l, len1, yN1, yS1, tt95, List.set_cons_succ, List.set_cons_zero, Nat.reduceLT, Nat.le_refl, Nat.sub_self, not_false_eq_true, true_implies, false_implies, and_true, true_and, not_true_eq_false]
    exact body _ _ _ (fun a j z => by unfold gi clr; dsimp only; rw [if_neg z])
  · refine hZ 400 [16] _ _ _ _ _ _ _ ?_
    simp -implicitDefEqProofs (disch := omega) only [wp_step xX9_crowdBy_0, wp_step xX9_crowdBy_1, wp_step xX9_crowdBy_4, ↓e_getf iX9_crowdBy f9_127, ↓e_putf iX9_crowdBy f9_127, ↓e_getf iX9_crowdBy f9_23, ↓e_virt iX9_crowdBy l9_50 iX7_weigh, ↓e_getf iX9_crowdBy f9_108, ↓e_getf iX9_crowdBy f9_105, ↓e_virt iX9_crowdBy l9_131 iX9_pictureOf, ↓e_static iX9_crowdBy jn9_135 l9_135 iX9_sort, ↓e_static iX9_crowdBy jn9_139 l9_139 iX9_longestStretch, iX9_crowdBy, exec1, ↓p1_e, ↓p2_e, ↓q1_e, ↓q2_e, ↓qi_e, ↓pr_e, ↓pa_e, ↓pa_f, ↓pst_e, ↓qst_e, ↓rst_e, ↓pac_e, ↓pargs_0, ↓pargs_s, ↓gfld_0, ↓gfld_1, ↓gfld_2, ↓gfld_3, ↓pfld_i, ↓pfld_l, ↓pfld_r, ↓sfld_i, ↓sfld_l, ↓sfld_r, brI, pushv, rcv, lget, lset, lset2, isL, rok, szs, List.elem_nil, List.elem_cons, cond_true, cond_false, Option.map_some, beq_self_eq_true, Bool.true_and, Bool.and_true, Bool.false_and, Bool.and_false, Bool.or_false, Bool.false_or, Bool.or_true, Bool.true_or, Nat.reduceAdd, Nat.reduceSub, Nat.reduceMul, Nat.reduceBEq, Nat.reduceEqDiff, Nat.reduceLeDiff, Nat.sub_zero, true_and, and_true, false_and, and_false, true_or, or_true, false_or, or_false, reduceCtorEq, ↓reduceIte, List.getD_cons_zero, List.getD_cons_succ, List.length_cons, List.length_nil, ct_i, ct_r, ct_l, ct_f, ct_n, false_implies, true_implies, yW2]
    exact body μ 0 0 Fi.rf
end CRW
