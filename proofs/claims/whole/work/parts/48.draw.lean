/-- is there one -/
def anB (p : Nat → Bool) : Nat → Bool
  | 0 => false
  | n + 1 => anB p n || p n
theorem anB_t {p : Nat → Bool} : ∀ {n i : Nat}, i < n → p i = true → anB p n = true
  | 0, _, h, _ => absurd h (by omega)
  | n + 1, i, h, e => by
    rw [anB]
    by_cases q : i = n
    · subst q; rw [e, Bool.or_true]
    · rw [anB_t (show i < n by omega) e, Bool.true_or]
theorem anB_f {p : Nat → Bool} : ∀ {n : Nat}, (∀ i, i < n → p i = false) → anB p n = false
  | 0, _ => rfl
  | n + 1, h => by rw [anB, anB_f (fun i hi => h i (by omega)), h n (by omega)]; rfl
theorem anB_cong {p q : Nat → Bool} : ∀ {n : Nat}, (∀ i, i < n → p i = q i) → anB p n = anB q n
  | 0, _ => rfl
  | n + 1, h => by rw [anB, anB, anB_cong (fun i hi => h i (by omega)), h n (by omega)]
/-- rod r is seen to lean -/
def slF (A : Nat → Nat → Int32) (mo : Nat → Int32) (r : Nat) : Bool := !decide (A 3 r = 0) && !decide (lnV (mo r) (A 2 r) = 0)
theorem slF_f1 {A : Nat → Nat → Int32} {mo : Nat → Int32} {r : Nat} (h : A 3 r = 0) : slF A mo r = false := by unfold slF; rw [decide_eq_true h]; rfl
theorem slF_f2 {A : Nat → Nat → Int32} {mo : Nat → Int32} {r : Nat} (h : lnV (mo r) (A 2 r) = 0) : slF A mo r = false := by unfold slF; rw [decide_eq_true h, Bool.not_true, Bool.and_false]
theorem slF_t {A : Nat → Nat → Int32} {mo : Nat → Int32} {r : Nat} (h1 : ¬ A 3 r = 0) (h2 : ¬ lnV (mo r) (A 2 r) = 0) : slF A mo r = true := by unfold slF; rw [decide_eq_false h1, decide_eq_false h2]; rfl
/-- what may change besides a call's own cells, where numbers and the tape's size change -/
def Lo2 (a j : Nat) : Prop := Lo a j ∨ a = 3 ∧ (j = 14 ∨ j = 15) ∨ a = 144 ∧ (j = 4 ∨ j = 5) ∨ a = 1 ∧ j = 1 ∨ a = 144 ∧ j = 1
theorem Inv.fr {P : Nat → Nat → Prop} {μ μ' : Mem} (hI : Inv LRel μ) (h : Fr P μ μ') (hP : ∀ a j, P a j → Lo2 a j) (hN : NumI μ') (hT : TapeI μ') : Inv LRel μ' := by
  obtain ⟨i1, i2, i3, i4, i5⟩ := hI
  have e : ∀ a j, ¬ Lo2 a j → gi μ' a j = gi μ a j := fun a j z => h.1 a j (fun w => z (hP a j w))
  refine ⟨i1.cong ?_ ?_ ?_ ?_ ?_ ?_, hN, hT, i4.cong ?_ ?_ ?_ ?_ ?_, LRel_eq _ _ ⟨?_, ?_, ?_, ?_, ?_⟩ i5⟩
  all_goals intros
  all_goals exact e _ _ (by unfold Lo2 Lo; omega)
theorem WC.fr2 {P : Nat → Nat → Prop} {nr nb sz n : Nat} {μ μ' : Mem} (h : Fr P μ μ') (hP : ∀ a j, P a j → Lo2 a j) (q : WC μ nr nb sz n) : WC μ' nr nb sz n := by
  have e : ∀ a j, ¬ Lo2 a j → gi μ' a j = gi μ a j := fun a j z => h.1 a j (fun w => z (hP a j w))
  obtain ⟨q1, q2, q3, q4, q5, q6⟩ := q
  refine ⟨(e _ _ (by unfold Lo2 Lo; omega)).trans q1, (e _ _ (by unfold Lo2 Lo; omega)).trans q2, q3.cong (fun f hf => funext (fun j => e _ _ (by unfold Lo2 Lo; omega))), (e _ _ (by unfold Lo2 Lo; omega)).trans q4, (e _ _ (by unfold Lo2 Lo; omega)).trans q5, q6.cong (fun f hf => funext (fun j => e _ _ (by unfold Lo2 Lo; omega)))⟩
theorem WM.fr2 {P : Nat → Nat → Prop} {nr nb sz n : Nat} {μ μ' : Mem} (h : Fr P μ μ') (hP : ∀ a j, P a j → Lo2 a j) (q : WM μ nr nb sz n) : WM μ' nr nb sz n := by
  have e : ∀ a j, ¬ Lo2 a j → gi μ' a j = gi μ a j := fun a j z => h.1 a j (fun w => z (hP a j w))
  obtain ⟨q1, q2, q3, q4, q5, q6⟩ := q
  refine ⟨(e _ _ (by unfold Lo2 Lo; omega)).trans q1, (e _ _ (by unfold Lo2 Lo; omega)).trans q2, q3.cong (fun f hf => funext (fun j => e _ _ (by unfold Lo2 Lo; omega))), (e _ _ (by unfold Lo2 Lo; omega)).trans q4, q5, fun k hk => (q6 k hk).cong (fun f hf => funext (fun j => e _ _ (by unfold Lo2 Lo; omega))) (fun f hf => funext (fun j => e _ _ (by unfold Lo2 Lo; omega)))⟩
theorem WGC_fr2 {P : Nat → Nat → Prop} {μ μ' : Mem} {nr nb sz n : Nat} {w : Int32} (h : Fr P μ μ') (hP : ∀ a j, P a j → Lo2 a j) : WGC μ' nr nb sz n w = WGC μ nr nb sz n w := by
  have e : ∀ a j, ¬ Lo2 a j → gi μ' a j = gi μ a j := fun a j z => h.1 a j (fun w => z (hP a j w))
  exact WG_fr (lawV_fr (fun f hf => funext (fun j => e _ _ (by unfold Lo2 Lo; omega)))) (fun f hf => funext (fun j => e _ _ (by unfold Lo2 Lo; omega)))
theorem WGM_fr2 {P : Nat → Nat → Prop} {μ μ' : Mem} {nr nb sz n : Nat} {w : Int32} (h : Fr P μ μ') (hP : ∀ a j, P a j → Lo2 a j) : WGM μ' nr nb sz n w = WGM μ nr nb sz n w := by
  have e : ∀ a j, ¬ Lo2 a j → gi μ' a j = gi μ a j := fun a j z => h.1 a j (fun w => z (hP a j w))
  exact WG_fr (lawV_fr (fun f hf => funext (fun j => e _ _ (by unfold Lo2 Lo; omega)))) (fun f hf => funext (fun j => e _ _ (by unfold Lo2 Lo; omega)))
/-- the next number of the days, and its wind -/
def drX (x : Int32) : Int32 := 25173 * x + 13849 &&& 65535
def drW (x : Int32) : Int32 := x - x / 19 * 19 - 9
theorem i_and {a : Nat} (h : a < 2 ^ 31) : nI a &&& 65535 = nI (a % 65536) := by
  apply Int32.toBitVec_inj.mp
  apply BitVec.eq_of_toNat_eq
  rw [Int32.toBitVec_and, BitVec.toNat_and]
  rw [show (nI a).toBitVec = BitVec.ofNat 32 a from rfl, show (nI (a % 65536)).toBitVec = BitVec.ofNat 32 (a % 65536) from rfl, BitVec.toNat_ofNat, BitVec.toNat_ofNat, show (65535 : Int32).toBitVec.toNat = 2 ^ 16 - 1 from rfl, Nat.mod_eq_of_lt (show a < 2 ^ 32 by omega), Nat.mod_eq_of_lt (show a % 65536 < 2 ^ 32 by omega), Nat.and_two_pow_sub_one_eq_mod]
theorem nI_mul (a b : Nat) : nI a * nI b = nI (a * b) := (Int32.ofNat_mul a b).symm
theorem nI_div {a b : Nat} (ha : a < 2 ^ 31) (hb : b < 2 ^ 31) : nI a / nI b = nI (a / b) := by
  have hq : a / b ≤ a := Nat.div_le_self a b
  apply Int32.toInt_inj.mp
  rw [Int32.toInt_div, nI_toInt ha, nI_toInt hb, nI_toInt (by omega), Int.tdiv_eq_ediv_of_nonneg (by omega)]
  have e : ((a : Int) / (b : Int)) = ((a / b : Nat) : Int) := rfl
  rw [e]
  generalize a / b = q at hq
  rw [Int.bmod_eq_of_le (by omega) (by omega)]
theorem nI_sub {a b : Nat} (h : b ≤ a) : nI a - nI b = nI (a - b) := by
  have e : nI a = nI (a - b) + nI b := by rw [nI_add]; congr 1; omega
  rw [e, Int32.add_sub_cancel]
theorem nI_rem {a b : Nat} (ha : a < 2 ^ 31) (hb : b < 2 ^ 31) : nI a - nI a / nI b * nI b = nI (a % b) := by
  have h1 := Nat.div_mul_le_self a b
  rw [nI_div ha hb, nI_mul, nI_sub h1]
  congr 1
  have := Nat.div_add_mod a b
  rw [Nat.mul_comm] at this
  omega
theorem drX_n {x : Int32} (h : 0 ≤ x ∧ x ≤ 65535) : 0 ≤ drX x ∧ drX x ≤ 65535 ∧ 25173 * x + 13849 - (25173 * x + 13849) / 65536 * 65536 = drX x := by
  obtain ⟨k, hk, rfl⟩ := ofN h.1
  have hk : k ≤ 65535 := (nI_leI (b := 65535) (by omega) (by omega)).mp h.2
  have e : (25173 : Int32) * nI k + 13849 = nI (25173 * k + 13849) := by
    rw [show (25173 : Int32) = nI 25173 from rfl, nI_mul, show (13849 : Int32) = nI 13849 from rfl, nI_add]
  have e2 : drX (nI k) = nI ((25173 * k + 13849) % 65536) := by unfold drX; rw [e, i_and (by omega)]
  rw [e2, e, show (65536 : Int32) = nI 65536 from rfl, nI_rem (by omega) (by omega)]
  exact ⟨nI_pos' (by omega), (nI_leI (b := 65535) (by omega) (by omega)).mpr (by omega), rfl⟩
theorem drW_n {x : Int32} (h : 0 ≤ x ∧ x ≤ 65535) : -9 ≤ drW x ∧ drW x ≤ 9 := by
  obtain ⟨k, hk, rfl⟩ := ofN h.1
  unfold drW
  rw [show (19 : Int32) = nI 19 from rfl, nI_rem (by omega) (by omega)]
  have e : k % 19 < 19 := Nat.mod_lt _ (by omega)
  generalize k % 19 = m at e
  have : ∀ m, m < 19 → -9 ≤ nI m - 9 ∧ nI m - 9 ≤ 9 := by decide +kernel
  exact this m e
def xN (x : Int32) : Nat → Int32
  | 0 => x
  | k + 1 => drX (xN x k)
theorem xN_n {x : Int32} (h : 0 ≤ x ∧ x ≤ 65535) : ∀ k, 0 ≤ xN x k ∧ xN x k ≤ 65535
  | 0 => h
  | k + 1 => ⟨(drX_n (xN_n h k)).1, (drX_n (xN_n h k)).2.1⟩
/-- how many of the days lean -/
def cN (p : Int32 → Bool) (x : Int32) : Nat → Int32
  | 0 => 0
  | k + 1 => cN p x k + bN (p (drW (xN x (k + 1))))
theorem cN_cong {p q : Int32 → Bool} {x : Int32} (h : ∀ w, p w = q w) : ∀ k, cN p x k = cN q x k
  | 0 => rfl
  | k + 1 => by rw [cN, cN, cN_cong h k, h]
def pD (a j : Nat) : Prop := pS 46 a j ∨ a = 3 ∧ (j = 14 ∨ j = 15)
def pE (a j : Nat) : Prop := pK a j ∨ a = 144 ∧ (j = 4 ∨ j = 5)
theorem pD_Lo : ∀ a j, pD a j → Lo2 a j := fun a j z => by unfold pD pS pL at z; unfold Lo2 Lo; omega
theorem pE_Lo : ∀ a j, pE a j → Lo2 a j := fun a j z => by unfold pE pK pN at z; unfold Lo2 Lo; omega
theorem nle_f {a b : Nat} (h : a < b) (hb : b < 2 ^ 31) : (nI b ≤ nI a) = False := eq_false (nI_ge h hb)
theorem nle_t {a : Nat} (h : a < 2 ^ 31) : (nI a ≤ nI a) = True := eq_true (nI_le (Nat.le_refl a) h)
theorem btr {b : Bool} (h : ¬ b = false) : b = true := by cases b <;> simp_all
section DRW
variable {G : Gx} {d v : Nat} {μ : Mem} {bc bs : Nat} {Q : Option Value → List Sh → Mem → Nat → Nat → Prop}
set_option maxRecDepth 100000 in
set_option maxHeartbeats 1000000 in
theorem k_seenLean {s nr : Nat} (hd : 3 ≤ d) (hS : ScAt v s) (hr : (gi μ 3 12) = nI nr) (hn : nr ≤ 10) (h : Q (some (.int (bN (anB (slF (fun f => gi μ (4 + f)) (gi μ (s + 4))) nr)))) (LAY v) μ bc bs) : KC G d mX7_isSeenToLean [.ref s] (LAY v) μ bc bs Q := by
  obtain ⟨a0, a1, a2, a3, a4, hs⟩ := id hS
  refine KC_intro 0 0 kX7_isSeenToLean (by decide) (by decide) (Nat.zero_le _) (Nat.zero_le _) (Nat.le_of_ble_eq_true rfl) (fun Z hZ => ?_)
  show Z 0 [some (.ref s), none] [] (LAY v) μ 0 0
  have loop : ∀ i, i ≤ nr → ((∀ j, j < i → slF (fun f => gi μ (4 + f)) (gi μ (s + 4)) j = false) → Z 2 [some (.ref s), some (.int (nI i))] [] (LAY v) μ 0 0) := by
    refine loopN nr (fun q => ?_) (fun i hi ih q => ?_)
    · refine hZ 400 [2, 30] _ _ _ _ _ _ _ ?_
      simp -implicitDefEqProofs (disch := omega) only [wp_step xX7_isSeenToLean_2, wp_step xX7_isSeenToLean_3, wp_step xX7_isSeenToLean_4, wp_step xX7_isSeenToLean_7, wp_step xX7_isSeenToLean_10, wp_step xX7_isSeenToLean_13, wp_step xX7_isSeenToLean_14, wp_step xX7_isSeenToLean_17, wp_step xX7_isSeenToLean_20, wp_step xX7_isSeenToLean_21, wp_step xX7_isSeenToLean_22, wp_step xX7_isSeenToLean_25, wp_step xX7_isSeenToLean_26, wp_step xX7_isSeenToLean_27, wp_step xX7_isSeenToLean_30, wp_step xX7_isSeenToLean_33, wp_step xX7_isSeenToLean_34, wp_step xX7_isSeenToLean_35, wp_step xX7_isSeenToLean_38, wp_step xX7_isSeenToLean_41, wp_step xX7_isSeenToLean_42, ↓e_getf iX7_isSeenToLean f7_24, ↓e_getf iX7_isSeenToLean f7_65, ↓e_getf iX7_isSeenToLean f7_77, ↓e_virt iX7_isSeenToLean l7_87 iX7_lean, iX7_isSeenToLean, exec1, ↓p1_e, ↓p2_e, ↓q1_e, ↓q2_e, ↓qi_e, ↓pr_e, ↓pa_e, ↓pa_f, ↓pst_e, ↓qst_e, ↓rst_e, ↓pac_e, ↓pargs_0, ↓pargs_s, ↓gfld_0, ↓gfld_1, ↓gfld_2, ↓gfld_3, ↓pfld_i, ↓pfld_l, ↓pfld_r, ↓sfld_i, ↓sfld_l, ↓sfld_r, brI, pushv, rcv, lget, lset, lset2, isL, rok, szs, List.elem_nil, List.elem_cons, cond_true, cond_false, Option.map_some, beq_self_eq_true, Bool.true_and, Bool.and_true, Bool.false_and, Bool.and_false, Bool.or_false, Bool.false_or, Bool.or_true, Bool.true_or, Nat.reduceAdd, Nat.reduceSub, Nat.reduceMul, Nat.reduceBEq, Nat.reduceEqDiff, Nat.reduceLeDiff, Nat.sub_zero, true_and, and_true, false_and, and_false, true_or, or_true, false_or, or_false, reduceCtorEq, ↓reduceIte, List.getD_cons_zero, List.getD_cons_succ, List.length_cons, List.length_nil, ct_i, ct_r, ct_l, ct_f, ct_n, false_implies, true_implies, y3, y4, y5, y6, y7, y8, y9, y10, y11, y12, y13, y14, y15, a0, hr, nle_t (show nr < 2 ^ 31 by omega), not_false_eq_true, true_implies, false_implies, and_true, true_and, not_true_eq_false]
      rw [anB_f q] at h
      exact h
    · have hv : vp_in (nI i) 10 := vin (by omega) (by omega)
      refine hZ 400 [2, 30] _ _ _ _ _ _ _ ?_
      simp -implicitDefEqProofs (disch := omega) only [wp_step xX7_isSeenToLean_2, wp_step xX7_isSeenToLean_3, wp_step xX7_isSeenToLean_4, wp_step xX7_isSeenToLean_7, wp_step xX7_isSeenToLean_10, wp_step xX7_isSeenToLean_13, wp_step xX7_isSeenToLean_14, wp_step xX7_isSeenToLean_17, wp_step xX7_isSeenToLean_20, wp_step xX7_isSeenToLean_21, wp_step xX7_isSeenToLean_22, wp_step xX7_isSeenToLean_25, wp_step xX7_isSeenToLean_26, wp_step xX7_isSeenToLean_27, wp_step xX7_isSeenToLean_30, wp_step xX7_isSeenToLean_33, wp_step xX7_isSeenToLean_34, wp_step xX7_isSeenToLean_35, wp_step xX7_isSeenToLean_38, wp_step xX7_isSeenToLean_41, wp_step xX7_isSeenToLean_42, ↓e_getf iX7_isSeenToLean f7_24, ↓e_getf iX7_isSeenToLean f7_65, ↓e_getf iX7_isSeenToLean f7_77, ↓e_virt iX7_isSeenToLean l7_87 iX7_lean, iX7_isSeenToLean, exec1, ↓p1_e, ↓p2_e, ↓q1_e, ↓q2_e, ↓qi_e, ↓pr_e, ↓pa_e, ↓pa_f, ↓pst_e, ↓qst_e, ↓rst_e, ↓pac_e, ↓pargs_0, ↓pargs_s, ↓gfld_0, ↓gfld_1, ↓gfld_2, ↓gfld_3, ↓pfld_i, ↓pfld_l, ↓pfld_r, ↓sfld_i, ↓sfld_l, ↓sfld_r, brI, pushv, rcv, lget, lset, lset2, isL, rok, szs, List.elem_nil, List.elem_cons, cond_true, cond_false, Option.map_some, beq_self_eq_true, Bool.true_and, Bool.and_true, Bool.false_and, Bool.and_false, Bool.or_false, Bool.false_or, Bool.or_true, Bool.true_or, Nat.reduceAdd, Nat.reduceSub, Nat.reduceMul, Nat.reduceBEq, Nat.reduceEqDiff, Nat.reduceLeDiff, Nat.sub_zero, true_and, and_true, false_and, and_false, true_or, or_true, false_or, or_false, reduceCtorEq, ↓reduceIte, List.getD_cons_zero, List.getD_cons_succ, List.length_cons, List.length_nil, ct_i, ct_r, ct_l, ct_f, ct_n, false_implies, true_implies, y3, y4, y5, y6, y7, y8, y9, y10, y11, y12, y13, y14, y15, a0, hr, nle_f hi (show nr < 2 ^ 31 by omega), nI_clamp, hv, not_false_eq_true, true_implies, false_implies, and_true, true_and, not_true_eq_false, nI_1]
      refine ⟨fun c => ih (fun j hj => ?_), fun c => ⟨by omega, k_lean (by omega) hS hr hn hi ?_⟩⟩
      · by_cases e : j = i
        · subst e; exact slF_f1 (A := fun f => gi μ (4 + f)) c
        · exact q j (by omega)
      · refine hZ 400 [2, 30] _ _ _ _ _ _ _ ?_
        simp -implicitDefEqProofs (disch := omega) only [wp_step xX7_isSeenToLean_2, wp_step xX7_isSeenToLean_3, wp_step xX7_isSeenToLean_4, wp_step xX7_isSeenToLean_7, wp_step xX7_isSeenToLean_10, wp_step xX7_isSeenToLean_13, wp_step xX7_isSeenToLean_14, wp_step xX7_isSeenToLean_17, wp_step xX7_isSeenToLean_20, wp_step xX7_isSeenToLean_21, wp_step xX7_isSeenToLean_22, wp_step xX7_isSeenToLean_25, wp_step xX7_isSeenToLean_26, wp_step xX7_isSeenToLean_27, wp_step xX7_isSeenToLean_30, wp_step xX7_isSeenToLean_33, wp_step xX7_isSeenToLean_34, wp_step xX7_isSeenToLean_35, wp_step xX7_isSeenToLean_38, wp_step xX7_isSeenToLean_41, wp_step xX7_isSeenToLean_42, ↓e_getf iX7_isSeenToLean f7_24, ↓e_getf iX7_isSeenToLean f7_65, ↓e_getf iX7_isSeenToLean f7_77, ↓e_virt iX7_isSeenToLean l7_87 iX7_lean, iX7_isSeenToLean, exec1, ↓p1_e, ↓p2_e, ↓q1_e, ↓q2_e, ↓qi_e, ↓pr_e, ↓pa_e, ↓pa_f, ↓pst_e, ↓qst_e, ↓rst_e, ↓pac_e, ↓pargs_0, ↓pargs_s, ↓gfld_0, ↓gfld_1, ↓gfld_2, ↓gfld_3, ↓pfld_i, ↓pfld_l, ↓pfld_r, ↓sfld_i, ↓sfld_l, ↓sfld_r, brI, pushv, rcv, lget, lset, lset2, isL, rok, szs, List.elem_nil, List.elem_cons, cond_true, cond_false, Option.map_some, beq_self_eq_true, Bool.true_and, Bool.and_true, Bool.false_and, Bool.and_false, Bool.or_false, Bool.false_or, Bool.or_true, Bool.true_or, Nat.reduceAdd, Nat.reduceSub, Nat.reduceMul, Nat.reduceBEq, Nat.reduceEqDiff, Nat.reduceLeDiff, Nat.sub_zero, true_and, and_true, false_and, and_false, true_or, or_true, false_or, or_false, reduceCtorEq, ↓reduceIte, List.getD_cons_zero, List.getD_cons_succ, List.length_cons, List.length_nil, ct_i, ct_r, ct_l, ct_f, ct_n, false_implies, true_implies, y3, y4, y5, y6, y7, y8, y9, y10, y11, y12, y13, y14, y15, a0, nI_1]
        refine ⟨fun c2 => ih (fun j hj => ?_), fun c2 => ?_⟩
        · by_cases e : j = i
          · subst e; exact slF_f2 (A := fun f => gi μ (4 + f)) (mo := gi μ (s + 4)) c2
          · exact q j (by omega)
        · have ht : slF (fun f => gi μ (4 + f)) (gi μ (s + 4)) i = true := slF_t (A := fun f => gi μ (4 + f)) (mo := gi μ (s + 4)) c c2
          rw [anB_t hi ht] at h
          exact h
  refine hZ 400 [2, 30] _ _ _ _ _ _ _ ?_
  simp -implicitDefEqProofs (disch := omega) only [wp_step xX7_isSeenToLean_0, wp_step xX7_isSeenToLean_1, ↓e_getf iX7_isSeenToLean f7_24, ↓e_getf iX7_isSeenToLean f7_65, ↓e_getf iX7_isSeenToLean f7_77, ↓e_virt iX7_isSeenToLean l7_87 iX7_lean, iX7_isSeenToLean, exec1, ↓p1_e, ↓p2_e, ↓q1_e, ↓q2_e, ↓qi_e, ↓pr_e, ↓pa_e, ↓pa_f, ↓pst_e, ↓qst_e, ↓rst_e, ↓pac_e, ↓pargs_0, ↓pargs_s, ↓gfld_0, ↓gfld_1, ↓gfld_2, ↓gfld_3, ↓pfld_i, ↓pfld_l, ↓pfld_r, ↓sfld_i, ↓sfld_l, ↓sfld_r, brI, pushv, rcv, lget, lset, lset2, isL, rok, szs, List.elem_nil, List.elem_cons, cond_true, cond_false, Option.map_some, beq_self_eq_true, Bool.true_and, Bool.and_true, Bool.false_and, Bool.and_false, Bool.or_false, Bool.false_or, Bool.or_true, Bool.true_or, Nat.reduceAdd, Nat.reduceSub, Nat.reduceMul, Nat.reduceBEq, Nat.reduceEqDiff, Nat.reduceLeDiff, Nat.sub_zero, true_and, and_true, false_and, and_false, true_or, or_true, false_or, or_false, reduceCtorEq, ↓reduceIte, List.getD_cons_zero, List.getD_cons_succ, List.length_cons, List.length_nil, ct_i, ct_r, ct_l, ct_f, ct_n, false_implies, true_implies]
  exact loop 0 (by omega) (fun j hj => absurd hj (by omega))
set_option maxRecDepth 100000 in
set_option maxHeartbeats 1000000 in
theorem k_someLeans {nr nb sz n : Nat} (hd : 6 ≤ d) (hW : WM μ nr nb sz n) (h : ∀ μ', Fr pK μ μ' → Q (some (.int (bN (anB (slF (fun f => gi μ (146 + f)) (WGM μ nr nb sz n (gi μ 144 4)).2) nr)))) (LAY v) μ' bc bs) : KC G d mX11_someLeans [.ref 144] (LAY v) μ bc bs Q := by
  obtain ⟨w1, w2, ⟨⟨w3, w4, w5⟩, w6, w7⟩, w8, w9, w10⟩ := id hW
  refine KC_intro 0 0 kX11_someLeans (by decide) (by decide) (Nat.zero_le _) (Nat.zero_le _) (Nat.le_of_ble_eq_true rfl) (fun Z hZ => ?_)
  show Z 0 [some (.ref 144), none] [] (LAY v) μ 0 0
  refine hZ 400 [4, 6] _ _ _ _ _ _ _ ?_
  simp -implicitDefEqProofs (disch := omega) only [wp_step xX11_someLeans_0, wp_step xX11_someLeans_1, wp_step xX11_someLeans_4, wp_step xX11_someLeans_5, ↓e_virt iX11_someLeans l11_381 iX11_laysLeans, ↓e_getf iX11_someLeans f11_13, ↓e_getf iX11_someLeans f11_30, ↓e_getf iX11_someLeans f11_109, iX11_someLeans, exec1, ↓p1_e, ↓p2_e, ↓q1_e, ↓q2_e, ↓qi_e, ↓pr_e, ↓pa_e, ↓pa_f, ↓pst_e, ↓qst_e, ↓rst_e, ↓pac_e, ↓pargs_0, ↓pargs_s, ↓gfld_0, ↓gfld_1, ↓gfld_2, ↓gfld_3, ↓pfld_i, ↓pfld_l, ↓pfld_r, ↓sfld_i, ↓sfld_l, ↓sfld_r, brI, pushv, rcv, lget, lset, lset2, isL, rok, szs, List.elem_nil, List.elem_cons, cond_true, cond_false, Option.map_some, beq_self_eq_true, Bool.true_and, Bool.and_true, Bool.false_and, Bool.and_false, Bool.or_false, Bool.false_or, Bool.or_true, Bool.true_or, Nat.reduceAdd, Nat.reduceSub, Nat.reduceMul, Nat.reduceBEq, Nat.reduceEqDiff, Nat.reduceLeDiff, Nat.sub_zero, true_and, and_true, false_and, and_false, true_or, or_true, false_or, or_false, reduceCtorEq, ↓reduceIte, List.getD_cons_zero, List.getD_cons_succ, List.length_cons, List.length_nil, ct_i, ct_r, ct_l, ct_f, ct_n, false_implies, true_implies, y144]
  refine ⟨by omega, k_laysLeans (by omega) hW (fun μ1 hF hG hl => ?_)⟩
  replace h := h μ1 hF
  have f : ∀ a j, ¬ pK a j → gi μ1 a j = gi μ a j := hF.1
  have hr : gi μ1 144 2 = nI nr := (f _ _ (by unfold pK pN; omega)).trans w1
  have loop : ∀ i, i ≤ nr → ((∀ j, j < i → slF (fun f => gi μ (146 + f)) (WGM μ nr nb sz n (gi μ 144 4)).2 j = false) → Z 6 [some (.ref 144), some (.int (nI i))] [] (LAY v) μ1 0 0) := by
    refine loopN nr (fun q => ?_) (fun i hi ih q => ?_)
    · refine hZ 400 [4, 6] _ _ _ _ _ _ _ ?_
      simp -implicitDefEqProofs (disch := omega) only [wp_step xX11_someLeans_6, wp_step xX11_someLeans_7, wp_step xX11_someLeans_8, wp_step xX11_someLeans_11, wp_step xX11_someLeans_14, wp_step xX11_someLeans_15, wp_step xX11_someLeans_18, wp_step xX11_someLeans_19, wp_step xX11_someLeans_20, wp_step xX11_someLeans_23, wp_step xX11_someLeans_24, wp_step xX11_someLeans_27, wp_step xX11_someLeans_28, wp_step xX11_someLeans_29, wp_step xX11_someLeans_32, wp_step xX11_someLeans_33, wp_step xX11_someLeans_34, wp_step xX11_someLeans_37, wp_step xX11_someLeans_40, wp_step xX11_someLeans_41, ↓e_virt iX11_someLeans l11_381 iX11_laysLeans, ↓e_getf iX11_someLeans f11_13, ↓e_getf iX11_someLeans f11_30, ↓e_getf iX11_someLeans f11_109, iX11_someLeans, exec1, ↓p1_e, ↓p2_e, ↓q1_e, ↓q2_e, ↓qi_e, ↓pr_e, ↓pa_e, ↓pa_f, ↓pst_e, ↓qst_e, ↓rst_e, ↓pac_e, ↓pargs_0, ↓pargs_s, ↓gfld_0, ↓gfld_1, ↓gfld_2, ↓gfld_3, ↓pfld_i, ↓pfld_l, ↓pfld_r, ↓sfld_i, ↓sfld_l, ↓sfld_r, brI, pushv, rcv, lget, lset, lset2, isL, rok, szs, List.elem_nil, List.elem_cons, cond_true, cond_false, Option.map_some, beq_self_eq_true, Bool.true_and, Bool.and_true, Bool.false_and, Bool.and_false, Bool.or_false, Bool.false_or, Bool.or_true, Bool.true_or, Nat.reduceAdd, Nat.reduceSub, Nat.reduceMul, Nat.reduceBEq, Nat.reduceEqDiff, Nat.reduceLeDiff, Nat.sub_zero, true_and, and_true, false_and, and_false, true_or, or_true, false_or, or_false, reduceCtorEq, ↓reduceIte, List.getD_cons_zero, List.getD_cons_succ, List.length_cons, List.length_nil, ct_i, ct_r, ct_l, ct_f, ct_n, false_implies, true_implies, y144, y145, y146, y147, y148, y149, y150, y151, y152, y153, y154, y155, y156, y157, y173, y174, y175, hr, nle_t (show nr < 2 ^ 31 by omega), not_false_eq_true, true_implies, false_implies, and_true, true_and, not_true_eq_false]
      rw [anB_f q] at h
      exact h
    · have hv : vp_in (nI i) 10 := vin (by omega) (by omega)
      have g3 : gi μ1 149 i = gi μ 149 i := f _ _ (by unfold pK pN; omega)
      have gn := hl i hi
      refine hZ 400 [4, 6] _ _ _ _ _ _ _ ?_
      simp -implicitDefEqProofs (disch := omega) only [wp_step xX11_someLeans_6, wp_step xX11_someLeans_7, wp_step xX11_someLeans_8, wp_step xX11_someLeans_11, wp_step xX11_someLeans_14, wp_step xX11_someLeans_15, wp_step xX11_someLeans_18, wp_step xX11_someLeans_19, wp_step xX11_someLeans_20, wp_step xX11_someLeans_23, wp_step xX11_someLeans_24, wp_step xX11_someLeans_27, wp_step xX11_someLeans_28, wp_step xX11_someLeans_29, wp_step xX11_someLeans_32, wp_step xX11_someLeans_33, wp_step xX11_someLeans_34, wp_step xX11_someLeans_37, wp_step xX11_someLeans_40, wp_step xX11_someLeans_41, ↓e_virt iX11_someLeans l11_381 iX11_laysLeans, ↓e_getf iX11_someLeans f11_13, ↓e_getf iX11_someLeans f11_30, ↓e_getf iX11_someLeans f11_109, iX11_someLeans, exec1, ↓p1_e, ↓p2_e, ↓q1_e, ↓q2_e, ↓qi_e, ↓pr_e, ↓pa_e, ↓pa_f, ↓pst_e, ↓qst_e, ↓rst_e, ↓pac_e, ↓pargs_0, ↓pargs_s, ↓gfld_0, ↓gfld_1, ↓gfld_2, ↓gfld_3, ↓pfld_i, ↓pfld_l, ↓pfld_r, ↓sfld_i, ↓sfld_l, ↓sfld_r, brI, pushv, rcv, lget, lset, lset2, isL, rok, szs, List.elem_nil, List.elem_cons, cond_true, cond_false, Option.map_some, beq_self_eq_true, Bool.true_and, Bool.and_true, Bool.false_and, Bool.and_false, Bool.or_false, Bool.false_or, Bool.or_true, Bool.true_or, Nat.reduceAdd, Nat.reduceSub, Nat.reduceMul, Nat.reduceBEq, Nat.reduceEqDiff, Nat.reduceLeDiff, Nat.sub_zero, true_and, and_true, false_and, and_false, true_or, or_true, false_or, or_false, reduceCtorEq, ↓reduceIte, List.getD_cons_zero, List.getD_cons_succ, List.length_cons, List.length_nil, ct_i, ct_r, ct_l, ct_f, ct_n, false_implies, true_implies, y144, y145, y146, y147, y148, y149, y150, y151, y152, y153, y154, y155, y156, y157, y173, y174, y175, hr, nle_f hi (show nr < 2 ^ 31 by omega), nI_clamp, hv, g3, gn, not_false_eq_true, true_implies, false_implies, and_true, true_and, not_true_eq_false, nI_1]
      refine ⟨fun c => ih (fun j hj => ?_), fun c => ⟨fun c2 => ih (fun j hj => ?_), fun c2 => ?_⟩⟩
      · by_cases e : j = i
        · subst e; exact slF_f1 (A := fun f => gi μ (146 + f)) c
        · exact q j (by omega)
      · by_cases e : j = i
        · subst e; exact slF_f2 (A := fun f => gi μ (146 + f)) (mo := (WGM μ nr nb sz n (gi μ 144 4)).2) c2
        · exact q j (by omega)
      · have ht : slF (fun f => gi μ (146 + f)) (WGM μ nr nb sz n (gi μ 144 4)).2 i = true := slF_t (A := fun f => gi μ (146 + f)) (mo := (WGM μ nr nb sz n (gi μ 144 4)).2) c c2
        rw [anB_t hi ht] at h
        exact h
  refine hZ 400 [4, 6] _ _ _ _ _ _ _ ?_
  simp -implicitDefEqProofs (disch := omega) only [wp_step xX11_someLeans_4, wp_step xX11_someLeans_5, ↓e_virt iX11_someLeans l11_381 iX11_laysLeans, ↓e_getf iX11_someLeans f11_13, ↓e_getf iX11_someLeans f11_30, ↓e_getf iX11_someLeans f11_109, iX11_someLeans, exec1, ↓p1_e, ↓p2_e, ↓q1_e, ↓q2_e, ↓qi_e, ↓pr_e, ↓pa_e, ↓pa_f, ↓pst_e, ↓qst_e, ↓rst_e, ↓pac_e, ↓pargs_0, ↓pargs_s, ↓gfld_0, ↓gfld_1, ↓gfld_2, ↓gfld_3, ↓pfld_i, ↓pfld_l, ↓pfld_r, ↓sfld_i, ↓sfld_l, ↓sfld_r, brI, pushv, rcv, lget, lset, lset2, isL, rok, szs, List.elem_nil, List.elem_cons, cond_true, cond_false, Option.map_some, beq_self_eq_true, Bool.true_and, Bool.and_true, Bool.false_and, Bool.and_false, Bool.or_false, Bool.false_or, Bool.or_true, Bool.true_or, Nat.reduceAdd, Nat.reduceSub, Nat.reduceMul, Nat.reduceBEq, Nat.reduceEqDiff, Nat.reduceLeDiff, Nat.sub_zero, true_and, and_true, false_and, and_false, true_or, or_true, false_or, or_false, reduceCtorEq, ↓reduceIte, List.getD_cons_zero, List.getD_cons_succ, List.length_cons, List.length_nil, ct_i, ct_r, ct_l, ct_f, ct_n, false_implies, true_implies]
  exact loop 0 (by omega) (fun j hj => absurd hj (by omega))
set_option maxRecDepth 100000 in
set_option maxHeartbeats 1000000 in
theorem k_draw {a : Int32} {nr nb sz n : Nat} (hd : 5 ≤ d) (hW : WC μ nr nb sz n) (h0 : ¬ (1 ≤ a ∧ a ≤ 60) → Q (some (.int (-1))) (LAY v) μ bc bs) (h1 : ∀ k, 1 ≤ k → k ≤ 60 → a = nI k → ∀ μ', Fr pD μ μ' → gi μ' 3 15 = xN (gi μ 3 15) k → gi μ' 3 14 = drW (xN (gi μ 3 15) k) → Q (some (.int (cN (fun w => anB (slF (fun f => gi μ (4 + f)) (WGC μ nr nb sz n w).2) nr) (gi μ 3 15) k))) (LAY v) μ' bc bs) : KC G d mX10_draw [.ref 0, .int a] (LAY v) μ bc bs Q := by
  obtain ⟨w1, w2, ⟨⟨w3, w4, w5⟩, w6, w7⟩, w8, w9, w10⟩ := id hW
  refine KC_intro 0 0 kX10_draw (by decide) (by decide) (Nat.zero_le _) (Nat.zero_le _) (Nat.le_of_ble_eq_true rfl) (fun Z hZ => ?_)
  show Z 0 [some (.ref 0), some (.int a), none, none] [] (LAY v) μ 0 0
  refine hZ 400 [7, 16, 81, 88] _ _ _ _ _ _ _ ?_
  simp -implicitDefEqProofs (disch := omega) only [wp_step xX10_draw_0, wp_step xX10_draw_1, wp_step xX10_draw_2, wp_step xX10_draw_4, wp_step xX10_draw_7, wp_step xX10_draw_10, wp_step xX10_draw_11, wp_step xX10_draw_12, wp_step xX10_draw_13, wp_step xX10_draw_14, wp_step xX10_draw_15, ↓e_static iX10_draw jn10_110 l10_110 iX10_within, ↓e_getf iX10_draw f10_19, ↓e_getf iX10_draw f10_96, c10_338, ↓e_putf iX10_draw f10_96, ↓e_putf iX10_draw f10_137, ↓e_getf iX10_draw f10_47, ↓e_getf iX10_draw f10_137, ↓e_virt iX10_draw l10_169 iX7_weigh, ↓e_virt iX10_draw l10_339 iX7_isSeenToLean, iX10_draw, exec1, ↓p1_e, ↓p2_e, ↓q1_e, ↓q2_e, ↓qi_e, ↓pr_e, ↓pa_e, ↓pa_f, ↓pst_e, ↓qst_e, ↓rst_e, ↓pac_e, ↓pargs_0, ↓pargs_s, ↓gfld_0, ↓gfld_1, ↓gfld_2, ↓gfld_3, ↓pfld_i, ↓pfld_l, ↓pfld_r, ↓sfld_i, ↓sfld_l, ↓sfld_r, brI, pushv, rcv, lget, lset, lset2, isL, rok, szs, List.elem_nil, List.elem_cons, cond_true, cond_false, Option.map_some, beq_self_eq_true, Bool.true_and, Bool.and_true, Bool.false_and, Bool.and_false, Bool.or_false, Bool.false_or, Bool.or_true, Bool.true_or, Nat.reduceAdd, Nat.reduceSub, Nat.reduceMul, Nat.reduceBEq, Nat.reduceEqDiff, Nat.reduceLeDiff, Nat.sub_zero, true_and, and_true, false_and, and_false, true_or, or_true, false_or, or_false, reduceCtorEq, ↓reduceIte, List.getD_cons_zero, List.getD_cons_succ, List.length_cons, List.length_nil, ct_i, ct_r, ct_l, ct_f, ct_n, false_implies, true_implies]
  refine ⟨by omega, k_within ?_⟩
  refine hZ 400 [7, 16, 81, 88] _ _ _ _ _ _ _ ?_
  simp -implicitDefEqProofs (disch := omega) only [wp_step xX10_draw_0, wp_step xX10_draw_1, wp_step xX10_draw_2, wp_step xX10_draw_4, wp_step xX10_draw_7, wp_step xX10_draw_10, wp_step xX10_draw_11, wp_step xX10_draw_12, wp_step xX10_draw_13, wp_step xX10_draw_14, wp_step xX10_draw_15, ↓e_static iX10_draw jn10_110 l10_110 iX10_within, ↓e_getf iX10_draw f10_19, ↓e_getf iX10_draw f10_96, c10_338, ↓e_putf iX10_draw f10_96, ↓e_putf iX10_draw f10_137, ↓e_getf iX10_draw f10_47, ↓e_getf iX10_draw f10_137, ↓e_virt iX10_draw l10_169 iX7_weigh, ↓e_virt iX10_draw l10_339 iX7_isSeenToLean, iX10_draw, exec1, ↓p1_e, ↓p2_e, ↓q1_e, ↓q2_e, ↓qi_e, ↓pr_e, ↓pa_e, ↓pa_f, ↓pst_e, ↓qst_e, ↓rst_e, ↓pac_e, ↓pargs_0, ↓pargs_s, ↓gfld_0, ↓gfld_1, ↓gfld_2, ↓gfld_3, ↓pfld_i, ↓pfld_l, ↓pfld_r, ↓sfld_i, ↓sfld_l, ↓sfld_r, brI, pushv, rcv, lget, lset, lset2, isL, rok, szs, List.elem_nil, List.elem_cons, cond_true, cond_false, Option.map_some, beq_self_eq_true, Bool.true_and, Bool.and_true, Bool.false_and, Bool.and_false, Bool.or_false, Bool.false_or, Bool.or_true, Bool.true_or, Nat.reduceAdd, Nat.reduceSub, Nat.reduceMul, Nat.reduceBEq, Nat.reduceEqDiff, Nat.reduceLeDiff, Nat.sub_zero, true_and, and_true, false_and, and_false, true_or, or_true, false_or, or_false, reduceCtorEq, ↓reduceIte, List.getD_cons_zero, List.getD_cons_succ, List.length_cons, List.length_nil, ct_i, ct_r, ct_l, ct_f, ct_n, false_implies, true_implies, bI_0, Decidable.not_not]
  refine ⟨fun c => ?_, h0⟩
  obtain ⟨k, hk0, rfl⟩ := ofN (Int32.le_trans (by decide) c.1)
  have hk1 : 1 ≤ k := (nI_leI (a := 1) (by omega) (by omega)).mp c.1
  have hk : k ≤ 60 := (nI_leI (b := 60) (by omega) (by omega)).mp c.2
  have loop : ∀ i, i ≤ k → (∀ μ1, Fr pD μ μ1 → gi μ1 3 15 = xN (gi μ 3 15) i → (0 < i → gi μ1 3 14 = drW (xN (gi μ 3 15) i)) → Z 16 [some (.ref 0), some (.int (nI k)), some (.int (cN (fun w => anB (slF (fun f => gi μ (4 + f)) (WGC μ nr nb sz n w).2) nr) (gi μ 3 15) i)), some (.int (nI i))] [] (LAY v) μ1 0 0) := by
    refine loopN k (fun μ1 hF e1 e2 => ?_) (fun i hi ih μ1 hF e1 e2 => ?_)
    · refine hZ 400 [7, 16, 81, 88] _ _ _ _ _ _ _ ?_
      simp -implicitDefEqProofs (disch := omega) only [wp_step xX10_draw_16, wp_step xX10_draw_17, wp_step xX10_draw_18, wp_step xX10_draw_21, wp_step xX10_draw_22, wp_step xX10_draw_25, wp_step xX10_draw_28, wp_step xX10_draw_29, wp_step xX10_draw_32, wp_step xX10_draw_35, wp_step xX10_draw_36, wp_step xX10_draw_39, wp_step xX10_draw_40, wp_step xX10_draw_43, wp_step xX10_draw_44, wp_step xX10_draw_47, wp_step xX10_draw_48, wp_step xX10_draw_51, wp_step xX10_draw_52, wp_step xX10_draw_55, wp_step xX10_draw_58, wp_step xX10_draw_60, wp_step xX10_draw_61, wp_step xX10_draw_63, wp_step xX10_draw_64, wp_step xX10_draw_67, wp_step xX10_draw_68, wp_step xX10_draw_71, wp_step xX10_draw_72, wp_step xX10_draw_75, wp_step xX10_draw_78, wp_step xX10_draw_81, wp_step xX10_draw_82, wp_step xX10_draw_85, wp_step xX10_draw_88, wp_step xX10_draw_91, wp_step xX10_draw_94, wp_step xX10_draw_97, wp_step xX10_draw_100, wp_step xX10_draw_101, ↓e_static iX10_draw jn10_110 l10_110 iX10_within, ↓e_getf iX10_draw f10_19, ↓e_getf iX10_draw f10_96, c10_338, ↓e_putf iX10_draw f10_96, ↓e_putf iX10_draw f10_137, ↓e_getf iX10_draw f10_47, ↓e_getf iX10_draw f10_137, ↓e_virt iX10_draw l10_169 iX7_weigh, ↓e_virt iX10_draw l10_339 iX7_isSeenToLean, iX10_draw, exec1, ↓p1_e, ↓p2_e, ↓q1_e, ↓q2_e, ↓qi_e, ↓pr_e, ↓pa_e, ↓pa_f, ↓pst_e, ↓qst_e, ↓rst_e, ↓pac_e, ↓pargs_0, ↓pargs_s, ↓gfld_0, ↓gfld_1, ↓gfld_2, ↓gfld_3, ↓pfld_i, ↓pfld_l, ↓pfld_r, ↓sfld_i, ↓sfld_l, ↓sfld_r, brI, pushv, rcv, lget, lset, lset2, isL, rok, szs, List.elem_nil, List.elem_cons, cond_true, cond_false, Option.map_some, beq_self_eq_true, Bool.true_and, Bool.and_true, Bool.false_and, Bool.and_false, Bool.or_false, Bool.false_or, Bool.or_true, Bool.true_or, Nat.reduceAdd, Nat.reduceSub, Nat.reduceMul, Nat.reduceBEq, Nat.reduceEqDiff, Nat.reduceLeDiff, Nat.sub_zero, true_and, and_true, false_and, and_false, true_or, or_true, false_or, or_false, reduceCtorEq, ↓reduceIte, List.getD_cons_zero, List.getD_cons_succ, List.length_cons, List.length_nil, ct_i, ct_r, ct_l, ct_f, ct_n, false_implies, true_implies, y0, y1, y2, y3, y4, y5, y6, y7, y8, y9, y10, y11, y12, y13, y14, y15, y46, y47, y48, y49, y50, nle_t (show k < 2 ^ 31 by omega), not_false_eq_true, true_implies, false_implies, and_true, true_and, not_true_eq_false]
      exact h1 k hk1 hk rfl μ1 hF e1 (e2 (by omega))
    · refine hZ 400 [7, 16, 81, 88] _ _ _ _ _ _ _ ?_
      simp -implicitDefEqProofs (disch := omega) only [wp_step xX10_draw_16, wp_step xX10_draw_17, wp_step xX10_draw_18, wp_step xX10_draw_21, wp_step xX10_draw_22, wp_step xX10_draw_25, wp_step xX10_draw_28, wp_step xX10_draw_29, wp_step xX10_draw_32, wp_step xX10_draw_35, wp_step xX10_draw_36, wp_step xX10_draw_39, wp_step xX10_draw_40, wp_step xX10_draw_43, wp_step xX10_draw_44, wp_step xX10_draw_47, wp_step xX10_draw_48, wp_step xX10_draw_51, wp_step xX10_draw_52, wp_step xX10_draw_55, wp_step xX10_draw_58, wp_step xX10_draw_60, wp_step xX10_draw_61, wp_step xX10_draw_63, wp_step xX10_draw_64, wp_step xX10_draw_67, wp_step xX10_draw_68, wp_step xX10_draw_71, wp_step xX10_draw_72, wp_step xX10_draw_75, wp_step xX10_draw_78, wp_step xX10_draw_81, wp_step xX10_draw_82, wp_step xX10_draw_85, wp_step xX10_draw_88, wp_step xX10_draw_91, wp_step xX10_draw_94, wp_step xX10_draw_97, wp_step xX10_draw_100, wp_step xX10_draw_101, ↓e_static iX10_draw jn10_110 l10_110 iX10_within, ↓e_getf iX10_draw f10_19, ↓e_getf iX10_draw f10_96, c10_338, ↓e_putf iX10_draw f10_96, ↓e_putf iX10_draw f10_137, ↓e_getf iX10_draw f10_47, ↓e_getf iX10_draw f10_137, ↓e_virt iX10_draw l10_169 iX7_weigh, ↓e_virt iX10_draw l10_339 iX7_isSeenToLean, iX10_draw, exec1, ↓p1_e, ↓p2_e, ↓q1_e, ↓q2_e, ↓qi_e, ↓pr_e, ↓pa_e, ↓pa_f, ↓pst_e, ↓qst_e, ↓rst_e, ↓pac_e, ↓pargs_0, ↓pargs_s, ↓gfld_0, ↓gfld_1, ↓gfld_2, ↓gfld_3, ↓pfld_i, ↓pfld_l, ↓pfld_r, ↓sfld_i, ↓sfld_l, ↓sfld_r, brI, pushv, rcv, lget, lset, lset2, isL, rok, szs, List.elem_nil, List.elem_cons, cond_true, cond_false, Option.map_some, beq_self_eq_true, Bool.true_and, Bool.and_true, Bool.false_and, Bool.and_false, Bool.or_false, Bool.false_or, Bool.or_true, Bool.true_or, Nat.reduceAdd, Nat.reduceSub, Nat.reduceMul, Nat.reduceBEq, Nat.reduceEqDiff, Nat.reduceLeDiff, Nat.sub_zero, true_and, and_true, false_and, and_false, true_or, or_true, false_or, or_false, reduceCtorEq, ↓reduceIte, List.getD_cons_zero, List.getD_cons_succ, List.length_cons, List.length_nil, ct_i, ct_r, ct_l, ct_f, ct_n, false_implies, true_implies, y0, y1, y2, y3, y4, y5, y6, y7, y8, y9, y10, y11, y12, y13, y14, y15, y46, y47, y48, y49, y50, nle_f hi (show k < 2 ^ 31 by omega), not_false_eq_true, true_implies, false_implies, and_true, true_and, not_true_eq_false]
      refine ⟨by decide, by omega, ?_⟩
      simp only [gi_si, e1]
      rw [show 25173 * xN (gi μ 3 15) i + 13849 &&& 65535 = xN (gi μ 3 15) (i + 1) from rfl, show xN (gi μ 3 15) (i + 1) - xN (gi μ 3 15) (i + 1) / 19 * 19 - 9 = drW (xN (gi μ 3 15) (i + 1)) from rfl]
      have hF1 : Fr pD μ (si (si μ1 3 15 (xN (gi μ 3 15) (i + 1))) 3 14 (drW (xN (gi μ 3 15) (i + 1)))) := (hF.si (by unfold pD; omega)).si (by unfold pD; omega)
      have hx1 : gi (si (si μ1 3 15 (xN (gi μ 3 15) (i + 1))) 3 14 (drW (xN (gi μ 3 15) (i + 1)))) 3 15 = xN (gi μ 3 15) (i + 1) := by rw [gi_si_k (by omega), gi_si]
      have hw1 : gi (si (si μ1 3 15 (xN (gi μ 3 15) (i + 1))) 3 14 (drW (xN (gi μ 3 15) (i + 1)))) 3 14 = drW (xN (gi μ 3 15) (i + 1)) := gi_si
      have hc : cN (fun w => anB (slF (fun f => gi μ (4 + f)) (WGC μ nr nb sz n w).2) nr) (gi μ 3 15) (i + 1) = cN (fun w => anB (slF (fun f => gi μ (4 + f)) (WGC μ nr nb sz n w).2) nr) (gi μ 3 15) i + bN (anB (slF (fun f => gi μ (4 + f)) (WGC μ nr nb sz n (drW (xN (gi μ 3 15) (i + 1)))).2) nr) := rfl
      rw [hc] at ih
      generalize hcc : cN (fun w => anB (slF (fun f => gi μ (4 + f)) (WGC μ nr nb sz n w).2) nr) (gi μ 3 15) i = cc at ih ⊢
      generalize si (si μ1 3 15 (xN (gi μ 3 15) (i + 1))) 3 14 (drW (xN (gi μ 3 15) (i + 1))) = μ2 at hF1 hx1 hw1 ⊢
      generalize hxx : xN (gi μ 3 15) (i + 1) = x1 at hx1 hw1 ih ⊢
      refine k_weigh (by omega) ScAt.main (hW.fr2 hF1 pD_Lo) (fun μ3 hF3 hG => ?_)
      have hF13 : Fr pD μ μ3 := hF1.trans (hF3.mono (fun a j z => Or.inl z))
      have hr3 : gi μ3 3 12 = nI nr := (hF13.1 _ _ (by unfold pD pS pL; omega)).trans w1
      refine hZ 400 [7, 16, 81, 88] _ _ _ _ _ _ _ ?_
      simp -implicitDefEqProofs (disch := omega) only [wp_step xX10_draw_81, wp_step xX10_draw_82, wp_step xX10_draw_85, ↓e_static iX10_draw jn10_110 l10_110 iX10_within, ↓e_getf iX10_draw f10_19, ↓e_getf iX10_draw f10_96, c10_338, ↓e_putf iX10_draw f10_96, ↓e_putf iX10_draw f10_137, ↓e_getf iX10_draw f10_47, ↓e_getf iX10_draw f10_137, ↓e_virt iX10_draw l10_169 iX7_weigh, ↓e_virt iX10_draw l10_339 iX7_isSeenToLean, iX10_draw, exec1, ↓p1_e, ↓p2_e, ↓q1_e, ↓q2_e, ↓qi_e, ↓pr_e, ↓pa_e, ↓pa_f, ↓pst_e, ↓qst_e, ↓rst_e, ↓pac_e, ↓pargs_0, ↓pargs_s, ↓gfld_0, ↓gfld_1, ↓gfld_2, ↓gfld_3, ↓pfld_i, ↓pfld_l, ↓pfld_r, ↓sfld_i, ↓sfld_l, ↓sfld_r, brI, pushv, rcv, lget, lset, lset2, isL, rok, szs, List.elem_nil, List.elem_cons, cond_true, cond_false, Option.map_some, beq_self_eq_true, Bool.true_and, Bool.and_true, Bool.false_and, Bool.and_false, Bool.or_false, Bool.false_or, Bool.or_true, Bool.true_or, Nat.reduceAdd, Nat.reduceSub, Nat.reduceMul, Nat.reduceBEq, Nat.reduceEqDiff, Nat.reduceLeDiff, Nat.sub_zero, true_and, and_true, false_and, and_false, true_or, or_true, false_or, or_false, reduceCtorEq, ↓reduceIte, List.getD_cons_zero, List.getD_cons_succ, List.length_cons, List.length_nil, ct_i, ct_r, ct_l, ct_f, ct_n, false_implies, true_implies, y0, y1, y2, y3, y4, y5, y6, y7, y8, y9, y10, y11, y12, y13, y14, y15, y46, y47, y48, y49, y50]
      refine ⟨by omega, k_seenLean (by omega) ScAt.main hr3 w4 ?_⟩
      have es : anB (slF (fun f => gi μ3 (4 + f)) (gi μ3 (46 + 4))) nr = anB (slF (fun f => gi μ (4 + f)) (WGC μ nr nb sz n (drW x1)).2) nr := anB_cong (fun r hr => by
        have g1 : gi μ3 7 r = gi μ 7 r := hF13.1 _ _ (by unfold pD pS pL; omega)
        have g2 : gi μ3 6 r = gi μ 6 r := hF13.1 _ _ (by unfold pD pS pL; omega)
        have g3 : gi μ3 50 r = (WGC μ nr nb sz n (drW x1)).2 r := (hG.2.1 r hr).trans (congrArg (fun q => q.2 r) (WGC_fr2 (w := drW x1) hF1 pD_Lo))
        show (!decide (gi μ3 7 r = 0) && !decide (lnV (gi μ3 50 r) (gi μ3 6 r) = 0)) = (!decide (gi μ 7 r = 0) && !decide (lnV ((WGC μ nr nb sz n (drW x1)).2 r) (gi μ 6 r) = 0))
        rw [g1, g2, g3])
      rw [es]
      have q1 : gi μ3 3 15 = x1 := (hF3.1 _ _ (by unfold pS pL; omega)).trans hx1
      have q2 : gi μ3 3 14 = drW x1 := (hF3.1 _ _ (by unfold pS pL; omega)).trans hw1
      have fin := ih μ3 hF13 q1 (fun _ => q2)
      refine hZ 400 [7, 16, 81, 88] _ _ _ _ _ _ _ ?_
      simp -implicitDefEqProofs (disch := omega) only [wp_step xX10_draw_88, wp_step xX10_draw_91, wp_step xX10_draw_94, wp_step xX10_draw_97, ↓e_static iX10_draw jn10_110 l10_110 iX10_within, ↓e_getf iX10_draw f10_19, ↓e_getf iX10_draw f10_96, c10_338, ↓e_putf iX10_draw f10_96, ↓e_putf iX10_draw f10_137, ↓e_getf iX10_draw f10_47, ↓e_getf iX10_draw f10_137, ↓e_virt iX10_draw l10_169 iX7_weigh, ↓e_virt iX10_draw l10_339 iX7_isSeenToLean, iX10_draw, exec1, ↓p1_e, ↓p2_e, ↓q1_e, ↓q2_e, ↓qi_e, ↓pr_e, ↓pa_e, ↓pa_f, ↓pst_e, ↓qst_e, ↓rst_e, ↓pac_e, ↓pargs_0, ↓pargs_s, ↓gfld_0, ↓gfld_1, ↓gfld_2, ↓gfld_3, ↓pfld_i, ↓pfld_l, ↓pfld_r, ↓sfld_i, ↓sfld_l, ↓sfld_r, brI, pushv, rcv, lget, lset, lset2, isL, rok, szs, List.elem_nil, List.elem_cons, cond_true, cond_false, Option.map_some, beq_self_eq_true, Bool.true_and, Bool.and_true, Bool.false_and, Bool.and_false, Bool.or_false, Bool.false_or, Bool.or_true, Bool.true_or, Nat.reduceAdd, Nat.reduceSub, Nat.reduceMul, Nat.reduceBEq, Nat.reduceEqDiff, Nat.reduceLeDiff, Nat.sub_zero, true_and, and_true, false_and, and_false, true_or, or_true, false_or, or_false, reduceCtorEq, ↓reduceIte, List.getD_cons_zero, List.getD_cons_succ, List.length_cons, List.length_nil, ct_i, ct_r, ct_l, ct_f, ct_n, false_implies, true_implies, bN_0, nI_1]
      refine ⟨fun z => ?_, fun z => ?_⟩
      · rw [z, show cc + bN false = cc from Int32.add_zero _] at fin; exact fin
      · rw [btr z] at fin; exact fin
  exact loop 0 (by omega) μ Fr.rf rfl (fun z => absurd z (by omega))
set_option maxRecDepth 100000 in
set_option maxHeartbeats 1000000 in
theorem k_mDraw {a : Int32} {nr nb sz n : Nat} (hd : 7 ≤ d) (hW : WM μ nr nb sz n) (hx : 0 ≤ (gi μ 144 5) ∧ (gi μ 144 5) ≤ 65535) (h0 : ¬ (1 ≤ a ∧ a ≤ 60) → Q (some (.int (-1))) (LAY v) μ bc bs) (h1 : ∀ k, 1 ≤ k → k ≤ 60 → a = nI k → ∀ μ', Fr pE μ μ' → gi μ' 144 5 = xN (gi μ 144 5) k → gi μ' 144 4 = drW (xN (gi μ 144 5) k) → Q (some (.int (cN (fun w => anB (slF (fun f => gi μ (146 + f)) (WGM μ nr nb sz n w).2) nr) (gi μ 144 5) k))) (LAY v) μ' bc bs) : KC G d mX11_draw [.ref 144, .int a] (LAY v) μ bc bs Q := by
  obtain ⟨w1, w2, ⟨⟨w3, w4, w5⟩, w6, w7⟩, w8, w9, w10⟩ := id hW
  refine KC_intro 0 0 kX11_draw (by decide) (by decide) (Nat.zero_le _) (Nat.zero_le _) (Nat.le_of_ble_eq_true rfl) (fun Z hZ => ?_)
  show Z 0 [some (.ref 144), some (.int a), none, none] [] (LAY v) μ 0 0
  refine hZ 400 [9, 18, 62] _ _ _ _ _ _ _ ?_
  simp -implicitDefEqProofs (disch := omega) only [wp_step xX11_draw_0, wp_step xX11_draw_1, wp_step xX11_draw_2, wp_step xX11_draw_3, wp_step xX11_draw_6, wp_step xX11_draw_9, wp_step xX11_draw_12, wp_step xX11_draw_13, wp_step xX11_draw_14, wp_step xX11_draw_15, wp_step xX11_draw_16, wp_step xX11_draw_17, q11_513, ↓e_static iX11_draw jn11_203 l11_203 iX11_lies, ↓e_getf iX11_draw f11_17, c11_515, ↓e_putf iX11_draw f11_17, ↓e_putf iX11_draw f11_234, ↓e_virt iX11_draw l11_516 iX11_someLeans, iX11_draw, exec1, ↓p1_e, ↓p2_e, ↓q1_e, ↓q2_e, ↓qi_e, ↓pr_e, ↓pa_e, ↓pa_f, ↓pst_e, ↓qst_e, ↓rst_e, ↓pac_e, ↓pargs_0, ↓pargs_s, ↓gfld_0, ↓gfld_1, ↓gfld_2, ↓gfld_3, ↓pfld_i, ↓pfld_l, ↓pfld_r, ↓sfld_i, ↓sfld_l, ↓sfld_r, brI, pushv, rcv, lget, lset, lset2, isL, rok, szs, List.elem_nil, List.elem_cons, cond_true, cond_false, Option.map_some, beq_self_eq_true, Bool.true_and, Bool.and_true, Bool.false_and, Bool.and_false, Bool.or_false, Bool.false_or, Bool.or_true, Bool.true_or, Nat.reduceAdd, Nat.reduceSub, Nat.reduceMul, Nat.reduceBEq, Nat.reduceEqDiff, Nat.reduceLeDiff, Nat.sub_zero, true_and, and_true, false_and, and_false, true_or, or_true, false_or, or_false, reduceCtorEq, ↓reduceIte, List.getD_cons_zero, List.getD_cons_succ, List.length_cons, List.length_nil, ct_i, ct_r, ct_l, ct_f, ct_n, false_implies, true_implies, y144, lc1]
  refine ⟨by omega, k_lies ?_⟩
  simp only [w_lo (c := 1) (c' := 1) (by decide +kernel), w_hi (c := 60) (c' := 60) (by decide +kernel)]
  refine hZ 400 [9, 18, 62] _ _ _ _ _ _ _ ?_
  simp -implicitDefEqProofs (disch := omega) only [wp_step xX11_draw_0, wp_step xX11_draw_1, wp_step xX11_draw_2, wp_step xX11_draw_3, wp_step xX11_draw_6, wp_step xX11_draw_9, wp_step xX11_draw_12, wp_step xX11_draw_13, wp_step xX11_draw_14, wp_step xX11_draw_15, wp_step xX11_draw_16, wp_step xX11_draw_17, q11_513, ↓e_static iX11_draw jn11_203 l11_203 iX11_lies, ↓e_getf iX11_draw f11_17, c11_515, ↓e_putf iX11_draw f11_17, ↓e_putf iX11_draw f11_234, ↓e_virt iX11_draw l11_516 iX11_someLeans, iX11_draw, exec1, ↓p1_e, ↓p2_e, ↓q1_e, ↓q2_e, ↓qi_e, ↓pr_e, ↓pa_e, ↓pa_f, ↓pst_e, ↓qst_e, ↓rst_e, ↓pac_e, ↓pargs_0, ↓pargs_s, ↓gfld_0, ↓gfld_1, ↓gfld_2, ↓gfld_3, ↓pfld_i, ↓pfld_l, ↓pfld_r, ↓sfld_i, ↓sfld_l, ↓sfld_r, brI, pushv, rcv, lget, lset, lset2, isL, rok, szs, List.elem_nil, List.elem_cons, cond_true, cond_false, Option.map_some, beq_self_eq_true, Bool.true_and, Bool.and_true, Bool.false_and, Bool.and_false, Bool.or_false, Bool.false_or, Bool.or_true, Bool.true_or, Nat.reduceAdd, Nat.reduceSub, Nat.reduceMul, Nat.reduceBEq, Nat.reduceEqDiff, Nat.reduceLeDiff, Nat.sub_zero, true_and, and_true, false_and, and_false, true_or, or_true, false_or, or_false, reduceCtorEq, ↓reduceIte, List.getD_cons_zero, List.getD_cons_succ, List.length_cons, List.length_nil, ct_i, ct_r, ct_l, ct_f, ct_n, false_implies, true_implies, y144, bI_0, Decidable.not_not]
  refine ⟨fun c => ?_, h0⟩
  obtain ⟨k, hk0, rfl⟩ := ofN (Int32.le_trans (by decide) c.1)
  have hk1 : 1 ≤ k := (nI_leI (a := 1) (by omega) (by omega)).mp c.1
  have hk : k ≤ 60 := (nI_leI (b := 60) (by omega) (by omega)).mp c.2
  have loop : ∀ i, i ≤ k → (∀ μ1, Fr pE μ μ1 → gi μ1 144 5 = xN (gi μ 144 5) i → (0 < i → gi μ1 144 4 = drW (xN (gi μ 144 5) i)) → Z 18 [some (.ref 144), some (.int (nI k)), some (.int (cN (fun w => anB (slF (fun f => gi μ (146 + f)) (WGM μ nr nb sz n w).2) nr) (gi μ 144 5) i)), some (.int (nI i))] [] (LAY v) μ1 0 0) := by
    refine loopN k (fun μ1 hF e1 e2 => ?_) (fun i hi ih μ1 hF e1 e2 => ?_)
    · refine hZ 400 [9, 18, 62] _ _ _ _ _ _ _ ?_
      simp -implicitDefEqProofs (disch := omega) only [wp_step xX11_draw_18, wp_step xX11_draw_19, wp_step xX11_draw_20, wp_step xX11_draw_23, wp_step xX11_draw_24, wp_step xX11_draw_27, wp_step xX11_draw_28, wp_step xX11_draw_31, wp_step xX11_draw_32, wp_step xX11_draw_35, wp_step xX11_draw_36, wp_step xX11_draw_39, wp_step xX11_draw_40, wp_step xX11_draw_43, wp_step xX11_draw_44, wp_step xX11_draw_45, wp_step xX11_draw_48, wp_step xX11_draw_50, wp_step xX11_draw_51, wp_step xX11_draw_53, wp_step xX11_draw_54, wp_step xX11_draw_57, wp_step xX11_draw_58, wp_step xX11_draw_59, wp_step xX11_draw_62, wp_step xX11_draw_65, wp_step xX11_draw_66, wp_step xX11_draw_69, wp_step xX11_draw_70, wp_step xX11_draw_71, wp_step xX11_draw_72, wp_step xX11_draw_75, wp_step xX11_draw_78, wp_step xX11_draw_79, q11_513, ↓e_static iX11_draw jn11_203 l11_203 iX11_lies, ↓e_getf iX11_draw f11_17, c11_515, ↓e_putf iX11_draw f11_17, ↓e_putf iX11_draw f11_234, ↓e_virt iX11_draw l11_516 iX11_someLeans, iX11_draw, exec1, ↓p1_e, ↓p2_e, ↓q1_e, ↓q2_e, ↓qi_e, ↓pr_e, ↓pa_e, ↓pa_f, ↓pst_e, ↓qst_e, ↓rst_e, ↓pac_e, ↓pargs_0, ↓pargs_s, ↓gfld_0, ↓gfld_1, ↓gfld_2, ↓gfld_3, ↓pfld_i, ↓pfld_l, ↓pfld_r, ↓sfld_i, ↓sfld_l, ↓sfld_r, brI, pushv, rcv, lget, lset, lset2, isL, rok, szs, List.elem_nil, List.elem_cons, cond_true, cond_false, Option.map_some, beq_self_eq_true, Bool.true_and, Bool.and_true, Bool.false_and, Bool.and_false, Bool.or_false, Bool.false_or, Bool.or_true, Bool.true_or, Nat.reduceAdd, Nat.reduceSub, Nat.reduceMul, Nat.reduceBEq, Nat.reduceEqDiff, Nat.reduceLeDiff, Nat.sub_zero, true_and, and_true, false_and, and_false, true_or, or_true, false_or, or_false, reduceCtorEq, ↓reduceIte, List.getD_cons_zero, List.getD_cons_succ, List.length_cons, List.length_nil, ct_i, ct_r, ct_l, ct_f, ct_n, false_implies, true_implies, y144, nle_t (show k < 2 ^ 31 by omega), not_false_eq_true, true_implies, false_implies, and_true, true_and, not_true_eq_false]
      exact h1 k hk1 hk rfl μ1 hF e1 (e2 (by omega))
    · refine hZ 400 [9, 18, 62] _ _ _ _ _ _ _ ?_
      simp -implicitDefEqProofs (disch := omega) only [wp_step xX11_draw_18, wp_step xX11_draw_19, wp_step xX11_draw_20, wp_step xX11_draw_23, wp_step xX11_draw_24, wp_step xX11_draw_27, wp_step xX11_draw_28, wp_step xX11_draw_31, wp_step xX11_draw_32, wp_step xX11_draw_35, wp_step xX11_draw_36, wp_step xX11_draw_39, wp_step xX11_draw_40, wp_step xX11_draw_43, wp_step xX11_draw_44, wp_step xX11_draw_45, wp_step xX11_draw_48, wp_step xX11_draw_50, wp_step xX11_draw_51, wp_step xX11_draw_53, wp_step xX11_draw_54, wp_step xX11_draw_57, wp_step xX11_draw_58, wp_step xX11_draw_59, q11_513, ↓e_static iX11_draw jn11_203 l11_203 iX11_lies, ↓e_getf iX11_draw f11_17, c11_515, ↓e_putf iX11_draw f11_17, ↓e_putf iX11_draw f11_234, ↓e_virt iX11_draw l11_516 iX11_someLeans, iX11_draw, exec1, ↓p1_e, ↓p2_e, ↓q1_e, ↓q2_e, ↓qi_e, ↓pr_e, ↓pa_e, ↓pa_f, ↓pst_e, ↓qst_e, ↓rst_e, ↓pac_e, ↓pargs_0, ↓pargs_s, ↓gfld_0, ↓gfld_1, ↓gfld_2, ↓gfld_3, ↓pfld_i, ↓pfld_l, ↓pfld_r, ↓sfld_i, ↓sfld_l, ↓sfld_r, brI, pushv, rcv, lget, lset, lset2, isL, rok, szs, List.elem_nil, List.elem_cons, cond_true, cond_false, Option.map_some, beq_self_eq_true, Bool.true_and, Bool.and_true, Bool.false_and, Bool.and_false, Bool.or_false, Bool.false_or, Bool.or_true, Bool.true_or, Nat.reduceAdd, Nat.reduceSub, Nat.reduceMul, Nat.reduceBEq, Nat.reduceEqDiff, Nat.reduceLeDiff, Nat.sub_zero, true_and, and_true, false_and, and_false, true_or, or_true, false_or, or_false, reduceCtorEq, ↓reduceIte, List.getD_cons_zero, List.getD_cons_succ, List.length_cons, List.length_nil, ct_i, ct_r, ct_l, ct_f, ct_n, false_implies, true_implies, y144, nle_f hi (show k < 2 ^ 31 by omega), not_false_eq_true, true_implies, false_implies, and_true, true_and, not_true_eq_false]
      refine ⟨by decide, by decide, by omega, ?_⟩
      simp only [gi_si, e1]
      rw [(drX_n (xN_n hx i)).2.2, show drX (xN (gi μ 144 5) i) = xN (gi μ 144 5) (i + 1) from rfl, show xN (gi μ 144 5) (i + 1) - xN (gi μ 144 5) (i + 1) / 19 * 19 - 9 = drW (xN (gi μ 144 5) (i + 1)) from rfl]
      have hF1 : Fr pE μ (si (si μ1 144 5 (xN (gi μ 144 5) (i + 1))) 144 4 (drW (xN (gi μ 144 5) (i + 1)))) := (hF.si (by unfold pE; omega)).si (by unfold pE; omega)
      have hx1 : gi (si (si μ1 144 5 (xN (gi μ 144 5) (i + 1))) 144 4 (drW (xN (gi μ 144 5) (i + 1)))) 144 5 = xN (gi μ 144 5) (i + 1) := by rw [gi_si_k (by omega), gi_si]
      have hw1 : gi (si (si μ1 144 5 (xN (gi μ 144 5) (i + 1))) 144 4 (drW (xN (gi μ 144 5) (i + 1)))) 144 4 = drW (xN (gi μ 144 5) (i + 1)) := gi_si
      have hc : cN (fun w => anB (slF (fun f => gi μ (146 + f)) (WGM μ nr nb sz n w).2) nr) (gi μ 144 5) (i + 1) = cN (fun w => anB (slF (fun f => gi μ (146 + f)) (WGM μ nr nb sz n w).2) nr) (gi μ 144 5) i + bN (anB (slF (fun f => gi μ (146 + f)) (WGM μ nr nb sz n (drW (xN (gi μ 144 5) (i + 1)))).2) nr) := rfl
      rw [hc] at ih
      generalize hcc : cN (fun w => anB (slF (fun f => gi μ (146 + f)) (WGM μ nr nb sz n w).2) nr) (gi μ 144 5) i = cc at ih ⊢
      generalize si (si μ1 144 5 (xN (gi μ 144 5) (i + 1))) 144 4 (drW (xN (gi μ 144 5) (i + 1))) = μ2 at hF1 hx1 hw1 ⊢
      generalize hxx : xN (gi μ 144 5) (i + 1) = x1 at hx1 hw1 ih ⊢
      refine k_someLeans (by omega) (hW.fr2 hF1 pE_Lo) (fun μ3 hF3 => ?_)
      have hF13 : Fr pE μ μ3 := hF1.trans (hF3.mono (fun a j z => Or.inl z))
      have es : anB (slF (fun f => gi μ2 (146 + f)) (WGM μ2 nr nb sz n (gi μ2 144 4)).2) nr = anB (slF (fun f => gi μ (146 + f)) (WGM μ nr nb sz n (drW x1)).2) nr := anB_cong (fun r hr => by
        have g1 : gi μ2 149 r = gi μ 149 r := hF1.1 _ _ (by unfold pE pK pN; omega)
        have g2 : gi μ2 148 r = gi μ 148 r := hF1.1 _ _ (by unfold pE pK pN; omega)
        show (!decide (gi μ2 149 r = 0) && !decide (lnV ((WGM μ2 nr nb sz n (gi μ2 144 4)).2 r) (gi μ2 148 r) = 0)) = (!decide (gi μ 149 r = 0) && !decide (lnV ((WGM μ nr nb sz n (drW x1)).2 r) (gi μ 148 r) = 0))
        rw [g1, g2, hw1, WGM_fr2 (w := drW x1) hF1 pE_Lo])
      rw [es]
      have q1 : gi μ3 144 5 = x1 := (hF3.1 _ _ (by unfold pK pN; omega)).trans hx1
      have q2 : gi μ3 144 4 = drW x1 := (hF3.1 _ _ (by unfold pK pN; omega)).trans hw1
      have fin := ih μ3 hF13 q1 (fun _ => q2)
      refine hZ 400 [9, 18, 62] _ _ _ _ _ _ _ ?_
      simp -implicitDefEqProofs (disch := omega) only [wp_step xX11_draw_62, wp_step xX11_draw_65, wp_step xX11_draw_66, wp_step xX11_draw_69, wp_step xX11_draw_70, wp_step xX11_draw_71, wp_step xX11_draw_72, wp_step xX11_draw_75, q11_513, ↓e_static iX11_draw jn11_203 l11_203 iX11_lies, ↓e_getf iX11_draw f11_17, c11_515, ↓e_putf iX11_draw f11_17, ↓e_putf iX11_draw f11_234, ↓e_virt iX11_draw l11_516 iX11_someLeans, iX11_draw, exec1, ↓p1_e, ↓p2_e, ↓q1_e, ↓q2_e, ↓qi_e, ↓pr_e, ↓pa_e, ↓pa_f, ↓pst_e, ↓qst_e, ↓rst_e, ↓pac_e, ↓pargs_0, ↓pargs_s, ↓gfld_0, ↓gfld_1, ↓gfld_2, ↓gfld_3, ↓pfld_i, ↓pfld_l, ↓pfld_r, ↓sfld_i, ↓sfld_l, ↓sfld_r, brI, pushv, rcv, lget, lset, lset2, isL, rok, szs, List.elem_nil, List.elem_cons, cond_true, cond_false, Option.map_some, beq_self_eq_true, Bool.true_and, Bool.and_true, Bool.false_and, Bool.and_false, Bool.or_false, Bool.false_or, Bool.or_true, Bool.true_or, Nat.reduceAdd, Nat.reduceSub, Nat.reduceMul, Nat.reduceBEq, Nat.reduceEqDiff, Nat.reduceLeDiff, Nat.sub_zero, true_and, and_true, false_and, and_false, true_or, or_true, false_or, or_false, reduceCtorEq, ↓reduceIte, List.getD_cons_zero, List.getD_cons_succ, List.length_cons, List.length_nil, ct_i, ct_r, ct_l, ct_f, ct_n, false_implies, true_implies, bN_0, nI_1]
      refine ⟨fun z => ?_, fun z => ?_⟩
      · rw [z] at fin; exact fin
      · rw [btr z] at fin; exact fin
  exact loop 0 (by omega) μ Fr.rf rfl (fun z => absurd z (by omega))
theorem slF_same {A B : Nat → Nat → Int32} {nr nb r : Nat} {mo : Nat → Int32} (h : Same A B nr nb) (hr : r < nr) : slF A mo r = slF B mo r := by
  unfold slF; rw [h.1 3 (by omega) r hr, h.1 2 (by omega) r hr]
theorem both_draw (hd : 8 ≤ d) {a : Int32} (hI : Inv LRel μ) : Both G d LRel mX10_draw mX11_draw [.int a] v μ bc bs := by
  obtain ⟨i1, i2, i3, i4, i5⟩ := id hI
  obtain ⟨nr, nb, q1, q2, q3, q4, q5⟩ := id i1
  obtain ⟨⟨n1, n2, n3⟩, -⟩ := id q5
  obtain ⟨⟨e1, e2, e3⟩, e4, e5, e6⟩ := id i2
  obtain ⟨sz, n, hC, hM⟩ := i5.both q1 q2 q3 q4 q5
  refine k_draw (by omega) hC (fun c => k_mDraw (by omega) hM (by rw [← e4]; exact ⟨e5, e6⟩) (fun _ => ⟨rfl, v, rfl, hI, rfl, rfl⟩) (fun k h1 h2 e => absurd (by subst e; exact ⟨(nI_leI (a := 1) (by omega) (by omega)).mpr h1, (nI_leI (b := 60) (by omega) (by omega)).mpr h2⟩) c)) (fun k h1 h2 e μ1 hF x1 x2 => ?_)
  have el : gi μ1 144 5 = gi μ 144 5 := hF.1 _ _ (by unfold pD pS pL; omega)
  refine k_mDraw (by omega) (hM.fr2 hF pD_Lo) (by rw [el, ← e4]; exact ⟨e5, e6⟩) (fun c => absurd (by subst e; exact ⟨(nI_leI (a := 1) (by omega) (by omega)).mpr h1, (nI_leI (b := 60) (by omega) (by omega)).mpr h2⟩) c) (fun k' h1' h2' e' μ2 hF2 y1 y2 => ⟨?_, v, rfl, ?_, rfl, rfl⟩)
  · have ek : k' = k := (nI_eq (by omega) (by omega)).mp (e'.symm.trans e)
    subst ek
    rw [el, ← e4]
    refine congrArg (fun x => some (Value.int x)) ?_
    refine cN_cong (fun w => anB_cong (fun r hr => ?_)) k'
    have f3 : gi μ1 149 r = gi μ 149 r := hF.1 _ _ (by unfold pD pS pL; omega)
    have f2 : gi μ1 148 r = gi μ 148 r := hF.1 _ _ (by unfold pD pS pL; omega)
    have e9 : WGM μ1 nr nb sz n w = WGC μ nr nb sz n w := (WGM_fr2 hF pD_Lo).trans (WG_same q5).symm
    rw [e9]
    have s3 : gi μ 7 r = gi μ 149 r := q5.2.2.2.2.1 3 (by omega) r hr
    have s2 : gi μ 6 r = gi μ 148 r := q5.2.2.2.2.1 2 (by omega) r hr
    show (!decide (gi μ 7 r = 0) && !decide (lnV ((WGC μ nr nb sz n w).2 r) (gi μ 6 r) = 0)) = (!decide (gi μ1 149 r = 0) && !decide (lnV ((WGC μ nr nb sz n w).2 r) (gi μ1 148 r) = 0))
    rw [f3, f2, s3, s2]
  · have ek : k' = k := (nI_eq (by omega) (by omega)).mp (e'.symm.trans e)
    subst ek
    have hFF : Fr Lo2 μ μ2 := (hF.mono pD_Lo).trans (hF2.mono pE_Lo)
    have z1 : gi μ2 3 15 = xN (gi μ 3 15) k' := (hF2.1 _ _ (by unfold pE pK pN; omega)).trans x1
    have z2 : gi μ2 3 14 = drW (xN (gi μ 3 15) k') := (hF2.1 _ _ (by unfold pE pK pN; omega)).trans x2
    rw [el, ← e4] at y1 y2
    have b1 := xN_n (x := (gi μ 3 15)) ⟨e5, e6⟩ k'
    have b2 := drW_n b1
    have c1 : ∀ j, gi μ2 2 j = gi μ 2 j := fun j => (hF2.1 _ _ (by unfold pE pK pN; omega)).trans (hF.1 _ _ (by unfold pD pS pL; omega))
    have c2 : ∀ j, gi μ2 145 j = gi μ 145 j := fun j => (hF2.1 _ _ (by unfold pE pK pN; omega)).trans (hF.1 _ _ (by unfold pD pS pL; omega))
    have c3 : gi μ2 1 1 = gi μ 1 1 := (hF2.1 _ _ (by unfold pE pK pN; omega)).trans (hF.1 _ _ (by unfold pD pS pL; omega))
    have c4 : gi μ2 144 1 = gi μ 144 1 := (hF2.1 _ _ (by unfold pE pK pN; omega)).trans (hF.1 _ _ (by unfold pD pS pL; omega))
    refine hI.fr hFF (fun _ _ z => z) ?_ (i3.cong c3 c4 c1 c2)
    unfold NumI
    rw [z1, z2, y1, y2]
    exact ⟨⟨rfl, b2⟩, rfl, b1⟩
end DRW
