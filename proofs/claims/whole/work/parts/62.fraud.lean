/-! frauds -/
def mo0 (LV : (Nat → Int32) → Bool → Int32) (A : Nat → Nat → Int32) (nr nb : Nat) (w : Int32) (r : Nat) : Int32 := (WG A (hvA LV A w) nr nb).2 r
/-- on a day of wind w it is seen -/
def dayB (LV : (Nat → Int32) → Bool → Int32) (A : Nat → Nat → Int32) (nr nb : Nat) (a m w : Int32) (i j : Nat) : Bool := anB (fun r => snB A r && !decide (lnV (mo0 LV A nr nb w r + chD LV A w a m i r + chD LV A w a m j r) (A 2 r) = lnV (mo0 LV A nr nb w r) (A 2 r))) nr
def unB (LV : (Nat → Int32) → Bool → Int32) (A : Nat → Nat → Int32) (nr nb : Nat) (a : Int32) (wd : Nat → Int32) (told : Nat) (m : Int32) (i j : Nat) : Bool := !anB (fun e => dayB LV A nr nb a m (wd e) i j) told
def frB (LV : (Nat → Int32) → Bool → Int32) (A : Nat → Nat → Int32) (nr nb : Nat) (a b : Int32) (wd : Nat → Int32) (told m i j : Nat) : Bool := cutB A i a (nI m) && knB A j b (nI m) && unB LV A nr nb a wd told (nI m) i j
/-- the first one found, from the greatest on -/
def FstF (p : Nat → Nat → Nat → Bool) (nb K : Nat) : Option (Nat × Nat × Nat) → Prop
  | none => ∀ m i j, 1 ≤ m → m ≤ K → i < nb → j < nb → p m i j = false
  | some (m, i, j) => (1 ≤ m ∧ m ≤ K ∧ i < nb ∧ j < nb) ∧ p m i j = true ∧ (∀ m' i' j', m < m' → m' ≤ K → i' < nb → j' < nb → p m' i' j' = false) ∧ (∀ i' j', i' < i → j' < nb → p m i' j' = false) ∧ ∀ j', j' < j → p m i j' = false
theorem FstF.uniq {p : Nat → Nat → Nat → Bool} {nb K : Nat} : ∀ {r r' : Option (Nat × Nat × Nat)}, FstF p nb K r → FstF p nb K r' → r = r'
  | none, none, _, _ => rfl
  | none, some (m, i, j), h, ⟨⟨q1, q2, q3, q4⟩, q5, _⟩ => by rw [h m i j q1 q2 q3 q4] at q5; exact absurd q5 (by decide)
  | some (m, i, j), none, ⟨⟨q1, q2, q3, q4⟩, q5, _⟩, h => by rw [h m i j q1 q2 q3 q4] at q5; exact absurd q5 (by decide)
  | some (m, i, j), some (m', i', j'), ⟨⟨q1, q2, q3, q4⟩, q5, q6, q7, q8⟩, ⟨⟨u1, u2, u3, u4⟩, u5, u6, u7, u8⟩ => by
    have em : m = m' := by
      rcases Nat.lt_trichotomy m m' with x | x | x
      · rw [q6 m' i' j' x u2 u3 u4] at u5; exact absurd u5 (by decide)
      · exact x
      · rw [u6 m i j x q2 q3 q4] at q5; exact absurd q5 (by decide)
    subst em
    have ei : i = i' := by
      rcases Nat.lt_trichotomy i i' with x | x | x
      · rw [u7 i j x q4] at q5; exact absurd q5 (by decide)
      · exact x
      · rw [q7 i' j' x u4] at u5; exact absurd u5 (by decide)
    subst ei
    have ej : j = j' := by
      rcases Nat.lt_trichotomy j j' with x | x | x
      · rw [u8 j x] at q5; exact absurd q5 (by decide)
      · exact x
      · rw [q8 j' x] at u5; exact absurd u5 (by decide)
    subst ej
    rfl
theorem FstF.cong {p p' : Nat → Nat → Nat → Bool} {nb K : Nat} (e : ∀ m i j, 1 ≤ m → m ≤ K → i < nb → j < nb → p m i j = p' m i j) : ∀ {r : Option (Nat × Nat × Nat)}, FstF p nb K r → FstF p' nb K r
  | none, h => fun m i j h1 h2 h3 h4 => by rw [← e m i j h1 h2 h3 h4]; exact h m i j h1 h2 h3 h4
  | some (m, i, j), ⟨⟨q1, q2, q3, q4⟩, q5, q6, q7, q8⟩ => ⟨⟨q1, q2, q3, q4⟩, by rw [← e m i j q1 q2 q3 q4]; exact q5, fun m' i' j' h1 h2 h3 h4 => by rw [← e m' i' j' (by omega) h2 h3 h4]; exact q6 m' i' j' h1 h2 h3 h4, fun i' j' h1 h2 => by rw [← e m i' j' q1 q2 (by omega) h2]; exact q7 i' j' h1 h2, fun j' h1 => by rw [← e m i j' q1 q2 q3 (by omega)]; exact q8 j' h1⟩
theorem anB_mono {p : Nat → Bool} {n m : Nat} (h : n ≤ m) (e : anB p n = true) : anB p m = true := by
  induction m with
  | zero => rw [show n = 0 by omega] at e; exact e
  | succ m ih =>
    by_cases q : n = m + 1
    · subst q; exact e
    · rw [anB, ih (by omega)]; rfl
section FRD
variable {G : Gx} {d v : Nat} {μ : Mem} {bc bs : Nat} {Q : Option Value → List Sh → Mem → Nat → Nat → Prop}
set_option maxRecDepth 100000 in
set_option maxHeartbeats 1000000 in
theorem k_allWithin {fr k mo ts : Nat} (hd : 1 ≤ d) (hs : (gi μ 1 1) = nI ts) (hts : ts ≤ 220) (hk : fr + k ≤ ts) (hb : ∀ j, j < ts → ∃ b, b < 256 ∧ (gi μ 2 (j)) = nI b) (hm : mo < 1000) (h : Q (some (.int (bN (!anB (fun j => !decide (gi μ 2 (fr + j) ≤ nI mo)) k)))) (LAY v) μ bc bs) : KC G d mX8_allWithin [.ref 1, .int (nI fr), .int (nI k), .int (nI mo)] (LAY v) μ bc bs Q := by
  obtain ⟨p, hp⟩ : ∃ p : Nat → Bool, p = fun j => !decide (gi μ 2 (fr + j) ≤ nI mo) := ⟨_, rfl⟩
  rw [← hp] at h
  have pe : ∀ r, p r = !decide (gi μ 2 (fr + r) ≤ nI mo) := fun r => by rw [hp]
  refine KC_intro 0 0 kX8_allWithin (by decide) (by decide) (Nat.zero_le _) (Nat.zero_le _) (Nat.le_of_ble_eq_true rfl) (fun Z hZ => ?_)
  show Z 0 [some (.ref 1), some (.int (nI fr)), some (.int (nI k)), some (.int (nI mo)), none] [] (LAY v) μ 0 0
  have loop : ∀ i, i ≤ k → ((∀ j, j < i → p j = false) → Z 3 [some (.ref 1), some (.int (nI fr)), some (.int (nI k)), some (.int (nI mo)), some (.int (nI i))] [] (LAY v) μ 0 0) := by
    refine loopN k (fun q => ?_) (fun i hi ih q => ?_)
    · refine hZ 400 [3, 18, 22] _ _ _ _ _ _ _ ?_
      simp -implicitDefEqProofs (disch := omega) only [wp_step xX8_allWithin_3, wp_step xX8_allWithin_5, wp_step xX8_allWithin_6, ↓e_virt iX8_allWithin l8_19 iX8_byteAt, ↓e_static iX8_allWithin jn8_23 l8_23 iX10_within, iX8_allWithin, wp_step xX8_allWithin_33, wp_step xX8_allWithin_34, ↓e_virt iX8_allWithin l8_19 iX8_byteAt, ↓e_static iX8_allWithin jn8_23 l8_23 iX10_within, iX8_allWithin, exec1, ↓p1_e, ↓p2_e, ↓q1_e, ↓q2_e, ↓qi_e, ↓pr_e, ↓pa_e, ↓pa_f, ↓pst_e, ↓qst_e, ↓rst_e, ↓pac_e, ↓pargs_0, ↓pargs_s, ↓gfld_0, ↓gfld_1, ↓gfld_2, ↓gfld_3, ↓pfld_i, ↓pfld_l, ↓pfld_r, ↓sfld_i, ↓sfld_l, ↓sfld_r, brI, pushv, rcv, lget, lset, lset2, isL, rok, szs, List.elem_nil, List.elem_cons, cond_true, cond_false, Option.map_some, beq_self_eq_true, Bool.true_and, Bool.and_true, Bool.false_and, Bool.and_false, Bool.or_false, Bool.false_or, Bool.or_true, Bool.true_or, Nat.reduceAdd, Nat.reduceSub, Nat.reduceMul, Nat.reduceBEq, Nat.reduceEqDiff, Nat.reduceLeDiff, Nat.sub_zero, true_and, and_true, false_and, and_false, true_or, or_true, false_or, or_false, reduceCtorEq, ↓reduceIte, List.getD_cons_zero, List.getD_cons_succ, List.length_cons, List.length_nil, ct_i, ct_r, ct_l, ct_f, ct_n, false_implies, true_implies, nle_t (show k < 2 ^ 31 by omega), not_false_eq_true, true_implies, false_implies, and_true, true_and, not_true_eq_false]
      rw [anB_f q] at h; exact h
    · refine hZ 400 [3, 18, 22] _ _ _ _ _ _ _ ?_
      simp -implicitDefEqProofs (disch := omega) only [wp_step xX8_allWithin_3, wp_step xX8_allWithin_5, wp_step xX8_allWithin_6, wp_step xX8_allWithin_9, wp_step xX8_allWithin_10, wp_step xX8_allWithin_11, wp_step xX8_allWithin_12, wp_step xX8_allWithin_14, wp_step xX8_allWithin_15, ↓e_virt iX8_allWithin l8_19 iX8_byteAt, ↓e_static iX8_allWithin jn8_23 l8_23 iX10_within, iX8_allWithin, exec1, ↓p1_e, ↓p2_e, ↓q1_e, ↓q2_e, ↓qi_e, ↓pr_e, ↓pa_e, ↓pa_f, ↓pst_e, ↓qst_e, ↓rst_e, ↓pac_e, ↓pargs_0, ↓pargs_s, ↓gfld_0, ↓gfld_1, ↓gfld_2, ↓gfld_3, ↓pfld_i, ↓pfld_l, ↓pfld_r, ↓sfld_i, ↓sfld_l, ↓sfld_r, brI, pushv, rcv, lget, lset, lset2, isL, rok, szs, List.elem_nil, List.elem_cons, cond_true, cond_false, Option.map_some, beq_self_eq_true, Bool.true_and, Bool.and_true, Bool.false_and, Bool.and_false, Bool.or_false, Bool.false_or, Bool.or_true, Bool.true_or, Nat.reduceAdd, Nat.reduceSub, Nat.reduceMul, Nat.reduceBEq, Nat.reduceEqDiff, Nat.reduceLeDiff, Nat.sub_zero, true_and, and_true, false_and, and_false, true_or, or_true, false_or, or_false, reduceCtorEq, ↓reduceIte, List.getD_cons_zero, List.getD_cons_succ, List.length_cons, List.length_nil, ct_i, ct_r, ct_l, ct_f, ct_n, false_implies, true_implies, y1, y2, nle_f hi (show k < 2 ^ 31 by omega), nI_add, not_false_eq_true, true_implies, false_implies, and_true, true_and, not_true_eq_false]
      refine ⟨by omega, k_byteAt hs hts (by omega) ?_⟩
      rw [if_pos (by omega)]
      refine hZ 400 [3, 18, 22] _ _ _ _ _ _ _ ?_
      simp -implicitDefEqProofs (disch := omega) only [wp_step xX8_allWithin_18, wp_step xX8_allWithin_19, ↓e_virt iX8_allWithin l8_19 iX8_byteAt, ↓e_static iX8_allWithin jn8_23 l8_23 iX10_within, iX8_allWithin, exec1, ↓p1_e, ↓p2_e, ↓q1_e, ↓q2_e, ↓qi_e, ↓pr_e, ↓pa_e, ↓pa_f, ↓pst_e, ↓qst_e, ↓rst_e, ↓pac_e, ↓pargs_0, ↓pargs_s, ↓gfld_0, ↓gfld_1, ↓gfld_2, ↓gfld_3, ↓pfld_i, ↓pfld_l, ↓pfld_r, ↓sfld_i, ↓sfld_l, ↓sfld_r, brI, pushv, rcv, lget, lset, lset2, isL, rok, szs, List.elem_nil, List.elem_cons, cond_true, cond_false, Option.map_some, beq_self_eq_true, Bool.true_and, Bool.and_true, Bool.false_and, Bool.and_false, Bool.or_false, Bool.false_or, Bool.or_true, Bool.true_or, Nat.reduceAdd, Nat.reduceSub, Nat.reduceMul, Nat.reduceBEq, Nat.reduceEqDiff, Nat.reduceLeDiff, Nat.sub_zero, true_and, and_true, false_and, and_false, true_or, or_true, false_or, or_false, reduceCtorEq, ↓reduceIte, List.getD_cons_zero, List.getD_cons_succ, List.length_cons, List.length_nil, ct_i, ct_r, ct_l, ct_f, ct_n, false_implies, true_implies]
      refine ⟨by omega, k_within ?_⟩
      obtain ⟨b, hb1, hb2⟩ := hb (fr + i) (by omega)
      refine hZ 400 [3, 18, 22] _ _ _ _ _ _ _ ?_
      simp -implicitDefEqProofs (disch := omega) only [wp_step xX8_allWithin_22, wp_step xX8_allWithin_25, wp_step xX8_allWithin_26, wp_step xX8_allWithin_27, wp_step xX8_allWithin_30, ↓e_virt iX8_allWithin l8_19 iX8_byteAt, ↓e_static iX8_allWithin jn8_23 l8_23 iX10_within, iX8_allWithin, exec1, ↓p1_e, ↓p2_e, ↓q1_e, ↓q2_e, ↓qi_e, ↓pr_e, ↓pa_e, ↓pa_f, ↓pst_e, ↓qst_e, ↓rst_e, ↓pac_e, ↓pargs_0, ↓pargs_s, ↓gfld_0, ↓gfld_1, ↓gfld_2, ↓gfld_3, ↓pfld_i, ↓pfld_l, ↓pfld_r, ↓sfld_i, ↓sfld_l, ↓sfld_r, brI, pushv, rcv, lget, lset, lset2, isL, rok, szs, List.elem_nil, List.elem_cons, cond_true, cond_false, Option.map_some, beq_self_eq_true, Bool.true_and, Bool.and_true, Bool.false_and, Bool.and_false, Bool.or_false, Bool.false_or, Bool.or_true, Bool.true_or, Nat.reduceAdd, Nat.reduceSub, Nat.reduceMul, Nat.reduceBEq, Nat.reduceEqDiff, Nat.reduceLeDiff, Nat.sub_zero, true_and, and_true, false_and, and_false, true_or, or_true, false_or, or_false, reduceCtorEq, ↓reduceIte, List.getD_cons_zero, List.getD_cons_succ, List.length_cons, List.length_nil, ct_i, ct_r, ct_l, ct_f, ct_n, false_implies, true_implies, bI_0, Decidable.not_not, nI_1]
      refine ⟨fun c => ih (fun j hj => ?_), fun c => ?_⟩
      · by_cases y : j = i
        · subst y; rw [pe, decide_eq_true c.2]; rfl
        · exact q j (by omega)
      · have : p i = true := by
          rw [pe, decide_eq_false (fun z => c ⟨by rw [hb2]; exact nI_pos' (by omega), z⟩)]; rfl
        rw [anB_t hi this] at h; exact h
  refine hZ 400 [3, 18, 22] _ _ _ _ _ _ _ ?_
  simp -implicitDefEqProofs (disch := omega) only [wp_step xX8_allWithin_0, wp_step xX8_allWithin_1, ↓e_virt iX8_allWithin l8_19 iX8_byteAt, ↓e_static iX8_allWithin jn8_23 l8_23 iX10_within, iX8_allWithin, exec1, ↓p1_e, ↓p2_e, ↓q1_e, ↓q2_e, ↓qi_e, ↓pr_e, ↓pa_e, ↓pa_f, ↓pst_e, ↓qst_e, ↓rst_e, ↓pac_e, ↓pargs_0, ↓pargs_s, ↓gfld_0, ↓gfld_1, ↓gfld_2, ↓gfld_3, ↓pfld_i, ↓pfld_l, ↓pfld_r, ↓sfld_i, ↓sfld_l, ↓sfld_r, brI, pushv, rcv, lget, lset, lset2, isL, rok, szs, List.elem_nil, List.elem_cons, cond_true, cond_false, Option.map_some, beq_self_eq_true, Bool.true_and, Bool.and_true, Bool.false_and, Bool.and_false, Bool.or_false, Bool.false_or, Bool.or_true, Bool.true_or, Nat.reduceAdd, Nat.reduceSub, Nat.reduceMul, Nat.reduceBEq, Nat.reduceEqDiff, Nat.reduceLeDiff, Nat.sub_zero, true_and, and_true, false_and, and_false, true_or, or_true, false_or, or_false, reduceCtorEq, ↓reduceIte, List.getD_cons_zero, List.getD_cons_succ, List.length_cons, List.length_nil, ct_i, ct_r, ct_l, ct_f, ct_n, false_implies, true_implies]
  exact loop 0 (by omega) (fun j hj => absurd hj (by omega))
/-- what stands while frauds are sought -/
def Ctx (μ : Mem) (A : Nat → Nat → Int32) (LV : (Nat → Int32) → Bool → Int32) (nr nb sz n : Nat) (a b : Int32) : Prop := WC μ nr nb sz n ∧ (∀ f, f < 12 → gi μ (4 + f) = A f) ∧ lawV (fun f => gi μ (30 + f)) sz n = LV ∧ (gi μ 51 7) = a ∧ (gi μ 51 8) = b
def pPm (a j : Nat) : Prop := pP a j ∧ ¬ (a = 51 ∧ j < 9)
theorem Ctx.fr {P : Nat → Nat → Prop} {μ μ' : Mem} {A : Nat → Nat → Int32} {LV : (Nat → Int32) → Bool → Int32} {nr nb sz n : Nat} {a b : Int32} (h : Fr P μ μ') (hP : ∀ a j, P a j → pPm a j) (q : Ctx μ A LV nr nb sz n a b) : Ctx μ' A LV nr nb sz n a b := by
  obtain ⟨q1, q2, q3, q4, q5⟩ := q
  have hS : ∀ a j, P a j → Sf a j := fun a j z => pP_Sf a j (hP a j z).1
  refine ⟨q1.fr h hS, fun f hf => (fr_A h hS f hf).trans (q2 f hf), (lawV_fr (fr_W h hS)).trans q3, (h.1 _ _ (fun z => (hP _ _ z).2 (by omega))).trans q4, (h.1 _ _ (fun z => (hP _ _ z).2 (by omega))).trans q5⟩
def DayS (μ : Mem) (A : Nat → Nat → Int32) (LV : (Nat → Int32) → Bool → Int32) (nr nb : Nat) (w : Int32) (e : Nat) : Prop := gi μ 53 e = w ∧ (∀ x, x < nr → gi μ (75 + 5 * e + 4) x = mo0 LV A nr nb w x) ∧ (∀ j, j < nb → ¬ A 11 j = 0 → gi μ (75 + 5 * e + 1) j = hvA LV A w j true ∧ gi μ (75 + 5 * e + 2) j = hvA LV A w j false) ∧ ∀ x, x < nr → gi μ (55 + e) x = lnV (mo0 LV A nr nb w x) (A 2 x)
def ChgS (μ : Mem) (A : Nat → Nat → Int32) (LV : (Nat → Int32) → Bool → Int32) (nb : Nat) (a b m w : Int32) (e : Nat) : Prop := ∀ k, k < nb → (cutB A k a m || knB A k b m) = true → ∀ x, dlt μ e k x = chD LV A w a m k x
def pMo (a _ : Nat) : Prop := a = 79 ∨ a = 84 ∨ a = 89 ∨ a = 94 ∨ a = 99 ∨ a = 104
theorem pMo_pPm : ∀ a j, pMo a j → pPm a j := fun a j z => by unfold pMo at z; unfold pPm pP pL; omega
theorem pM4_pMo {e : Nat} (h : e < 6) : ∀ a j, pM4 (75 + 5 * e) a j → pMo a j := fun a j z => by unfold pM4 at z; unfold pMo; omega
theorem dlt_fr {P : Nat → Nat → Prop} {μ μ' : Mem} (h : Fr P μ μ') (hP : ∀ a j, P a j → Sf a j ∧ ¬ (62 ≤ a ∧ a ≤ 74)) {e i x : Nat} (he : e < 6) : dlt μ' e i x = dlt μ e i x := by
  unfold dlt
  have hS : ∀ a j, P a j → Sf a j := fun a j z => (hP a j z).1
  rw [ctr_fr (fr_A h hS), h.1 9 _ (fun z => by have := hS _ _ z; unfold Sf at this; omega), h.1 10 _ (fun z => by have := hS _ _ z; unfold Sf at this; omega), h.1 (62 + e) _ (fun z => (hP _ _ z).2 (by omega)), h.1 (69 + e) _ (fun z => (hP _ _ z).2 (by omega))]
theorem pMo_d : ∀ a j, pMo a j → Sf a j ∧ ¬ (62 ≤ a ∧ a ≤ 74) := fun a j z => by unfold pMo at z; unfold Sf; omega
set_option maxRecDepth 100000 in
set_option maxHeartbeats 1000000 in
theorem k_isUnseen {i j told nr nb sz n : Nat} {A : Nat → Nat → Int32} {LV : (Nat → Int32) → Bool → Int32} {a b m : Int32} {wd : Nat → Int32} (hd : 4 ≤ d) (hC : Ctx μ A LV nr nb sz n a b) (ht : told ≤ 6) (hi : i < nb) (hj : j < nb) (ci : cutB A i a m = true) (cj : knB A j b m = true) (hD : ∀ e, e < told → DayS μ A LV nr nb (wd e) e) (hG : ∀ e, e < told → ChgS μ A LV nb a b m (wd e) e) (h : ∀ μ', Fr pMo μ μ' → (∀ e, e < told → ∀ x, x < nr → gi μ' (75 + 5 * e + 4) x = gi μ (75 + 5 * e + 4) x) → Q (some (.int (bN (unB LV A nr nb a wd told m i j)))) (LAY v) μ' bc bs) : KC G d mX5_isUnseen [.ref 51, .int (nI i), .int (nI j), .int (nI told)] (LAY v) μ bc bs Q := by
  refine KC_intro 0 0 kX5_isUnseen (by decide) (by decide) (Nat.zero_le _) (Nat.zero_le _) (Nat.le_of_ble_eq_true rfl) (fun Z hZ => ?_)
  show Z 0 [some (.ref 51), some (.int (nI i)), some (.int (nI j)), some (.int (nI told)), none, none] [] (LAY v) μ 0 0
  unfold unB at h
  obtain ⟨p, hp⟩ : ∃ p : Nat → Bool, p = fun e => dayB LV A nr nb a m (wd e) i j := ⟨_, rfl⟩
  rw [← hp] at h
  have pe : ∀ e, p e = dayB LV A nr nb a m (wd e) i j := fun e => by rw [hp]
  have loop : ∀ e, e ≤ told → (∀ μ1, Fr pMo μ μ1 → (∀ e, e < told → ∀ x, x < nr → gi μ1 (75 + 5 * e + 4) x = gi μ (75 + 5 * e + 4) x) → Z 6 [some (.ref 51), some (.int (nI i)), some (.int (nI j)), some (.int (nI told)), some (.int (bN (!anB p e))), some (.int (nI e))] [] (LAY v) μ1 0 0) := by
    refine loopN told (fun μ1 hF hm => ?_) (fun e he ih μ1 hF hm => ?_)
    · refine hZ 400 [6, 32, 40, 57, 67, 75] _ _ _ _ _ _ _ ?_
      simp -implicitDefEqProofs (disch := omega) only [wp_step xX5_isUnseen_6, wp_step xX5_isUnseen_8, wp_step xX5_isUnseen_9, ↓e_virt iX5_isUnseen l5_72 iX5_shift, ↓e_getf iX5_isUnseen f5_11, ↓e_getf iX5_isUnseen f5_23, ↓e_virt iX5_isUnseen l5_128 iX7_isPicture, iX5_isUnseen, wp_step xX5_isUnseen_81, wp_step xX5_isUnseen_83, ↓e_virt iX5_isUnseen l5_72 iX5_shift, ↓e_getf iX5_isUnseen f5_11, ↓e_getf iX5_isUnseen f5_23, ↓e_virt iX5_isUnseen l5_128 iX7_isPicture, iX5_isUnseen, exec1, ↓p1_e, ↓p2_e, ↓q1_e, ↓q2_e, ↓qi_e, ↓pr_e, ↓pa_e, ↓pa_f, ↓pst_e, ↓qst_e, ↓rst_e, ↓pac_e, ↓pargs_0, ↓pargs_s, ↓gfld_0, ↓gfld_1, ↓gfld_2, ↓gfld_3, ↓pfld_i, ↓pfld_l, ↓pfld_r, ↓sfld_i, ↓sfld_l, ↓sfld_r, brI, pushv, rcv, lget, lset, lset2, isL, rok, szs, List.elem_nil, List.elem_cons, cond_true, cond_false, Option.map_some, beq_self_eq_true, Bool.true_and, Bool.and_true, Bool.false_and, Bool.and_false, Bool.or_false, Bool.false_or, Bool.or_true, Bool.true_or, Nat.reduceAdd, Nat.reduceSub, Nat.reduceMul, Nat.reduceBEq, Nat.reduceEqDiff, Nat.reduceLeDiff, Nat.sub_zero, true_and, and_true, false_and, and_false, true_or, or_true, false_or, or_false, reduceCtorEq, ↓reduceIte, List.getD_cons_zero, List.getD_cons_succ, List.length_cons, List.length_nil, ct_i, ct_r, ct_l, ct_f, ct_n, false_implies, true_implies, nle_t (show told < 2 ^ 31 by omega), bN_01, not_false_eq_true, true_implies, false_implies, and_true, true_and, not_true_eq_false]
      exact h μ1 hF hm
    · have he6 : e < 6 := by omega
      cases q : anB p e with
      | true =>
        refine hZ 400 [6, 32, 40, 57, 67, 75] _ _ _ _ _ _ _ ?_
        simp -implicitDefEqProofs (disch := omega) only [wp_step xX5_isUnseen_6, wp_step xX5_isUnseen_8, wp_step xX5_isUnseen_9, wp_step xX5_isUnseen_12, wp_step xX5_isUnseen_14, wp_step xX5_isUnseen_16, wp_step xX5_isUnseen_19, wp_step xX5_isUnseen_21, ↓e_virt iX5_isUnseen l5_72 iX5_shift, ↓e_getf iX5_isUnseen f5_11, ↓e_getf iX5_isUnseen f5_23, ↓e_virt iX5_isUnseen l5_128 iX7_isPicture, iX5_isUnseen, wp_step xX5_isUnseen_81, wp_step xX5_isUnseen_83, ↓e_virt iX5_isUnseen l5_72 iX5_shift, ↓e_getf iX5_isUnseen f5_11, ↓e_getf iX5_isUnseen f5_23, ↓e_virt iX5_isUnseen l5_128 iX7_isPicture, iX5_isUnseen, exec1, ↓p1_e, ↓p2_e, ↓q1_e, ↓q2_e, ↓qi_e, ↓pr_e, ↓pa_e, ↓pa_f, ↓pst_e, ↓qst_e, ↓rst_e, ↓pac_e, ↓pargs_0, ↓pargs_s, ↓gfld_0, ↓gfld_1, ↓gfld_2, ↓gfld_3, ↓pfld_i, ↓pfld_l, ↓pfld_r, ↓sfld_i, ↓sfld_l, ↓sfld_r, brI, pushv, rcv, lget, lset, lset2, isL, rok, szs, List.elem_nil, List.elem_cons, cond_true, cond_false, Option.map_some, beq_self_eq_true, Bool.true_and, Bool.and_true, Bool.false_and, Bool.and_false, Bool.or_false, Bool.false_or, Bool.or_true, Bool.true_or, Nat.reduceAdd, Nat.reduceSub, Nat.reduceMul, Nat.reduceBEq, Nat.reduceEqDiff, Nat.reduceLeDiff, Nat.sub_zero, true_and, and_true, false_and, and_false, true_or, or_true, false_or, or_false, reduceCtorEq, ↓reduceIte, List.getD_cons_zero, List.getD_cons_succ, List.length_cons, List.length_nil, ct_i, ct_r, ct_l, ct_f, ct_n, false_implies, true_implies, nle_f he (show told < 2 ^ 31 by omega), show (6 : Int32) = nI 6 from rfl, nle_f he6 (show 6 < 2 ^ 31 by omega), bN_0, bN_01, Bool.not_true, not_false_eq_true, true_implies, false_implies, and_true, true_and, not_true_eq_false]
        have := h μ1 hF hm
        rw [anB_mono (by omega) q] at this
        exact this
      | false =>
        have hv : vp_in (nI e) 6 := vin (by omega) (by omega)
        have hS : ScAt v (75 + 5 * e) := ScAt.day he6
        have h55 := row55 (v := v) he6
        obtain ⟨d1, d2, d3, d4⟩ := hD e he
        have dl : ∀ {μ'}, Fr pMo μ μ' → ∀ k, k < nb → (cutB A k a m || knB A k b m) = true → ∀ x, dlt μ' e k x = chD LV A (wd e) a m k x := fun hF' k hk ck x => (dlt_fr hF' pMo_d he6).trans (hG e he k hk ck x)
        have cci : (cutB A i a m || knB A i b m) = true := by rw [ci]; rfl
        have ccj : (cutB A j a m || knB A j b m) = true := by rw [cj, Bool.or_true]
        refine hZ 400 [6, 32, 40, 57, 67, 75] _ _ _ _ _ _ _ ?_
        simp -implicitDefEqProofs (disch := omega) only [wp_step xX5_isUnseen_6, wp_step xX5_isUnseen_8, wp_step xX5_isUnseen_9, wp_step xX5_isUnseen_12, wp_step xX5_isUnseen_14, wp_step xX5_isUnseen_16, wp_step xX5_isUnseen_19, wp_step xX5_isUnseen_21, wp_step xX5_isUnseen_24, wp_step xX5_isUnseen_25, wp_step xX5_isUnseen_27, wp_step xX5_isUnseen_28, wp_step xX5_isUnseen_29, ↓e_virt iX5_isUnseen l5_72 iX5_shift, ↓e_getf iX5_isUnseen f5_11, ↓e_getf iX5_isUnseen f5_23, ↓e_virt iX5_isUnseen l5_128 iX7_isPicture, iX5_isUnseen, exec1, ↓p1_e, ↓p2_e, ↓q1_e, ↓q2_e, ↓qi_e, ↓pr_e, ↓pa_e, ↓pa_f, ↓pst_e, ↓qst_e, ↓rst_e, ↓pac_e, ↓pargs_0, ↓pargs_s, ↓gfld_0, ↓gfld_1, ↓gfld_2, ↓gfld_3, ↓pfld_i, ↓pfld_l, ↓pfld_r, ↓sfld_i, ↓sfld_l, ↓sfld_r, brI, pushv, rcv, lget, lset, lset2, isL, rok, szs, List.elem_nil, List.elem_cons, cond_true, cond_false, Option.map_some, beq_self_eq_true, Bool.true_and, Bool.and_true, Bool.false_and, Bool.and_false, Bool.or_false, Bool.false_or, Bool.or_true, Bool.true_or, Nat.reduceAdd, Nat.reduceSub, Nat.reduceMul, Nat.reduceBEq, Nat.reduceEqDiff, Nat.reduceLeDiff, Nat.sub_zero, true_and, and_true, false_and, and_false, true_or, or_true, false_or, or_false, reduceCtorEq, ↓reduceIte, List.getD_cons_zero, List.getD_cons_succ, List.length_cons, List.length_nil, ct_i, ct_r, ct_l, ct_f, ct_n, false_implies, true_implies, y51, y52, y53, y54, nle_f he (show told < 2 ^ 31 by omega), show (6 : Int32) = nI 6 from rfl, nle_f he6 (show 6 < 2 ^ 31 by omega), bN_0, Bool.not_false, show ¬ true = false by decide, not_false_eq_true, true_implies, false_implies, and_true, true_and, not_true_eq_false]
        refine ⟨by omega, k_pshift (by omega) he6 (hC.fr hF pMo_pPm).1 hi (fun μ2 hF2 hm2 => ?_)⟩
        have hG2 : Fr pMo μ μ2 := hF.trans (hF2.mono (pM4_pMo he6))
        refine hZ 400 [6, 32, 40, 57, 67, 75] _ _ _ _ _ _ _ ?_
        simp -implicitDefEqProofs (disch := omega) only [wp_step xX5_isUnseen_32, wp_step xX5_isUnseen_33, wp_step xX5_isUnseen_35, wp_step xX5_isUnseen_36, wp_step xX5_isUnseen_37, ↓e_virt iX5_isUnseen l5_72 iX5_shift, ↓e_getf iX5_isUnseen f5_11, ↓e_getf iX5_isUnseen f5_23, ↓e_virt iX5_isUnseen l5_128 iX7_isPicture, iX5_isUnseen, exec1, ↓p1_e, ↓p2_e, ↓q1_e, ↓q2_e, ↓qi_e, ↓pr_e, ↓pa_e, ↓pa_f, ↓pst_e, ↓qst_e, ↓rst_e, ↓pac_e, ↓pargs_0, ↓pargs_s, ↓gfld_0, ↓gfld_1, ↓gfld_2, ↓gfld_3, ↓pfld_i, ↓pfld_l, ↓pfld_r, ↓sfld_i, ↓sfld_l, ↓sfld_r, brI, pushv, rcv, lget, lset, lset2, isL, rok, szs, List.elem_nil, List.elem_cons, cond_true, cond_false, Option.map_some, beq_self_eq_true, Bool.true_and, Bool.and_true, Bool.false_and, Bool.and_false, Bool.or_false, Bool.false_or, Bool.or_true, Bool.true_or, Nat.reduceAdd, Nat.reduceSub, Nat.reduceMul, Nat.reduceBEq, Nat.reduceEqDiff, Nat.reduceLeDiff, Nat.sub_zero, true_and, and_true, false_and, and_false, true_or, or_true, false_or, or_false, reduceCtorEq, ↓reduceIte, List.getD_cons_zero, List.getD_cons_succ, List.length_cons, List.length_nil, ct_i, ct_r, ct_l, ct_f, ct_n, false_implies, true_implies, y51, y52, y53, y54]
        refine ⟨by omega, k_pshift (by omega) he6 (hC.fr hG2 pMo_pPm).1 hj (fun μ3 hF3 hm3 => ?_)⟩
        have hG3 : Fr pMo μ μ3 := hG2.trans (hF3.mono (pM4_pMo he6))
        have hC3 := hC.fr hG3 pMo_pPm
        refine hZ 400 [6, 32, 40, 57, 67, 75] _ _ _ _ _ _ _ ?_
        simp -implicitDefEqProofs (disch := omega) only [wp_step xX5_isUnseen_40, wp_step xX5_isUnseen_41, wp_step xX5_isUnseen_44, wp_step xX5_isUnseen_46, wp_step xX5_isUnseen_47, wp_step xX5_isUnseen_48, wp_step xX5_isUnseen_51, wp_step xX5_isUnseen_53, wp_step xX5_isUnseen_54, ↓e_virt iX5_isUnseen l5_72 iX5_shift, ↓e_getf iX5_isUnseen f5_11, ↓e_getf iX5_isUnseen f5_23, ↓e_virt iX5_isUnseen l5_128 iX7_isPicture, iX5_isUnseen, exec1, ↓p1_e, ↓p2_e, ↓q1_e, ↓q2_e, ↓qi_e, ↓pr_e, ↓pa_e, ↓pa_f, ↓pst_e, ↓qst_e, ↓rst_e, ↓pac_e, ↓pargs_0, ↓pargs_s, ↓gfld_0, ↓gfld_1, ↓gfld_2, ↓gfld_3, ↓pfld_i, ↓pfld_l, ↓pfld_r, ↓sfld_i, ↓sfld_l, ↓sfld_r, brI, pushv, rcv, lget, lset, lset2, isL, rok, szs, List.elem_nil, List.elem_cons, cond_true, cond_false, Option.map_some, beq_self_eq_true, Bool.true_and, Bool.and_true, Bool.false_and, Bool.and_false, Bool.or_false, Bool.false_or, Bool.or_true, Bool.true_or, Nat.reduceAdd, Nat.reduceSub, Nat.reduceMul, Nat.reduceBEq, Nat.reduceEqDiff, Nat.reduceLeDiff, Nat.sub_zero, true_and, and_true, false_and, and_false, true_or, or_true, false_or, or_false, reduceCtorEq, ↓reduceIte, List.getD_cons_zero, List.getD_cons_succ, List.length_cons, List.length_nil, ct_i, ct_r, ct_l, ct_f, ct_n, false_implies, true_implies, y51, y52, y53, y54, hS.1, h55, hv, he6, nI_clamp, Nat.one_mul]
        refine ⟨by omega, k_isPicture (by omega) hS h55 hC3.1.1 hC3.1.2.2.1.1.2.1 ?_⟩
        have ev : anB (fun r => !decide (gi μ3 7 r = 0) && !decide (lnV (gi μ3 (75 + 5 * e + 4) r) (gi μ3 6 r) = gi μ3 (55 + e) r)) nr = p e := by
          rw [pe]
          unfold dayB
          refine anB_cong (fun r hr => ?_)
          have a3 : gi μ3 7 r = A 3 r := congrFun (hC3.2.1 3 (by omega)) r
          have a2 : gi μ3 6 r = A 2 r := congrFun (hC3.2.1 2 (by omega)) r
          have x1 : gi μ3 (75 + 5 * e + 4) r = mo0 LV A nr nb (wd e) r + chD LV A (wd e) a m i r + chD LV A (wd e) a m j r := by
            rw [hm3 r hr, hm2 r hr, hm e he r hr, d2 r hr, dl hF i hi cci, dl hG2 j hj ccj]; grind
          have x2 : gi μ3 (55 + e) r = lnV (mo0 LV A nr nb (wd e) r) (A 2 r) := (hG3.1 _ _ (by unfold pMo; omega)).trans (d4 r hr)
          rw [a3, a2, x1, x2]
          rfl
        rw [ev]
        refine hZ 400 [6, 32, 40, 57, 67, 75] _ _ _ _ _ _ _ ?_
        simp -implicitDefEqProofs (disch := omega) only [wp_step xX5_isUnseen_57, wp_step xX5_isUnseen_59, wp_step xX5_isUnseen_60, wp_step xX5_isUnseen_62, wp_step xX5_isUnseen_63, wp_step xX5_isUnseen_64, ↓e_virt iX5_isUnseen l5_72 iX5_shift, ↓e_getf iX5_isUnseen f5_11, ↓e_getf iX5_isUnseen f5_23, ↓e_virt iX5_isUnseen l5_128 iX7_isPicture, iX5_isUnseen, exec1, ↓p1_e, ↓p2_e, ↓q1_e, ↓q2_e, ↓qi_e, ↓pr_e, ↓pa_e, ↓pa_f, ↓pst_e, ↓qst_e, ↓rst_e, ↓pac_e, ↓pargs_0, ↓pargs_s, ↓gfld_0, ↓gfld_1, ↓gfld_2, ↓gfld_3, ↓pfld_i, ↓pfld_l, ↓pfld_r, ↓sfld_i, ↓sfld_l, ↓sfld_r, brI, pushv, rcv, lget, lset, lset2, isL, rok, szs, List.elem_nil, List.elem_cons, cond_true, cond_false, Option.map_some, beq_self_eq_true, Bool.true_and, Bool.and_true, Bool.false_and, Bool.and_false, Bool.or_false, Bool.false_or, Bool.or_true, Bool.true_or, Nat.reduceAdd, Nat.reduceSub, Nat.reduceMul, Nat.reduceBEq, Nat.reduceEqDiff, Nat.reduceLeDiff, Nat.sub_zero, true_and, and_true, false_and, and_false, true_or, or_true, false_or, or_false, reduceCtorEq, ↓reduceIte, List.getD_cons_zero, List.getD_cons_succ, List.length_cons, List.length_nil, ct_i, ct_r, ct_l, ct_f, ct_n, false_implies, true_implies, y51, y52, y53, y54]
        refine ⟨by omega, k_pshift (by omega) he6 hC3.1 hj (fun μ4 hF4 hm4 => ?_)⟩
        have hG4 : Fr pMo μ μ4 := hG3.trans (hF4.mono (pM4_pMo he6))
        refine hZ 400 [6, 32, 40, 57, 67, 75] _ _ _ _ _ _ _ ?_
        simp -implicitDefEqProofs (disch := omega) only [wp_step xX5_isUnseen_67, wp_step xX5_isUnseen_68, wp_step xX5_isUnseen_70, wp_step xX5_isUnseen_71, wp_step xX5_isUnseen_72, ↓e_virt iX5_isUnseen l5_72 iX5_shift, ↓e_getf iX5_isUnseen f5_11, ↓e_getf iX5_isUnseen f5_23, ↓e_virt iX5_isUnseen l5_128 iX7_isPicture, iX5_isUnseen, exec1, ↓p1_e, ↓p2_e, ↓q1_e, ↓q2_e, ↓qi_e, ↓pr_e, ↓pa_e, ↓pa_f, ↓pst_e, ↓qst_e, ↓rst_e, ↓pac_e, ↓pargs_0, ↓pargs_s, ↓gfld_0, ↓gfld_1, ↓gfld_2, ↓gfld_3, ↓pfld_i, ↓pfld_l, ↓pfld_r, ↓sfld_i, ↓sfld_l, ↓sfld_r, brI, pushv, rcv, lget, lset, lset2, isL, rok, szs, List.elem_nil, List.elem_cons, cond_true, cond_false, Option.map_some, beq_self_eq_true, Bool.true_and, Bool.and_true, Bool.false_and, Bool.and_false, Bool.or_false, Bool.false_or, Bool.or_true, Bool.true_or, Nat.reduceAdd, Nat.reduceSub, Nat.reduceMul, Nat.reduceBEq, Nat.reduceEqDiff, Nat.reduceLeDiff, Nat.sub_zero, true_and, and_true, false_and, and_false, true_or, or_true, false_or, or_false, reduceCtorEq, ↓reduceIte, List.getD_cons_zero, List.getD_cons_succ, List.length_cons, List.length_nil, ct_i, ct_r, ct_l, ct_f, ct_n, false_implies, true_implies, y51, y52, y53, y54]
        refine ⟨by omega, k_pshift (by omega) he6 (hC.fr hG4 pMo_pPm).1 hi (fun μ5 hF5 hm5 => ?_)⟩
        have hG5 : Fr pMo μ μ5 := hG4.trans (hF5.mono (pM4_pMo he6))
        refine hZ 400 [6, 32, 40, 57, 67, 75] _ _ _ _ _ _ _ ?_
        simp -implicitDefEqProofs (disch := omega) only [wp_step xX5_isUnseen_75, wp_step xX5_isUnseen_78, ↓e_virt iX5_isUnseen l5_72 iX5_shift, ↓e_getf iX5_isUnseen f5_11, ↓e_getf iX5_isUnseen f5_23, ↓e_virt iX5_isUnseen l5_128 iX7_isPicture, iX5_isUnseen, exec1, ↓p1_e, ↓p2_e, ↓q1_e, ↓q2_e, ↓qi_e, ↓pr_e, ↓pa_e, ↓pa_f, ↓pst_e, ↓qst_e, ↓rst_e, ↓pac_e, ↓pargs_0, ↓pargs_s, ↓gfld_0, ↓gfld_1, ↓gfld_2, ↓gfld_3, ↓pfld_i, ↓pfld_l, ↓pfld_r, ↓sfld_i, ↓sfld_l, ↓sfld_r, brI, pushv, rcv, lget, lset, lset2, isL, rok, szs, List.elem_nil, List.elem_cons, cond_true, cond_false, Option.map_some, beq_self_eq_true, Bool.true_and, Bool.and_true, Bool.false_and, Bool.and_false, Bool.or_false, Bool.false_or, Bool.or_true, Bool.true_or, Nat.reduceAdd, Nat.reduceSub, Nat.reduceMul, Nat.reduceBEq, Nat.reduceEqDiff, Nat.reduceLeDiff, Nat.sub_zero, true_and, and_true, false_and, and_false, true_or, or_true, false_or, or_false, reduceCtorEq, ↓reduceIte, List.getD_cons_zero, List.getD_cons_succ, List.length_cons, List.length_nil, ct_i, ct_r, ct_l, ct_f, ct_n, false_implies, true_implies, nI_1]
        have fin := ih μ5 hG5 (fun e' he' x hx => ?_)
        · rw [anB, q, Bool.false_or] at fin
          exact fin
        · by_cases y : e' = e
          · subst y
            rw [hm5 x hx, hm4 x hx, hm3 x hx, hm2 x hx, hm e' he x hx, dl hG4 i hi cci, dl hG3 j hj ccj, dl hG2 j hj ccj, dl hF i hi cci]; grind
          · have o : ∀ {μ1 μ2}, Fr (pM4 (75 + 5 * e)) μ1 μ2 → gi μ2 (75 + 5 * e' + 4) x = gi μ1 (75 + 5 * e' + 4) x := fun h => h.1 _ _ (by unfold pM4; omega)
            rw [o hF5, o hF4, o hF3, o hF2]; exact hm e' he' x hx
  refine hZ 400 [6, 32, 40, 57, 67, 75] _ _ _ _ _ _ _ ?_
  simp -implicitDefEqProofs (disch := omega) only [wp_step xX5_isUnseen_0, wp_step xX5_isUnseen_1, wp_step xX5_isUnseen_3, wp_step xX5_isUnseen_4, ↓e_virt iX5_isUnseen l5_72 iX5_shift, ↓e_getf iX5_isUnseen f5_11, ↓e_getf iX5_isUnseen f5_23, ↓e_virt iX5_isUnseen l5_128 iX7_isPicture, iX5_isUnseen, exec1, ↓p1_e, ↓p2_e, ↓q1_e, ↓q2_e, ↓qi_e, ↓pr_e, ↓pa_e, ↓pa_f, ↓pst_e, ↓qst_e, ↓rst_e, ↓pac_e, ↓pargs_0, ↓pargs_s, ↓gfld_0, ↓gfld_1, ↓gfld_2, ↓gfld_3, ↓pfld_i, ↓pfld_l, ↓pfld_r, ↓sfld_i, ↓sfld_l, ↓sfld_r, brI, pushv, rcv, lget, lset, lset2, isL, rok, szs, List.elem_nil, List.elem_cons, cond_true, cond_false, Option.map_some, beq_self_eq_true, Bool.true_and, Bool.and_true, Bool.false_and, Bool.and_false, Bool.or_false, Bool.false_or, Bool.or_true, Bool.true_or, Nat.reduceAdd, Nat.reduceSub, Nat.reduceMul, Nat.reduceBEq, Nat.reduceEqDiff, Nat.reduceLeDiff, Nat.sub_zero, true_and, and_true, false_and, and_false, true_or, or_true, false_or, or_false, reduceCtorEq, ↓reduceIte, List.getD_cons_zero, List.getD_cons_succ, List.length_cons, List.length_nil, ct_i, ct_r, ct_l, ct_f, ct_n, false_implies, true_implies]
  exact loop 0 (by omega) μ Fr.rf (fun e he x hx => rfl)
end FRD
