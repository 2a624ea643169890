/-- what is between two calls is the same -/
def Keep (μ μ' : Mem) : Prop := (∀ a, a ≤ 34 → a ≠ 29 → ∀ j, gi μ' a j = gi μ a j) ∧ gi μ' 29 7 = gi μ 29 7 ∧ gi μ' 29 8 = gi μ 29 8 ∧ (∀ a, 145 ≤ a → a ≤ 163 → ∀ j, gi μ' a j = gi μ a j) ∧ (∀ a, 194 ≤ a → a ≤ 205 → ∀ j, gi μ' a j = gi μ a j) ∧ ∀ k, (k ≤ 5 ∨ k = 18 ∨ 68 ≤ k ∧ k ≤ 72) → gi μ' 144 k = gi μ 144 k
theorem Keep.rf {μ : Mem} : Keep μ μ := ⟨fun _ _ _ _ => rfl, rfl, rfl, fun _ _ _ _ => rfl, fun _ _ _ _ => rfl, fun _ _ => rfl⟩
theorem Keep.trans {μ μ1 μ2 : Mem} (h : Keep μ μ1) (q : Keep μ1 μ2) : Keep μ μ2 := ⟨fun a h1 h2 j => (q.1 a h1 h2 j).trans (h.1 a h1 h2 j), q.2.1.trans h.2.1, q.2.2.1.trans h.2.2.1, fun a h1 h2 j => (q.2.2.2.1 a h1 h2 j).trans (h.2.2.2.1 a h1 h2 j), fun a h1 h2 j => (q.2.2.2.2.1 a h1 h2 j).trans (h.2.2.2.2.1 a h1 h2 j), fun k hk => (q.2.2.2.2.2 k hk).trans (h.2.2.2.2.2 k hk)⟩
theorem Inv.keep {LR : Mem → Prop} (hLR : ∀ μ μ', LawEq μ μ' → LR μ → LR μ') {μ μ' : Mem} (h : Keep μ μ') (q : Inv LR μ) : Inv LR μ' := by
  obtain ⟨h1, h2, h3, h4, h5, h6⟩ := h
  obtain ⟨i1, i2, i3, i4, i5⟩ := q
  exact ⟨i1.cong (h1 3 (by omega) (by omega) _) (h1 3 (by omega) (by omega) _) (h6 _ (by omega)) (h6 _ (by omega)) (fun f hf j => h1 _ (by omega) (by omega) j) (fun f hf j => h4 _ (by omega) (by omega) j), i2.cong (h1 3 (by omega) (by omega) _) (h1 3 (by omega) (by omega) _) (h6 _ (by omega)) (h6 _ (by omega)), i3.cong (h1 1 (by omega) (by omega) _) (h6 _ (by omega)) (fun j => h1 2 (by omega) (by omega) j) (fun j => h4 145 (by omega) (by omega) j), i4.cong (h1 0 (by omega) (by omega) _) (fun k a b => h6 k (by omega)) (fun k => h1 16 (by omega) (by omega) k) (fun f hf j => h1 _ (by omega) (by omega) j) (fun f hf j => h5 _ (by omega) (by omega) j), hLR μ μ' ⟨fun f hf j => h1 _ (by omega) (by omega) j, h2, h3, fun f hf j => h4 _ (by omega) (by omega) j, h6 18 (by omega)⟩ i5⟩
theorem keep_sar {μ : Mem} {a : Nat} {f : Nat → Int32} (h : 35 ≤ a ∧ a < 144 ∨ 164 ≤ a ∧ a < 194 ∨ 206 ≤ a) : Keep μ (sar μ a f) := ⟨fun b h1 _ j => gi_sar_a (by omega), gi_sar_a (by omega), gi_sar_a (by omega), fun b h1 h2 j => gi_sar_a (by omega), fun b h1 h2 j => gi_sar_a (by omega), fun k hk => gi_sar_a (by omega)⟩
theorem keep_si {μ : Mem} {a k : Nat} {x : Int32} (h : 35 ≤ a ∧ a < 144 ∨ 164 ≤ a ∧ a < 194 ∨ 206 ≤ a ∨ a = 29 ∧ 9 ≤ k ∨ a = 144 ∧ 6 ≤ k ∧ k ≠ 18 ∧ (k < 68 ∨ 72 < k)) : Keep μ (si μ a k x) := by
  refine ⟨fun b h1 h2 j => gi_si_a (by omega), ?_, ?_, fun b h1 h2 j => gi_si_a (by omega), fun b h1 h2 j => gi_si_a (by omega), fun q hk => ?_⟩
  · by_cases e : a = 29
    · exact gi_si_k (by omega)
    · exact gi_si_a (by omega)
  · by_cases e : a = 29
    · exact gi_si_k (by omega)
    · exact gi_si_a (by omega)
  · by_cases e : a = 144
    · exact gi_si_k (by omega)
    · exact gi_si_a (by omega)
section OW2
variable {G : Gx} {d v : Nat} {μ : Mem} {bc bs : Nat} {Q : Option Value → List Sh → Mem → Nat → Nat → Prop} {LR : Mem → Prop}
theorem dix (o t : Nat) : (8 * nI o + nI t : Int32) = nI (8 * o + t) := by
  rw [show (8 : Int32) = nI 8 from rfl, pk_mul, nI_add]
theorem dbA_at {z h c o t l : Nat → Int32} {a b : Nat} (ha : a < 8) (hb : b < 8) : ∀ k, (∀ i, i < k → c i = 1 → ∃ x y, x < 8 ∧ y < 8 ∧ o i = nI x ∧ t i = nI y) → dbA z h c o t l k (8 * a + b) = z (8 * a + b) + sm (fun i => owT (h i) (c i) (o i) (t i) (l i) (nI a) (nI b)) k
  | 0, _ => by simp [dbA, sm]
  | k + 1, hk => by
    have ih := dbA_at ha hb (z := z) (h := h) (c := c) (o := o) (t := t) (l := l) k (fun i hi => hk i (by omega))
    rw [dbA, sm]
    by_cases q : ¬ h k = 0 ∧ c k = 1
    · rw [if_pos q]
      obtain ⟨x, y, hx, hy, e1, e2⟩ := hk k (by omega) q.2
      rw [e1, e2, dix, nI_clamp (by omega)]
      unfold upd
      by_cases e : x = a ∧ y = b
      · obtain ⟨rfl, rfl⟩ := e
        rw [if_pos rfl, ih, owT, if_pos ⟨q.1, q.2, rfl, rfl⟩, Int32.add_assoc]
      · rw [if_neg (by omega), ih, owT, if_neg, Int32.add_zero]
        rintro ⟨-, -, e3, e4⟩
        exact e ⟨(nI_eq (by omega) (by omega)).mp e3, (nI_eq (by omega) (by omega)).mp e4⟩
    · rw [if_neg q, ih, owT, if_neg (fun z => q ⟨z.1, z.2.1⟩), Int32.add_zero]
set_option maxRecDepth 100000 in
set_option maxHeartbeats 1000000 in
theorem k_mOwes {a b : Int32} {nb : Nat} (hd : 2 ≤ d) (hb : (gi μ 144 3) = nI nb) (hn : nb ≤ 40) (hok : ∀ i, i < nb → (gi μ 154 (i)) = 1 → ∃ x y, x < 8 ∧ y < 8 ∧ (gi μ 155 (i)) = nI x ∧ (gi μ 156 (i)) = nI y) (h1 : (0 ≤ a ∧ a ≤ 7) ∧ (0 ≤ b ∧ b ≤ 7) ∧ a ≠ b → Q (some (.int (sm (fun i => owT (gi μ 157 (i)) (gi μ 154 (i)) (gi μ 155 (i)) (gi μ 156 (i)) (gi μ 153 (i)) a b) nb))) (LAY v) (sar μ 189 (dbM μ nb)) bc bs) (h0 : ¬ ((0 ≤ a ∧ a ≤ 7) ∧ (0 ≤ b ∧ b ≤ 7) ∧ a ≠ b) → Q (some (.int (-1))) (LAY v) μ bc bs) : KC G d mX11_owes [.ref 144, .int a, .int b] (LAY v) μ bc bs Q := by
  refine KC_intro 0 0 kX11_owes (by decide) (by decide) (Nat.zero_le _) (Nat.zero_le _) (Nat.le_of_ble_eq_true rfl) (fun Z hZ => ?_)
  show Z 0 [some (.ref 144), some (.int a), some (.int b)] [] (LAY v) μ 0 0
  refine hZ 400 [4, 11, 25] _ _ _ _ _ _ _ ?_
  simp -implicitDefEqProofs only [wp_step xX11_owes_0, wp_step xX11_owes_1, wp_step xX11_owes_4, wp_step xX11_owes_7, wp_step xX11_owes_8, wp_step xX11_owes_11, wp_step xX11_owes_14, wp_step xX11_owes_15, wp_step xX11_owes_16, wp_step xX11_owes_19, wp_step xX11_owes_20, wp_step xX11_owes_21, wp_step xX11_owes_22, wp_step xX11_owes_25, wp_step xX11_owes_26, wp_step xX11_owes_29, wp_step xX11_owes_31, wp_step xX11_owes_32, wp_step xX11_owes_33, wp_step xX11_owes_34, wp_step xX11_owes_35, wp_step xX11_owes_36, ↓e_static iX11_owes jn11_227 l11_227 iX11_isPerson, ↓e_virt iX11_owes l11_470 iX11_laysDebts, ↓e_getf iX11_owes f11_152, iX11_owes, exec1, ↓p1_e, ↓p2_e, ↓q1_e, ↓q2_e, ↓qi_e, ↓pr_e, ↓pa_e, ↓pa_f, ↓pst_e, ↓qst_e, ↓rst_e, ↓pac_e, ↓pargs_0, ↓pargs_s, ↓gfld_0, ↓gfld_1, ↓gfld_2, ↓gfld_3, ↓pfld_i, ↓pfld_l, ↓pfld_r, ↓sfld_i, ↓sfld_l, ↓sfld_r, brI, pushv, rcv, lget, lset, lset2, isL, rok, szs, List.elem_nil, List.elem_cons, cond_true, cond_false, Option.map_some, beq_self_eq_true, Bool.true_and, Bool.and_true, Bool.false_and, Bool.and_false, Bool.or_false, Bool.false_or, Bool.or_true, Bool.true_or, Nat.reduceAdd, Nat.reduceSub, Nat.reduceMul, Nat.reduceBEq, Nat.reduceEqDiff, Nat.reduceLeDiff, Nat.sub_zero, true_and, and_true, false_and, and_false, true_or, or_true, false_or, or_false, reduceCtorEq, ↓reduceIte, List.getD_cons_zero, List.getD_cons_succ, List.length_cons, List.length_nil, ct_i, ct_r, ct_l, ct_f, ct_n, false_implies, true_implies, y144]
  refine ⟨by omega, k_mIsPerson (by omega) ?_⟩
  refine hZ 400 [4, 11, 25] _ _ _ _ _ _ _ ?_
  simp -implicitDefEqProofs only [wp_step xX11_owes_0, wp_step xX11_owes_1, wp_step xX11_owes_4, wp_step xX11_owes_7, wp_step xX11_owes_8, wp_step xX11_owes_11, wp_step xX11_owes_14, wp_step xX11_owes_15, wp_step xX11_owes_16, wp_step xX11_owes_19, wp_step xX11_owes_20, wp_step xX11_owes_21, wp_step xX11_owes_22, wp_step xX11_owes_25, wp_step xX11_owes_26, wp_step xX11_owes_29, wp_step xX11_owes_31, wp_step xX11_owes_32, wp_step xX11_owes_33, wp_step xX11_owes_34, wp_step xX11_owes_35, wp_step xX11_owes_36, ↓e_static iX11_owes jn11_227 l11_227 iX11_isPerson, ↓e_virt iX11_owes l11_470 iX11_laysDebts, ↓e_getf iX11_owes f11_152, iX11_owes, exec1, ↓p1_e, ↓p2_e, ↓q1_e, ↓q2_e, ↓qi_e, ↓pr_e, ↓pa_e, ↓pa_f, ↓pst_e, ↓qst_e, ↓rst_e, ↓pac_e, ↓pargs_0, ↓pargs_s, ↓gfld_0, ↓gfld_1, ↓gfld_2, ↓gfld_3, ↓pfld_i, ↓pfld_l, ↓pfld_r, ↓sfld_i, ↓sfld_l, ↓sfld_r, brI, pushv, rcv, lget, lset, lset2, isL, rok, szs, List.elem_nil, List.elem_cons, cond_true, cond_false, Option.map_some, beq_self_eq_true, Bool.true_and, Bool.and_true, Bool.false_and, Bool.and_false, Bool.or_false, Bool.false_or, Bool.or_true, Bool.true_or, Nat.reduceAdd, Nat.reduceSub, Nat.reduceMul, Nat.reduceBEq, Nat.reduceEqDiff, Nat.reduceLeDiff, Nat.sub_zero, true_and, and_true, false_and, and_false, true_or, or_true, false_or, or_false, reduceCtorEq, ↓reduceIte, List.getD_cons_zero, List.getD_cons_succ, List.length_cons, List.length_nil, ct_i, ct_r, ct_l, ct_f, ct_n, false_implies, true_implies, y144, bI_0, Decidable.not_not]
  refine ⟨fun q => h0 (fun z => q z.1), fun c1 => ⟨by omega, k_mIsPerson (by omega) ?_⟩⟩
  refine hZ 400 [4, 11, 25] _ _ _ _ _ _ _ ?_
  simp -implicitDefEqProofs only [wp_step xX11_owes_0, wp_step xX11_owes_1, wp_step xX11_owes_4, wp_step xX11_owes_7, wp_step xX11_owes_8, wp_step xX11_owes_11, wp_step xX11_owes_14, wp_step xX11_owes_15, wp_step xX11_owes_16, wp_step xX11_owes_19, wp_step xX11_owes_20, wp_step xX11_owes_21, wp_step xX11_owes_22, wp_step xX11_owes_25, wp_step xX11_owes_26, wp_step xX11_owes_29, wp_step xX11_owes_31, wp_step xX11_owes_32, wp_step xX11_owes_33, wp_step xX11_owes_34, wp_step xX11_owes_35, wp_step xX11_owes_36, ↓e_static iX11_owes jn11_227 l11_227 iX11_isPerson, ↓e_virt iX11_owes l11_470 iX11_laysDebts, ↓e_getf iX11_owes f11_152, iX11_owes, exec1, ↓p1_e, ↓p2_e, ↓q1_e, ↓q2_e, ↓qi_e, ↓pr_e, ↓pa_e, ↓pa_f, ↓pst_e, ↓qst_e, ↓rst_e, ↓pac_e, ↓pargs_0, ↓pargs_s, ↓gfld_0, ↓gfld_1, ↓gfld_2, ↓gfld_3, ↓pfld_i, ↓pfld_l, ↓pfld_r, ↓sfld_i, ↓sfld_l, ↓sfld_r, brI, pushv, rcv, lget, lset, lset2, isL, rok, szs, List.elem_nil, List.elem_cons, cond_true, cond_false, Option.map_some, beq_self_eq_true, Bool.true_and, Bool.and_true, Bool.false_and, Bool.and_false, Bool.or_false, Bool.false_or, Bool.or_true, Bool.true_or, Nat.reduceAdd, Nat.reduceSub, Nat.reduceMul, Nat.reduceBEq, Nat.reduceEqDiff, Nat.reduceLeDiff, Nat.sub_zero, true_and, and_true, false_and, and_false, true_or, or_true, false_or, or_false, reduceCtorEq, ↓reduceIte, List.getD_cons_zero, List.getD_cons_succ, List.length_cons, List.length_nil, ct_i, ct_r, ct_l, ct_f, ct_n, false_implies, true_implies, y144, bI_0, Decidable.not_not]
  have hvv : ∀ i, i < nb → (gi μ 154 (i)) = 1 → vp_in (8 * (gi μ 155 (i)) + (gi μ 156 (i))) 64 := fun i hi hc => by
    obtain ⟨x, y, hx, hy, e1, e2⟩ := hok i hi hc
    rw [e1, e2, dix]
    exact vin (by omega) (by omega)
  refine ⟨fun q => h0 (fun z => q z.2.1), fun c2 => ⟨fun c3 => ⟨by omega, k_mLaysDebts hb hn hvv ?_⟩, fun q => h0 (fun z => z.2.2 q)⟩⟩
  obtain ⟨x, hx, rfl⟩ := ofN c1.1
  obtain ⟨y, hy, rfl⟩ := ofN c2.1
  have hx7 : x ≤ 7 := (nI_leI (b := 7) (by omega) (by omega)).mp c1.2
  have hy7 : y ≤ 7 := (nI_leI (b := 7) (by omega) (by omega)).mp c2.2
  refine hZ 400 [4, 11, 25] _ _ _ _ _ _ _ ?_
  simp -implicitDefEqProofs only [wp_step xX11_owes_0, wp_step xX11_owes_1, wp_step xX11_owes_4, wp_step xX11_owes_7, wp_step xX11_owes_8, wp_step xX11_owes_11, wp_step xX11_owes_14, wp_step xX11_owes_15, wp_step xX11_owes_16, wp_step xX11_owes_19, wp_step xX11_owes_20, wp_step xX11_owes_21, wp_step xX11_owes_22, wp_step xX11_owes_25, wp_step xX11_owes_26, wp_step xX11_owes_29, wp_step xX11_owes_31, wp_step xX11_owes_32, wp_step xX11_owes_33, wp_step xX11_owes_34, wp_step xX11_owes_35, wp_step xX11_owes_36, ↓e_static iX11_owes jn11_227 l11_227 iX11_isPerson, ↓e_virt iX11_owes l11_470 iX11_laysDebts, ↓e_getf iX11_owes f11_152, iX11_owes, exec1, ↓p1_e, ↓p2_e, ↓q1_e, ↓q2_e, ↓qi_e, ↓pr_e, ↓pa_e, ↓pa_f, ↓pst_e, ↓qst_e, ↓rst_e, ↓pac_e, ↓pargs_0, ↓pargs_s, ↓gfld_0, ↓gfld_1, ↓gfld_2, ↓gfld_3, ↓pfld_i, ↓pfld_l, ↓pfld_r, ↓sfld_i, ↓sfld_l, ↓sfld_r, brI, pushv, rcv, lget, lset, lset2, isL, rok, szs, List.elem_nil, List.elem_cons, cond_true, cond_false, Option.map_some, beq_self_eq_true, Bool.true_and, Bool.and_true, Bool.false_and, Bool.and_false, Bool.or_false, Bool.false_or, Bool.or_true, Bool.true_or, Nat.reduceAdd, Nat.reduceSub, Nat.reduceMul, Nat.reduceBEq, Nat.reduceEqDiff, Nat.reduceLeDiff, Nat.sub_zero, true_and, and_true, false_and, and_false, true_or, or_true, false_or, or_false, reduceCtorEq, ↓reduceIte, List.getD_cons_zero, List.getD_cons_succ, List.length_cons, List.length_nil, ct_i, ct_r, ct_l, ct_f, ct_n, false_implies, true_implies, y144, y189, gi_sar, dix, nI_clamp (show 8 * x + y < 2 ^ 31 by omega)]
  refine ⟨vin (by omega) (by omega), ?_⟩
  have e := h1 ⟨c1, c2, c3⟩
  unfold dbM at e ⊢
  rw [dbA_at (by omega) (by omega) nb hok]
  have e0 : fillF (fun j => gi μ 189 j) 0 64 (8 * x + y) = 0 := by
    unfold fillF; rw [if_pos (by omega)]
  rw [e0, Int32.zero_add]
  exact e
theorem both_owes (hLR : ∀ μ μ', LawEq μ μ' → LR μ → LR μ') (hd : 4 ≤ d) {a b : Int32} (hI : Inv LR μ) : Both G d LR mX10_owes mX11_owes [.int a, .int b] v μ bc bs := by
  obtain ⟨i1, i2, i3, i4, i5⟩ := id hI
  obtain ⟨nr, nb, q1, q2, q3, q4, q5⟩ := id i1
  obtain ⟨⟨n1, n2, n3⟩, -⟩ := id q5
  have s := fun i hi f h5 hf => q5.2.2.2.2.2 f h5 hf i hi
  have hok : ∀ i, i < nb → (gi μ 154 (i)) = 1 → ∃ x y, x < 8 ∧ y < 8 ∧ (gi μ 155 (i)) = nI x ∧ (gi μ 156 (i)) = nI y := fun i hi hc => by
    obtain ⟨-, -, -, ⟨o, ho, e9⟩, e⟩ := q5.2.2.1 i hi
    have s8 := s i hi 8 (by omega) (by omega)
    have s9 := s i hi 9 (by omega) (by omega)
    have s10 := s i hi 10 (by omega) (by omega)
    simp only [Nat.reduceAdd] at s8 s9 s10 e9 e
    rcases e with ⟨c, -⟩ | ⟨-, t, ht, e10, -⟩
    · rw [s8, hc] at c; exact absurd c (by decide)
    · exact ⟨o, t, ho, ht, s9 ▸ e9, s10 ▸ e10⟩
  refine k_owes (by omega) q3 n3 (fun c => k_mOwes (by omega) q4 n3 hok (fun _ => ⟨?_, v, rfl, Inv.keep hLR (keep_sar (by omega)) hI, rfl, rfl⟩) (fun q => absurd c q)) (fun c => k_mOwes (by omega) q4 n3 hok (fun q => absurd q c) (fun _ => ⟨rfl, v, rfl, hI, rfl, rfl⟩))
  refine congrArg (fun z => some (Value.int z)) (sm_cong (fun i hi => ?_))
  have s7 := s i hi 7 (by omega) (by omega)
  have s8 := s i hi 8 (by omega) (by omega)
  have s9 := s i hi 9 (by omega) (by omega)
  have s10 := s i hi 10 (by omega) (by omega)
  have s11 := s i hi 11 (by omega) (by omega)
  simp only [Nat.reduceAdd] at s7 s8 s9 s10 s11
  rw [s7, s8, s9, s10, s11]
end OW2
