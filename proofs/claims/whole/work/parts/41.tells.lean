/-- one clause, in both laws -/
def LRk (A B : Nat → Nat → Int32) (sz k : Nat) : Prop := A 2 k = B 0 k ∧ ∃ s c e, s ≤ c ∧ c ≤ e ∧ e ≤ 200 ∧ B 1 k = nI s ∧ B 2 k = nI c ∧ B 3 k = nI e ∧ ∀ F, ∃ x y, wkL (B 4) (B 5) F (e - c) c [] = some [x] ∧ wkL (B 4) (B 5) F (c - s) s [] = some [y] ∧ cndC (A 0) (A 1) sz F (A 4 k).toNatClampNeg = (decide (x.1 = 1) && !x.2) ∧ amtC (A 0) (A 1) sz F (A 3 k).toNatClampNeg = if y.2 = true then 0 else y.1
/-- both laws tell the same -/
def LRel (μ : Mem) : Prop := ∃ sz n, (gi μ 29 7) = nI sz ∧ (gi μ 29 8) = nI n ∧ (gi μ 144 18) = nI n ∧ LawC (fun f => gi μ (30 + f)) sz n ∧ ∀ k, k < n → LRk (fun f => gi μ (30 + f)) (fun f => gi μ (158 + f)) sz k
theorem LRel_eq : ∀ μ μ', LawEq μ μ' → LRel μ → LRel μ' := by
  intro μ μ' h q
  obtain ⟨h1, h2, h3, h4, h5⟩ := h
  obtain ⟨sz, n, q1, q2, q3, q4, q5⟩ := q
  have a : ∀ f, f < 5 → gi μ' (30 + f) = gi μ (30 + f) := fun f hf => funext (h1 f hf)
  have b : ∀ f, f < 6 → gi μ' (158 + f) = gi μ (158 + f) := fun f hf => funext (h4 f hf)
  refine ⟨sz, n, h2.trans q1, h3.trans q2, h5.trans q3, ?_, fun k hk => ?_⟩
  · unfold LawC at q4 ⊢
    simp only [a 0 (by omega), a 1 (by omega), a 3 (by omega), a 4 (by omega)]
    exact q4
  · have h9 := q5 k hk
    unfold LRk at h9 ⊢
    simp only [a 0 (by omega), a 1 (by omega), a 2 (by omega), a 3 (by omega), a 4 (by omega), b 0 (by omega), b 1 (by omega), b 2 (by omega), b 3 (by omega), b 4 (by omega), b 5 (by omega)]
    exact h9
theorem LRel_c : ∀ μ, LRel μ → gi μ 29 8 = gi μ 144 18 := fun μ q => by
  obtain ⟨sz, n, q1, q2, q3, q4, q5⟩ := q
  rw [q2, q3]
def loV (g : Bool) : Int32 := if g then 0 else -9999
def hiV (g : Bool) : Int32 := if g then 999 else 9999
theorem clV_m (g : Bool) (y : Int32) : (if y < loV g then loV g else if hiV g < y then hiV g else y) = clV g y := by
  unfold clV loV hiV
  have a1 : (0 : Int32).toInt = 0 := rfl
  have a2 : (999 : Int32).toInt = 999 := rfl
  have a3 : (9999 : Int32).toInt = 9999 := rfl
  have a4 : (-9999 : Int32).toInt = -9999 := rfl
  cases g
  · simp only [Bool.false_eq_true, if_false]
    by_cases h1 : y < 9999
    · rw [if_pos h1, if_neg (c := (9999 : Int32) < y) (by simp only [i_lt] at *; omega)]
      by_cases h2 : y < -9999
      · rw [if_pos h2, if_neg (by simp only [i_lt] at *; omega)]
      · rw [if_neg h2]
        by_cases h3 : -9999 < y
        · rw [if_pos h3]
        · rw [if_neg h3]; apply i_eq.mpr; simp only [i_lt] at *; omega
    · rw [if_neg h1, if_neg (c := y < -9999) (by simp only [i_lt] at *; omega), if_pos (c := (-9999 : Int32) < 9999) (by decide)]
      by_cases h2 : 9999 < y
      · rw [if_pos h2]
      · rw [if_neg h2]; apply i_eq.mpr; simp only [i_lt] at *; omega
  · simp only [if_true]
    by_cases h1 : y < 999
    · rw [if_pos h1, if_neg (c := (999 : Int32) < y) (by simp only [i_lt] at *; omega)]
      by_cases h2 : y < 0
      · rw [if_pos h2, if_neg (by simp only [i_lt] at *; omega)]
      · rw [if_neg h2]
        by_cases h3 : 0 < y
        · rw [if_pos h3]
        · rw [if_neg h3]; apply i_eq.mpr; simp only [i_lt] at *; omega
    · rw [if_neg h1, if_neg (c := y < 0) (by simp only [i_lt] at *; omega), if_pos (c := (0 : Int32) < 999) (by decide)]
      by_cases h2 : 999 < y
      · rw [if_pos h2]
      · rw [if_neg h2]; apply i_eq.mpr; simp only [i_lt] at *; omega
def pN (a j : Nat) : Prop := a = 171 ∨ a = 172 ∨ a = 144 ∧ j = 41
section TEL
variable {G : Gx} {d v : Nat} {μ : Mem} {bc bs : Nat} {Q : Option Value → List Sh → Mem → Nat → Nat → Prop} {LR : Mem → Prop}
set_option maxRecDepth 100000 in
set_option maxHeartbeats 1000000 in
theorem k_mTells {g : Bool} {i rk sz n : Nat} {w : Int32} (hd : 3 ≤ d) (hi : i < 40) (hr : (gi μ 151 (i)) = nI rk) (hk : rk < 10) (hw : w = if g then FM μ i 0 else 0) (hn : (gi μ 144 18) = nI n) (hn14 : n ≤ 14) (hL : ∀ k, k < n → LRk (fun f => gi μ (30 + f)) (fun f => gi μ (158 + f)) sz k) (h : ∀ μ', Fr pN μ μ' → Q (some (.int (lawV (fun f => gi μ (30 + f)) sz n (FM μ i) g))) (LAY v) μ' bc bs) : KC G d mX11_tells [.ref 144, .int (sgn g), .int (nI i), .int (loV g), .int (hiV g), .int w] (LAY v) μ bc bs Q := by
  refine KC_intro 0 0 kX11_tells (by decide) (by decide) (Nat.zero_le _) (Nat.zero_le _) (Nat.le_of_ble_eq_true rfl) (fun Z hZ => ?_)
  have fFM : ∀ μ1, Fr pN μ μ1 → FM μ1 i = FM μ i := fun μ1 h => by
    funext f
    unfold FM
    rw [h.1 153 i (by unfold pN; omega), h.1 154 i (by unfold pN; omega), h.1 155 i (by unfold pN; omega), h.1 152 i (by unfold pN; omega), h.1 151 i (by unfold pN; omega), h.1 150 _ (by unfold pN; omega), h.1 144 4 (by unfold pN; omega)]
  have mono : ∀ μ1 μ2, Fr pM μ1 μ2 → Fr pN μ1 μ2 := fun μ1 μ2 h => h.mono (fun a j z => z.elim Or.inl (fun z => Or.inr (Or.inl z)))
  have key : ∀ m k μ1, k + m = n → Fr pN μ μ1 → gi μ1 144 41 = nI i → (∀ μ', Fr pN μ μ' → Q (some (.int (askR (gi μ 32) (fun k => cndC (gi μ 30) (gi μ 31) sz (FM μ i) (gi μ 34 k).toNatClampNeg) (fun k => clV g (amtC (gi μ 30) (gi μ 31) sz (FM μ i) (gi μ 33 k).toNatClampNeg)) (sgn g) (if g then FM μ i 0 else 0) m k))) (LAY v) μ' bc bs) → Z 8 [some (.ref 144), some (.int (sgn g)), some (.int (nI i)), some (.int (loV g)), some (.int (hiV g)), some (.int w), some (.int (nI k)), none] [] (LAY v) μ1 0 0 := by
    intro m
    induction m with
    | zero =>
      intro k μ1 hk hF ha hQ
      have f8 : gi μ1 144 18 = nI n := by rw [hF.1 144 18 (by unfold pN; omega)]; exact hn
      refine hZ 400 [8, 49, 89] _ _ _ _ _ _ _ ?_
      simp -implicitDefEqProofs (disch := decide) only [wp_step xX11_tells_0, wp_step xX11_tells_1, wp_step xX11_tells_2, wp_step xX11_tells_5, wp_step xX11_tells_6, wp_step xX11_tells_8, wp_step xX11_tells_10, wp_step xX11_tells_11, wp_step xX11_tells_14, wp_step xX11_tells_17, wp_step xX11_tells_18, wp_step xX11_tells_21, wp_step xX11_tells_23, wp_step xX11_tells_24, wp_step xX11_tells_25, wp_step xX11_tells_28, wp_step xX11_tells_31, wp_step xX11_tells_32, wp_step xX11_tells_33, wp_step xX11_tells_36, wp_step xX11_tells_38, wp_step xX11_tells_39, wp_step xX11_tells_40, wp_step xX11_tells_43, wp_step xX11_tells_45, wp_step xX11_tells_46, wp_step xX11_tells_49, wp_step xX11_tells_50, wp_step xX11_tells_53, wp_step xX11_tells_54, wp_step xX11_tells_55, wp_step xX11_tells_58, wp_step xX11_tells_59, wp_step xX11_tells_62, wp_step xX11_tells_63, wp_step xX11_tells_64, wp_step xX11_tells_65, wp_step xX11_tells_68, wp_step xX11_tells_71, wp_step xX11_tells_72, wp_step xX11_tells_73, wp_step xX11_tells_76, wp_step xX11_tells_78, wp_step xX11_tells_79, wp_step xX11_tells_80, wp_step xX11_tells_83, wp_step xX11_tells_85, wp_step xX11_tells_86, wp_step xX11_tells_89, wp_step xX11_tells_90, wp_step xX11_tells_93, wp_step xX11_tells_94, wp_step xX11_tells_95, wp_step xX11_tells_98, wp_step xX11_tells_99, wp_step xX11_tells_102, wp_step xX11_tells_103, wp_step xX11_tells_106, wp_step xX11_tells_107, wp_step xX11_tells_108, wp_step xX11_tells_110, wp_step xX11_tells_112, wp_step xX11_tells_113, wp_step xX11_tells_116, wp_step xX11_tells_117, wp_step xX11_tells_120, wp_step xX11_tells_122, wp_step xX11_tells_124, wp_step xX11_tells_127, wp_step xX11_tells_129, wp_step xX11_tells_132, wp_step xX11_tells_134, wp_step xX11_tells_135, wp_step xX11_tells_138, wp_step xX11_tells_141, wp_step xX11_tells_143, ↓e_putf iX11_tells f11_354, ↓e_getf iX11_tells f11_351, ↓e_getf iX11_tells f11_58, ↓e_getf iX11_tells f11_64, ↓e_getf iX11_tells f11_67, ↓e_virt iX11_tells l11_368 iX11_works, ↓e_getf iX11_tells f11_100, ↓e_getf iX11_tells f11_97, ↓e_getf iX11_tells f11_61, iX11_tells, exec1, ↓p1_e, ↓p2_e, ↓q1_e, ↓q2_e, ↓qi_e, ↓pr_e, ↓pa_e, ↓pa_f, ↓pst_e, ↓qst_e, ↓rst_e, ↓pac_e, ↓pargs_0, ↓pargs_s, ↓gfld_0, ↓gfld_1, ↓gfld_2, ↓gfld_3, ↓pfld_i, ↓pfld_l, ↓pfld_r, ↓sfld_i, ↓sfld_l, ↓sfld_r, brI, pushv, rcv, lget, lset, lset2, isL, rok, szs, List.elem_nil, List.elem_cons, cond_true, cond_false, Option.map_some, beq_self_eq_true, Bool.true_and, Bool.and_true, Bool.false_and, Bool.and_false, Bool.or_false, Bool.false_or, Bool.or_true, Bool.true_or, Nat.reduceAdd, Nat.reduceSub, Nat.reduceMul, Nat.reduceBEq, Nat.reduceEqDiff, Nat.reduceLeDiff, Nat.sub_zero, true_and, and_true, false_and, and_false, true_or, or_true, false_or, or_false, reduceCtorEq, ↓reduceIte, List.getD_cons_zero, List.getD_cons_succ, List.length_cons, List.length_nil, ct_i, ct_r, ct_l, ct_f, ct_n, false_implies, true_implies, y144, y158, y159, y160, y161, y162, y163, y171, y172, f8]
      have kn : k = n := by omega
      subst kn
      refine ⟨fun _ => ?_, fun q => absurd (nI_le (Nat.le_refl k) (by omega)) q⟩
      have e := hQ μ1 hF
      rw [askR, ← hw] at e
      exact e
    | succ m ih =>
      intro k μ1 hk' hF ha hQ
      have f8 : gi μ1 144 18 = nI n := by rw [hF.1 144 18 (by unfold pN; omega)]; exact hn
      have hkn : k < n := by omega
      obtain ⟨elt, s, c, e, hsc, hce, he, es, ec, ee, hF0⟩ := hL k hkn
      obtain ⟨x, y, hx, hy, ex, ey⟩ := hF0 (FM μ i)
      simp only [Nat.reduceAdd] at elt es ec ee hx hy ex ey
      have f : ∀ a j, ¬ pN a j → gi μ1 a j = gi μ a j := hF.1
      have f158 : gi μ1 158 k = gi μ 32 k := by rw [f 158 k (by unfold pN; omega)]; exact elt.symm
      have f160 : gi μ1 160 k = nI c := by rw [f 160 k (by unfold pN; omega)]; exact ec
      have f161 : gi μ1 161 k = nI e := by rw [f 161 k (by unfold pN; omega)]; exact ee
      have a162 : gi μ1 162 = gi μ 162 := fr_fun hF (fun j => by unfold pN; omega)
      have a163 : gi μ1 163 = gi μ 163 := fr_fun hF (fun j => by unfold pN; omega)
      have hv : vp_in (nI k) 14 := vin (by omega) (by omega)
      have v0 : vp_in 0 240 := (vin (i := 0) (n := 240) (by omega) (by omega) : vp_in (nI 0) 240)
      rw [askR] at hQ
      have nx : ∀ μ2, Fr pN μ μ2 → gi μ2 144 41 = nI i → ¬ (gi μ 32 k = sgn g ∧ cndC (gi μ 30) (gi μ 31) sz (FM μ i) (gi μ 34 k).toNatClampNeg = true) → Z 8 [some (.ref 144), some (.int (sgn g)), some (.int (nI i)), some (.int (loV g)), some (.int (hiV g)), some (.int w), some (.int (nI (k + 1))), none] [] (LAY v) μ2 0 0 := fun μ2 hF2 ha2 hn => by
        rw [if_neg hn] at hQ
        exact ih (k + 1) μ2 (by omega) hF2 ha2 hQ
      refine hZ 400 [8, 49, 89] _ _ _ _ _ _ _ ?_
      simp -implicitDefEqProofs (disch := decide) only [wp_step xX11_tells_0, wp_step xX11_tells_1, wp_step xX11_tells_2, wp_step xX11_tells_5, wp_step xX11_tells_6, wp_step xX11_tells_8, wp_step xX11_tells_10, wp_step xX11_tells_11, wp_step xX11_tells_14, wp_step xX11_tells_17, wp_step xX11_tells_18, wp_step xX11_tells_21, wp_step xX11_tells_23, wp_step xX11_tells_24, wp_step xX11_tells_25, wp_step xX11_tells_28, wp_step xX11_tells_31, wp_step xX11_tells_32, wp_step xX11_tells_33, wp_step xX11_tells_36, wp_step xX11_tells_38, wp_step xX11_tells_39, wp_step xX11_tells_40, wp_step xX11_tells_43, wp_step xX11_tells_45, wp_step xX11_tells_46, wp_step xX11_tells_49, wp_step xX11_tells_50, wp_step xX11_tells_53, wp_step xX11_tells_54, wp_step xX11_tells_55, wp_step xX11_tells_58, wp_step xX11_tells_59, wp_step xX11_tells_62, wp_step xX11_tells_63, wp_step xX11_tells_64, wp_step xX11_tells_65, wp_step xX11_tells_68, wp_step xX11_tells_71, wp_step xX11_tells_72, wp_step xX11_tells_73, wp_step xX11_tells_76, wp_step xX11_tells_78, wp_step xX11_tells_79, wp_step xX11_tells_80, wp_step xX11_tells_83, wp_step xX11_tells_85, wp_step xX11_tells_86, wp_step xX11_tells_89, wp_step xX11_tells_90, wp_step xX11_tells_93, wp_step xX11_tells_94, wp_step xX11_tells_95, wp_step xX11_tells_98, wp_step xX11_tells_99, wp_step xX11_tells_102, wp_step xX11_tells_103, wp_step xX11_tells_106, wp_step xX11_tells_107, wp_step xX11_tells_108, wp_step xX11_tells_110, wp_step xX11_tells_112, wp_step xX11_tells_113, wp_step xX11_tells_116, wp_step xX11_tells_117, wp_step xX11_tells_120, wp_step xX11_tells_122, wp_step xX11_tells_124, wp_step xX11_tells_127, wp_step xX11_tells_129, wp_step xX11_tells_132, wp_step xX11_tells_134, wp_step xX11_tells_135, wp_step xX11_tells_138, wp_step xX11_tells_141, wp_step xX11_tells_143, ↓e_putf iX11_tells f11_354, ↓e_getf iX11_tells f11_351, ↓e_getf iX11_tells f11_58, ↓e_getf iX11_tells f11_64, ↓e_getf iX11_tells f11_67, ↓e_virt iX11_tells l11_368 iX11_works, ↓e_getf iX11_tells f11_100, ↓e_getf iX11_tells f11_97, ↓e_getf iX11_tells f11_61, iX11_tells, exec1, ↓p1_e, ↓p2_e, ↓q1_e, ↓q2_e, ↓qi_e, ↓pr_e, ↓pa_e, ↓pa_f, ↓pst_e, ↓qst_e, ↓rst_e, ↓pac_e, ↓pargs_0, ↓pargs_s, ↓gfld_0, ↓gfld_1, ↓gfld_2, ↓gfld_3, ↓pfld_i, ↓pfld_l, ↓pfld_r, ↓sfld_i, ↓sfld_l, ↓sfld_r, brI, pushv, rcv, lget, lset, lset2, isL, rok, szs, List.elem_nil, List.elem_cons, cond_true, cond_false, Option.map_some, beq_self_eq_true, Bool.true_and, Bool.and_true, Bool.false_and, Bool.and_false, Bool.or_false, Bool.false_or, Bool.or_true, Bool.true_or, Nat.reduceAdd, Nat.reduceSub, Nat.reduceMul, Nat.reduceBEq, Nat.reduceEqDiff, Nat.reduceLeDiff, Nat.sub_zero, true_and, and_true, false_and, and_false, true_or, or_true, false_or, or_false, reduceCtorEq, ↓reduceIte, List.getD_cons_zero, List.getD_cons_succ, List.length_cons, List.length_nil, ct_i, ct_r, ct_l, ct_f, ct_n, false_implies, true_implies, y144, y158, y159, y160, y161, y162, y163, y171, y172, f8, f158, f160, f161, nI_1, nI_clamp (show k < 2 ^ 31 by omega), hv]
      refine ⟨fun q => absurd q (nI_ge hkn (by omega)), fun _ => ⟨fun c1 => ⟨by omega, k_mWorks (by omega) hi ha (k := rk) (by rw [f 151 i (by unfold pN; omega)]; exact hr) hk hce he (l := [x]) (by rw [a162, a163, fFM μ1 hF]; exact hx) (fun μ2 hF2 hS2 => ?_)⟩, fun c1 => nx μ1 hF ha (fun z => c1 z.1)⟩⟩
      have hG2 : Fr pN μ μ2 := hF.trans (mono _ _ hF2)
      have ha2 : gi μ2 144 41 = nI i := by rw [hF2.1 144 41 (by unfold pM; omega)]; exact ha
      obtain ⟨x1, x2, -⟩ := hS2
      have x1 : gi μ2 171 (Int32.toNatClampNeg 0) = x.1 := x1
      have x2 : gi μ2 172 (Int32.toNatClampNeg 0) = bN x.2 := x2
      have g159 : gi μ2 159 k = nI s := by rw [hG2.1 159 k (by unfold pN; omega)]; exact es
      have g160 : gi μ2 160 k = nI c := by rw [hG2.1 160 k (by unfold pN; omega)]; exact ec
      refine hZ 400 [8, 49, 89] _ _ _ _ _ _ _ ?_
      simp -implicitDefEqProofs (disch := decide) only [wp_step xX11_tells_0, wp_step xX11_tells_1, wp_step xX11_tells_2, wp_step xX11_tells_5, wp_step xX11_tells_6, wp_step xX11_tells_8, wp_step xX11_tells_10, wp_step xX11_tells_11, wp_step xX11_tells_14, wp_step xX11_tells_17, wp_step xX11_tells_18, wp_step xX11_tells_21, wp_step xX11_tells_23, wp_step xX11_tells_24, wp_step xX11_tells_25, wp_step xX11_tells_28, wp_step xX11_tells_31, wp_step xX11_tells_32, wp_step xX11_tells_33, wp_step xX11_tells_36, wp_step xX11_tells_38, wp_step xX11_tells_39, wp_step xX11_tells_40, wp_step xX11_tells_43, wp_step xX11_tells_45, wp_step xX11_tells_46, wp_step xX11_tells_49, wp_step xX11_tells_50, wp_step xX11_tells_53, wp_step xX11_tells_54, wp_step xX11_tells_55, wp_step xX11_tells_58, wp_step xX11_tells_59, wp_step xX11_tells_62, wp_step xX11_tells_63, wp_step xX11_tells_64, wp_step xX11_tells_65, wp_step xX11_tells_68, wp_step xX11_tells_71, wp_step xX11_tells_72, wp_step xX11_tells_73, wp_step xX11_tells_76, wp_step xX11_tells_78, wp_step xX11_tells_79, wp_step xX11_tells_80, wp_step xX11_tells_83, wp_step xX11_tells_85, wp_step xX11_tells_86, wp_step xX11_tells_89, wp_step xX11_tells_90, wp_step xX11_tells_93, wp_step xX11_tells_94, wp_step xX11_tells_95, wp_step xX11_tells_98, wp_step xX11_tells_99, wp_step xX11_tells_102, wp_step xX11_tells_103, wp_step xX11_tells_106, wp_step xX11_tells_107, wp_step xX11_tells_108, wp_step xX11_tells_110, wp_step xX11_tells_112, wp_step xX11_tells_113, wp_step xX11_tells_116, wp_step xX11_tells_117, wp_step xX11_tells_120, wp_step xX11_tells_122, wp_step xX11_tells_124, wp_step xX11_tells_127, wp_step xX11_tells_129, wp_step xX11_tells_132, wp_step xX11_tells_134, wp_step xX11_tells_135, wp_step xX11_tells_138, wp_step xX11_tells_141, wp_step xX11_tells_143, ↓e_putf iX11_tells f11_354, ↓e_getf iX11_tells f11_351, ↓e_getf iX11_tells f11_58, ↓e_getf iX11_tells f11_64, ↓e_getf iX11_tells f11_67, ↓e_virt iX11_tells l11_368 iX11_works, ↓e_getf iX11_tells f11_100, ↓e_getf iX11_tells f11_97, ↓e_getf iX11_tells f11_61, iX11_tells, exec1, ↓p1_e, ↓p2_e, ↓q1_e, ↓q2_e, ↓qi_e, ↓pr_e, ↓pa_e, ↓pa_f, ↓pst_e, ↓qst_e, ↓rst_e, ↓pac_e, ↓pargs_0, ↓pargs_s, ↓gfld_0, ↓gfld_1, ↓gfld_2, ↓gfld_3, ↓pfld_i, ↓pfld_l, ↓pfld_r, ↓sfld_i, ↓sfld_l, ↓sfld_r, brI, pushv, rcv, lget, lset, lset2, isL, rok, szs, List.elem_nil, List.elem_cons, cond_true, cond_false, Option.map_some, beq_self_eq_true, Bool.true_and, Bool.and_true, Bool.false_and, Bool.and_false, Bool.or_false, Bool.false_or, Bool.or_true, Bool.true_or, Nat.reduceAdd, Nat.reduceSub, Nat.reduceMul, Nat.reduceBEq, Nat.reduceEqDiff, Nat.reduceLeDiff, Nat.sub_zero, true_and, and_true, false_and, and_false, true_or, or_true, false_or, or_false, reduceCtorEq, ↓reduceIte, List.getD_cons_zero, List.getD_cons_succ, List.length_cons, List.length_nil, ct_i, ct_r, ct_l, ct_f, ct_n, false_implies, true_implies, y144, y158, y159, y160, y161, y162, y163, y171, y172, x1, x2, g159, g160, nI_1, nI_clamp (show k < 2 ^ 31 by omega), hv, v0]
      have a162' : gi μ2 162 = gi μ 162 := fr_fun hG2 (fun j => by unfold pN; omega)
      have a163' : gi μ2 163 = gi μ 163 := fr_fun hG2 (fun j => by unfold pN; omega)
      refine ⟨fun z => nx μ2 hG2 ha2 (fun q => ?_), fun z => ⟨fun z2 => ⟨by omega, k_mWorks (by omega) hi ha2 (k := rk) (by rw [hG2.1 151 i (by unfold pN; omega)]; exact hr) hk hsc (by omega) (l := [y]) (by rw [a162', a163', fFM μ2 hG2]; exact hy) (fun μ3 hF3 hS3 => ?_)⟩, fun z2 => nx μ2 hG2 ha2 (fun q => ?_)⟩⟩
      · rw [bN_0, Bool.not_eq_false] at z
        rw [ex, z] at q
        exact absurd q.2 (by simp)
      · rw [bN_0] at z
        have hc : cndC (gi μ 30) (gi μ 31) sz (FM μ i) (gi μ 34 k).toNatClampNeg = true := by rw [ex, z, z2]; rfl
        rw [if_pos ⟨c1, hc⟩, ey] at hQ
        have hG3 : Fr pN μ μ3 := hG2.trans (mono _ _ hF3)
        obtain ⟨y1, y2, -⟩ := hS3
        have y1 : gi μ3 171 (Int32.toNatClampNeg 0) = y.1 := y1
        have y2 : gi μ3 172 (Int32.toNatClampNeg 0) = bN y.2 := y2
        have fin : ∀ z, (if y.2 = true then 0 else y.1) = z → (loV g ≤ z → (z ≤ hiV g → Q (some (.int z)) (LAY v) μ3 bc bs) ∧ (¬ z ≤ hiV g → Q (some (.int (hiV g))) (LAY v) μ3 bc bs)) ∧ (¬ loV g ≤ z → Q (some (.int (loV g))) (LAY v) μ3 bc bs) := fun z hz => by
          have e9 := hQ μ3 hG3
          rw [hz, ← clV_m] at e9
          refine ⟨fun r => ⟨fun r2 => ?_, fun r2 => ?_⟩, fun r => ?_⟩
          · rw [if_neg (Int32.not_lt.mpr r), if_neg (Int32.not_lt.mpr r2)] at e9; exact e9
          · rw [if_neg (Int32.not_lt.mpr r), if_pos (Int32.not_le.mp r2)] at e9; exact e9
          · rw [if_pos (Int32.not_le.mp r)] at e9; exact e9
        refine hZ 400 [8, 49, 89] _ _ _ _ _ _ _ ?_
        simp -implicitDefEqProofs (disch := decide) only [wp_step xX11_tells_0, wp_step xX11_tells_1, wp_step xX11_tells_2, wp_step xX11_tells_5, wp_step xX11_tells_6, wp_step xX11_tells_8, wp_step xX11_tells_10, wp_step xX11_tells_11, wp_step xX11_tells_14, wp_step xX11_tells_17, wp_step xX11_tells_18, wp_step xX11_tells_21, wp_step xX11_tells_23, wp_step xX11_tells_24, wp_step xX11_tells_25, wp_step xX11_tells_28, wp_step xX11_tells_31, wp_step xX11_tells_32, wp_step xX11_tells_33, wp_step xX11_tells_36, wp_step xX11_tells_38, wp_step xX11_tells_39, wp_step xX11_tells_40, wp_step xX11_tells_43, wp_step xX11_tells_45, wp_step xX11_tells_46, wp_step xX11_tells_49, wp_step xX11_tells_50, wp_step xX11_tells_53, wp_step xX11_tells_54, wp_step xX11_tells_55, wp_step xX11_tells_58, wp_step xX11_tells_59, wp_step xX11_tells_62, wp_step xX11_tells_63, wp_step xX11_tells_64, wp_step xX11_tells_65, wp_step xX11_tells_68, wp_step xX11_tells_71, wp_step xX11_tells_72, wp_step xX11_tells_73, wp_step xX11_tells_76, wp_step xX11_tells_78, wp_step xX11_tells_79, wp_step xX11_tells_80, wp_step xX11_tells_83, wp_step xX11_tells_85, wp_step xX11_tells_86, wp_step xX11_tells_89, wp_step xX11_tells_90, wp_step xX11_tells_93, wp_step xX11_tells_94, wp_step xX11_tells_95, wp_step xX11_tells_98, wp_step xX11_tells_99, wp_step xX11_tells_102, wp_step xX11_tells_103, wp_step xX11_tells_106, wp_step xX11_tells_107, wp_step xX11_tells_108, wp_step xX11_tells_110, wp_step xX11_tells_112, wp_step xX11_tells_113, wp_step xX11_tells_116, wp_step xX11_tells_117, wp_step xX11_tells_120, wp_step xX11_tells_122, wp_step xX11_tells_124, wp_step xX11_tells_127, wp_step xX11_tells_129, wp_step xX11_tells_132, wp_step xX11_tells_134, wp_step xX11_tells_135, wp_step xX11_tells_138, wp_step xX11_tells_141, wp_step xX11_tells_143, ↓e_putf iX11_tells f11_354, ↓e_getf iX11_tells f11_351, ↓e_getf iX11_tells f11_58, ↓e_getf iX11_tells f11_64, ↓e_getf iX11_tells f11_67, ↓e_virt iX11_tells l11_368 iX11_works, ↓e_getf iX11_tells f11_100, ↓e_getf iX11_tells f11_97, ↓e_getf iX11_tells f11_61, iX11_tells, exec1, ↓p1_e, ↓p2_e, ↓q1_e, ↓q2_e, ↓qi_e, ↓pr_e, ↓pa_e, ↓pa_f, ↓pst_e, ↓qst_e, ↓rst_e, ↓pac_e, ↓pargs_0, ↓pargs_s, ↓gfld_0, ↓gfld_1, ↓gfld_2, ↓gfld_3, ↓pfld_i, ↓pfld_l, ↓pfld_r, ↓sfld_i, ↓sfld_l, ↓sfld_r, brI, pushv, rcv, lget, lset, lset2, isL, rok, szs, List.elem_nil, List.elem_cons, cond_true, cond_false, Option.map_some, beq_self_eq_true, Bool.true_and, Bool.and_true, Bool.false_and, Bool.and_false, Bool.or_false, Bool.false_or, Bool.or_true, Bool.true_or, Nat.reduceAdd, Nat.reduceSub, Nat.reduceMul, Nat.reduceBEq, Nat.reduceEqDiff, Nat.reduceLeDiff, Nat.sub_zero, true_and, and_true, false_and, and_false, true_or, or_true, false_or, or_false, reduceCtorEq, ↓reduceIte, List.getD_cons_zero, List.getD_cons_succ, List.length_cons, List.length_nil, ct_i, ct_r, ct_l, ct_f, ct_n, false_implies, true_implies, y144, y158, y159, y160, y161, y162, y163, y171, y172, y1, y2, v0]
        refine ⟨fun r => fin y.1 ?_, fun r => fin 0 ?_⟩
        · rw [bN_0] at r; rw [r]; rfl
        · rw [bN_0, Bool.not_eq_false] at r; rw [r]; rfl
      · rw [ex] at q
        rw [decide_eq_false z2] at q
        exact absurd q.2 (by simp)
  show Z 0 [some (.ref 144), some (.int (sgn g)), some (.int (nI i)), some (.int (loV g)), some (.int (hiV g)), some (.int w), none, none] [] (LAY v) μ 0 0
  refine hZ 400 [8, 49, 89] _ _ _ _ _ _ _ ?_
  simp -implicitDefEqProofs (disch := decide) only [wp_step xX11_tells_0, wp_step xX11_tells_1, wp_step xX11_tells_2, wp_step xX11_tells_5, wp_step xX11_tells_6, ↓e_putf iX11_tells f11_354, ↓e_getf iX11_tells f11_351, ↓e_getf iX11_tells f11_58, ↓e_getf iX11_tells f11_64, ↓e_getf iX11_tells f11_67, ↓e_virt iX11_tells l11_368 iX11_works, ↓e_getf iX11_tells f11_100, ↓e_getf iX11_tells f11_97, ↓e_getf iX11_tells f11_61, iX11_tells, exec1, ↓p1_e, ↓p2_e, ↓q1_e, ↓q2_e, ↓qi_e, ↓pr_e, ↓pa_e, ↓pa_f, ↓pst_e, ↓qst_e, ↓rst_e, ↓pac_e, ↓pargs_0, ↓pargs_s, ↓gfld_0, ↓gfld_1, ↓gfld_2, ↓gfld_3, ↓pfld_i, ↓pfld_l, ↓pfld_r, ↓sfld_i, ↓sfld_l, ↓sfld_r, brI, pushv, rcv, lget, lset, lset2, isL, rok, szs, List.elem_nil, List.elem_cons, cond_true, cond_false, Option.map_some, beq_self_eq_true, Bool.true_and, Bool.and_true, Bool.false_and, Bool.and_false, Bool.or_false, Bool.false_or, Bool.or_true, Bool.true_or, Nat.reduceAdd, Nat.reduceSub, Nat.reduceMul, Nat.reduceBEq, Nat.reduceEqDiff, Nat.reduceLeDiff, Nat.sub_zero, true_and, and_true, false_and, and_false, true_or, or_true, false_or, or_false, reduceCtorEq, ↓reduceIte, List.getD_cons_zero, List.getD_cons_succ, List.length_cons, List.length_nil, ct_i, ct_r, ct_l, ct_f, ct_n, false_implies, true_implies, y144]
  exact key n 0 _ (by omega) (Fr.rf.si (Or.inr (Or.inr ⟨rfl, rfl⟩))) gi_si h
set_option maxRecDepth 100000 in
set_option maxHeartbeats 1000000 in
theorem k_mHeavy {i rk sz n : Nat} (hd : 4 ≤ d) (hi : i < 40) (hr : (gi μ 151 (i)) = nI rk) (hk : rk < 10) (hn : (gi μ 144 18) = nI n) (hn14 : n ≤ 14) (hL : ∀ k, k < n → LRk (fun f => gi μ (30 + f)) (fun f => gi μ (158 + f)) sz k) (h : ∀ μ', Fr pN μ μ' → Q (some (.int (lawV (fun f => gi μ (30 + f)) sz n (FM μ i) true))) (LAY v) μ' bc bs) : KC G d mX11_heavy [.ref 144, .int (nI i)] (LAY v) μ bc bs Q := by
  refine KC_intro 0 0 kX11_heavy (by decide) (by decide) (Nat.zero_le _) (Nat.zero_le _) (Nat.le_of_ble_eq_true rfl) (fun Z hZ => ?_)
  show Z 0 [some (.ref 144), some (.int (nI i))] [] (LAY v) μ 0 0
  refine hZ 400 [17] _ _ _ _ _ _ _ ?_
  simp -implicitDefEqProofs (disch := decide) only [wp_step xX11_heavy_0, wp_step xX11_heavy_1, wp_step xX11_heavy_3, wp_step xX11_heavy_4, wp_step xX11_heavy_5, wp_step xX11_heavy_8, wp_step xX11_heavy_9, wp_step xX11_heavy_12, wp_step xX11_heavy_13, wp_step xX11_heavy_14, wp_step xX11_heavy_17, ↓e_getf iX11_heavy f11_43, ↓e_virt iX11_heavy l11_371 iX11_tells, iX11_heavy, exec1, ↓p1_e, ↓p2_e, ↓q1_e, ↓q2_e, ↓qi_e, ↓pr_e, ↓pa_e, ↓pa_f, ↓pst_e, ↓qst_e, ↓rst_e, ↓pac_e, ↓pargs_0, ↓pargs_s, ↓gfld_0, ↓gfld_1, ↓gfld_2, ↓gfld_3, ↓pfld_i, ↓pfld_l, ↓pfld_r, ↓sfld_i, ↓sfld_l, ↓sfld_r, brI, pushv, rcv, lget, lset, lset2, isL, rok, szs, List.elem_nil, List.elem_cons, cond_true, cond_false, Option.map_some, beq_self_eq_true, Bool.true_and, Bool.and_true, Bool.false_and, Bool.and_false, Bool.or_false, Bool.false_or, Bool.or_true, Bool.true_or, Nat.reduceAdd, Nat.reduceSub, Nat.reduceMul, Nat.reduceBEq, Nat.reduceEqDiff, Nat.reduceLeDiff, Nat.sub_zero, true_and, and_true, false_and, and_false, true_or, or_true, false_or, or_false, reduceCtorEq, ↓reduceIte, List.getD_cons_zero, List.getD_cons_succ, List.length_cons, List.length_nil, ct_i, ct_r, ct_l, ct_f, ct_n, false_implies, true_implies, y144, y153, nI_clamp (show i < 2 ^ 31 by omega)]
  refine ⟨vin hi (by omega), by omega, k_mTells (g := true) (by omega) hi hr hk rfl hn hn14 hL (fun μ' hF => ?_)⟩
  refine hZ 400 [17] _ _ _ _ _ _ _ ?_
  simp -implicitDefEqProofs (disch := decide) only [wp_step xX11_heavy_0, wp_step xX11_heavy_1, wp_step xX11_heavy_3, wp_step xX11_heavy_4, wp_step xX11_heavy_5, wp_step xX11_heavy_8, wp_step xX11_heavy_9, wp_step xX11_heavy_12, wp_step xX11_heavy_13, wp_step xX11_heavy_14, wp_step xX11_heavy_17, ↓e_getf iX11_heavy f11_43, ↓e_virt iX11_heavy l11_371 iX11_tells, iX11_heavy, exec1, ↓p1_e, ↓p2_e, ↓q1_e, ↓q2_e, ↓qi_e, ↓pr_e, ↓pa_e, ↓pa_f, ↓pst_e, ↓qst_e, ↓rst_e, ↓pac_e, ↓pargs_0, ↓pargs_s, ↓gfld_0, ↓gfld_1, ↓gfld_2, ↓gfld_3, ↓pfld_i, ↓pfld_l, ↓pfld_r, ↓sfld_i, ↓sfld_l, ↓sfld_r, brI, pushv, rcv, lget, lset, lset2, isL, rok, szs, List.elem_nil, List.elem_cons, cond_true, cond_false, Option.map_some, beq_self_eq_true, Bool.true_and, Bool.and_true, Bool.false_and, Bool.and_false, Bool.or_false, Bool.false_or, Bool.or_true, Bool.true_or, Nat.reduceAdd, Nat.reduceSub, Nat.reduceMul, Nat.reduceBEq, Nat.reduceEqDiff, Nat.reduceLeDiff, Nat.sub_zero, true_and, and_true, false_and, and_false, true_or, or_true, false_or, or_false, reduceCtorEq, ↓reduceIte, List.getD_cons_zero, List.getD_cons_succ, List.length_cons, List.length_nil, ct_i, ct_r, ct_l, ct_f, ct_n, false_implies, true_implies]
  exact h μ' hF
set_option maxRecDepth 100000 in
set_option maxHeartbeats 1000000 in
theorem k_mPushed {i rk sz n : Nat} (hd : 4 ≤ d) (hi : i < 40) (hr : (gi μ 151 (i)) = nI rk) (hk : rk < 10) (hn : (gi μ 144 18) = nI n) (hn14 : n ≤ 14) (hL : ∀ k, k < n → LRk (fun f => gi μ (30 + f)) (fun f => gi μ (158 + f)) sz k) (h : ∀ μ', Fr pN μ μ' → Q (some (.int (lawV (fun f => gi μ (30 + f)) sz n (FM μ i) false))) (LAY v) μ' bc bs) : KC G d mX11_pushed [.ref 144, .int (nI i)] (LAY v) μ bc bs Q := by
  refine KC_intro 0 0 kX11_pushed (by decide) (by decide) (Nat.zero_le _) (Nat.zero_le _) (Nat.le_of_ble_eq_true rfl) (fun Z hZ => ?_)
  show Z 0 [some (.ref 144), some (.int (nI i))] [] (LAY v) μ 0 0
  refine hZ 400 [14] _ _ _ _ _ _ _ ?_
  simp -implicitDefEqProofs (disch := decide) only [wp_step xX11_pushed_0, wp_step xX11_pushed_1, wp_step xX11_pushed_3, wp_step xX11_pushed_4, wp_step xX11_pushed_7, wp_step xX11_pushed_10, wp_step xX11_pushed_11, wp_step xX11_pushed_14, ↓e_virt iX11_pushed l11_371 iX11_tells, iX11_pushed, exec1, ↓p1_e, ↓p2_e, ↓q1_e, ↓q2_e, ↓qi_e, ↓pr_e, ↓pa_e, ↓pa_f, ↓pst_e, ↓qst_e, ↓rst_e, ↓pac_e, ↓pargs_0, ↓pargs_s, ↓gfld_0, ↓gfld_1, ↓gfld_2, ↓gfld_3, ↓pfld_i, ↓pfld_l, ↓pfld_r, ↓sfld_i, ↓sfld_l, ↓sfld_r, brI, pushv, rcv, lget, lset, lset2, isL, rok, szs, List.elem_nil, List.elem_cons, cond_true, cond_false, Option.map_some, beq_self_eq_true, Bool.true_and, Bool.and_true, Bool.false_and, Bool.and_false, Bool.or_false, Bool.false_or, Bool.or_true, Bool.true_or, Nat.reduceAdd, Nat.reduceSub, Nat.reduceMul, Nat.reduceBEq, Nat.reduceEqDiff, Nat.reduceLeDiff, Nat.sub_zero, true_and, and_true, false_and, and_false, true_or, or_true, false_or, or_false, reduceCtorEq, ↓reduceIte, List.getD_cons_zero, List.getD_cons_succ, List.length_cons, List.length_nil, ct_i, ct_r, ct_l, ct_f, ct_n, false_implies, true_implies, y144]
  refine ⟨by omega, k_mTells (g := false) (by omega) hi hr hk rfl hn hn14 hL (fun μ' hF => ?_)⟩
  refine hZ 400 [14] _ _ _ _ _ _ _ ?_
  simp -implicitDefEqProofs (disch := decide) only [wp_step xX11_pushed_0, wp_step xX11_pushed_1, wp_step xX11_pushed_3, wp_step xX11_pushed_4, wp_step xX11_pushed_7, wp_step xX11_pushed_10, wp_step xX11_pushed_11, wp_step xX11_pushed_14, ↓e_virt iX11_pushed l11_371 iX11_tells, iX11_pushed, exec1, ↓p1_e, ↓p2_e, ↓q1_e, ↓q2_e, ↓qi_e, ↓pr_e, ↓pa_e, ↓pa_f, ↓pst_e, ↓qst_e, ↓rst_e, ↓pac_e, ↓pargs_0, ↓pargs_s, ↓gfld_0, ↓gfld_1, ↓gfld_2, ↓gfld_3, ↓pfld_i, ↓pfld_l, ↓pfld_r, ↓sfld_i, ↓sfld_l, ↓sfld_r, brI, pushv, rcv, lget, lset, lset2, isL, rok, szs, List.elem_nil, List.elem_cons, cond_true, cond_false, Option.map_some, beq_self_eq_true, Bool.true_and, Bool.and_true, Bool.false_and, Bool.and_false, Bool.or_false, Bool.false_or, Bool.or_true, Bool.true_or, Nat.reduceAdd, Nat.reduceSub, Nat.reduceMul, Nat.reduceBEq, Nat.reduceEqDiff, Nat.reduceLeDiff, Nat.sub_zero, true_and, and_true, false_and, and_false, true_or, or_true, false_or, or_false, reduceCtorEq, ↓reduceIte, List.getD_cons_zero, List.getD_cons_succ, List.length_cons, List.length_nil, ct_i, ct_r, ct_l, ct_f, ct_n, false_implies, true_implies]
  exact h μ' hF
end TEL
