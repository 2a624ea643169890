def botL : List Int32 → Int32
  | [] => 0
  | [x] => x
  | _ :: y :: t => botL (y :: t)
theorem StkR.bot {μ : Mem} : ∀ {l : List Int32}, l ≠ [] → StkR μ l → gi μ 36 0 = botL l
  | [], h, _ => absurd rfl h
  | [_], _, q => q.1
  | _ :: y :: t, _, q => StkR.bot (l := y :: t) (by simp) q.2
/-- whether a condition holds and is not refused; what an amount is -/
def cndC (code opd : Nat → Int32) (sz : Nat) (F : Nat → Int32) (p : Nat) : Bool := (rkL code opd sz F 201 p [] false).2.1 && !(rkL code opd sz F 201 p [] false).2.2
def amtC (code opd : Nat → Int32) (sz : Nat) (F : Nat → Int32) (p : Nat) : Int32 := if (rkL code opd sz F 201 p [] false).2.2 = true then 0 else botL (rkL code opd sz F 201 p [] false).1
def askR (lt : Nat → Int32) (cnd : Nat → Bool) (amt : Nat → Int32) (sign dfl : Int32) : Nat → Nat → Int32
  | 0, _ => dfl
  | n + 1, k => if lt k = sign ∧ cnd k = true then amt k else askR lt cnd amt sign dfl n (k + 1)
def sgn (g : Bool) : Int32 := if g then 103 else 112
def clV (g : Bool) (x : Int32) : Int32 := if g then (if 0 < (if x < 999 then x else 999) then (if x < 999 then x else 999) else 0) else (if -9999 < (if x < 9999 then x else 9999) then (if x < 9999 then x else 9999) else -9999)
/-- what the class's law tells by the facts F -/
def lawV (A : Nat → Nat → Int32) (sz n : Nat) (F : Nat → Int32) (g : Bool) : Int32 :=
  askR (A 2) (fun k => cndC (A 0) (A 1) sz F (A 4 k).toNatClampNeg) (fun k => clV g (amtC (A 0) (A 1) sz F (A 3 k).toNatClampNeg)) (sgn g) (if g then F 0 else 0) n 0
def LawC (A : Nat → Nat → Int32) (sz n : Nat) : Prop := sz ≤ 200 ∧ n ≤ 14 ∧ (∀ k, k < n → (∃ q, q ≤ 200 ∧ A 4 k = nI q) ∧ ∃ q, q ≤ 200 ∧ A 3 k = nI q) ∧ ∀ p, p < sz → (A 0 p = 4 ∨ A 0 p = 5) → ∃ q, q ≤ 200 ∧ A 1 p = nI q
theorem StR.fr {μ0 μ : Mem} {l : List Int32} {h r : Bool} (q : StR μ0 μ l h r) : Fr pL μ0 μ := q.1
theorem fr_fun {P : Nat → Nat → Prop} {μ μ' : Mem} {a : Nat} (h : Fr P μ μ') (q : ∀ j, ¬ P a j) : gi μ' a = gi μ a := funext fun j => h.1 a j (q j)
section ASK
variable {G : Gx} {d v : Nat} {μ : Mem} {bc bs : Nat} {Q : Option Value → List Sh → Mem → Nat → Nat → Prop} {LR : Mem → Prop}
set_option maxRecDepth 100000 in
set_option maxHeartbeats 1000000 in
theorem k_ask {g : Bool} {sz n : Nat} (hd : 3 ≤ d) (h7 : (gi μ 29 7) = nI sz) (h8 : (gi μ 29 8) = nI n) (hL : LawC (fun f => gi μ (30 + f)) sz n) (h : ∀ μ', Fr pL μ μ' → Q (some (.int (lawV (fun f => gi μ (30 + f)) sz n (gi μ 35) g))) (LAY v) μ' bc bs) : KC G d mX1_ask [.ref 29, .int (sgn g)] (LAY v) μ bc bs Q := by
  obtain ⟨l1, l2, l3, l4⟩ := id hL
  refine KC_intro 0 0 kX1_ask (by decide) (by decide) (Nat.zero_le _) (Nat.zero_le _) (Nat.le_of_ble_eq_true rfl) (fun Z hZ => ?_)
  have key : ∀ m k μ1, k + m = n → Fr pL μ μ1 → (∀ μ', Fr pL μ μ' → Q (some (.int (askR (gi μ 32) (fun k => cndC (gi μ 30) (gi μ 31) sz (gi μ 35) (gi μ 34 k).toNatClampNeg) (fun k => clV g (amtC (gi μ 30) (gi μ 31) sz (gi μ 35) (gi μ 33 k).toNatClampNeg)) (sgn g) (if g then gi μ 35 0 else 0) m k))) (LAY v) μ' bc bs) → Z 14 [some (.ref 29), some (.int (sgn g)), some (.int (bN g)), some (.int (nI k)), none] [] (LAY v) μ1 0 0 := by
    intro m
    induction m with
    | zero =>
      intro k μ1 hk hF hQ
      have f8 : gi μ1 29 8 = nI n := by rw [hF.1 29 8 (by unfold pL; omega)]; exact h8
      have f35 : gi μ1 35 0 = gi μ 35 0 := hF.1 35 0 (by unfold pL; omega)
      refine hZ 400 [14, 48, 72] _ _ _ _ _ _ _ ?_
      simp -implicitDefEqProofs (disch := decide) only [wp_step xX1_ask_0, wp_step xX1_ask_1, wp_step xX1_ask_3, wp_step xX1_ask_6, wp_step xX1_ask_7, wp_step xX1_ask_10, wp_step xX1_ask_11, wp_step xX1_ask_12, wp_step xX1_ask_13, wp_step xX1_ask_14, wp_step xX1_ask_15, wp_step xX1_ask_16, wp_step xX1_ask_19, wp_step xX1_ask_22, wp_step xX1_ask_23, wp_step xX1_ask_25, wp_step xX1_ask_28, wp_step xX1_ask_29, wp_step xX1_ask_32, wp_step xX1_ask_33, wp_step xX1_ask_34, wp_step xX1_ask_35, wp_step xX1_ask_38, wp_step xX1_ask_39, wp_step xX1_ask_40, wp_step xX1_ask_43, wp_step xX1_ask_44, wp_step xX1_ask_45, wp_step xX1_ask_48, wp_step xX1_ask_49, wp_step xX1_ask_52, wp_step xX1_ask_55, wp_step xX1_ask_56, wp_step xX1_ask_59, wp_step xX1_ask_62, wp_step xX1_ask_63, wp_step xX1_ask_64, wp_step xX1_ask_67, wp_step xX1_ask_68, wp_step xX1_ask_69, wp_step xX1_ask_72, wp_step xX1_ask_73, wp_step xX1_ask_76, wp_step xX1_ask_79, wp_step xX1_ask_80, wp_step xX1_ask_83, wp_step xX1_ask_84, wp_step xX1_ask_87, wp_step xX1_ask_88, wp_step xX1_ask_91, wp_step xX1_ask_92, wp_step xX1_ask_95, wp_step xX1_ask_96, wp_step xX1_ask_97, wp_step xX1_ask_99, wp_step xX1_ask_100, wp_step xX1_ask_103, wp_step xX1_ask_104, wp_step xX1_ask_107, wp_step xX1_ask_109, wp_step xX1_ask_112, wp_step xX1_ask_115, wp_step xX1_ask_118, wp_step xX1_ask_121, wp_step xX1_ask_124, wp_step xX1_ask_126, wp_step xX1_ask_129, wp_step xX1_ask_132, wp_step xX1_ask_133, wp_step xX1_ask_136, wp_step xX1_ask_139, wp_step xX1_ask_140, wp_step xX1_ask_143, wp_step xX1_ask_144, wp_step xX1_ask_147, wp_step xX1_ask_148, wp_step xX1_ask_149, wp_step xX1_ask_152, wp_step xX1_ask_153, ↓e_getf iX1_ask f1_62, ↓e_getf iX1_ask f1_18, ↓e_getf iX1_ask f1_24, ↓e_virt iX1_ask l1_66 iX1_reckon, ↓e_getf iX1_ask f1_70, ↓e_getf iX1_ask f1_74, ↓e_getf iX1_ask f1_21, ↓e_getf iX1_ask f1_77, ↓e_getf iX1_ask f1_30, ↓e_min iX1_ask j1_80, ↓e_max iX1_ask j1_86, ↓e_getf iX1_ask f1_27, iX1_ask, exec1, ↓p1_e, ↓p2_e, ↓q1_e, ↓q2_e, ↓qi_e, ↓pr_e, ↓pa_e, ↓pa_f, ↓pst_e, ↓qst_e, ↓rst_e, ↓pac_e, ↓pargs_0, ↓pargs_s, ↓gfld_0, ↓gfld_1, ↓gfld_2, ↓gfld_3, ↓pfld_i, ↓pfld_l, ↓pfld_r, ↓sfld_i, ↓sfld_l, ↓sfld_r, brI, pushv, rcv, lget, lset, lset2, isL, rok, szs, List.elem_nil, List.elem_cons, cond_true, cond_false, Option.map_some, beq_self_eq_true, Bool.true_and, Bool.and_true, Bool.false_and, Bool.and_false, Bool.or_false, Bool.false_or, Bool.or_true, Bool.true_or, Nat.reduceAdd, Nat.reduceSub, Nat.reduceMul, Nat.reduceBEq, Nat.reduceEqDiff, Nat.reduceLeDiff, Nat.sub_zero, true_and, and_true, false_and, and_false, true_or, or_true, false_or, or_false, reduceCtorEq, ↓reduceIte, List.getD_cons_zero, List.getD_cons_succ, List.length_cons, List.length_nil, ct_i, ct_r, ct_l, ct_f, ct_n, false_implies, true_implies, y29, y30, y31, y32, y33, y34, y35, y36, f8, f35]
      have kn : k = n := by omega
      subst kn
      refine ⟨fun _ => ?_, fun q => absurd (nI_le (Nat.le_refl k) (by omega)) q⟩
      have e := hQ μ1 hF
      rw [askR] at e
      cases g
      · exact ⟨fun _ => e, fun q => absurd rfl q⟩
      · exact ⟨fun q => absurd q (by decide), fun _ => ⟨(vin (i := 0) (n := 7) (by omega) (by omega) : vp_in 0 7), by rw [show gi μ1 35 (Int32.toNatClampNeg 0) = gi μ 35 0 from f35]; exact e⟩⟩
    | succ m ih =>
      intro k μ1 hk hF hQ
      have f8 : gi μ1 29 8 = nI n := by rw [hF.1 29 8 (by unfold pL; omega)]; exact h8
      have f7 : gi μ1 29 7 = nI sz := by rw [hF.1 29 7 (by unfold pL; omega)]; exact h7
      have f32 : gi μ1 32 k = gi μ 32 k := hF.1 32 k (by unfold pL; omega)
      have f33 : gi μ1 33 k = gi μ 33 k := hF.1 33 k (by unfold pL; omega)
      have f34 : gi μ1 34 k = gi μ 34 k := hF.1 34 k (by unfold pL; omega)
      have a30 : gi μ1 30 = gi μ 30 := fr_fun hF (fun j => by unfold pL; omega)
      have a31 : gi μ1 31 = gi μ 31 := fr_fun hF (fun j => by unfold pL; omega)
      have a35 : gi μ1 35 = gi μ 35 := fr_fun hF (fun j => by unfold pL; omega)
      have hkn : k < n := by omega
      obtain ⟨⟨q4, hq4, e4⟩, q3, hq3, e3⟩ := l3 k hkn
      simp only [Nat.reduceAdd] at e4 e3 l4
      have hv : vp_in (nI k) 14 := vin (by omega) (by omega)
      rw [askR] at hQ
      have nx : ∀ μ2, Fr pL μ μ2 → ¬ (gi μ 32 k = sgn g ∧ cndC (gi μ 30) (gi μ 31) sz (gi μ 35) (gi μ 34 k).toNatClampNeg = true) → Z 14 [some (.ref 29), some (.int (sgn g)), some (.int (bN g)), some (.int (nI (k + 1))), none] [] (LAY v) μ2 0 0 := fun μ2 hF2 hn => by
        rw [if_neg hn] at hQ
        exact ih (k + 1) μ2 (by omega) hF2 hQ
      refine hZ 400 [14, 48, 72] _ _ _ _ _ _ _ ?_
      simp -implicitDefEqProofs (disch := decide) only [wp_step xX1_ask_0, wp_step xX1_ask_1, wp_step xX1_ask_3, wp_step xX1_ask_6, wp_step xX1_ask_7, wp_step xX1_ask_10, wp_step xX1_ask_11, wp_step xX1_ask_12, wp_step xX1_ask_13, wp_step xX1_ask_14, wp_step xX1_ask_15, wp_step xX1_ask_16, wp_step xX1_ask_19, wp_step xX1_ask_22, wp_step xX1_ask_23, wp_step xX1_ask_25, wp_step xX1_ask_28, wp_step xX1_ask_29, wp_step xX1_ask_32, wp_step xX1_ask_33, wp_step xX1_ask_34, wp_step xX1_ask_35, wp_step xX1_ask_38, wp_step xX1_ask_39, wp_step xX1_ask_40, wp_step xX1_ask_43, wp_step xX1_ask_44, wp_step xX1_ask_45, wp_step xX1_ask_48, wp_step xX1_ask_49, wp_step xX1_ask_52, wp_step xX1_ask_55, wp_step xX1_ask_56, wp_step xX1_ask_59, wp_step xX1_ask_62, wp_step xX1_ask_63, wp_step xX1_ask_64, wp_step xX1_ask_67, wp_step xX1_ask_68, wp_step xX1_ask_69, wp_step xX1_ask_72, wp_step xX1_ask_73, wp_step xX1_ask_76, wp_step xX1_ask_79, wp_step xX1_ask_80, wp_step xX1_ask_83, wp_step xX1_ask_84, wp_step xX1_ask_87, wp_step xX1_ask_88, wp_step xX1_ask_91, wp_step xX1_ask_92, wp_step xX1_ask_95, wp_step xX1_ask_96, wp_step xX1_ask_97, wp_step xX1_ask_99, wp_step xX1_ask_100, wp_step xX1_ask_103, wp_step xX1_ask_104, wp_step xX1_ask_107, wp_step xX1_ask_109, wp_step xX1_ask_112, wp_step xX1_ask_115, wp_step xX1_ask_118, wp_step xX1_ask_121, wp_step xX1_ask_124, wp_step xX1_ask_126, wp_step xX1_ask_129, wp_step xX1_ask_132, wp_step xX1_ask_133, wp_step xX1_ask_136, wp_step xX1_ask_139, wp_step xX1_ask_140, wp_step xX1_ask_143, wp_step xX1_ask_144, wp_step xX1_ask_147, wp_step xX1_ask_148, wp_step xX1_ask_149, wp_step xX1_ask_152, wp_step xX1_ask_153, ↓e_getf iX1_ask f1_62, ↓e_getf iX1_ask f1_18, ↓e_getf iX1_ask f1_24, ↓e_virt iX1_ask l1_66 iX1_reckon, ↓e_getf iX1_ask f1_70, ↓e_getf iX1_ask f1_74, ↓e_getf iX1_ask f1_21, ↓e_getf iX1_ask f1_77, ↓e_getf iX1_ask f1_30, ↓e_min iX1_ask j1_80, ↓e_max iX1_ask j1_86, ↓e_getf iX1_ask f1_27, iX1_ask, exec1, ↓p1_e, ↓p2_e, ↓q1_e, ↓q2_e, ↓qi_e, ↓pr_e, ↓pa_e, ↓pa_f, ↓pst_e, ↓qst_e, ↓rst_e, ↓pac_e, ↓pargs_0, ↓pargs_s, ↓gfld_0, ↓gfld_1, ↓gfld_2, ↓gfld_3, ↓pfld_i, ↓pfld_l, ↓pfld_r, ↓sfld_i, ↓sfld_l, ↓sfld_r, brI, pushv, rcv, lget, lset, lset2, isL, rok, szs, List.elem_nil, List.elem_cons, cond_true, cond_false, Option.map_some, beq_self_eq_true, Bool.true_and, Bool.and_true, Bool.false_and, Bool.and_false, Bool.or_false, Bool.false_or, Bool.or_true, Bool.true_or, Nat.reduceAdd, Nat.reduceSub, Nat.reduceMul, Nat.reduceBEq, Nat.reduceEqDiff, Nat.reduceLeDiff, Nat.sub_zero, true_and, and_true, false_and, and_false, true_or, or_true, false_or, or_false, reduceCtorEq, ↓reduceIte, List.getD_cons_zero, List.getD_cons_succ, List.length_cons, List.length_nil, ct_i, ct_r, ct_l, ct_f, ct_n, false_implies, true_implies, y29, y30, y31, y32, y33, y34, y35, y36, f8, f32, f34, e4, nI_1, nI_clamp (show k < 2 ^ 31 by omega)]
      refine ⟨fun q => absurd q (nI_ge hkn (by omega)), fun _ => ⟨fun q => absurd q (nI_ge (b := 14) (by omega) (by omega)), fun _ => ⟨hv, fun c1 => nx μ1 hF (fun z => c1 z.1), fun c1 => ⟨hv, by omega, k_reckon (by omega) f7 l1 hq4 (by rw [a30, a31]; exact l4) (fun μ2 hS => ?_)⟩⟩⟩⟩
      rw [a30, a31, a35] at hS
      obtain ⟨s1, s2, s3, s4, s5, s6⟩ := hS
      have hF2 : Fr pL μ μ2 := hF.trans s1
      have f33' : gi μ2 33 k = gi μ 33 k := hF2.1 33 k (by unfold pL; omega)
      refine hZ 400 [14, 48, 72] _ _ _ _ _ _ _ ?_
      simp -implicitDefEqProofs (disch := decide) only [wp_step xX1_ask_0, wp_step xX1_ask_1, wp_step xX1_ask_3, wp_step xX1_ask_6, wp_step xX1_ask_7, wp_step xX1_ask_10, wp_step xX1_ask_11, wp_step xX1_ask_12, wp_step xX1_ask_13, wp_step xX1_ask_14, wp_step xX1_ask_15, wp_step xX1_ask_16, wp_step xX1_ask_19, wp_step xX1_ask_22, wp_step xX1_ask_23, wp_step xX1_ask_25, wp_step xX1_ask_28, wp_step xX1_ask_29, wp_step xX1_ask_32, wp_step xX1_ask_33, wp_step xX1_ask_34, wp_step xX1_ask_35, wp_step xX1_ask_38, wp_step xX1_ask_39, wp_step xX1_ask_40, wp_step xX1_ask_43, wp_step xX1_ask_44, wp_step xX1_ask_45, wp_step xX1_ask_48, wp_step xX1_ask_49, wp_step xX1_ask_52, wp_step xX1_ask_55, wp_step xX1_ask_56, wp_step xX1_ask_59, wp_step xX1_ask_62, wp_step xX1_ask_63, wp_step xX1_ask_64, wp_step xX1_ask_67, wp_step xX1_ask_68, wp_step xX1_ask_69, wp_step xX1_ask_72, wp_step xX1_ask_73, wp_step xX1_ask_76, wp_step xX1_ask_79, wp_step xX1_ask_80, wp_step xX1_ask_83, wp_step xX1_ask_84, wp_step xX1_ask_87, wp_step xX1_ask_88, wp_step xX1_ask_91, wp_step xX1_ask_92, wp_step xX1_ask_95, wp_step xX1_ask_96, wp_step xX1_ask_97, wp_step xX1_ask_99, wp_step xX1_ask_100, wp_step xX1_ask_103, wp_step xX1_ask_104, wp_step xX1_ask_107, wp_step xX1_ask_109, wp_step xX1_ask_112, wp_step xX1_ask_115, wp_step xX1_ask_118, wp_step xX1_ask_121, wp_step xX1_ask_124, wp_step xX1_ask_126, wp_step xX1_ask_129, wp_step xX1_ask_132, wp_step xX1_ask_133, wp_step xX1_ask_136, wp_step xX1_ask_139, wp_step xX1_ask_140, wp_step xX1_ask_143, wp_step xX1_ask_144, wp_step xX1_ask_147, wp_step xX1_ask_148, wp_step xX1_ask_149, wp_step xX1_ask_152, wp_step xX1_ask_153, ↓e_getf iX1_ask f1_62, ↓e_getf iX1_ask f1_18, ↓e_getf iX1_ask f1_24, ↓e_virt iX1_ask l1_66 iX1_reckon, ↓e_getf iX1_ask f1_70, ↓e_getf iX1_ask f1_74, ↓e_getf iX1_ask f1_21, ↓e_getf iX1_ask f1_77, ↓e_getf iX1_ask f1_30, ↓e_min iX1_ask j1_80, ↓e_max iX1_ask j1_86, ↓e_getf iX1_ask f1_27, iX1_ask, exec1, ↓p1_e, ↓p2_e, ↓q1_e, ↓q2_e, ↓qi_e, ↓pr_e, ↓pa_e, ↓pa_f, ↓pst_e, ↓qst_e, ↓rst_e, ↓pac_e, ↓pargs_0, ↓pargs_s, ↓gfld_0, ↓gfld_1, ↓gfld_2, ↓gfld_3, ↓pfld_i, ↓pfld_l, ↓pfld_r, ↓sfld_i, ↓sfld_l, ↓sfld_r, brI, pushv, rcv, lget, lset, lset2, isL, rok, szs, List.elem_nil, List.elem_cons, cond_true, cond_false, Option.map_some, beq_self_eq_true, Bool.true_and, Bool.and_true, Bool.false_and, Bool.and_false, Bool.or_false, Bool.false_or, Bool.or_true, Bool.true_or, Nat.reduceAdd, Nat.reduceSub, Nat.reduceMul, Nat.reduceBEq, Nat.reduceEqDiff, Nat.reduceLeDiff, Nat.sub_zero, true_and, and_true, false_and, and_false, true_or, or_true, false_or, or_false, reduceCtorEq, ↓reduceIte, List.getD_cons_zero, List.getD_cons_succ, List.length_cons, List.length_nil, ct_i, ct_r, ct_l, ct_f, ct_n, false_implies, true_implies, y29, y30, y31, y32, y33, y34, y35, y36, s4, s5, f33', e3, nI_1, nI_clamp (show k < 2 ^ 31 by omega)]
      refine ⟨fun z => nx μ2 hF2 (fun w => ?_), fun z => ⟨fun z2 => nx μ2 hF2 (fun w => ?_), fun z2 => ⟨hv, by omega, ?_⟩⟩⟩
      · rw [bN_0] at z
        rw [e4, nI_clamp (by omega), cndC, z] at w
        exact absurd w.2 (by simp)
      · rw [bN_0, Bool.not_eq_false] at z2
        rw [e4, nI_clamp (by omega), cndC, z2] at w
        exact absurd w.2 (by simp)
      · have hc : cndC (gi μ 30) (gi μ 31) sz (gi μ 35) (gi μ 34 k).toNatClampNeg = true := by
          rw [bN_0, Bool.not_eq_false] at z
          rw [bN_0] at z2
          rw [e4, nI_clamp (by omega), cndC, z, z2]; rfl
        rw [if_pos ⟨c1, hc⟩] at hQ
        have b30 : gi μ2 30 = gi μ 30 := fr_fun hF2 (fun j => by unfold pL; omega)
        have b31 : gi μ2 31 = gi μ 31 := fr_fun hF2 (fun j => by unfold pL; omega)
        have b35 : gi μ2 35 = gi μ 35 := fr_fun hF2 (fun j => by unfold pL; omega)
        refine k_reckon (by omega) (by rw [hF2.1 29 7 (by unfold pL; omega)]; exact h7) l1 hq3 (by rw [b30, b31]; exact l4) (fun μ3 hS3 => ?_)
        rw [b30, b31, b35] at hS3
        obtain ⟨t1, t2, t3, t4, t5, t6⟩ := hS3
        have hF3 : Fr pL μ μ3 := hF2.trans t1
        refine hZ 400 [14, 48, 72] _ _ _ _ _ _ _ ?_
        simp -implicitDefEqProofs (disch := decide) only [wp_step xX1_ask_0, wp_step xX1_ask_1, wp_step xX1_ask_3, wp_step xX1_ask_6, wp_step xX1_ask_7, wp_step xX1_ask_10, wp_step xX1_ask_11, wp_step xX1_ask_12, wp_step xX1_ask_13, wp_step xX1_ask_14, wp_step xX1_ask_15, wp_step xX1_ask_16, wp_step xX1_ask_19, wp_step xX1_ask_22, wp_step xX1_ask_23, wp_step xX1_ask_25, wp_step xX1_ask_28, wp_step xX1_ask_29, wp_step xX1_ask_32, wp_step xX1_ask_33, wp_step xX1_ask_34, wp_step xX1_ask_35, wp_step xX1_ask_38, wp_step xX1_ask_39, wp_step xX1_ask_40, wp_step xX1_ask_43, wp_step xX1_ask_44, wp_step xX1_ask_45, wp_step xX1_ask_48, wp_step xX1_ask_49, wp_step xX1_ask_52, wp_step xX1_ask_55, wp_step xX1_ask_56, wp_step xX1_ask_59, wp_step xX1_ask_62, wp_step xX1_ask_63, wp_step xX1_ask_64, wp_step xX1_ask_67, wp_step xX1_ask_68, wp_step xX1_ask_69, wp_step xX1_ask_72, wp_step xX1_ask_73, wp_step xX1_ask_76, wp_step xX1_ask_79, wp_step xX1_ask_80, wp_step xX1_ask_83, wp_step xX1_ask_84, wp_step xX1_ask_87, wp_step xX1_ask_88, wp_step xX1_ask_91, wp_step xX1_ask_92, wp_step xX1_ask_95, wp_step xX1_ask_96, wp_step xX1_ask_97, wp_step xX1_ask_99, wp_step xX1_ask_100, wp_step xX1_ask_103, wp_step xX1_ask_104, wp_step xX1_ask_107, wp_step xX1_ask_109, wp_step xX1_ask_112, wp_step xX1_ask_115, wp_step xX1_ask_118, wp_step xX1_ask_121, wp_step xX1_ask_124, wp_step xX1_ask_126, wp_step xX1_ask_129, wp_step xX1_ask_132, wp_step xX1_ask_133, wp_step xX1_ask_136, wp_step xX1_ask_139, wp_step xX1_ask_140, wp_step xX1_ask_143, wp_step xX1_ask_144, wp_step xX1_ask_147, wp_step xX1_ask_148, wp_step xX1_ask_149, wp_step xX1_ask_152, wp_step xX1_ask_153, ↓e_getf iX1_ask f1_62, ↓e_getf iX1_ask f1_18, ↓e_getf iX1_ask f1_24, ↓e_virt iX1_ask l1_66 iX1_reckon, ↓e_getf iX1_ask f1_70, ↓e_getf iX1_ask f1_74, ↓e_getf iX1_ask f1_21, ↓e_getf iX1_ask f1_77, ↓e_getf iX1_ask f1_30, ↓e_min iX1_ask j1_80, ↓e_max iX1_ask j1_86, ↓e_getf iX1_ask f1_27, iX1_ask, exec1, ↓p1_e, ↓p2_e, ↓q1_e, ↓q2_e, ↓qi_e, ↓pr_e, ↓pa_e, ↓pa_f, ↓pst_e, ↓qst_e, ↓rst_e, ↓pac_e, ↓pargs_0, ↓pargs_s, ↓gfld_0, ↓gfld_1, ↓gfld_2, ↓gfld_3, ↓pfld_i, ↓pfld_l, ↓pfld_r, ↓sfld_i, ↓sfld_l, ↓sfld_r, brI, pushv, rcv, lget, lset, lset2, isL, rok, szs, List.elem_nil, List.elem_cons, cond_true, cond_false, Option.map_some, beq_self_eq_true, Bool.true_and, Bool.and_true, Bool.false_and, Bool.and_false, Bool.or_false, Bool.false_or, Bool.or_true, Bool.true_or, Nat.reduceAdd, Nat.reduceSub, Nat.reduceMul, Nat.reduceBEq, Nat.reduceEqDiff, Nat.reduceLeDiff, Nat.sub_zero, true_and, and_true, false_and, and_false, true_or, or_true, false_or, or_false, reduceCtorEq, ↓reduceIte, List.getD_cons_zero, List.getD_cons_succ, List.length_cons, List.length_nil, ct_i, ct_r, ct_l, ct_f, ct_n, false_implies, true_implies, y29, y30, y31, y32, y33, y34, y35, y36, t2, t5]
        have e := hQ μ3 hF3
        rw [e3, nI_clamp (by omega), amtC] at e
        have fin : ∀ y, (if (rkL (gi μ 30) (gi μ 31) sz (gi μ 35) 201 q3 [] false).2.2 = true then 0 else botL (rkL (gi μ 30) (gi μ 31) sz (gi μ 35) 201 q3 [] false).1) = y → Q (some (.int (clV g y))) (LAY v) μ3 bc bs := fun y ey => by rw [ey] at e; exact e
        have fin2 : ∀ y, (if (rkL (gi μ 30) (gi μ 31) sz (gi μ 35) 201 q3 [] false).2.2 = true then 0 else botL (rkL (gi μ 30) (gi μ 31) sz (gi μ 35) 201 q3 [] false).1) = y → (bN g = 0 → 0 < d ∧ 0 < d ∧ Q (some (.int (if -9999 < (if y < 9999 then y else 9999) then (if y < 9999 then y else 9999) else -9999))) (LAY v) μ3 bc bs) ∧ (¬ bN g = 0 → 0 < d ∧ 0 < d ∧ Q (some (.int (if 0 < (if y < 999 then y else 999) then (if y < 999 then y else 999) else 0))) (LAY v) μ3 bc bs) := fun y ey => by
          have e9 := fin y ey
          cases g
          · exact ⟨fun _ => ⟨by omega, by omega, e9⟩, fun z => absurd rfl z⟩
          · exact ⟨fun z => absurd z (by decide), fun _ => ⟨by omega, by omega, e9⟩⟩
        refine ⟨fun r1 => fin2 0 ?_, fun r1 => ⟨fun r2 => ⟨(vin (i := 0) (n := 32) (by omega) (by omega) : vp_in 0 32), fin2 (gi μ3 36 0) ?_⟩, fun r2 => fin2 0 ?_⟩⟩
        · rw [bN_0, Bool.not_eq_false] at r1
          rw [if_pos r1]
        · rw [bN_0] at r1
          rw [r1, if_neg (by simp)]
          refine (StkR.bot (fun z => ?_) t6).symm
          rw [z] at r2
          exact absurd r2 (by decide)
        · rw [bN_0] at r1
          rw [r1, if_neg (by simp)]
          have z : (rkL (gi μ 30) (gi μ 31) sz (gi μ 35) 201 q3 [] false).1 = [] := by
            apply List.eq_nil_of_length_eq_zero
            apply Nat.eq_zero_of_not_pos
            intro w
            exact r2 (nI_le (a := 1) w (by omega))
          rw [z]; rfl
  show Z 0 [some (.ref 29), some (.int (sgn g)), none, none, none] [] (LAY v) μ 0 0
  refine hZ 400 [14, 48, 72] _ _ _ _ _ _ _ ?_
  simp -implicitDefEqProofs (disch := decide) only [wp_step xX1_ask_0, wp_step xX1_ask_1, wp_step xX1_ask_3, wp_step xX1_ask_6, wp_step xX1_ask_7, wp_step xX1_ask_10, wp_step xX1_ask_11, wp_step xX1_ask_12, wp_step xX1_ask_13, ↓e_getf iX1_ask f1_62, ↓e_getf iX1_ask f1_18, ↓e_getf iX1_ask f1_24, ↓e_virt iX1_ask l1_66 iX1_reckon, ↓e_getf iX1_ask f1_70, ↓e_getf iX1_ask f1_74, ↓e_getf iX1_ask f1_21, ↓e_getf iX1_ask f1_77, ↓e_getf iX1_ask f1_30, ↓e_min iX1_ask j1_80, ↓e_max iX1_ask j1_86, ↓e_getf iX1_ask f1_27, iX1_ask, exec1, ↓p1_e, ↓p2_e, ↓q1_e, ↓q2_e, ↓qi_e, ↓pr_e, ↓pa_e, ↓pa_f, ↓pst_e, ↓qst_e, ↓rst_e, ↓pac_e, ↓pargs_0, ↓pargs_s, ↓gfld_0, ↓gfld_1, ↓gfld_2, ↓gfld_3, ↓pfld_i, ↓pfld_l, ↓pfld_r, ↓sfld_i, ↓sfld_l, ↓sfld_r, brI, pushv, rcv, lget, lset, lset2, isL, rok, szs, List.elem_nil, List.elem_cons, cond_true, cond_false, Option.map_some, beq_self_eq_true, Bool.true_and, Bool.and_true, Bool.false_and, Bool.and_false, Bool.or_false, Bool.false_or, Bool.or_true, Bool.true_or, Nat.reduceAdd, Nat.reduceSub, Nat.reduceMul, Nat.reduceBEq, Nat.reduceEqDiff, Nat.reduceLeDiff, Nat.sub_zero, true_and, and_true, false_and, and_false, true_or, or_true, false_or, or_false, reduceCtorEq, ↓reduceIte, List.getD_cons_zero, List.getD_cons_succ, List.length_cons, List.length_nil, ct_i, ct_r, ct_l, ct_f, ct_n, false_implies, true_implies, y29, y30, y31, y32, y33, y34, y35, y36]
  have k0 := key n 0 μ (by omega) Fr.rf h
  cases g
  · exact ⟨fun _ => k0, fun q => absurd q (by decide)⟩
  · exact ⟨fun q => absurd (by decide) q, fun _ => k0⟩
end ASK
