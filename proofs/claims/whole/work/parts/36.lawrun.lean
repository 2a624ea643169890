/-- all but the cells P is the same -/
def Fr (P : Nat → Nat → Prop) (μ μ' : Mem) : Prop := (∀ a j, ¬ P a j → gi μ' a j = gi μ a j) ∧ ∀ a j, gl μ' a j = gl μ a j
theorem Fr.rf {P : Nat → Nat → Prop} {μ : Mem} : Fr P μ μ := ⟨fun _ _ _ => rfl, fun _ _ => rfl⟩
theorem Fr.trans {P : Nat → Nat → Prop} {μ μ1 μ2 : Mem} (h : Fr P μ μ1) (q : Fr P μ1 μ2) : Fr P μ μ2 := ⟨fun a j n => (q.1 a j n).trans (h.1 a j n), fun a j => (q.2 a j).trans (h.2 a j)⟩
theorem Fr.mono {P P' : Nat → Nat → Prop} {μ μ' : Mem} (h : Fr P μ μ') (q : ∀ a j, P a j → P' a j) : Fr P' μ μ' := ⟨fun a j n => h.1 a j (fun z => n (q a j z)), h.2⟩
theorem Fr.si {P : Nat → Nat → Prop} {μ μ' : Mem} {a k : Nat} {x : Int32} (h : Fr P μ μ') (q : P a k) : Fr P μ (si μ' a k x) := by
  refine ⟨fun b j n => ?_, fun b j => h.2 b j⟩
  by_cases e : b = a
  · by_cases e2 : j = k
    · subst e e2; exact absurd q n
    · rw [gi_si_k e2]; exact h.1 b j n
  · rw [gi_si_a e]; exact h.1 b j n
theorem Fr.sar {P : Nat → Nat → Prop} {μ μ' : Mem} {a : Nat} {f : Nat → Int32} (h : Fr P μ μ') (q : ∀ k, P a k) : Fr P μ (sar μ' a f) := by
  refine ⟨fun b j n => ?_, fun b j => h.2 b j⟩
  by_cases e : b = a
  · subst e; exact absurd (q j) n
  · rw [gi_sar_a e]; exact h.1 b j n
def bN (b : Bool) : Int32 := if b then 1 else 0
theorem bN_0 {b : Bool} : (bN b = 0) = (b = false) := by cases b <;> decide
theorem bN_01 (b : Bool) : bN b = 0 ∨ bN b = 1 := by cases b <;> decide
/-- the class's stack of ints, top first -/
def StkR (μ : Mem) : List Int32 → Prop
  | [] => True
  | x :: t => gi μ 36 t.length = x ∧ StkR μ t
theorem StkR.cong {μ μ' : Mem} : ∀ {l : List Int32}, (∀ j, j < l.length → gi μ' 36 j = gi μ 36 j) → StkR μ l → StkR μ' l
  | [], _, _ => trivial
  | x :: t, h, q => ⟨(h t.length (by simp)).trans q.1, StkR.cong (fun j hj => h j (by simp; omega)) q.2⟩
/-- what a run of the law may change -/
def pL (a j : Nat) : Prop := a = 36 ∨ a = 29 ∧ 9 ≤ j ∧ j ≤ 11
def StR (μ0 μ : Mem) (l : List Int32) (h r : Bool) : Prop := Fr pL μ0 μ ∧ gi μ 29 9 = nI l.length ∧ l.length ≤ 32 ∧ gi μ 29 10 = bN h ∧ gi μ 29 11 = bN r ∧ StkR μ l
def putL (x : Int32) (l : List Int32) : List Int32 := if l.length < 32 then x :: l else l
section LRN
variable {G : Gx} {d v : Nat} {μ0 μ : Mem} {bc bs : Nat} {Q : Option Value → List Sh → Mem → Nat → Nat → Prop} {LR : Mem → Prop}
set_option maxRecDepth 100000 in
set_option maxHeartbeats 1000000 in
theorem k_put {x : Int32} {l : List Int32} {hb : Bool} (hs : StR μ0 μ l hb false) (h : ∀ μ', StR μ0 μ' (putL x l) hb false → Q none (LAY v) μ' bc bs) : KC G d mX1_put [.ref 29, .int x] (LAY v) μ bc bs Q := by
  refine KC_intro 0 0 kX1_put (by decide) (by decide) (Nat.zero_le _) (Nat.zero_le _) (Nat.le_of_ble_eq_true rfl) (fun Z hZ => ?_)
  show Z 0 [some (.ref 29), some (.int x)] [] (LAY v) μ 0 0
  obtain ⟨s1, s2, s3, s4, s5, s6⟩ := id hs
  refine hZ 400 [] _ _ _ _ _ _ _ ?_
  simp -implicitDefEqProofs (disch := decide) only [wp_step xX1_put_0, wp_step xX1_put_1, wp_step xX1_put_4, wp_step xX1_put_7, wp_step xX1_put_8, wp_step xX1_put_11, wp_step xX1_put_13, wp_step xX1_put_16, wp_step xX1_put_17, wp_step xX1_put_20, wp_step xX1_put_21, wp_step xX1_put_24, wp_step xX1_put_25, wp_step xX1_put_26, wp_step xX1_put_27, wp_step xX1_put_28, wp_step xX1_put_31, wp_step xX1_put_32, wp_step xX1_put_33, wp_step xX1_put_36, ↓e_getf iX1_put f1_77, ↓e_getf iX1_put f1_30, ↓e_putf iX1_put f1_77, iX1_put, exec1, ↓p1_e, ↓p2_e, ↓q1_e, ↓q2_e, ↓qi_e, ↓pr_e, ↓pa_e, ↓pa_f, ↓pst_e, ↓qst_e, ↓rst_e, ↓pac_e, ↓pargs_0, ↓pargs_s, ↓gfld_0, ↓gfld_1, ↓gfld_2, ↓gfld_3, ↓pfld_i, ↓pfld_l, ↓pfld_r, ↓sfld_i, ↓sfld_l, ↓sfld_r, brI, pushv, rcv, lget, lset, lset2, isL, rok, szs, List.elem_nil, List.elem_cons, cond_true, cond_false, Option.map_some, beq_self_eq_true, Bool.true_and, Bool.and_true, Bool.false_and, Bool.and_false, Bool.or_false, Bool.false_or, Bool.or_true, Bool.true_or, Nat.reduceAdd, Nat.reduceSub, Nat.reduceMul, Nat.reduceBEq, Nat.reduceEqDiff, Nat.reduceLeDiff, Nat.sub_zero, true_and, and_true, false_and, and_false, true_or, or_true, false_or, or_false, reduceCtorEq, ↓reduceIte, List.getD_cons_zero, List.getD_cons_succ, List.length_cons, List.length_nil, ct_i, ct_r, ct_l, ct_f, ct_n, false_implies, true_implies, y29, y30, y31, y32, y33, y34, y35, y36, s2, gi_si_a, nI_1, nI_clamp (show l.length < 2 ^ 31 by omega)]
  refine ⟨fun q => absurd q (nI_pos (by omega)), fun _ => ⟨fun q => ?_, fun q => ⟨?_, ?_⟩⟩⟩
  · have e := h μ
    rw [putL, if_neg (fun z => nI_ge (b := 32) z (by omega) q)] at e
    exact e hs
  · have hl : l.length < 32 := Nat.lt_of_not_le (fun z => q (nI_le (b := l.length) z (by omega)))
    exact vin hl (by omega)
  · have hl : l.length < 32 := Nat.lt_of_not_le (fun z => q (nI_le (b := l.length) z (by omega)))
    have e := h
    rw [putL, if_pos hl] at e
    refine e _ ⟨(s1.si (Or.inl rfl)).si (Or.inr ⟨rfl, by omega⟩), gi_si, hl, ?_, ?_, ?_, ?_⟩
    · rw [gi_si_k (by omega), gi_si_a (by omega)]; exact s4
    · rw [gi_si_k (by omega), gi_si_a (by omega)]; exact s5
    · rw [gi_si_a (by omega), gi_si]
    · exact s6.cong (fun j hj => by rw [gi_si_a (by omega), gi_si_k (by omega)])
/-- two values into one -/
def cmbL (c : Int32) : List Int32 → List Int32 × Bool
  | b :: a :: t => if c = 43 then ((a + b) :: t, false) else if c = 45 then ((a - b) :: t, false) else if c = 42 then ((a * b) :: t, false) else if b = 0 then (a :: t, true) else if c = 47 then ((a / b) :: t, false) else ((a - a / b * b) :: t, false)
  | l => (l, false)
set_option maxRecDepth 100000 in
set_option maxHeartbeats 1000000 in
theorem k_combine {c : Int32} {l : List Int32} {hb : Bool} (hs : StR μ0 μ l hb false) (h : ∀ μ', StR μ0 μ' (cmbL c l).1 hb (cmbL c l).2 → Q none (LAY v) μ' bc bs) : KC G d mX1_combine [.ref 29, .int c] (LAY v) μ bc bs Q := by
  refine KC_intro 0 0 kX1_combine (by decide) (by decide) (Nat.zero_le _) (Nat.zero_le _) (Nat.le_of_ble_eq_true rfl) (fun Z hZ => ?_)
  show Z 0 [some (.ref 29), some (.int c), none, none] [] (LAY v) μ 0 0
  match l, hs, h with
  | [], hs, h =>
    have s2 : gi μ 29 9 = 0 := hs.2.1
    refine hZ 400 [] _ _ _ _ _ _ _ ?_
    simp -implicitDefEqProofs (disch := decide) only [wp_step xX1_combine_0, wp_step xX1_combine_1, wp_step xX1_combine_4, wp_step xX1_combine_5, wp_step xX1_combine_8, wp_step xX1_combine_9, wp_step xX1_combine_12, wp_step xX1_combine_14, wp_step xX1_combine_17, wp_step xX1_combine_18, wp_step xX1_combine_19, wp_step xX1_combine_20, wp_step xX1_combine_23, wp_step xX1_combine_24, wp_step xX1_combine_25, wp_step xX1_combine_28, wp_step xX1_combine_29, wp_step xX1_combine_32, wp_step xX1_combine_33, wp_step xX1_combine_36, wp_step xX1_combine_37, wp_step xX1_combine_38, wp_step xX1_combine_39, wp_step xX1_combine_40, wp_step xX1_combine_41, wp_step xX1_combine_44, wp_step xX1_combine_45, wp_step xX1_combine_48, wp_step xX1_combine_49, wp_step xX1_combine_50, wp_step xX1_combine_51, wp_step xX1_combine_53, wp_step xX1_combine_56, wp_step xX1_combine_57, wp_step xX1_combine_60, wp_step xX1_combine_61, wp_step xX1_combine_64, wp_step xX1_combine_65, wp_step xX1_combine_66, wp_step xX1_combine_67, wp_step xX1_combine_68, wp_step xX1_combine_69, wp_step xX1_combine_70, wp_step xX1_combine_73, wp_step xX1_combine_74, wp_step xX1_combine_76, wp_step xX1_combine_79, wp_step xX1_combine_80, wp_step xX1_combine_83, wp_step xX1_combine_84, wp_step xX1_combine_87, wp_step xX1_combine_88, wp_step xX1_combine_89, wp_step xX1_combine_90, wp_step xX1_combine_91, wp_step xX1_combine_92, wp_step xX1_combine_93, wp_step xX1_combine_96, wp_step xX1_combine_97, wp_step xX1_combine_99, wp_step xX1_combine_102, wp_step xX1_combine_103, wp_step xX1_combine_106, wp_step xX1_combine_107, wp_step xX1_combine_110, wp_step xX1_combine_111, wp_step xX1_combine_112, wp_step xX1_combine_113, wp_step xX1_combine_114, wp_step xX1_combine_115, wp_step xX1_combine_116, wp_step xX1_combine_119, wp_step xX1_combine_120, wp_step xX1_combine_123, wp_step xX1_combine_124, wp_step xX1_combine_125, wp_step xX1_combine_128, wp_step xX1_combine_131, wp_step xX1_combine_132, wp_step xX1_combine_135, wp_step xX1_combine_136, wp_step xX1_combine_139, wp_step xX1_combine_140, wp_step xX1_combine_141, wp_step xX1_combine_142, wp_step xX1_combine_144, wp_step xX1_combine_147, wp_step xX1_combine_148, wp_step xX1_combine_149, wp_step xX1_combine_150, wp_step xX1_combine_153, wp_step xX1_combine_154, wp_step xX1_combine_155, wp_step xX1_combine_156, wp_step xX1_combine_157, ↓e_getf iX1_combine f1_77, ↓e_putf iX1_combine f1_77, ↓e_getf iX1_combine f1_30, ↓e_putf iX1_combine f1_74, iX1_combine, exec1, ↓p1_e, ↓p2_e, ↓q1_e, ↓q2_e, ↓qi_e, ↓pr_e, ↓pa_e, ↓pa_f, ↓pst_e, ↓qst_e, ↓rst_e, ↓pac_e, ↓pargs_0, ↓pargs_s, ↓gfld_0, ↓gfld_1, ↓gfld_2, ↓gfld_3, ↓pfld_i, ↓pfld_l, ↓pfld_r, ↓sfld_i, ↓sfld_l, ↓sfld_r, brI, pushv, rcv, lget, lset, lset2, isL, rok, szs, List.elem_nil, List.elem_cons, cond_true, cond_false, Option.map_some, beq_self_eq_true, Bool.true_and, Bool.and_true, Bool.false_and, Bool.and_false, Bool.or_false, Bool.false_or, Bool.or_true, Bool.true_or, Nat.reduceAdd, Nat.reduceSub, Nat.reduceMul, Nat.reduceBEq, Nat.reduceEqDiff, Nat.reduceLeDiff, Nat.sub_zero, true_and, and_true, false_and, and_false, true_or, or_true, false_or, or_false, reduceCtorEq, ↓reduceIte, List.getD_cons_zero, List.getD_cons_succ, List.length_cons, List.length_nil, ct_i, ct_r, ct_l, ct_f, ct_n, false_implies, true_implies, y29, y30, y31, y32, y33, y34, y35, y36, s2, gi_si_a, gi_si, gi_si_k]
    exact ⟨fun _ => h μ hs, fun q => absurd (by decide) q⟩
  | [x], hs, h =>
    have s2 : gi μ 29 9 = 1 := hs.2.1
    refine hZ 400 [] _ _ _ _ _ _ _ ?_
    simp -implicitDefEqProofs (disch := decide) only [wp_step xX1_combine_0, wp_step xX1_combine_1, wp_step xX1_combine_4, wp_step xX1_combine_5, wp_step xX1_combine_8, wp_step xX1_combine_9, wp_step xX1_combine_12, wp_step xX1_combine_14, wp_step xX1_combine_17, wp_step xX1_combine_18, wp_step xX1_combine_19, wp_step xX1_combine_20, wp_step xX1_combine_23, wp_step xX1_combine_24, wp_step xX1_combine_25, wp_step xX1_combine_28, wp_step xX1_combine_29, wp_step xX1_combine_32, wp_step xX1_combine_33, wp_step xX1_combine_36, wp_step xX1_combine_37, wp_step xX1_combine_38, wp_step xX1_combine_39, wp_step xX1_combine_40, wp_step xX1_combine_41, wp_step xX1_combine_44, wp_step xX1_combine_45, wp_step xX1_combine_48, wp_step xX1_combine_49, wp_step xX1_combine_50, wp_step xX1_combine_51, wp_step xX1_combine_53, wp_step xX1_combine_56, wp_step xX1_combine_57, wp_step xX1_combine_60, wp_step xX1_combine_61, wp_step xX1_combine_64, wp_step xX1_combine_65, wp_step xX1_combine_66, wp_step xX1_combine_67, wp_step xX1_combine_68, wp_step xX1_combine_69, wp_step xX1_combine_70, wp_step xX1_combine_73, wp_step xX1_combine_74, wp_step xX1_combine_76, wp_step xX1_combine_79, wp_step xX1_combine_80, wp_step xX1_combine_83, wp_step xX1_combine_84, wp_step xX1_combine_87, wp_step xX1_combine_88, wp_step xX1_combine_89, wp_step xX1_combine_90, wp_step xX1_combine_91, wp_step xX1_combine_92, wp_step xX1_combine_93, wp_step xX1_combine_96, wp_step xX1_combine_97, wp_step xX1_combine_99, wp_step xX1_combine_102, wp_step xX1_combine_103, wp_step xX1_combine_106, wp_step xX1_combine_107, wp_step xX1_combine_110, wp_step xX1_combine_111, wp_step xX1_combine_112, wp_step xX1_combine_113, wp_step xX1_combine_114, wp_step xX1_combine_115, wp_step xX1_combine_116, wp_step xX1_combine_119, wp_step xX1_combine_120, wp_step xX1_combine_123, wp_step xX1_combine_124, wp_step xX1_combine_125, wp_step xX1_combine_128, wp_step xX1_combine_131, wp_step xX1_combine_132, wp_step xX1_combine_135, wp_step xX1_combine_136, wp_step xX1_combine_139, wp_step xX1_combine_140, wp_step xX1_combine_141, wp_step xX1_combine_142, wp_step xX1_combine_144, wp_step xX1_combine_147, wp_step xX1_combine_148, wp_step xX1_combine_149, wp_step xX1_combine_150, wp_step xX1_combine_153, wp_step xX1_combine_154, wp_step xX1_combine_155, wp_step xX1_combine_156, wp_step xX1_combine_157, ↓e_getf iX1_combine f1_77, ↓e_putf iX1_combine f1_77, ↓e_getf iX1_combine f1_30, ↓e_putf iX1_combine f1_74, iX1_combine, exec1, ↓p1_e, ↓p2_e, ↓q1_e, ↓q2_e, ↓qi_e, ↓pr_e, ↓pa_e, ↓pa_f, ↓pst_e, ↓qst_e, ↓rst_e, ↓pac_e, ↓pargs_0, ↓pargs_s, ↓gfld_0, ↓gfld_1, ↓gfld_2, ↓gfld_3, ↓pfld_i, ↓pfld_l, ↓pfld_r, ↓sfld_i, ↓sfld_l, ↓sfld_r, brI, pushv, rcv, lget, lset, lset2, isL, rok, szs, List.elem_nil, List.elem_cons, cond_true, cond_false, Option.map_some, beq_self_eq_true, Bool.true_and, Bool.and_true, Bool.false_and, Bool.and_false, Bool.or_false, Bool.false_or, Bool.or_true, Bool.true_or, Nat.reduceAdd, Nat.reduceSub, Nat.reduceMul, Nat.reduceBEq, Nat.reduceEqDiff, Nat.reduceLeDiff, Nat.sub_zero, true_and, and_true, false_and, and_false, true_or, or_true, false_or, or_false, reduceCtorEq, ↓reduceIte, List.getD_cons_zero, List.getD_cons_succ, List.length_cons, List.length_nil, ct_i, ct_r, ct_l, ct_f, ct_n, false_implies, true_implies, y29, y30, y31, y32, y33, y34, y35, y36, s2, gi_si_a, gi_si, gi_si_k]
    exact ⟨fun _ => h μ hs, fun q => absurd (by decide) q⟩
  | b :: a :: t, hs, h =>
    obtain ⟨s1, s2, s3, s4, s5, s6⟩ := id hs
    obtain ⟨b1, b2, b3⟩ := id s6
    simp only [List.length_cons] at s2 s3 b1
    refine hZ 400 [] _ _ _ _ _ _ _ ?_
    simp -implicitDefEqProofs (disch := decide) only [wp_step xX1_combine_0, wp_step xX1_combine_1, wp_step xX1_combine_4, wp_step xX1_combine_5, wp_step xX1_combine_8, wp_step xX1_combine_9, wp_step xX1_combine_12, wp_step xX1_combine_14, wp_step xX1_combine_17, wp_step xX1_combine_18, wp_step xX1_combine_19, wp_step xX1_combine_20, wp_step xX1_combine_23, wp_step xX1_combine_24, wp_step xX1_combine_25, wp_step xX1_combine_28, wp_step xX1_combine_29, wp_step xX1_combine_32, wp_step xX1_combine_33, wp_step xX1_combine_36, wp_step xX1_combine_37, wp_step xX1_combine_38, wp_step xX1_combine_39, wp_step xX1_combine_40, wp_step xX1_combine_41, wp_step xX1_combine_44, wp_step xX1_combine_45, wp_step xX1_combine_48, wp_step xX1_combine_49, wp_step xX1_combine_50, wp_step xX1_combine_51, wp_step xX1_combine_53, wp_step xX1_combine_56, wp_step xX1_combine_57, wp_step xX1_combine_60, wp_step xX1_combine_61, wp_step xX1_combine_64, wp_step xX1_combine_65, wp_step xX1_combine_66, wp_step xX1_combine_67, wp_step xX1_combine_68, wp_step xX1_combine_69, wp_step xX1_combine_70, wp_step xX1_combine_73, wp_step xX1_combine_74, wp_step xX1_combine_76, wp_step xX1_combine_79, wp_step xX1_combine_80, wp_step xX1_combine_83, wp_step xX1_combine_84, wp_step xX1_combine_87, wp_step xX1_combine_88, wp_step xX1_combine_89, wp_step xX1_combine_90, wp_step xX1_combine_91, wp_step xX1_combine_92, wp_step xX1_combine_93, wp_step xX1_combine_96, wp_step xX1_combine_97, wp_step xX1_combine_99, wp_step xX1_combine_102, wp_step xX1_combine_103, wp_step xX1_combine_106, wp_step xX1_combine_107, wp_step xX1_combine_110, wp_step xX1_combine_111, wp_step xX1_combine_112, wp_step xX1_combine_113, wp_step xX1_combine_114, wp_step xX1_combine_115, wp_step xX1_combine_116, wp_step xX1_combine_119, wp_step xX1_combine_120, wp_step xX1_combine_123, wp_step xX1_combine_124, wp_step xX1_combine_125, wp_step xX1_combine_128, wp_step xX1_combine_131, wp_step xX1_combine_132, wp_step xX1_combine_135, wp_step xX1_combine_136, wp_step xX1_combine_139, wp_step xX1_combine_140, wp_step xX1_combine_141, wp_step xX1_combine_142, wp_step xX1_combine_144, wp_step xX1_combine_147, wp_step xX1_combine_148, wp_step xX1_combine_149, wp_step xX1_combine_150, wp_step xX1_combine_153, wp_step xX1_combine_154, wp_step xX1_combine_155, wp_step xX1_combine_156, wp_step xX1_combine_157, ↓e_getf iX1_combine f1_77, ↓e_putf iX1_combine f1_77, ↓e_getf iX1_combine f1_30, ↓e_putf iX1_combine f1_74, iX1_combine, exec1, ↓p1_e, ↓p2_e, ↓q1_e, ↓q2_e, ↓qi_e, ↓pr_e, ↓pa_e, ↓pa_f, ↓pst_e, ↓qst_e, ↓rst_e, ↓pac_e, ↓pargs_0, ↓pargs_s, ↓gfld_0, ↓gfld_1, ↓gfld_2, ↓gfld_3, ↓pfld_i, ↓pfld_l, ↓pfld_r, ↓sfld_i, ↓sfld_l, ↓sfld_r, brI, pushv, rcv, lget, lset, lset2, isL, rok, szs, List.elem_nil, List.elem_cons, cond_true, cond_false, Option.map_some, beq_self_eq_true, Bool.true_and, Bool.and_true, Bool.false_and, Bool.and_false, Bool.or_false, Bool.false_or, Bool.or_true, Bool.true_or, Nat.reduceAdd, Nat.reduceSub, Nat.reduceMul, Nat.reduceBEq, Nat.reduceEqDiff, Nat.reduceLeDiff, Nat.sub_zero, true_and, and_true, false_and, and_false, true_or, or_true, false_or, or_false, reduceCtorEq, ↓reduceIte, List.getD_cons_zero, List.getD_cons_succ, List.length_cons, List.length_nil, ct_i, ct_r, ct_l, ct_f, ct_n, false_implies, true_implies, y29, y30, y31, y32, y33, y34, y35, y36, s2, gi_si_a, gi_si, gi_si_k, nI_pred, nI_clamp (show t.length < 2 ^ 31 by omega), nI_clamp (show t.length + 1 < 2 ^ 31 by omega), b1, b2]
    have v1 : vp_in (nI t.length) 32 := vin (by omega) (by omega)
    have v2 : vp_in (nI (t.length + 1)) 32 := vin (by omega) (by omega)
    have fin : ∀ x, StR μ0 (si (si μ 29 9 (nI (t.length + 1))) 36 t.length x) (x :: t) hb false := fun x => by
      refine ⟨(s1.si (Or.inr ⟨rfl, by omega⟩)).si (Or.inl rfl), ?_, ?_, ?_, ?_, ?_, ?_⟩
      · rw [gi_si_a (by omega), gi_si]; rfl
      · simp only [List.length_cons]; omega
      · rw [gi_si_a (by omega), gi_si_k (by omega)]; exact s4
      · rw [gi_si_a (by omega), gi_si_k (by omega)]; exact s5
      · rw [gi_si]
      · exact b3.cong (fun j hj => by rw [gi_si_k (by omega), gi_si_a (by omega)])
    have fin2 : StR μ0 (si (si μ 29 9 (nI (t.length + 1))) 29 11 1) (a :: t) hb true := by
      refine ⟨(s1.si (Or.inr ⟨rfl, by omega⟩)).si (Or.inr ⟨rfl, by omega⟩), ?_, ?_, ?_, ?_, ?_, ?_⟩
      · rw [gi_si_k (by omega), gi_si]; rfl
      · simp only [List.length_cons]; omega
      · rw [gi_si_k (by omega), gi_si_k (by omega)]; exact s4
      · rw [gi_si]; rfl
      · rw [gi_si_a (by omega), gi_si_a (by omega)]; exact b2
      · exact b3.cong (fun j hj => by rw [gi_si_a (by omega), gi_si_a (by omega)])
    refine ⟨fun q => absurd q (nI_nlt (b := 2) (by omega) (by omega)), fun _ => ⟨fun _ => ⟨v1, v2, fun c1 => ⟨fun c2 => ⟨fun c3 => ⟨fun c4 => ⟨fun c5 => ⟨c4, v1, ?_⟩, fun c5 => ⟨c4, v1, ?_⟩⟩, fun c4 => ?_⟩, fun c3 => ⟨v1, ?_⟩⟩, fun c2 => ⟨v1, ?_⟩⟩, fun c1 => ⟨v1, ?_⟩⟩, fun q => absurd (nI_le (b := 32) (by omega) (by omega)) q⟩⟩
    all_goals apply h
    · simp only [cmbL, if_neg c1, if_neg c2, if_neg c3, if_neg c4, if_neg c5]; exact fin _
    · simp only [cmbL, if_neg c1, if_neg c2, if_neg c3, if_neg c4, if_pos c5]; exact fin _
    · simp only [cmbL, if_neg c1, if_neg c2, if_neg c3, if_pos c4]; exact fin2
    · simp only [cmbL, if_neg c1, if_neg c2, if_pos c3]; exact fin _
    · simp only [cmbL, if_neg c1, if_pos c2]; exact fin _
    · simp only [cmbL, if_pos c1]; exact fin _
/-- two values into the flag -/
def cmpV (c a b : Int32) : Bool := if c = 60 then decide (a < b) else if c = 62 then decide (b < a) else decide (a = b)
def cmpL (c : Int32) (hb : Bool) : List Int32 → List Int32 × Bool
  | b :: a :: t => (t, cmpV c a b)
  | l => (l, hb)
set_option maxRecDepth 100000 in
set_option maxHeartbeats 1000000 in
theorem k_compare {c : Int32} {l : List Int32} {hb : Bool} (hs : StR μ0 μ l hb false) (h : ∀ μ', StR μ0 μ' (cmpL c hb l).1 (cmpL c hb l).2 false → Q none (LAY v) μ' bc bs) : KC G d mX1_compare [.ref 29, .int c] (LAY v) μ bc bs Q := by
  refine KC_intro 0 0 kX1_compare (by decide) (by decide) (Nat.zero_le _) (Nat.zero_le _) (Nat.le_of_ble_eq_true rfl) (fun Z hZ => ?_)
  show Z 0 [some (.ref 29), some (.int c), none, none] [] (LAY v) μ 0 0
  match l, hs, h with
  | [], hs, h =>
    have s2 : gi μ 29 9 = 0 := hs.2.1
    refine hZ 400 [] _ _ _ _ _ _ _ ?_
    simp -implicitDefEqProofs (disch := decide) only [wp_step xX1_compare_0, wp_step xX1_compare_1, wp_step xX1_compare_4, wp_step xX1_compare_5, wp_step xX1_compare_8, wp_step xX1_compare_9, wp_step xX1_compare_12, wp_step xX1_compare_14, wp_step xX1_compare_17, wp_step xX1_compare_18, wp_step xX1_compare_19, wp_step xX1_compare_20, wp_step xX1_compare_23, wp_step xX1_compare_24, wp_step xX1_compare_25, wp_step xX1_compare_28, wp_step xX1_compare_29, wp_step xX1_compare_32, wp_step xX1_compare_33, wp_step xX1_compare_36, wp_step xX1_compare_37, wp_step xX1_compare_38, wp_step xX1_compare_39, wp_step xX1_compare_42, wp_step xX1_compare_43, wp_step xX1_compare_46, wp_step xX1_compare_47, wp_step xX1_compare_48, wp_step xX1_compare_49, wp_step xX1_compare_50, wp_step xX1_compare_51, wp_step xX1_compare_52, wp_step xX1_compare_54, wp_step xX1_compare_57, wp_step xX1_compare_58, wp_step xX1_compare_59, wp_step xX1_compare_62, wp_step xX1_compare_63, wp_step xX1_compare_66, wp_step xX1_compare_67, wp_step xX1_compare_70, wp_step xX1_compare_71, wp_step xX1_compare_73, wp_step xX1_compare_76, wp_step xX1_compare_77, wp_step xX1_compare_78, wp_step xX1_compare_81, wp_step xX1_compare_82, wp_step xX1_compare_85, wp_step xX1_compare_86, wp_step xX1_compare_89, wp_step xX1_compare_90, wp_step xX1_compare_91, wp_step xX1_compare_94, wp_step xX1_compare_95, wp_step xX1_compare_98, wp_step xX1_compare_99, wp_step xX1_compare_102, ↓e_getf iX1_compare f1_77, ↓e_putf iX1_compare f1_77, ↓e_getf iX1_compare f1_30, ↓e_putf iX1_compare f1_70, iX1_compare, exec1, ↓p1_e, ↓p2_e, ↓q1_e, ↓q2_e, ↓qi_e, ↓pr_e, ↓pa_e, ↓pa_f, ↓pst_e, ↓qst_e, ↓rst_e, ↓pac_e, ↓pargs_0, ↓pargs_s, ↓gfld_0, ↓gfld_1, ↓gfld_2, ↓gfld_3, ↓pfld_i, ↓pfld_l, ↓pfld_r, ↓sfld_i, ↓sfld_l, ↓sfld_r, brI, pushv, rcv, lget, lset, lset2, isL, rok, szs, List.elem_nil, List.elem_cons, cond_true, cond_false, Option.map_some, beq_self_eq_true, Bool.true_and, Bool.and_true, Bool.false_and, Bool.and_false, Bool.or_false, Bool.false_or, Bool.or_true, Bool.true_or, Nat.reduceAdd, Nat.reduceSub, Nat.reduceMul, Nat.reduceBEq, Nat.reduceEqDiff, Nat.reduceLeDiff, Nat.sub_zero, true_and, and_true, false_and, and_false, true_or, or_true, false_or, or_false, reduceCtorEq, ↓reduceIte, List.getD_cons_zero, List.getD_cons_succ, List.length_cons, List.length_nil, ct_i, ct_r, ct_l, ct_f, ct_n, false_implies, true_implies, y29, y30, y31, y32, y33, y34, y35, y36, s2, gi_si_a, gi_si, gi_si_k]
    exact ⟨fun _ => h μ hs, fun q => absurd (by decide) q⟩
  | [x], hs, h =>
    have s2 : gi μ 29 9 = 1 := hs.2.1
    refine hZ 400 [] _ _ _ _ _ _ _ ?_
    simp -implicitDefEqProofs (disch := decide) only [wp_step xX1_compare_0, wp_step xX1_compare_1, wp_step xX1_compare_4, wp_step xX1_compare_5, wp_step xX1_compare_8, wp_step xX1_compare_9, wp_step xX1_compare_12, wp_step xX1_compare_14, wp_step xX1_compare_17, wp_step xX1_compare_18, wp_step xX1_compare_19, wp_step xX1_compare_20, wp_step xX1_compare_23, wp_step xX1_compare_24, wp_step xX1_compare_25, wp_step xX1_compare_28, wp_step xX1_compare_29, wp_step xX1_compare_32, wp_step xX1_compare_33, wp_step xX1_compare_36, wp_step xX1_compare_37, wp_step xX1_compare_38, wp_step xX1_compare_39, wp_step xX1_compare_42, wp_step xX1_compare_43, wp_step xX1_compare_46, wp_step xX1_compare_47, wp_step xX1_compare_48, wp_step xX1_compare_49, wp_step xX1_compare_50, wp_step xX1_compare_51, wp_step xX1_compare_52, wp_step xX1_compare_54, wp_step xX1_compare_57, wp_step xX1_compare_58, wp_step xX1_compare_59, wp_step xX1_compare_62, wp_step xX1_compare_63, wp_step xX1_compare_66, wp_step xX1_compare_67, wp_step xX1_compare_70, wp_step xX1_compare_71, wp_step xX1_compare_73, wp_step xX1_compare_76, wp_step xX1_compare_77, wp_step xX1_compare_78, wp_step xX1_compare_81, wp_step xX1_compare_82, wp_step xX1_compare_85, wp_step xX1_compare_86, wp_step xX1_compare_89, wp_step xX1_compare_90, wp_step xX1_compare_91, wp_step xX1_compare_94, wp_step xX1_compare_95, wp_step xX1_compare_98, wp_step xX1_compare_99, wp_step xX1_compare_102, ↓e_getf iX1_compare f1_77, ↓e_putf iX1_compare f1_77, ↓e_getf iX1_compare f1_30, ↓e_putf iX1_compare f1_70, iX1_compare, exec1, ↓p1_e, ↓p2_e, ↓q1_e, ↓q2_e, ↓qi_e, ↓pr_e, ↓pa_e, ↓pa_f, ↓pst_e, ↓qst_e, ↓rst_e, ↓pac_e, ↓pargs_0, ↓pargs_s, ↓gfld_0, ↓gfld_1, ↓gfld_2, ↓gfld_3, ↓pfld_i, ↓pfld_l, ↓pfld_r, ↓sfld_i, ↓sfld_l, ↓sfld_r, brI, pushv, rcv, lget, lset, lset2, isL, rok, szs, List.elem_nil, List.elem_cons, cond_true, cond_false, Option.map_some, beq_self_eq_true, Bool.true_and, Bool.and_true, Bool.false_and, Bool.and_false, Bool.or_false, Bool.false_or, Bool.or_true, Bool.true_or, Nat.reduceAdd, Nat.reduceSub, Nat.reduceMul, Nat.reduceBEq, Nat.reduceEqDiff, Nat.reduceLeDiff, Nat.sub_zero, true_and, and_true, false_and, and_false, true_or, or_true, false_or, or_false, reduceCtorEq, ↓reduceIte, List.getD_cons_zero, List.getD_cons_succ, List.length_cons, List.length_nil, ct_i, ct_r, ct_l, ct_f, ct_n, false_implies, true_implies, y29, y30, y31, y32, y33, y34, y35, y36, s2, gi_si_a, gi_si, gi_si_k]
    exact ⟨fun _ => h μ hs, fun q => absurd (by decide) q⟩
  | b :: a :: t, hs, h =>
    obtain ⟨s1, s2, s3, s4, s5, s6⟩ := id hs
    obtain ⟨b1, b2, b3⟩ := id s6
    simp only [List.length_cons] at s2 s3 b1
    have e2 : nI (t.length + 1 + 1) - 2 = nI t.length := by
      rw [show (2 : Int32) = 1 + 1 from rfl, ← Int32.sub_sub, nI_pred, nI_pred]
    refine hZ 400 [] _ _ _ _ _ _ _ ?_
    simp -implicitDefEqProofs (disch := decide) only [wp_step xX1_compare_0, wp_step xX1_compare_1, wp_step xX1_compare_4, wp_step xX1_compare_5, wp_step xX1_compare_8, wp_step xX1_compare_9, wp_step xX1_compare_12, wp_step xX1_compare_14, wp_step xX1_compare_17, wp_step xX1_compare_18, wp_step xX1_compare_19, wp_step xX1_compare_20, wp_step xX1_compare_23, wp_step xX1_compare_24, wp_step xX1_compare_25, wp_step xX1_compare_28, wp_step xX1_compare_29, wp_step xX1_compare_32, wp_step xX1_compare_33, wp_step xX1_compare_36, wp_step xX1_compare_37, wp_step xX1_compare_38, wp_step xX1_compare_39, wp_step xX1_compare_42, wp_step xX1_compare_43, wp_step xX1_compare_46, wp_step xX1_compare_47, wp_step xX1_compare_48, wp_step xX1_compare_49, wp_step xX1_compare_50, wp_step xX1_compare_51, wp_step xX1_compare_52, wp_step xX1_compare_54, wp_step xX1_compare_57, wp_step xX1_compare_58, wp_step xX1_compare_59, wp_step xX1_compare_62, wp_step xX1_compare_63, wp_step xX1_compare_66, wp_step xX1_compare_67, wp_step xX1_compare_70, wp_step xX1_compare_71, wp_step xX1_compare_73, wp_step xX1_compare_76, wp_step xX1_compare_77, wp_step xX1_compare_78, wp_step xX1_compare_81, wp_step xX1_compare_82, wp_step xX1_compare_85, wp_step xX1_compare_86, wp_step xX1_compare_89, wp_step xX1_compare_90, wp_step xX1_compare_91, wp_step xX1_compare_94, wp_step xX1_compare_95, wp_step xX1_compare_98, wp_step xX1_compare_99, wp_step xX1_compare_102, ↓e_getf iX1_compare f1_77, ↓e_putf iX1_compare f1_77, ↓e_getf iX1_compare f1_30, ↓e_putf iX1_compare f1_70, iX1_compare, exec1, ↓p1_e, ↓p2_e, ↓q1_e, ↓q2_e, ↓qi_e, ↓pr_e, ↓pa_e, ↓pa_f, ↓pst_e, ↓qst_e, ↓rst_e, ↓pac_e, ↓pargs_0, ↓pargs_s, ↓gfld_0, ↓gfld_1, ↓gfld_2, ↓gfld_3, ↓pfld_i, ↓pfld_l, ↓pfld_r, ↓sfld_i, ↓sfld_l, ↓sfld_r, brI, pushv, rcv, lget, lset, lset2, isL, rok, szs, List.elem_nil, List.elem_cons, cond_true, cond_false, Option.map_some, beq_self_eq_true, Bool.true_and, Bool.and_true, Bool.false_and, Bool.and_false, Bool.or_false, Bool.false_or, Bool.or_true, Bool.true_or, Nat.reduceAdd, Nat.reduceSub, Nat.reduceMul, Nat.reduceBEq, Nat.reduceEqDiff, Nat.reduceLeDiff, Nat.sub_zero, true_and, and_true, false_and, and_false, true_or, or_true, false_or, or_false, reduceCtorEq, ↓reduceIte, List.getD_cons_zero, List.getD_cons_succ, List.length_cons, List.length_nil, ct_i, ct_r, ct_l, ct_f, ct_n, false_implies, true_implies, y29, y30, y31, y32, y33, y34, y35, y36, s2, gi_si_a, gi_si, gi_si_k, e2, nI_1, nI_clamp (show t.length < 2 ^ 31 by omega), nI_clamp (show t.length + 1 < 2 ^ 31 by omega), b1, b2]
    have v1 : vp_in (nI t.length) 32 := vin (by omega) (by omega)
    have v2 : vp_in (nI (t.length + 1)) 32 := vin (by omega) (by omega)
    have fin : ∀ x, StR μ0 (si (si μ 29 9 (nI t.length)) 29 10 (bN x)) t x false := fun x => by
      refine ⟨(s1.si (Or.inr ⟨rfl, by omega⟩)).si (Or.inr ⟨rfl, by omega⟩), ?_, ?_, ?_, ?_, ?_⟩
      · rw [gi_si_k (by omega), gi_si]
      · omega
      · rw [gi_si]
      · rw [gi_si_k (by omega), gi_si_k (by omega)]; exact s5
      · exact b3.cong (fun j hj => by rw [gi_si_a (by omega), gi_si_a (by omega)])
    have go : ∀ x, cmpV c a b = x → Q none (LAY v) (si (si μ 29 9 (nI t.length)) 29 10 (bN x)) bc bs := fun x e => by
      apply h
      simp only [cmpL, e]; exact fin _
    refine ⟨fun q => absurd q (nI_nlt (b := 2) (by omega) (by omega)), fun _ => ⟨fun _ => ⟨v1, v2, ?_⟩, fun q => absurd (nI_le (b := 32) (by omega) (by omega)) q⟩⟩
    refine ⟨fun c1 => ⟨fun c2 => ⟨fun q => go false ?_, fun q => go true ?_⟩, fun c2 => ⟨fun q => go false ?_, fun q => go true ?_⟩⟩, fun c1 => ⟨fun q => go false ?_, fun q => go true ?_⟩⟩
    all_goals unfold cmpV
    · rw [if_neg c1, if_neg c2, decide_eq_false q]
    · rw [if_neg c1, if_neg c2, decide_eq_true q]
    · rw [if_neg c1, if_pos c2, decide_eq_false (Int32.not_lt.mpr q)]
    · rw [if_neg c1, if_pos c2, decide_eq_true (Int32.not_le.mp q)]
    · rw [if_pos c1, decide_eq_false (Int32.not_lt.mpr q)]
    · rw [if_pos c1, decide_eq_true (Int32.not_le.mp q)]
/-- the code, worked from a place: values, flag, whether it is refused -/
def rkL (code opd : Nat → Int32) (size : Nat) (F : Nat → Int32) : Nat → Nat → List Int32 → Bool → List Int32 × Bool × Bool
  | 0, _, l, h => (l, h, false)
  | n + 1, p, l, h =>
    if p < size ∧ p < 200 then
      if code p = 0 then (l, h, false)
      else if code p = 1 then rkL code opd size F n (p + 1) (putL (opd p) l) h
      else if code p = 2 then rkL code opd size F n (p + 1) (putL (if 0 ≤ opd p ∧ opd p ≤ 6 then F (opd p).toNatClampNeg else 0) l) h
      else if code p = 3 then rkL code opd size F n (p + 1) l (!h)
      else if code p = 4 ∨ code p = 5 then
        (if h = decide (code p = 4) then rkL code opd size F n (max (p + 1) (opd p).toNatClampNeg) l h else rkL code opd size F n (p + 1) l h)
      else if code p = 60 ∨ code p = 62 ∨ code p = 61 then rkL code opd size F n (p + 1) (cmpL (code p) h l).1 (cmpL (code p) h l).2
      else if (cmbL (code p) l).2 then ((cmbL (code p) l).1, h, true)
      else rkL code opd size F n (p + 1) (cmbL (code p) l).1 h
    else (l, h, false)
/-- jumps stay within -/
def JmpOK (code opd : Nat → Int32) : Prop := ∀ p, (code p = 4 ∨ code p = 5) → ∃ q, q ≤ 200 ∧ opd p = nI q
end LRN
