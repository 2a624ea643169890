/-- where a letter's fact stands -/
def fIx (c : Int32) : Nat := if c = 108 then 0 else if c = 99 then 1 else if c = 111 then 2 else if c = 97 then 3 else if c = 114 then 4 else if c = 119 then 5 else 6
theorem fIx_at {c : Int32} : (c.toInt = 97 → fIx c = 3) ∧ (c.toInt = 99 → fIx c = 1) ∧ (c.toInt = 108 → fIx c = 0) ∧ (c.toInt = 111 → fIx c = 2) ∧ (c.toInt = 114 → fIx c = 4) ∧ (c.toInt = 119 → fIx c = 5) ∧ (¬ c.toInt = 97 → ¬ c.toInt = 99 → ¬ c.toInt = 108 → ¬ c.toInt = 111 → ¬ c.toInt = 114 → ¬ c.toInt = 119 → fIx c = 6) := by
  unfold fIx
  simp only [i_eq, show (97 : Int32).toInt = 97 from rfl, show (99 : Int32).toInt = 99 from rfl, show (108 : Int32).toInt = 108 from rfl, show (111 : Int32).toInt = 111 from rfl, show (114 : Int32).toInt = 114 from rfl, show (119 : Int32).toInt = 119 from rfl]
  refine ⟨fun h => ?_, fun h => ?_, fun h => ?_, fun h => ?_, fun h => ?_, fun h => ?_, fun h1 h2 h3 h4 h5 h6 => ?_⟩
  all_goals simp [*]
/-- the facts of a ribbon, as the reference has them -/
def FM (μ : Mem) (i : Nat) (f : Nat) : Int32 := if f = 0 then (gi μ 153 (i)) else if f = 1 then (gi μ 154 (i)) else if f = 2 then (gi μ 155 (i)) else if f = 3 then (gi μ 152 (i)) else if f = 4 then (gi μ 151 (i)) else if f = 5 then (if gi μ 150 (gi μ 151 i).toNatClampNeg = 0 then 0 else 1) else (gi μ 144 4)
/-- one operation, by the reference -/
def wkV (c a b : Int32) : Int32 := if c = 43 then a + b else if c = 45 then a - b else if c = 42 then a * b else if c = 47 then (if b = 0 then 0 else a / b) else if c = 37 then (if b = 0 then 0 else a - a / b * b) else if c = 60 then bI (a < b) else if c = 62 then bI (b < a) else bI (a = b)
def doM (c : Int32) (a b : Int32 × Bool) : Int32 × Bool := if c = 38 ∨ c = 124 then (if a.2 = true ∨ a.1 ≠ (if c = 38 then 1 else 0) then a else b) else (wkV c a.1 b.1, a.2 || b.2 || (decide (c = 47 ∨ c = 37) && decide (b.1 = 0)))
/-- values of the reference's code, top first; none: it has too few or too many -/
def wkL (code arg : Nat → Int32) (F : Nat → Int32) : Nat → Nat → List (Int32 × Bool) → Option (List (Int32 × Bool))
  | 0, _, l => some l
  | n + 1, i, l =>
    if code i ≤ 2 then
      (if code i = 2 then (match l with | a :: t => wkL code arg F n (i + 1) ((1 - a.1, a.2) :: t) | [] => none)
      else if l.length < 240 then wkL code arg F n (i + 1) ((if code i = 0 then arg i else F (fIx (arg i)), false) :: l) else none)
    else (match l with | b :: a :: t => wkL code arg F n (i + 1) (doM (code i) a b :: t) | _ => none)
def pM (a _ : Nat) : Prop := a = 171 ∨ a = 172
def WkS (μ : Mem) : List (Int32 × Bool) → Prop
  | [] => True
  | x :: t => gi μ 171 t.length = x.1 ∧ gi μ 172 t.length = bN x.2 ∧ WkS μ t
theorem WkS.cong {μ μ' : Mem} : ∀ {l : List (Int32 × Bool)}, (∀ j, j < l.length → gi μ' 171 j = gi μ 171 j ∧ gi μ' 172 j = gi μ 172 j) → WkS μ l → WkS μ' l
  | [], _, _ => trivial
  | x :: t, h, q => ⟨(h t.length (by simp)).1.trans q.1, (h t.length (by simp)).2.trans q.2.1, WkS.cong (fun j hj => h j (by simp; omega)) q.2.2⟩
section WRK
variable {G : Gx} {d v : Nat} {μ : Mem} {bc bs : Nat} {Q : Option Value → List Sh → Mem → Nat → Nat → Prop} {LR : Mem → Prop}
set_option maxRecDepth 100000 in
set_option maxHeartbeats 1000000 in
theorem k_mValueOf {c : Int32} {i k : Nat} (hi : i < 40) (ha : (gi μ 144 41) = nI i) (hr : (gi μ 151 (i)) = nI k) (hk : k < 10) (h : Q (some (.int (FM μ i (fIx c)))) (LAY v) μ bc bs) : KC G d mX11_valueOf [.ref 144, .int c] (LAY v) μ bc bs Q := by
  refine KC_intro 0 0 kX11_valueOf (by decide) (by decide) (Nat.zero_le _) (Nat.zero_le _) (Nat.le_of_ble_eq_true rfl) (fun Z hZ => ?_)
  show Z 0 [some (.ref 144), some (.int c)] [] (LAY v) μ 0 0
  refine hZ 400 [] _ _ _ _ _ _ _ ?_
  simp -implicitDefEqProofs only [wp_step xX11_valueOf_0, wp_step xX11_valueOf_1, wp_step xX11_valueOf_60, wp_step xX11_valueOf_61, wp_step xX11_valueOf_64, wp_step xX11_valueOf_65, wp_step xX11_valueOf_68, wp_step xX11_valueOf_69, wp_step xX11_valueOf_70, wp_step xX11_valueOf_71, wp_step xX11_valueOf_74, wp_step xX11_valueOf_75, wp_step xX11_valueOf_78, wp_step xX11_valueOf_79, wp_step xX11_valueOf_80, wp_step xX11_valueOf_81, wp_step xX11_valueOf_84, wp_step xX11_valueOf_85, wp_step xX11_valueOf_88, wp_step xX11_valueOf_89, wp_step xX11_valueOf_90, wp_step xX11_valueOf_91, wp_step xX11_valueOf_94, wp_step xX11_valueOf_95, wp_step xX11_valueOf_98, wp_step xX11_valueOf_99, wp_step xX11_valueOf_100, wp_step xX11_valueOf_101, wp_step xX11_valueOf_104, wp_step xX11_valueOf_105, wp_step xX11_valueOf_108, wp_step xX11_valueOf_109, wp_step xX11_valueOf_110, wp_step xX11_valueOf_111, wp_step xX11_valueOf_114, wp_step xX11_valueOf_115, wp_step xX11_valueOf_118, wp_step xX11_valueOf_119, wp_step xX11_valueOf_122, wp_step xX11_valueOf_123, wp_step xX11_valueOf_124, wp_step xX11_valueOf_127, wp_step xX11_valueOf_128, wp_step xX11_valueOf_131, wp_step xX11_valueOf_132, wp_step xX11_valueOf_133, wp_step xX11_valueOf_134, wp_step xX11_valueOf_137, ↓e_getf iX11_valueOf f11_43, ↓e_getf iX11_valueOf f11_354, ↓e_getf iX11_valueOf f11_46, ↓e_getf iX11_valueOf f11_49, ↓e_getf iX11_valueOf f11_40, ↓e_getf iX11_valueOf f11_37, ↓e_getf iX11_valueOf f11_34, ↓e_getf iX11_valueOf f11_234, iX11_valueOf, exec1, ↓p1_e, ↓p2_e, ↓q1_e, ↓q2_e, ↓qi_e, ↓pr_e, ↓pa_e, ↓pa_f, ↓pst_e, ↓qst_e, ↓rst_e, ↓pac_e, ↓pargs_0, ↓pargs_s, ↓gfld_0, ↓gfld_1, ↓gfld_2, ↓gfld_3, ↓pfld_i, ↓pfld_l, ↓pfld_r, ↓sfld_i, ↓sfld_l, ↓sfld_r, brI, pushv, rcv, lget, lset, lset2, isL, rok, szs, List.elem_nil, List.elem_cons, cond_true, cond_false, Option.map_some, beq_self_eq_true, Bool.true_and, Bool.and_true, Bool.false_and, Bool.and_false, Bool.or_false, Bool.false_or, Bool.or_true, Bool.true_or, Nat.reduceAdd, Nat.reduceSub, Nat.reduceMul, Nat.reduceBEq, Nat.reduceEqDiff, Nat.reduceLeDiff, Nat.sub_zero, true_and, and_true, false_and, and_false, true_or, or_true, false_or, or_false, reduceCtorEq, ↓reduceIte, List.getD_cons_zero, List.getD_cons_succ, List.length_cons, List.length_nil, ct_i, ct_r, ct_l, ct_f, ct_n, false_implies, true_implies, y144, y145, y146, y147, y148, y149, y150, y151, y152, y153, y154, y155, y156, y157, swt, swl, List.size_toArray, List.toList_toArray, nci, Int.reduceAdd, Int.reduceToNat, Int.zero_add, ha, nI_clamp (show i < 2 ^ 31 by omega), hr, nI_clamp (show k < 2 ^ 31 by omega)]
  obtain ⟨e1, e2, e3, e4, e5, e6, e7⟩ := @fIx_at c
  have hv : vp_in (nI i) 40 := vin hi (by omega)
  have hv2 : vp_in (nI k) 10 := vin hk (by omega)
  unfold FM at h
  refine ⟨fun q => ⟨hv, ?_⟩, fun q1 => ⟨fun q => ⟨hv, ?_⟩, fun q2 => ⟨fun q => ⟨hv, ?_⟩, fun q3 => ⟨fun q => ⟨hv, ?_⟩, fun q4 => ⟨fun q => ⟨hv, ?_⟩, fun q5 => ⟨fun q => ⟨hv, hv2, fun w => ?_, fun w => ?_⟩, fun q6 => ?_⟩⟩⟩⟩⟩⟩
  · rw [e1 q] at h; exact h
  · rw [e2 q] at h; exact h
  · rw [e3 q] at h; exact h
  · rw [e4 q] at h; exact h
  · rw [e5 q, hr] at h; exact h
  · simp only [e6 q, hr, nI_clamp (show k < 2 ^ 31 by omega), w] at h; exact h
  · simp only [e6 q, hr, nI_clamp (show k < 2 ^ 31 by omega), w] at h; exact h
  · rw [e7 q1 q2 q3 q4 q5 q6] at h; exact h
set_option maxRecDepth 100000 in
set_option maxHeartbeats 1000000 in
theorem k_mWorked {c a b : Int32} {lay : List Sh} (h : Q (some (.int (wkV c a b))) lay μ bc bs) : KC G d mX11_worked [.int c, .int a, .int b] lay μ bc bs Q := by
  refine KC_intro 0 0 kX11_worked (by decide) (by decide) (Nat.zero_le _) (Nat.zero_le _) (Nat.le_of_ble_eq_true rfl) (fun Z hZ => ?_)
  show Z 0 [some (.int c), some (.int a), some (.int b)] [] lay μ 0 0
  refine hZ 400 [] _ _ _ _ _ _ _ ?_
  simp -implicitDefEqProofs only [wp_step xX11_worked_0, wp_step xX11_worked_1, wp_step xX11_worked_68, wp_step xX11_worked_69, wp_step xX11_worked_70, wp_step xX11_worked_71, wp_step xX11_worked_72, wp_step xX11_worked_73, wp_step xX11_worked_74, wp_step xX11_worked_75, wp_step xX11_worked_76, wp_step xX11_worked_77, wp_step xX11_worked_78, wp_step xX11_worked_79, wp_step xX11_worked_80, wp_step xX11_worked_81, wp_step xX11_worked_84, wp_step xX11_worked_85, wp_step xX11_worked_88, wp_step xX11_worked_89, wp_step xX11_worked_90, wp_step xX11_worked_91, wp_step xX11_worked_92, wp_step xX11_worked_93, wp_step xX11_worked_96, wp_step xX11_worked_97, wp_step xX11_worked_100, wp_step xX11_worked_101, wp_step xX11_worked_102, wp_step xX11_worked_103, wp_step xX11_worked_104, wp_step xX11_worked_105, wp_step xX11_worked_106, wp_step xX11_worked_109, wp_step xX11_worked_110, wp_step xX11_worked_113, wp_step xX11_worked_114, wp_step xX11_worked_115, wp_step xX11_worked_116, wp_step xX11_worked_117, wp_step xX11_worked_120, wp_step xX11_worked_121, wp_step xX11_worked_124, wp_step xX11_worked_125, wp_step xX11_worked_126, wp_step xX11_worked_127, wp_step xX11_worked_128, wp_step xX11_worked_131, wp_step xX11_worked_132, wp_step xX11_worked_135, wp_step xX11_worked_136, iX11_worked, exec1, ↓p1_e, ↓p2_e, ↓q1_e, ↓q2_e, ↓qi_e, ↓pr_e, ↓pa_e, ↓pa_f, ↓pst_e, ↓qst_e, ↓rst_e, ↓pac_e, ↓pargs_0, ↓pargs_s, ↓gfld_0, ↓gfld_1, ↓gfld_2, ↓gfld_3, ↓pfld_i, ↓pfld_l, ↓pfld_r, ↓sfld_i, ↓sfld_l, ↓sfld_r, brI, pushv, rcv, lget, lset, lset2, isL, rok, szs, List.elem_nil, List.elem_cons, cond_true, cond_false, Option.map_some, beq_self_eq_true, Bool.true_and, Bool.and_true, Bool.false_and, Bool.and_false, Bool.or_false, Bool.false_or, Bool.or_true, Bool.true_or, Nat.reduceAdd, Nat.reduceSub, Nat.reduceMul, Nat.reduceBEq, Nat.reduceEqDiff, Nat.reduceLeDiff, Nat.sub_zero, true_and, and_true, false_and, and_false, true_or, or_true, false_or, or_false, reduceCtorEq, ↓reduceIte, List.getD_cons_zero, List.getD_cons_succ, List.length_cons, List.length_nil, ct_i, ct_r, ct_l, ct_f, ct_n, false_implies, true_implies, swt, swl, List.size_toArray, List.toList_toArray, nci, Int.reduceAdd, Int.reduceToNat, Int.zero_add]
  have lt : ∀ k : Int, c.toInt = k → ∀ x : Int32, x.toInt = k → c = x := fun k h1 x h2 => i_eq.mpr (h1.trans h2.symm)
  have ln : ∀ k : Int, ¬ c.toInt = k → ∀ x : Int32, x.toInt = k → ¬ c = x := fun k h1 x h2 e => h1 (by rw [e]; exact h2)
  refine ⟨fun q => ?_, fun q1 => ⟨fun q => ?_, fun q2 => ⟨fun q => ?_, fun q3 => ⟨fun q => ?_, fun q4 => ⟨fun q => ?_, fun q5 => ⟨fun q => ?_, fun q6 => ⟨fun q => ?_, fun q7 => ?_⟩⟩⟩⟩⟩⟩⟩
  · have e := lt _ q 37 rfl
    subst e
    refine ⟨fun z => ⟨z, ?_⟩, fun z => ?_⟩
    · rw [show wkV 37 a b = if b = 0 then 0 else a - a / b * b from rfl, if_neg z] at h; exact h
    · rw [show wkV 37 a b = if b = 0 then 0 else a - a / b * b from rfl, if_pos z] at h; exact h
  · have e := lt _ q 42 rfl
    subst e; exact h
  · have e := lt _ q 43 rfl
    subst e; exact h
  · have e := lt _ q 45 rfl
    subst e; exact h
  · have e := lt _ q 47 rfl
    subst e
    refine ⟨fun z => ⟨z, ?_⟩, fun z => ?_⟩
    · rw [show wkV 47 a b = if b = 0 then 0 else a / b from rfl, if_neg z] at h; exact h
    · rw [show wkV 47 a b = if b = 0 then 0 else a / b from rfl, if_pos z] at h; exact h
  · have e := lt _ q 60 rfl
    subst e
    rw [show wkV 60 a b = bI (a < b) from rfl] at h
    refine ⟨fun z => ?_, fun z => ?_⟩
    · rw [bI_f (Int32.not_lt.mpr z)] at h; exact h
    · rw [bI_t (Int32.not_le.mp z)] at h; exact h
  · have e := lt _ q 62 rfl
    subst e
    rw [show wkV 62 a b = bI (b < a) from rfl] at h
    refine ⟨fun z => ?_, fun z => ?_⟩
    · rw [bI_f (Int32.not_lt.mpr z)] at h; exact h
    · rw [bI_t (Int32.not_le.mp z)] at h; exact h
  · rw [wkV, if_neg (ln _ q3 43 rfl), if_neg (ln _ q4 45 rfl), if_neg (ln _ q2 42 rfl), if_neg (ln _ q5 47 rfl), if_neg (ln _ q1 37 rfl), if_neg (ln _ q6 60 rfl), if_neg (ln _ q7 62 rfl)] at h
    refine ⟨fun z => ?_, fun z => ?_⟩
    · rw [bI_f z] at h; exact h
    · rw [bI_t z] at h; exact h
set_option maxRecDepth 100000 in
set_option maxHeartbeats 1000000 in
theorem k_mDoes {c : Int32} {a b : Int32 × Bool} {t : List (Int32 × Bool)} (hd : 1 ≤ d) (ht : t.length + 1 < 240) (hS : WkS μ (b :: a :: t)) (h : ∀ μ', Fr pM μ μ' → WkS μ' (doM c a b :: t) → Q none (LAY v) μ' bc bs) : KC G d mX11_does [.ref 144, .int c, .int (nI t.length)] (LAY v) μ bc bs Q := by
  refine KC_intro 0 0 kX11_does (by decide) (by decide) (Nat.zero_le _) (Nat.zero_le _) (Nat.le_of_ble_eq_true rfl) (fun Z hZ => ?_)
  show Z 0 [some (.ref 144), some (.int c), some (.int (nI t.length)), none] [] (LAY v) μ 0 0
  obtain ⟨b1, b2, a1, a2, t1⟩ := hS
  simp only [List.length_cons] at b1 b2
  refine hZ 400 [142] _ _ _ _ _ _ _ ?_
  simp -implicitDefEqProofs (disch := decide) only [wp_step xX11_does_0, wp_step xX11_does_1, wp_step xX11_does_2, wp_step xX11_does_3, wp_step xX11_does_4, wp_step xX11_does_5, wp_step xX11_does_7, wp_step xX11_does_10, wp_step xX11_does_11, wp_step xX11_does_13, wp_step xX11_does_16, wp_step xX11_does_17, wp_step xX11_does_20, wp_step xX11_does_21, wp_step xX11_does_22, wp_step xX11_does_25, wp_step xX11_does_26, wp_step xX11_does_29, wp_step xX11_does_30, wp_step xX11_does_31, wp_step xX11_does_32, wp_step xX11_does_34, wp_step xX11_does_37, wp_step xX11_does_38, wp_step xX11_does_41, wp_step xX11_does_42, wp_step xX11_does_45, wp_step xX11_does_46, wp_step xX11_does_47, wp_step xX11_does_50, wp_step xX11_does_51, wp_step xX11_does_52, wp_step xX11_does_55, wp_step xX11_does_56, wp_step xX11_does_57, wp_step xX11_does_58, wp_step xX11_does_59, wp_step xX11_does_62, wp_step xX11_does_63, wp_step xX11_does_64, wp_step xX11_does_67, wp_step xX11_does_68, wp_step xX11_does_69, wp_step xX11_does_70, wp_step xX11_does_71, wp_step xX11_does_72, wp_step xX11_does_75, wp_step xX11_does_76, wp_step xX11_does_77, wp_step xX11_does_80, wp_step xX11_does_81, wp_step xX11_does_82, wp_step xX11_does_85, wp_step xX11_does_86, wp_step xX11_does_89, wp_step xX11_does_90, wp_step xX11_does_91, wp_step xX11_does_94, wp_step xX11_does_95, wp_step xX11_does_97, wp_step xX11_does_100, wp_step xX11_does_101, wp_step xX11_does_103, wp_step xX11_does_106, wp_step xX11_does_107, wp_step xX11_does_110, wp_step xX11_does_111, wp_step xX11_does_112, wp_step xX11_does_115, wp_step xX11_does_116, wp_step xX11_does_119, wp_step xX11_does_120, wp_step xX11_does_121, wp_step xX11_does_122, wp_step xX11_does_125, wp_step xX11_does_126, wp_step xX11_does_127, wp_step xX11_does_128, wp_step xX11_does_131, wp_step xX11_does_132, wp_step xX11_does_133, wp_step xX11_does_134, wp_step xX11_does_137, wp_step xX11_does_138, wp_step xX11_does_139, wp_step xX11_does_142, wp_step xX11_does_143, ↓e_getf iX11_does f11_100, ↓e_getf iX11_does f11_97, ↓e_static iX11_does jn11_357 l11_357 iX11_worked, iX11_does, exec1, ↓p1_e, ↓p2_e, ↓q1_e, ↓q2_e, ↓qi_e, ↓pr_e, ↓pa_e, ↓pa_f, ↓pst_e, ↓qst_e, ↓rst_e, ↓pac_e, ↓pargs_0, ↓pargs_s, ↓gfld_0, ↓gfld_1, ↓gfld_2, ↓gfld_3, ↓pfld_i, ↓pfld_l, ↓pfld_r, ↓sfld_i, ↓sfld_l, ↓sfld_r, brI, pushv, rcv, lget, lset, lset2, isL, rok, szs, List.elem_nil, List.elem_cons, cond_true, cond_false, Option.map_some, beq_self_eq_true, Bool.true_and, Bool.and_true, Bool.false_and, Bool.and_false, Bool.or_false, Bool.false_or, Bool.or_true, Bool.true_or, Nat.reduceAdd, Nat.reduceSub, Nat.reduceMul, Nat.reduceBEq, Nat.reduceEqDiff, Nat.reduceLeDiff, Nat.sub_zero, true_and, and_true, false_and, and_false, true_or, or_true, false_or, or_false, reduceCtorEq, ↓reduceIte, List.getD_cons_zero, List.getD_cons_succ, List.length_cons, List.length_nil, ct_i, ct_r, ct_l, ct_f, ct_n, false_implies, true_implies, y144, y171, y172, nI_1, nI_clamp (show t.length < 2 ^ 31 by omega), nI_clamp (show t.length + 1 < 2 ^ 31 by omega), a1, a2, b1, b2, gi_si_a]
  have v1 : vp_in (nI t.length) 240 := vin (by omega) (by omega)
  have v2 : vp_in (nI (t.length + 1)) 240 := vin (by omega) (by omega)
  have keepA : doM c a b = a → Q none (LAY v) μ bc bs := fun e => h μ Fr.rf (by rw [e]; exact ⟨a1, a2, t1⟩)
  have takeB : doM c a b = b → Q none (LAY v) (si (si μ 171 t.length b.1) 172 t.length (vp_nar .boolean (bN b.2))) bc bs := fun e => by
    refine h _ ((Fr.rf.si (Or.inl rfl)).si (Or.inr rfl)) ?_
    rw [e, nar01 (bN_01 _)]
    refine ⟨?_, gi_si, t1.cong (fun j hj => ⟨?_, ?_⟩)⟩
    · rw [gi_si_a (by omega), gi_si]
    · rw [gi_si_a (by omega), gi_si_k (by omega)]
    · rw [gi_si_k (by omega), gi_si_a (by omega)]
  have wrk : ∀ r : Bool, doM c a b = (wkV c a.1 b.1, r) → KC G (d - 1) mX11_worked [Value.int c, Value.int a.1, Value.int b.1] (LAY v) (si μ 172 t.length (vp_nar .boolean (bN r))) 0 0 (fun w lay' μ' bc' bs' => Z 142 [some (Value.ref 144), some (Value.int c), some (Value.int (nI t.length)), some (Value.int (nI (t.length + 1)))] (pushv w [Value.int (nI t.length), Value.ref 171]) lay' μ' bc' bs') := fun r e => by
    refine k_mWorked ?_
    refine hZ 400 [142] _ _ _ _ _ _ _ ?_
    simp -implicitDefEqProofs (disch := decide) only [wp_step xX11_does_142, wp_step xX11_does_143, ↓e_getf iX11_does f11_100, ↓e_getf iX11_does f11_97, ↓e_static iX11_does jn11_357 l11_357 iX11_worked, iX11_does, exec1, ↓p1_e, ↓p2_e, ↓q1_e, ↓q2_e, ↓qi_e, ↓pr_e, ↓pa_e, ↓pa_f, ↓pst_e, ↓qst_e, ↓rst_e, ↓pac_e, ↓pargs_0, ↓pargs_s, ↓gfld_0, ↓gfld_1, ↓gfld_2, ↓gfld_3, ↓pfld_i, ↓pfld_l, ↓pfld_r, ↓sfld_i, ↓sfld_l, ↓sfld_r, brI, pushv, rcv, lget, lset, lset2, isL, rok, szs, List.elem_nil, List.elem_cons, cond_true, cond_false, Option.map_some, beq_self_eq_true, Bool.true_and, Bool.and_true, Bool.false_and, Bool.and_false, Bool.or_false, Bool.false_or, Bool.or_true, Bool.true_or, Nat.reduceAdd, Nat.reduceSub, Nat.reduceMul, Nat.reduceBEq, Nat.reduceEqDiff, Nat.reduceLeDiff, Nat.sub_zero, true_and, and_true, false_and, and_false, true_or, or_true, false_or, or_false, reduceCtorEq, ↓reduceIte, List.getD_cons_zero, List.getD_cons_succ, List.length_cons, List.length_nil, ct_i, ct_r, ct_l, ct_f, ct_n, false_implies, true_implies, y171, nI_clamp (show t.length < 2 ^ 31 by omega)]
    refine ⟨v1, h _ ((Fr.rf.si (Or.inr rfl)).si (Or.inl rfl)) ?_⟩
    rw [e, nar01 (bN_01 _)]
    refine ⟨gi_si, ?_, t1.cong (fun j hj => ⟨?_, ?_⟩)⟩
    · rw [gi_si_a (by omega), gi_si]
    · rw [gi_si_k (by omega), gi_si_a (by omega)]
    · rw [gi_si_a (by omega), gi_si_k (by omega)]
  have hd0 : 0 < d := by omega
  repeat' first | exact v1 | exact v2 | exact hd0 | apply And.intro | intro
  all_goals first | exact keepA (by clear hZ keepA takeB wrk h a1 a2 b1 b2 t1 v1 v2; simp_all [doM, bN_0]) | exact takeB (by clear hZ keepA takeB wrk h a1 a2 b1 b2 t1 v1 v2; simp_all [doM, bN_0]) | exact wrk true (by clear hZ keepA takeB wrk h a1 a2 b1 b2 t1 v1 v2; simp_all [doM, bN_0]) | exact wrk false (by clear hZ keepA takeB wrk h a1 a2 b1 b2 t1 v1 v2; simp_all [doM, bN_0])
end WRK
