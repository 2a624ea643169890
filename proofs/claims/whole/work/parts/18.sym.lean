/-- a step, as it is walked -/
theorem wp_step {G : Gx} {d : Nat} {M : MI} {Qa : Option Value → List Sh → Mem → Prop} {Z : Kt} {stops : List Nat} {n pc : Nat} {i : Instr} {len t : Nat} {v : Int32} (h : dcd M pc = some (i, len, t, v)) {loc : XV} {st : List Value} {lay : List Sh} {μ : Mem} {bc bs : Nat} :
    wp G d M Qa Z stops (n + 1) pc loc st lay μ bc bs = exec1 G d M Qa i len t v pc loc st lay μ bc bs (fun pc loc st lay μ bc bs => if stops.elem pc = true then Z pc loc st lay μ bc bs else wp G d M Qa Z stops n pc loc st lay μ bc bs) := by
  rw [wp, h]
  dsimp only
  congr 1
  funext pc loc st lay μ bc bs
  cases stops.elem pc <;> simp
-- taken ahead of what stands within, so that a continuation is walked but once
theorem p1_e {x : Int32} {r : List Value} {f : Int32 → List Value → Prop} : p1 (.int x :: r) f = f x r := rfl
theorem p2_e {x y : Int32} {r : List Value} {f : Int32 → Int32 → List Value → Prop} : p2 (.int y :: .int x :: r) f = f x y r := rfl
theorem q1_e {x : Int64} {r : List Value} {f : Int64 → List Value → Prop} : q1 (.long x :: r) f = f x r := rfl
theorem q2_e {x y : Int64} {r : List Value} {f : Int64 → Int64 → List Value → Prop} : q2 (.long y :: .long x :: r) f = f x y r := rfl
theorem qi_e {x : Int64} {y : Int32} {r : List Value} {f : Int64 → Int32 → List Value → Prop} : qi (.int y :: .long x :: r) f = f x y r := rfl
theorem pr_e {a : Nat} {r : List Value} {f : Nat → List Value → Prop} : pr (.ref a :: r) f = f a r := rfl
theorem pa_e {i : Int32} {a : Nat} {r : List Value} {f : Int32 → Nat → List Value → Prop} {g : Int32 → List Value → Prop} : pa (.int i :: .ref a :: r) f g = f i a r := rfl
theorem pa_f {i : Int32} {a : UInt32} {r : List Value} {f : Int32 → Nat → List Value → Prop} {g : Int32 → List Value → Prop} : pa (.int i :: .float a :: r) f g = g i r := rfl
theorem pst_e {x i : Int32} {a : Nat} {r : List Value} {f : Int32 → Int32 → Nat → List Value → Prop} : pst (.int x :: .int i :: .ref a :: r) f = f x i a r := rfl
theorem qst_e {x : Int64} {i : Int32} {a : Nat} {r : List Value} {f : Int64 → Int32 → Nat → List Value → Prop} : qst (.long x :: .int i :: .ref a :: r) f = f x i a r := rfl
theorem rst_e {x : Nat} {i : Int32} {a : Nat} {r : List Value} {f : Nat → Int32 → Nat → List Value → Prop} : rst (.ref x :: .int i :: .ref a :: r) f = f x i a r := rfl
theorem pac_e {n dp sp : Int32} {a a0 : Nat} {r : List Value} {f : Int32 → Int32 → Nat → Int32 → Nat → List Value → Prop} : pac (.int n :: .int dp :: .ref a :: .int sp :: .ref a0 :: r) f = f n dp a sp a0 r := rfl
theorem pargs_0 {acc st : List Value} {f : List Value → List Value → Prop} : pargs 0 acc st f = f acc st := by cases st <;> rfl
theorem pargs_s {n : Nat} {v : Value} {acc st : List Value} {f : List Value → List Value → Prop} : pargs (n + 1) acc (v :: st) f = pargs n (v :: acc) st f := rfl
theorem gfld_0 {sh : Sh} {a k : Nat} {μ : Mem} {f : Value → Prop} : gfld 0 sh a μ k f = f (.int (gi μ a k)) := rfl
theorem gfld_1 {sh : Sh} {a k : Nat} {μ : Mem} {f : Value → Prop} : gfld 1 sh a μ k f = f (.long (gl μ a k)) := rfl
theorem gfld_3 {sh : Sh} {a k : Nat} {μ : Mem} {f : Value → Prop} : gfld 3 sh a μ k f = f (.int (gi μ a k)) := rfl
theorem gfld_2 {sh : Sh} {a k : Nat} {μ : Mem} {f : Value → Prop} : gfld 2 sh a μ k f = (match sh.2.2.getD k none with | some b => f (.ref b) | none => f .null) := by
  unfold gfld; cases sh.2.2.getD k none <;> rfl
theorem pfld_i {kd : Nat} {x : Int32} {a : Nat} {r : List Value} {f : Value → Nat → List Value → Prop} : pfld kd (.int x :: .ref a :: r) f = ((kd = 0 ∨ kd = 3 ∧ (x = 0 ∨ x = 1)) ∧ f (.int x) a r) := rfl
theorem pfld_l {kd : Nat} {x : Int64} {a : Nat} {r : List Value} {f : Value → Nat → List Value → Prop} : pfld kd (.long x :: .ref a :: r) f = (kd = 1 ∧ f (.long x) a r) := rfl
theorem pfld_r {kd : Nat} {x : Nat} {a : Nat} {r : List Value} {f : Value → Nat → List Value → Prop} : pfld kd (.ref x :: .ref a :: r) f = (kd = 2 ∧ f (.ref x) a r) := rfl
theorem sfld_i {lay : List Sh} {μ : Mem} {sh : Sh} {a k : Nat} {x : Int32} {f : List Sh → Mem → Prop} : sfld lay μ sh a k (.int x) f = f lay (si μ a k x) := rfl
theorem sfld_l {lay : List Sh} {μ : Mem} {sh : Sh} {a k : Nat} {x : Int64} {f : List Sh → Mem → Prop} : sfld lay μ sh a k (.long x) f = f lay (sl μ a k x) := rfl
theorem sfld_r {lay : List Sh} {μ : Mem} {sh : Sh} {a k b : Nat} {f : List Sh → Mem → Prop} : sfld lay μ sh a k (.ref b) f = (k < sh.2.2.length ∧ f (lay.set a (sh.1, sh.2.1, sh.2.2.set k (some b))) μ) := rfl
section EC
variable {G : Gx} {d : Nat} {M N : MI} {Qa : Option Value → List Sh → Mem → Prop} {o n len t pc : Nat} {v : Int32} {loc : XV} {st : List Value} {lay : List Sh} {μ : Mem} {bc bs : Nat} {k : Kt} {m1 m2 m3 m4 m5 o' rk ar n4 n5 : Nat}
theorem e_static (hM : inf M = (o, m1, m2, m3, m4, m5)) (hj : jlk o n = none) (hl : mlk o n = some N) (hN : inf N = (o', rk, ar, 0, n4, n5)) : exec1 G d M Qa (.invokestatic n) len t v pc loc st lay μ bc bs k = (0 < d ∧ pargs ar [] st (fun av r => szs r ≤ 8 ∧ KC G (d - 1) N av lay μ bc bs (fun w lay' μ' bc' bs' => k (pc + 3) loc (pushv w r) lay' μ' bc' bs'))) := by
  simp only [exec1, hM, hj, hl, hN, true_and]
theorem e_virt (hM : inf M = (o, m1, m2, m3, m4, m5)) (hl : mlk o n = some N) (hN : inf N = (o', rk, ar, 1, n4, n5)) : exec1 G d M Qa (.invokevirtual n) len t v pc loc st lay μ bc bs k = (0 < d ∧ pargs ar [] st (fun av r => szs r ≤ 8 ∧ rcv lay o' av ∧ KC G (d - 1) N av lay μ bc bs (fun w lay' μ' bc' bs' => k (pc + 3) loc (pushv w r) lay' μ' bc' bs'))) := by
  simp only [exec1, hM, hl, hN, true_and]
theorem e_spec (hM : inf M = (o, m1, m2, m3, m4, m5)) (hj : jlk o n = none) (hl : mlk o n = some N) (hN : inf N = (o', rk, ar, 2, n4, n5)) : exec1 G d M Qa (.invokespecial n) len t v pc loc st lay μ bc bs k = (0 < d ∧ pargs ar [] st (fun av r => szs r ≤ 8 ∧ rcv lay o' av ∧ KC G (d - 1) N av lay μ bc bs (fun w lay' μ' bc' bs' => k (pc + 3) loc (pushv w r) lay' μ' bc' bs'))) := by
  simp only [exec1, hM, hj, hl, hN, true_and]
theorem e_max (hM : inf M = (o, m1, m2, m3, m4, m5)) (hj : jlk o n = some 1) : exec1 G d M Qa (.invokestatic n) len t v pc loc st lay μ bc bs k = p2 st (fun x y r => szs r ≤ 8 ∧ 0 < d ∧ k (pc + 3) loc (.int (if x < y then y else x) :: r) lay μ bc bs) := by
  simp only [exec1, hM, hj]
theorem e_min (hM : inf M = (o, m1, m2, m3, m4, m5)) (hj : jlk o n = some 2) : exec1 G d M Qa (.invokestatic n) len t v pc loc st lay μ bc bs k = p2 st (fun x y r => szs r ≤ 8 ∧ 0 < d ∧ k (pc + 3) loc (.int (if y < x then y else x) :: r) lay μ bc bs) := by
  simp only [exec1, hM, hj]
theorem e_abs (hM : inf M = (o, m1, m2, m3, m4, m5)) (hj : jlk o n = some 3) : exec1 G d M Qa (.invokestatic n) len t v pc loc st lay μ bc bs k = p1 st (fun x r => szs r ≤ 8 ∧ 0 < d ∧ k (pc + 3) loc (.int (if 0 ≤ x then x else 0 - x) :: r) lay μ bc bs) := by
  simp only [exec1, hM, hj]
theorem e_getf {ci kk kd : Nat} (hM : inf M = (o, m1, m2, m3, m4, m5)) (hf : fl o n = some (ci, kk, kd)) : exec1 G d M Qa (.getfield n) len t v pc loc st lay μ bc bs k = pr st (fun a r => match lay[a]? with
      | some sh => sh.1 = ci + 6 ∧ gfld kd sh a μ kk (fun v => k (pc + 3) loc (v :: r) lay μ bc bs)
      | none => False) := by
  simp only [exec1, hM, hf]
  rfl
theorem e_putf {ci kk kd : Nat} (hM : inf M = (o, m1, m2, m3, m4, m5)) (hf : fl o n = some (ci, kk, kd)) : exec1 G d M Qa (.putfield n) len t v pc loc st lay μ bc bs k = pfld kd st (fun v a r => match lay[a]? with
      | some sh => sh.1 = ci + 6 ∧ (kd = 2 → m3 = 2 ∧ o = ci ∨ (TT ci kk).2.2.2 = false) ∧ sfld lay μ sh a kk v (fun lay' μ' => k (pc + 3) loc r lay' μ' bc bs)
      | none => False) := by
  simp only [exec1, hM, hf]
  rfl
end EC
theorem nci {n : Nat} : ((no_index (OfNat.ofNat n) : Nat) : Int) = (OfNat.ofNat n : Int) := rfl
theorem ct_i {x : Int32} : (Value.int x).category = 1 := rfl
theorem ct_r {x : Nat} : (Value.ref x).category = 1 := rfl
theorem ct_l {x : Int64} : (Value.long x).category = 2 := rfl
theorem ct_f {x : UInt32} : (Value.float x).category = 1 := rfl
theorem ct_n : Value.null.category = 1 := rfl
-- memory: what is read behind a write
theorem gi_si {μ : Mem} {a k : Nat} {x : Int32} : gi (si μ a k x) a k = x := by simp [gi, si, upd]
theorem gi_si_a {μ : Mem} {a k b j : Nat} {x : Int32} (h : b ≠ a) : gi (si μ a k x) b j = gi μ b j := by simp [gi, si, h]
theorem gi_si_k {μ : Mem} {a k b j : Nat} {x : Int32} (h : j ≠ k) : gi (si μ a k x) b j = gi μ b j := by
  by_cases e : b = a
  · subst e; simp [gi, si, upd, h]
  · exact gi_si_a e
theorem gl_si {μ : Mem} {a k b j : Nat} {x : Int32} : gl (si μ a k x) b j = gl μ b j := rfl
theorem gi_sl {μ : Mem} {a k b j : Nat} {x : Int64} : gi (sl μ a k x) b j = gi μ b j := rfl
theorem gl_sl {μ : Mem} {a k : Nat} {x : Int64} : gl (sl μ a k x) a k = x := by simp [gl, sl, vp_updL]
theorem gl_sl_a {μ : Mem} {a k b j : Nat} {x : Int64} (h : b ≠ a) : gl (sl μ a k x) b j = gl μ b j := by simp [gl, sl, h]
theorem gl_sl_k {μ : Mem} {a k b j : Nat} {x : Int64} (h : j ≠ k) : gl (sl μ a k x) b j = gl μ b j := by
  by_cases e : b = a
  · subst e; simp [gl, sl, vp_updL, h]
  · exact gl_sl_a e
theorem gi_sar {μ : Mem} {a j : Nat} {f : Nat → Int32} : gi (sar μ a f) a j = f j := by simp [gi, sar]
theorem gi_sar_a {μ : Mem} {a b j : Nat} {f : Nat → Int32} (h : b ≠ a) : gi (sar μ a f) b j = gi μ b j := by simp [gi, sar, h]
-- numbers
theorem i_le {a b : Int32} : a ≤ b ↔ a.toInt ≤ b.toInt := Int32.le_iff_toInt_le
theorem i_lt {a b : Int32} : a < b ↔ a.toInt < b.toInt := Int32.lt_iff_toInt_lt
theorem i_eq {a b : Int32} : a = b ↔ a.toInt = b.toInt := Int32.toInt_inj.symm
theorem nar1 : vp_nar .boolean 1 = 1 := by decide +kernel
theorem nar0 : vp_nar .boolean 0 = 0 := by decide +kernel
-- truth as a number
def bI (c : Prop) [Decidable c] : Int32 := if c then 1 else 0
theorem bI_c (c : Prop) [Decidable c] : (bI c = 0 ∨ bI c = 1) = True := by unfold bI; split <;> simp
theorem bI_0 {c : Prop} [Decidable c] : (bI c = 0) = ¬ c := by unfold bI; split <;> simp_all
theorem bI_t {c : Prop} [Decidable c] (h : c) : bI c = 1 := if_pos h
theorem bI_f {c : Prop} [Decidable c] (h : ¬ c) : bI c = 0 := if_neg h
theorem b1 {c : Prop} [Decidable c] {P : Int32 → Prop} (hc : c) (h : P (bI c)) : P 1 := by rw [bI_t hc] at h; exact h
theorem b0 {c : Prop} [Decidable c] {P : Int32 → Prop} (hc : ¬ c) (h : P (bI c)) : P 0 := by rw [bI_f hc] at h; exact h
/-- a loop that counts up, from its end -/
theorem loopN {P : Nat → Prop} (n : Nat) (hx : P n) (hs : ∀ i, i < n → P (i + 1) → P i) : ∀ i, i ≤ n → P i := by
  intro i hi
  have key : ∀ k i, i + k = n → P i := by
    intro k
    induction k with
    | zero => intro i h; rw [show i = n by omega]; exact hx
    | succ k ih => intro i h; exact hs i (by omega) (ih (i + 1) (by omega))
  exact key (n - i) i (by omega)
/-- sums -/
def sm (f : Nat → Int32) : Nat → Int32
  | 0 => 0
  | n + 1 => sm f n + f n
theorem sm_cong {f g : Nat → Int32} : ∀ {n : Nat}, (∀ i, i < n → f i = g i) → sm f n = sm g n
  | 0, _ => rfl
  | n + 1, h => by rw [sm, sm, sm_cong (fun i hi => h i (by omega)), h n (by omega)]
theorem vin {i n : Nat} (h : i < n) (hn : n ≤ 100000) : vp_in (nI i) n := vp_in_nI h (by omega)
theorem vin2 {r b : Int32} {n : Nat} (h1 : 0 ≤ r) (h2 : r < b) (h3 : b.toInt ≤ n) : vp_in r n := by
  rw [vp_in_iff]
  simp only [i_le, i_lt] at h1 h2
  have e : (0 : Int32).toInt = 0 := rfl
  rw [e] at h1
  omega
/-- a number that is in a row, as a place -/
theorem ofN {r : Int32} (h1 : 0 ≤ r) : ∃ k : Nat, k < 2147483648 ∧ r = nI k := by
  obtain ⟨k, hk, e⟩ := nI_of (x := r) (by simp only [i_le, i_lt] at *; have e : (0 : Int32).toInt = 0 := rfl; omega)
  exact ⟨k, hk, e⟩
set_option maxRecDepth 100000 in
set_option maxHeartbeats 1000000 in
theorem k_within {G : Gx} {d : Nat} {a b c : Int32} {lay : List Sh} {μ : Mem} {bc bs : Nat} {Q : Option Value → List Sh → Mem → Nat → Nat → Prop} (h : Q (some (.int (bI (a ≤ b ∧ b ≤ c)))) lay μ bc bs) : KC G d mX10_within [.int a, .int b, .int c] lay μ bc bs Q := by
  refine KC_intro 0 0 kX10_within (by decide) (by decide) (Nat.zero_le _) (Nat.zero_le _) (Nat.le_of_ble_eq_true rfl) (fun Z hZ => ?_)
  show Z 0 [some (.int a), some (.int b), some (.int c)] [] lay μ 0 0
  refine hZ 400 [] _ _ _ _ _ _ _ ?_
  simp -implicitDefEqProofs only [wp_step xX10_within_0, wp_step xX10_within_1, wp_step xX10_within_2, wp_step xX10_within_5, wp_step xX10_within_6, wp_step xX10_within_7, wp_step xX10_within_10, wp_step xX10_within_11, wp_step xX10_within_14, wp_step xX10_within_15, iX10_within, exec1, ↓p1_e, ↓p2_e, ↓q1_e, ↓q2_e, ↓qi_e, ↓pr_e, ↓pa_e, ↓pa_f, ↓pst_e, ↓qst_e, ↓rst_e, ↓pac_e, ↓pargs_0, ↓pargs_s, ↓gfld_0, ↓gfld_1, ↓gfld_2, ↓gfld_3, ↓pfld_i, ↓pfld_l, ↓pfld_r, ↓sfld_i, ↓sfld_l, ↓sfld_r, brI, pushv, rcv, lget, lset, lset2, isL, rok, szs, List.elem_nil, List.elem_cons, cond_true, cond_false, Option.map_some, beq_self_eq_true, Bool.true_and, Bool.and_true, Bool.false_and, Bool.and_false, Bool.or_false, Bool.false_or, Bool.or_true, Bool.true_or, Nat.reduceAdd, Nat.reduceSub, Nat.reduceMul, Nat.reduceBEq, Nat.reduceEqDiff, Nat.reduceLeDiff, Nat.sub_zero, true_and, and_true, false_and, and_false, true_or, or_true, false_or, or_false, reduceCtorEq, ↓reduceIte, List.getD_cons_zero, List.getD_cons_succ, List.length_cons, List.length_nil, ct_i, ct_r, ct_l, ct_f, ct_n, false_implies, true_implies]
  refine ⟨fun h1 => ?_, fun h1 => ⟨fun h2 => ?_, fun h2 => ?_⟩⟩
  · exact b0 (P := fun x => Q (some (.int x)) lay μ bc bs) (by simp only [i_le, i_lt] at *; omega) h
  · exact b0 (P := fun x => Q (some (.int x)) lay μ bc bs) (by simp only [i_le, i_lt] at *; omega) h
  · exact b1 (P := fun x => Q (some (.int x)) lay μ bc bs) (by simp only [i_le, i_lt] at *; omega) h
set_option maxRecDepth 100000 in
set_option maxHeartbeats 1000000 in
theorem k_reaches {G : Gx} {d : Nat} {a : Int32} {lay : List Sh} {μ : Mem} {bc bs : Nat} {Q : Option Value → List Sh → Mem → Nat → Nat → Prop} (hd : 1 ≤ d) (h : Q (some (.int (bI (-9 ≤ a ∧ a ≤ 9)))) lay μ bc bs) : KC G d mX10_reaches [.int a] lay μ bc bs Q := by
  refine KC_intro 0 0 kX10_reaches (by decide) (by decide) (Nat.zero_le _) (Nat.zero_le _) (Nat.le_of_ble_eq_true rfl) (fun Z hZ => ?_)
  show Z 0 [some (.int a)] [] lay μ 0 0
  refine hZ 400 [8] _ _ _ _ _ _ _ ?_
  simp -implicitDefEqProofs only [wp_step xX10_reaches_0, wp_step xX10_reaches_2, wp_step xX10_reaches_3, wp_step xX10_reaches_5, wp_step xX10_reaches_8, ↓e_static iX10_reaches jn10_110 l10_110 iX10_within, iX10_reaches, exec1, ↓p1_e, ↓p2_e, ↓q1_e, ↓q2_e, ↓qi_e, ↓pr_e, ↓pa_e, ↓pa_f, ↓pst_e, ↓qst_e, ↓rst_e, ↓pac_e, ↓pargs_0, ↓pargs_s, ↓gfld_0, ↓gfld_1, ↓gfld_2, ↓gfld_3, ↓pfld_i, ↓pfld_l, ↓pfld_r, ↓sfld_i, ↓sfld_l, ↓sfld_r, brI, pushv, rcv, lget, lset, lset2, isL, rok, szs, List.elem_nil, List.elem_cons, cond_true, cond_false, Option.map_some, beq_self_eq_true, Bool.true_and, Bool.and_true, Bool.false_and, Bool.and_false, Bool.or_false, Bool.false_or, Bool.or_true, Bool.true_or, Nat.reduceAdd, Nat.reduceSub, Nat.reduceMul, Nat.reduceBEq, Nat.reduceEqDiff, Nat.reduceLeDiff, Nat.sub_zero, true_and, and_true, false_and, and_false, true_or, or_true, false_or, or_false, reduceCtorEq, ↓reduceIte, List.getD_cons_zero, List.getD_cons_succ, List.length_cons, List.length_nil, ct_i, ct_r, ct_l, ct_f, ct_n, false_implies, true_implies]
  refine ⟨hd, k_within ?_⟩
  refine hZ 400 [8] _ _ _ _ _ _ _ ?_
  simp -implicitDefEqProofs only [wp_step xX10_reaches_0, wp_step xX10_reaches_2, wp_step xX10_reaches_3, wp_step xX10_reaches_5, wp_step xX10_reaches_8, ↓e_static iX10_reaches jn10_110 l10_110 iX10_within, iX10_reaches, exec1, ↓p1_e, ↓p2_e, ↓q1_e, ↓q2_e, ↓qi_e, ↓pr_e, ↓pa_e, ↓pa_f, ↓pst_e, ↓qst_e, ↓rst_e, ↓pac_e, ↓pargs_0, ↓pargs_s, ↓gfld_0, ↓gfld_1, ↓gfld_2, ↓gfld_3, ↓pfld_i, ↓pfld_l, ↓pfld_r, ↓sfld_i, ↓sfld_l, ↓sfld_r, brI, pushv, rcv, lget, lset, lset2, isL, rok, szs, List.elem_nil, List.elem_cons, cond_true, cond_false, Option.map_some, beq_self_eq_true, Bool.true_and, Bool.and_true, Bool.false_and, Bool.and_false, Bool.or_false, Bool.false_or, Bool.or_true, Bool.true_or, Nat.reduceAdd, Nat.reduceSub, Nat.reduceMul, Nat.reduceBEq, Nat.reduceEqDiff, Nat.reduceLeDiff, Nat.sub_zero, true_and, and_true, false_and, and_false, true_or, or_true, false_or, or_false, reduceCtorEq, ↓reduceIte, List.getD_cons_zero, List.getD_cons_succ, List.length_cons, List.length_nil, ct_i, ct_r, ct_l, ct_f, ct_n, false_implies, true_implies, bI_c]
  exact h
set_option maxRecDepth 100000 in
set_option maxHeartbeats 1000000 in
theorem k_isPerson {G : Gx} {d : Nat} {a : Int32} {lay : List Sh} {μ : Mem} {bc bs : Nat} {Q : Option Value → List Sh → Mem → Nat → Nat → Prop} (hd : 1 ≤ d) (h : Q (some (.int (bI (0 ≤ a ∧ a ≤ 7)))) lay μ bc bs) : KC G d mX10_isPerson [.int a] lay μ bc bs Q := by
  refine KC_intro 0 0 kX10_isPerson (by decide) (by decide) (Nat.zero_le _) (Nat.zero_le _) (Nat.le_of_ble_eq_true rfl) (fun Z hZ => ?_)
  show Z 0 [some (.int a)] [] lay μ 0 0
  refine hZ 400 [7] _ _ _ _ _ _ _ ?_
  simp -implicitDefEqProofs only [wp_step xX10_isPerson_0, wp_step xX10_isPerson_1, wp_step xX10_isPerson_2, wp_step xX10_isPerson_4, wp_step xX10_isPerson_7, ↓e_static iX10_isPerson jn10_110 l10_110 iX10_within, iX10_isPerson, exec1, ↓p1_e, ↓p2_e, ↓q1_e, ↓q2_e, ↓qi_e, ↓pr_e, ↓pa_e, ↓pa_f, ↓pst_e, ↓qst_e, ↓rst_e, ↓pac_e, ↓pargs_0, ↓pargs_s, ↓gfld_0, ↓gfld_1, ↓gfld_2, ↓gfld_3, ↓pfld_i, ↓pfld_l, ↓pfld_r, ↓sfld_i, ↓sfld_l, ↓sfld_r, brI, pushv, rcv, lget, lset, lset2, isL, rok, szs, List.elem_nil, List.elem_cons, cond_true, cond_false, Option.map_some, beq_self_eq_true, Bool.true_and, Bool.and_true, Bool.false_and, Bool.and_false, Bool.or_false, Bool.false_or, Bool.or_true, Bool.true_or, Nat.reduceAdd, Nat.reduceSub, Nat.reduceMul, Nat.reduceBEq, Nat.reduceEqDiff, Nat.reduceLeDiff, Nat.sub_zero, true_and, and_true, false_and, and_false, true_or, or_true, false_or, or_false, reduceCtorEq, ↓reduceIte, List.getD_cons_zero, List.getD_cons_succ, List.length_cons, List.length_nil, ct_i, ct_r, ct_l, ct_f, ct_n, false_implies, true_implies]
  refine ⟨hd, k_within ?_⟩
  refine hZ 400 [7] _ _ _ _ _ _ _ ?_
  simp -implicitDefEqProofs only [wp_step xX10_isPerson_0, wp_step xX10_isPerson_1, wp_step xX10_isPerson_2, wp_step xX10_isPerson_4, wp_step xX10_isPerson_7, ↓e_static iX10_isPerson jn10_110 l10_110 iX10_within, iX10_isPerson, exec1, ↓p1_e, ↓p2_e, ↓q1_e, ↓q2_e, ↓qi_e, ↓pr_e, ↓pa_e, ↓pa_f, ↓pst_e, ↓qst_e, ↓rst_e, ↓pac_e, ↓pargs_0, ↓pargs_s, ↓gfld_0, ↓gfld_1, ↓gfld_2, ↓gfld_3, ↓pfld_i, ↓pfld_l, ↓pfld_r, ↓sfld_i, ↓sfld_l, ↓sfld_r, brI, pushv, rcv, lget, lset, lset2, isL, rok, szs, List.elem_nil, List.elem_cons, cond_true, cond_false, Option.map_some, beq_self_eq_true, Bool.true_and, Bool.and_true, Bool.false_and, Bool.and_false, Bool.or_false, Bool.false_or, Bool.or_true, Bool.true_or, Nat.reduceAdd, Nat.reduceSub, Nat.reduceMul, Nat.reduceBEq, Nat.reduceEqDiff, Nat.reduceLeDiff, Nat.sub_zero, true_and, and_true, false_and, and_false, true_or, or_true, false_or, or_false, reduceCtorEq, ↓reduceIte, List.getD_cons_zero, List.getD_cons_succ, List.length_cons, List.length_nil, ct_i, ct_r, ct_l, ct_f, ct_n, false_implies, true_implies, bI_c]
  exact h
set_option maxRecDepth 100000 in
set_option maxHeartbeats 1000000 in
theorem k_areTwo {G : Gx} {d : Nat} {a b : Int32} {lay : List Sh} {μ : Mem} {bc bs : Nat} {Q : Option Value → List Sh → Mem → Nat → Nat → Prop} (hd : 2 ≤ d) (h : Q (some (.int (bI ((0 ≤ a ∧ a ≤ 7) ∧ (0 ≤ b ∧ b ≤ 7) ∧ a ≠ b)))) lay μ bc bs) : KC G d mX10_areTwo [.int a, .int b] lay μ bc bs Q := by
  refine KC_intro 0 0 kX10_areTwo (by decide) (by decide) (Nat.zero_le _) (Nat.zero_le _) (Nat.le_of_ble_eq_true rfl) (fun Z hZ => ?_)
  show Z 0 [some (.int a), some (.int b)] [] lay μ 0 0
  refine hZ 400 [4, 11] _ _ _ _ _ _ _ ?_
  simp -implicitDefEqProofs only [wp_step xX10_areTwo_0, wp_step xX10_areTwo_1, wp_step xX10_areTwo_4, wp_step xX10_areTwo_7, wp_step xX10_areTwo_8, wp_step xX10_areTwo_11, wp_step xX10_areTwo_14, wp_step xX10_areTwo_15, wp_step xX10_areTwo_16, wp_step xX10_areTwo_19, wp_step xX10_areTwo_20, wp_step xX10_areTwo_23, wp_step xX10_areTwo_24, ↓e_static iX10_areTwo jn10_218 l10_218 iX10_isPerson, iX10_areTwo, exec1, ↓p1_e, ↓p2_e, ↓q1_e, ↓q2_e, ↓qi_e, ↓pr_e, ↓pa_e, ↓pa_f, ↓pst_e, ↓qst_e, ↓rst_e, ↓pac_e, ↓pargs_0, ↓pargs_s, ↓gfld_0, ↓gfld_1, ↓gfld_2, ↓gfld_3, ↓pfld_i, ↓pfld_l, ↓pfld_r, ↓sfld_i, ↓sfld_l, ↓sfld_r, brI, pushv, rcv, lget, lset, lset2, isL, rok, szs, List.elem_nil, List.elem_cons, cond_true, cond_false, Option.map_some, beq_self_eq_true, Bool.true_and, Bool.and_true, Bool.false_and, Bool.and_false, Bool.or_false, Bool.false_or, Bool.or_true, Bool.true_or, Nat.reduceAdd, Nat.reduceSub, Nat.reduceMul, Nat.reduceBEq, Nat.reduceEqDiff, Nat.reduceLeDiff, Nat.sub_zero, true_and, and_true, false_and, and_false, true_or, or_true, false_or, or_false, reduceCtorEq, ↓reduceIte, List.getD_cons_zero, List.getD_cons_succ, List.length_cons, List.length_nil, ct_i, ct_r, ct_l, ct_f, ct_n, false_implies, true_implies]
  refine ⟨by omega, k_isPerson (by omega) ?_⟩
  refine hZ 400 [4, 11] _ _ _ _ _ _ _ ?_
  simp -implicitDefEqProofs only [wp_step xX10_areTwo_0, wp_step xX10_areTwo_1, wp_step xX10_areTwo_4, wp_step xX10_areTwo_7, wp_step xX10_areTwo_8, wp_step xX10_areTwo_11, wp_step xX10_areTwo_14, wp_step xX10_areTwo_15, wp_step xX10_areTwo_16, wp_step xX10_areTwo_19, wp_step xX10_areTwo_20, wp_step xX10_areTwo_23, wp_step xX10_areTwo_24, ↓e_static iX10_areTwo jn10_218 l10_218 iX10_isPerson, iX10_areTwo, exec1, ↓p1_e, ↓p2_e, ↓q1_e, ↓q2_e, ↓qi_e, ↓pr_e, ↓pa_e, ↓pa_f, ↓pst_e, ↓qst_e, ↓rst_e, ↓pac_e, ↓pargs_0, ↓pargs_s, ↓gfld_0, ↓gfld_1, ↓gfld_2, ↓gfld_3, ↓pfld_i, ↓pfld_l, ↓pfld_r, ↓sfld_i, ↓sfld_l, ↓sfld_r, brI, pushv, rcv, lget, lset, lset2, isL, rok, szs, List.elem_nil, List.elem_cons, cond_true, cond_false, Option.map_some, beq_self_eq_true, Bool.true_and, Bool.and_true, Bool.false_and, Bool.and_false, Bool.or_false, Bool.false_or, Bool.or_true, Bool.true_or, Nat.reduceAdd, Nat.reduceSub, Nat.reduceMul, Nat.reduceBEq, Nat.reduceEqDiff, Nat.reduceLeDiff, Nat.sub_zero, true_and, and_true, false_and, and_false, true_or, or_true, false_or, or_false, reduceCtorEq, ↓reduceIte, List.getD_cons_zero, List.getD_cons_succ, List.length_cons, List.length_nil, ct_i, ct_r, ct_l, ct_f, ct_n, false_implies, true_implies, bI_0]
  refine ⟨fun h1 => b0 (P := fun x => Q (some (.int x)) lay μ bc bs) (fun q => h1 q.1) h, fun h1 => ⟨by omega, k_isPerson (by omega) ?_⟩⟩
  refine hZ 400 [4, 11] _ _ _ _ _ _ _ ?_
  simp -implicitDefEqProofs only [wp_step xX10_areTwo_0, wp_step xX10_areTwo_1, wp_step xX10_areTwo_4, wp_step xX10_areTwo_7, wp_step xX10_areTwo_8, wp_step xX10_areTwo_11, wp_step xX10_areTwo_14, wp_step xX10_areTwo_15, wp_step xX10_areTwo_16, wp_step xX10_areTwo_19, wp_step xX10_areTwo_20, wp_step xX10_areTwo_23, wp_step xX10_areTwo_24, ↓e_static iX10_areTwo jn10_218 l10_218 iX10_isPerson, iX10_areTwo, exec1, ↓p1_e, ↓p2_e, ↓q1_e, ↓q2_e, ↓qi_e, ↓pr_e, ↓pa_e, ↓pa_f, ↓pst_e, ↓qst_e, ↓rst_e, ↓pac_e, ↓pargs_0, ↓pargs_s, ↓gfld_0, ↓gfld_1, ↓gfld_2, ↓gfld_3, ↓pfld_i, ↓pfld_l, ↓pfld_r, ↓sfld_i, ↓sfld_l, ↓sfld_r, brI, pushv, rcv, lget, lset, lset2, isL, rok, szs, List.elem_nil, List.elem_cons, cond_true, cond_false, Option.map_some, beq_self_eq_true, Bool.true_and, Bool.and_true, Bool.false_and, Bool.and_false, Bool.or_false, Bool.false_or, Bool.or_true, Bool.true_or, Nat.reduceAdd, Nat.reduceSub, Nat.reduceMul, Nat.reduceBEq, Nat.reduceEqDiff, Nat.reduceLeDiff, Nat.sub_zero, true_and, and_true, false_and, and_false, true_or, or_true, false_or, or_false, reduceCtorEq, ↓reduceIte, List.getD_cons_zero, List.getD_cons_succ, List.length_cons, List.length_nil, ct_i, ct_r, ct_l, ct_f, ct_n, false_implies, true_implies, bI_0]
  refine ⟨fun h2 => b0 (P := fun x => Q (some (.int x)) lay μ bc bs) (fun q => h2 q.2.1) h, fun h2 => ⟨fun h3 => b0 (P := fun x => Q (some (.int x)) lay μ bc bs) (fun q => q.2.2 h3) h, fun h3 => b1 (P := fun x => Q (some (.int x)) lay μ bc bs) ⟨Decidable.not_not.mp h1, Decidable.not_not.mp h2, h3⟩ h⟩⟩
