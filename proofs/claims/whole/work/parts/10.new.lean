section SND4
variable {G : Gx} {d : Nat} {M : MI} {MC MS : Nat} {p : Program} {e : Env} {R : Room} {s : State} {m : MethodId} {args : Array Value} {below : List Frame} {meth : Method} {c : Code} {Qs : State → Prop} {Qa : Option Value → List Sh → Mem → Prop} {pc : Nat} {loc : XV} {st : List Value} {lay : List Sh} {μ : Mem} {bc bs : Nat}
theorem swl_find {x : Int32} {df : Int} {f : Nat → Prop} : ∀ (os : List (Int × Int)), swl x pc df os f → ∃ o, Op.lookupswitch.offset os df x.toInt = o ∧ f ((pc : Int) + o).toNat ∧ (o = df ∨ ∃ q ∈ os, q.2 = o)
  | [], h => ⟨df, rfl, h, Or.inl rfl⟩
  | o :: r, h => by
    by_cases hx : x.toInt = o.1
    · refine ⟨o.2, ?_, h.1 hx, Or.inr ⟨o, List.mem_cons_self, rfl⟩⟩
      obtain ⟨o1, o2⟩ := o
      simp only at hx
      subst hx
      simp [Op.lookupswitch.offset]
    · obtain ⟨q, h1, h2, h3⟩ := swl_find r (h.2 hx)
      refine ⟨q, ?_, h2, ?_⟩
      · obtain ⟨o1, o2⟩ := o
        simp only at hx
        have hx' : ¬ o1 = x.toInt := fun q => hx q.symm
        simp only [Op.lookupswitch.offset] at h1 ⊢
        simp [hx, hx', h1]
      · rcases h3 with h3 | ⟨z, h3, h4⟩
        · exact Or.inl h3
        · exact Or.inr ⟨z, List.mem_cons_of_mem _ h3, h4⟩
theorem s_lsw (hB : Bd G d M MC MS p R s m args meth c) {df : Int} {os : Array (Int × Int)} {len : Nat} (ht : tok pc (.lookupswitch df os) = true) (hd : decode M.cd pc = .ok (.lookupswitch df os, len)) (h : p1 st (fun x r => swl x pc df os.toList (fun t => VZ G M MC MS p e R s m args below meth c Qs t loc r lay μ bc bs))) : VZ G M MC MS p e R s m args below meth c Qs pc loc st lay μ bc bs := by
  unfold p1 at h
  split at h
  · rename_i x r
    unfold tok at ht
    simp only [Bool.and_eq_true] at ht
    obtain ⟨⟨t1, t2⟩, t3⟩ := ht
    have t1 := of_decide_eq_true t1
    have t2 := List.all_eq_true.mp t2
    obtain ⟨o, h1, h2, h3⟩ := swl_find _ h
    intro H locs cells slots ls hl hP hz hS hc hs
    have hpos : 0 ≤ (pc : Int) + o := by
      rcases h3 with h3 | ⟨q, h3, h4⟩
      · rw [h3]; exact t1
      · rw [← h4]; exact of_decide_eq_true (t2 q h3)
    exact lv_lookup hB.1 hB.2.1 hd t3 h1 (tgt := ((pc : Int) + o).toNat) (by omega) (h2 H locs cells slots ls hl hP hz hS hc hs)
  · exact h.elim
theorem s_max (hB : Bd G d M MC MS p R s m args meth c) {n : Nat} (hd : decode M.cd pc = .ok (.invokestatic n, 3)) (hj : jlk M.1 n = some 1) (h : p2 st (fun x y r => szs r ≤ 8 ∧ 0 < d ∧ VZ G M MC MS p e R s m args below meth c Qs (pc + 3) loc (.int (if x < y then y else x) :: r) lay μ bc bs)) : VZ G M MC MS p e R s m args below meth c Qs pc loc st lay μ bc bs := by
  unfold p2 at h
  split at h
  · rename_i y x r
    obtain ⟨h1, h2, h3⟩ := h
    intro H locs cells slots ls hl hP hz hS hc hs
    unfold jlk at hj
    obtain ⟨q, hq, hqe⟩ := Option.map_eq_some_iff.mp hj
    have g1 := List.find?_some hq
    simp only [Bool.and_eq_true, beq_iff_eq] at g1
    have g2 := List.all_eq_true.mp jTab_ok q (List.mem_of_find?_eq_some hq)
    obtain ⟨a1, a2, a3, a4⟩ := q
    dsimp only at g1 hqe
    obtain ⟨rfl, rfl⟩ := g1
    subst hqe
    have g3 := hB.ts _ (gat_mem g2)
    obtain ⟨-, -, hml, -, -, -, -, -, -, -, hfr, hlo, hRc, hRs, -⟩ := id hB
    exact va_mmax hB.1 hB.2.1 (by rw [hml, hl.1.1]) hB.own g3 (hB.ts _ jw_max_s) (hB.ts _ jw_math_i) (hB.ts _ jw_max_c) (by omega) (by rw [szs_cv]; omega) (by omega) (by omega) hd (h3 H locs cells slots ls hl hP hz hS hc hs)
  · exact h.elim
theorem s_min (hB : Bd G d M MC MS p R s m args meth c) {n : Nat} (hd : decode M.cd pc = .ok (.invokestatic n, 3)) (hj : jlk M.1 n = some 2) (h : p2 st (fun x y r => szs r ≤ 8 ∧ 0 < d ∧ VZ G M MC MS p e R s m args below meth c Qs (pc + 3) loc (.int (if y < x then y else x) :: r) lay μ bc bs)) : VZ G M MC MS p e R s m args below meth c Qs pc loc st lay μ bc bs := by
  unfold p2 at h
  split at h
  · rename_i y x r
    obtain ⟨h1, h2, h3⟩ := h
    intro H locs cells slots ls hl hP hz hS hc hs
    unfold jlk at hj
    obtain ⟨q, hq, hqe⟩ := Option.map_eq_some_iff.mp hj
    have g1 := List.find?_some hq
    simp only [Bool.and_eq_true, beq_iff_eq] at g1
    have g2 := List.all_eq_true.mp jTab_ok q (List.mem_of_find?_eq_some hq)
    obtain ⟨a1, a2, a3, a4⟩ := q
    dsimp only at g1 hqe
    obtain ⟨rfl, rfl⟩ := g1
    subst hqe
    have g3 := hB.ts _ (gat_mem g2)
    obtain ⟨-, -, hml, -, -, -, -, -, -, -, hfr, hlo, hRc, hRs, -⟩ := id hB
    exact va_mmin hB.1 hB.2.1 (by rw [hml, hl.1.1]) hB.own g3 (hB.ts _ jw_min_s) (hB.ts _ jw_math_i) (hB.ts _ jw_min_c) (by omega) (by rw [szs_cv]; omega) (by omega) (by omega) hd (h3 H locs cells slots ls hl hP hz hS hc hs)
  · exact h.elim
theorem s_abs (hB : Bd G d M MC MS p R s m args meth c) {n : Nat} (hd : decode M.cd pc = .ok (.invokestatic n, 3)) (hj : jlk M.1 n = some 3) (h : p1 st (fun x r => szs r ≤ 8 ∧ 0 < d ∧ VZ G M MC MS p e R s m args below meth c Qs (pc + 3) loc (.int (if 0 ≤ x then x else 0 - x) :: r) lay μ bc bs)) : VZ G M MC MS p e R s m args below meth c Qs pc loc st lay μ bc bs := by
  unfold p1 at h
  split at h
  · rename_i x r
    obtain ⟨h1, h2, h3⟩ := h
    intro H locs cells slots ls hl hP hz hS hc hs
    unfold jlk at hj
    obtain ⟨q, hq, hqe⟩ := Option.map_eq_some_iff.mp hj
    have g1 := List.find?_some hq
    simp only [Bool.and_eq_true, beq_iff_eq] at g1
    have g2 := List.all_eq_true.mp jTab_ok q (List.mem_of_find?_eq_some hq)
    obtain ⟨a1, a2, a3, a4⟩ := q
    dsimp only at g1 hqe
    obtain ⟨rfl, rfl⟩ := g1
    subst hqe
    have g3 := hB.ts _ (gat_mem g2)
    obtain ⟨-, -, hml, -, -, -, -, -, -, -, hfr, hlo, hRc, hRs, -⟩ := id hB
    exact va_mabs hB.1 hB.2.1 (by rw [hml, hl.1.1]) hB.own g3 (hB.ts _ jw_abs_s) (hB.ts _ jw_math_i) (hB.ts _ jw_abs_c) (by omega) (by rw [szs_cv]; omega) (by omega) (by omega) hd (h3 H locs cells slots ls hl hP hz hS hc hs)
  · exact h.elim
theorem s_oinit (hB : Bd G d M MC MS p R s m args meth c) {n : Nat} (hd : decode M.cd pc = .ok (.invokespecial n, 3)) (hj : jlk M.1 n = some 5) (h : pr st (fun _ r => szs r ≤ 8 ∧ 0 < d ∧ VZ G M MC MS p e R s m args below meth c Qs (pc + 3) loc r lay μ bc bs)) : VZ G M MC MS p e R s m args below meth c Qs pc loc st lay μ bc bs := by
  unfold pr at h
  split at h
  · rename_i x r
    obtain ⟨h1, h2, h3⟩ := h
    intro H locs cells slots ls hl hP hz hS hc hs
    unfold jlk at hj
    obtain ⟨q, hq, hqe⟩ := Option.map_eq_some_iff.mp hj
    have g1 := List.find?_some hq
    simp only [Bool.and_eq_true, beq_iff_eq] at g1
    have g2 := List.all_eq_true.mp jTab_ok q (List.mem_of_find?_eq_some hq)
    obtain ⟨a1, a2, a3, a4⟩ := q
    dsimp only at g1 hqe
    obtain ⟨rfl, rfl⟩ := g1
    subst hqe
    have g3 := hB.ts _ (gat_mem g2)
    obtain ⟨-, -, hml, -, -, -, -, -, -, -, hfr, hlo, hRc, hRs, -⟩ := id hB
    exact W.objInit hB.1 hB.2.1 hB.own g3 (hB.ts _ jw_oi_i) (hB.ts _ jw_oi_c) rfl (by rw [hml]; exact hl.1.1) rfl hd (by omega) (by have := szs_cv G r; show 2 * 0 + _ + 12 ≤ _; omega) (h3 H locs cells slots ls hl hP hz hS hc hs)
  · exact h.elim
theorem va_S.grow {A : Nat → Prop} {H0 H H1 : Heap} {locs : List Loc} (h : va_S A H0 H locs) (z : H.size ≤ H1.size) (oq : ∀ q : Nat, q < H.size → H1[q]? = H[q]?) : va_S A H0 H1 locs :=
  ⟨Nat.le_trans h.1 z, fun q h1 h2 => (oq q (Nat.lt_of_lt_of_le h1 h.1)).trans (h.2.1 q h1 h2), h.2.2⟩
theorem app_P {μ' : Mem} {H H1 : Heap} {sh : Sh} (hP : va_P G.D vwCl (wl G lay μ) H) (hz : H.size = G.z + lay.length) (hk : ∀ b s, lay[b]? = some s → ent G s b μ' = ent G s b μ) (hn : va_at G.D vwCl (G.z + lay.length, ent G sh lay.length μ') H1) (oq : ∀ q : Nat, q < H.size → H1[q]? = H[q]?) : va_P G.D vwCl (wl G (lay ++ [sh]) μ') H1 := by
  rw [wl_app hk]
  refine va_P.app (fun k q hq => (hP k q hq).kept (oq _ ((hP k q hq).lt))) (fun k q hq => ?_)
  have h0 : k < 1 := (List.getElem?_eq_some_iff.mp hq).1
  rw [show k = 0 by omega] at hq
  cases hq
  exact hn
theorem clr_ent' (b : Nat) (s : Sh) (hb : lay[b]? = some s) : ent G s b (clr μ lay.length) = ent G s b μ := clr_ent b s (Nat.ne_of_lt (List.getElem?_eq_some_iff.mp hb).1)
theorem kd_def : ∀ ci, ci < 12 → (List.range (NF ci)).all (fun j => decide (((kdT ci).getD j 9) = (match tyT ci j with | .int => 0 | .long => 1 | .boolean => 3 | _ => 2)) && (isRT (tyT ci j) || decide (tyT ci j = .int) || decide (tyT ci j = .long) || decide (tyT ci j = .boolean))) = true ∧ (kdT ci).length = NF ci := by decide +kernel
theorem s_new (hB : Bd G d M MC MS p R s m args meth c) {n : Nat} (hd : decode M.cd pc = .ok (.new n, 3)) (h : match nlk (inf M).1 n with
    | some ci => 1 ≤ bc ∧ NF ci ≤ bs ∧ VZ G M MC MS p e R s m args below meth c Qs (pc + 3) loc (.ref lay.length :: st) (lay ++ [(ci + 6, NF ci, List.replicate (NF ci) none)]) (clr μ lay.length) (bc - 1) (bs - NF ci)
    | none => False) : VZ G M MC MS p e R s m args below meth c Qs pc loc st lay μ bc bs := by
  split at h
  · rename_i ci hj
    obtain ⟨h1, h2, h3⟩ := h
    intro H locs cells slots ls hl hP hz hS hc hs
    unfold nlk at hj
    obtain ⟨q, hq, hqe⟩ := Option.map_eq_some_iff.mp hj
    have g1 := List.find?_some hq
    simp only [Bool.and_eq_true, beq_iff_eq] at g1
    have g2 := List.all_eq_true.mp nTab_ok q (List.mem_of_find?_eq_some hq)
    obtain ⟨a1, a2, a3, a4, a5, a6⟩ := q
    dsimp only at g1 hqe
    obtain ⟨rfl, rfl⟩ := g1
    subst hqe
    unfold nlkB at g2
    simp only [Bool.and_eq_true, decide_eq_true_eq] at g2
    obtain ⟨⟨⟨k1, k2⟩, k3⟩, k4⟩ := g2
    have hct := vwCl_at a3 k4
    have hKn := hB.K.1 a3 _ hct
    obtain ⟨-, -, hml, -, -, -, -, -, -, -, hfr, hlo, hRc, hRs, -⟩ := id hB
    refine W.newcK hB.1 hB.2.1 hB.own (hB.ts _ (gat_mem k1)) (hB.ts _ (gat_mem k2)) (hB.ts _ (gat_mem k3)) rfl hd (by omega) (by omega) hKn.2.1 rfl fun H1 kC hkC e1 z1 o1 => ?_
    rw [hz]
    refine h3 H1 locs (cells + 1) (slots + NF a3) ls hl (app_P hP hz clr_ent' ?_ o1) (by rw [z1, hz]; simp; omega) (hS.grow (by omega) o1) (by omega) (by omega)
    rw [hz] at e1
    refine ⟨_, hct, (u_born (tyT a3) hB.ts (inTT a3 k4) hKn hkC e1 (tyTT a3 k4)).to (fun j hj => ?_)⟩
    obtain ⟨kd1, kd2⟩ := kd_def a3 k4
    have kd3 := List.all_eq_true.mp kd1 j (List.mem_range.mpr hj)
    simp only [Bool.and_eq_true, decide_eq_true_eq, Bool.or_eq_true] at kd3
    have hkj : (kdT a3)[j]? = some ((kdT a3).getD j 9) := by
      rw [List.getD_eq_getElem?_getD, List.getElem?_eq_getElem (by rw [kd2]; exact hj)]
      rfl
    show defaultValue (tyT a3 j) = vp_V (fvs G a3 (List.replicate (NF a3) none) lay.length (clr μ lay.length)) j
    unfold vp_V
    rw [List.getD_eq_getElem?_getD, fvs_get hkj, kd3.1]
    rcases kd3.2 with ((q | q) | q) | q
    · cases hty : tyT a3 j <;> rw [hty] at q <;> first | (cases q; done) | skip
      all_goals
        show Value.null = va_rf (((List.replicate (NF a3) (none : Option Nat)).getD j none).map (fun b => G.z + b))
        rw [List.getD_eq_getElem?_getD, List.getElem?_replicate]
        split <;> rfl
    · rw [q]; simp [fv, clr, defaultValue]
    · rw [q]; simp [fv, clr, defaultValue]
    · rw [q]; simp [fv, clr, defaultValue]
  · exact h.elim
theorem arr0 (cA : ClassId) (n : Nat) (t : ArrayType) (k : Nat) (hk : atk t = k) (h4 : k < 4) : arrV cA n (fun _ => defaultValue (newarray.typeOf t)) = vp_cell cA (n, if k = 3 then .inr (.inl (fun _ => 0)) else .inl (fun _ => 0)) := by
  subst hk
  cases t <;> first | rfl | (simp [atk, newarray.typeOf] at h4)
theorem s_newarray (hB : Bd G d M MC MS p R s m args meth c) {t : ArrayType} (hd : decode M.cd pc = .ok (.newarray t, 2)) (h : p1 st (fun n r => ¬ n < 0 ∧ atk t < 4 ∧ n.toNatClampNeg ≤ 60000000 ∧ 1 ≤ bc ∧ n.toNatClampNeg ≤ bs ∧ VZ G M MC MS p e R s m args below meth c Qs (pc + 2) loc (.ref lay.length :: r) (lay ++ [(atk t, n.toNatClampNeg, [])]) (clr μ lay.length) (bc - 1) (bs - n.toNatClampNeg))) : VZ G M MC MS p e R s m args below meth c Qs pc loc st lay μ bc bs := by
  unfold p1 at h
  split at h
  · rename_i n r
    obtain ⟨h1, h2, h3, h4, h5, h6⟩ := h
    intro H locs cells slots ls hl hP hz hS hc hs
    obtain ⟨-, -, hml, -, -, -, -, -, -, -, hfr, hlo, hRc, hRs, -⟩ := id hB
    have hw : Cond.arrayClass (newarray.typeOf t) ∈ gtbl := by
      cases t <;> first | exact jw_arr_int | exact jw_arr_boolean | exact jw_arr_byte | exact jw_arr_long | (simp [atk, newarray.typeOf] at h2)
    have hcb : componentBytes (newarray.typeOf t) ≤ 8 := by cases t <;> decide
    refine va_newaK hB.1 hB.2.1 (hB.ts _ hw) rfl hd rfl h1 rfl (Nat.le_trans (Nat.mul_le_mul h3 hcb) (by decide)) (by omega) (by omega) hz fun H1 cA e1 z1 o1 hAr hNm => ?_
    rw [← hz] at o1
    refine h6 H1 locs (cells + 1) (slots + n.toNatClampNeg) ls hl (app_P hP hz clr_ent' ?_ o1) (by rw [z1]; simp; omega) (hS.grow (by omega) o1) (by omega) (by omega)
    have hT : G.T (atk t) = cA := by
      have key : ∀ k ty, (tys G)[k]? = some (G.T k, ty) → newarray.typeOf t = ty → atk t = k → (∀ C, ty ≠ .object C) → G.T (atk t) = cA := fun k ty h1 h2 h3 h4 => by
        have h5 := (hB.K.2 k _ h1).2
        rw [h3]
        have h6 : s.vm.findClass ("[" ++ ty.toString) = some (G.T k) := by
          cases ty <;> first | exact h5 | exact absurd rfl (h4 _)
        rw [h2] at hNm
        exact Option.some.inj (h6.symm.trans hNm)
      cases t <;> first | exact key 0 .int rfl rfl rfl (fun _ q => by cases q) | exact key 1 .boolean rfl rfl rfl (fun _ q => by cases q) | exact key 2 .byte rfl rfl rfl (fun _ q => by cases q) | exact key 3 .long rfl rfl rfl (fun _ q => by cases q) | (simp [atk, newarray.typeOf] at h2)
    rw [arr0 cA _ t _ rfl h2, ← hT] at e1
    have hcl1 : (clr μ lay.length).1 lay.length = fun _ => 0 := by simp [clr]
    have hcl2 : (clr μ lay.length).2 lay.length = fun _ => 0 := by simp [clr]
    generalize atk t = k at h2 e1 ⊢
    match k, h2, e1 with
    | 0, _, e1 => rw [ent_0 rfl, hcl1]; exact e1
    | 1, _, e1 => rw [ent_1 rfl, hcl1]; exact e1
    | 2, _, e1 => rw [ent_2 rfl, hcl1]; exact e1
    | 3, _, e1 => rw [ent_3 rfl, hcl2]; exact e1
  · exact h.elim
theorem s_copy (hB : Bd G d M MC MS p R s m args meth c) {nn : Nat} (hd : decode M.cd pc = .ok (.invokestatic nn, 3)) (hj : jlk M.1 nn = some 4) (h : pac st (fun n dp a sp a0 r => szs r ≤ 8 ∧ 0 < d ∧ ¬ sp < 0 ∧ ¬ dp < 0 ∧ ¬ n < 0 ∧ (match lay[a0]?, lay[a]? with
      | some s0, some s1 => s0.1 = s1.1 ∧ sp.toNatClampNeg + n.toNatClampNeg ≤ s0.2.1 ∧ dp.toNatClampNeg + n.toNatClampNeg ≤ s1.2.1 ∧ (s0.1 = 0 ∨ s0.1 = 1 ∧ ∀ i, i < n.toNatClampNeg → (gi μ a0 (sp.toNatClampNeg + i) = 0 ∨ gi μ a0 (sp.toNatClampNeg + i) = 1)) ∧ VZ G M MC MS p e R s m args below meth c Qs (pc + 3) loc r lay (sar μ a (va_cpy (μ.1 a0) (μ.1 a) sp.toNatClampNeg dp.toNatClampNeg n.toNatClampNeg)) bc bs
      | _, _ => False))) : VZ G M MC MS p e R s m args below meth c Qs pc loc st lay μ bc bs := by
  unfold pac at h
  split at h
  · rename_i n dp a sp a0 r
    obtain ⟨h1, h2, h3, h4, h5, h⟩ := h
    split at h
    · rename_i s0 s1 hs0 hs1
      obtain ⟨k1, k2, k3, k4, k5⟩ := h
      intro H locs cells slots ls hl hP hz hS hc hs
      unfold jlk at hj
      obtain ⟨q, hq, hqe⟩ := Option.map_eq_some_iff.mp hj
      have g1 := List.find?_some hq
      simp only [Bool.and_eq_true, beq_iff_eq] at g1
      have g2 := List.all_eq_true.mp jTab_ok q (List.mem_of_find?_eq_some hq)
      obtain ⟨a1, a2, a3, a4⟩ := q
      dsimp only at g1 hqe
      obtain ⟨rfl, rfl⟩ := g1
      subst hqe
      have g3 := hB.ts _ (gat_mem g2)
      obtain ⟨-, -, hml, -, -, -, -, -, -, -, hfr, hlo, hRc, hRs, -⟩ := id hB
      have go : ∀ (t : Nat) (ty : FieldType), (tys G)[t]? = some (G.T t, ty) → ent G s0 a0 μ = .inl (G.T t, s0.2.1, .inl (μ.1 a0)) → (∀ μ', ent G s1 a μ' = .inl (G.T t, s1.2.1, .inl (μ'.1 a))) → refKind ty = false → (∀ i, i < n.toNatClampNeg → fits ty (.int (μ.1 a0 (sp.toNatClampNeg + i))) = true) →
          W p G.1 e R s m args below meth c H locs cells slots Qs (F0 m pc ls ((Value.int n :: .int dp :: .ref a :: .int sp :: .ref a0 :: r).map (cv G))) := by
        intro t ty ht e0 e1 hrk hft T hT X
        have he0 := wl_get (G := G) (μ := μ) hs0
        have he1 := wl_get (G := G) (μ := μ) hs1
        rw [e0] at he0
        rw [e1] at he1
        have hc0 : H[G.z + a0]? = some (vp_cell (G.T t) (s0.2.1, .inl (μ.1 a0))) := hP a0 _ he0
        have hc1 : H[G.z + a]? = some (vp_cell (G.T t) (s1.2.1, .inl (μ.1 a))) := hP a _ he1
        obtain ⟨-, kA, hkA, cmA, hkkA⟩ := (hB.K.2 t _ ht).1 s0.2.1 (fun j => .int (μ.1 a0 j))
        have nn : ∀ x : Int32, ¬ x < 0 → x.toInt = (x.toNatClampNeg : Int) := fun x hx => by
          obtain ⟨j, hj, rfl⟩ := nI_of hx
          rw [nI_toInt hj, nI_clamp hj]
        have hloc9 : 2 * (F0 m pc ls ((Value.int n :: .int dp :: .ref a :: .int sp :: .ref a0 :: r).map (cv G))).monitorRoom + ((r.map (cv G)).map fun v => v.category).sum + (nativeFrameWords "java/lang/System" "arraycopy" 5 + 11) ≤ R.locals := by
          have h8 := szs_cv G r
          have e9 : nativeFrameWords "java/lang/System" "arraycopy" 5 = 7 := by decide +kernel
          have e8 : (F0 m pc ls ((Value.int n :: .int dp :: .ref a :: .int sp :: .ref a0 :: r).map (cv G))).monitorRoom = 0 := rfl
          rw [e9, e8]
          omega
        obtain ⟨vm', X', step⟩ := X.arraycopy hB.1 hB.own g3 (hB.ts _ jw_ac_n) (hB.ts _ jw_ac_s) (hB.ts _ jw_sys_i) (src := G.z + a0) (dst := G.z + a) (cs := vp_cell (G.T t) (s0.2.1, .inl (μ.1 a0))) (cd := vp_cell (G.T t) (s1.2.1, .inl (μ.1 a))) (srcPos := sp) (destPos := dp) (n := n) (by rw [hT]; exact hc0) (by rw [hT]; exact hc1)
          (fun _ h => by cases h) (fun _ h => by cases h) (fun h => by cases h) (fun h => by cases h) hkA hkA hkkA hkkA (by simp [hrk]) h3 h4 h5
          (by rw [nn sp h3, nn n h5]; show ¬ _ > ((arrV _ s0.2.1 _).slots.size : Int); rw [arrV_size]; omega)
          (by rw [nn dp h4, nn n h5]; show ¬ _ > ((arrV _ s1.2.1 _).slots.size : Int); rw [arrV_size]; omega)
          (fun vm₁ _ i hi => by
            have e : (vp_cell (G.T t) (s0.2.1, .inl (μ.1 a0))).slots.getD (sp.toNatClampNeg + i) .null = .int (μ.1 a0 (sp.toNatClampNeg + i)) := by
              show (arrV _ s0.2.1 (fun j => .int (μ.1 a0 j))).slots.getD _ _ = _
              rw [Array.getD_eq_getD_getElem?, arrV_read _ _ (by omega)]
              rfl
            refine ⟨?_, ?_⟩
            · rw [e]
              exact hft i hi
            · rw [e]
              exact trivial)
          (g := F0 m pc ls ((Value.int n :: .int dp :: .ref a :: .int sp :: .ref a0 :: r).map (cv G))) rfl (by rw [hml]; exact hl.1.1) (rest := r.map (cv G)) rfl (by rw [hB.2.1]; exact hd) (by omega) hloc9
        have e9 : copied (vp_cell (G.T t) (s0.2.1, .inl (μ.1 a0))) (vp_cell (G.T t) (s1.2.1, .inl (μ.1 a))) sp dp n = vp_cell (G.T t) (s1.2.1, .inl (va_cpy (μ.1 a0) (μ.1 a) sp.toNatClampNeg dp.toNatClampNeg n.toNatClampNeg)) := va_copied (fun z => .int z) _ _ _ _ k2
        rw [e9] at X' step
        have hla : G.z + a < H.size := (Array.getElem?_eq_some_iff.mp hc1).1
        have hheap : ((T.setVm vm').setCell (G.z + a) (vp_cell (G.T t) (s1.2.1, .inl (va_cpy (μ.1 a0) (μ.1 a) sp.toNatClampNeg dp.toNatClampNeg n.toNatClampNeg)))).heap = H.setIfInBounds (G.z + a) (vp_cell (G.T t) (s1.2.1, .inl (va_cpy (μ.1 a0) (μ.1 a) sp.toNatClampNeg dp.toNatClampNeg n.toNatClampNeg))) := by rw [← hT]; rfl
        have oq : ∀ q : Nat, q ≠ G.z + a → (H.setIfInBounds (G.z + a) (vp_cell (G.T t) (s1.2.1, .inl (va_cpy (μ.1 a0) (μ.1 a) sp.toNatClampNeg dp.toNatClampNeg n.toNatClampNeg))))[q]? = H[q]? := fun q hq => by simp [Array.getElem?_setIfInBounds, Ne.symm hq]
        obtain ⟨t2, a1, b1⟩ := k5 _ _ cells slots ls hl (up_P (a := a) hP (fun b s hb hs => ⟨hs, sar_ent b s hb⟩) (fun s hs => by
            rw [hs1] at hs
            cases hs
            rw [e1]
            show (H.setIfInBounds (G.z + a) _)[G.z + a]? = some _
            simp [Array.getElem?_setIfInBounds, hla, sar]) oq) (by rw [Array.size_setIfInBounds, hz]) ⟨by rw [Array.size_setIfInBounds]; exact hS.1, fun q g1 g2 => by
            rw [oq q (fun e => g2 (by rw [e]; exact Nat.le_add_right _ _))]
            exact hS.2.1 q g1 g2, fun q hq => by
            rcases List.mem_append.mp hq with h | h
            · exact hS.2.2 q h
            · obtain ⟨z, -, hz⟩ := List.mem_map.mp h
              rw [← hz]
              exact Nat.le_add_right _ _⟩ hc hs _ hheap X'
        exact ⟨t2, step t2 a1, b1⟩
      rcases k4 with k4 | ⟨k4, k6⟩
      · exact go 0 .int rfl (ent_0 k4) (fun μ' => ent_0 (k1 ▸ k4)) rfl (fun i _ => rfl)
      · exact go 1 .boolean rfl (ent_1 k4) (fun μ' => ent_1 (k1 ▸ k4)) rfl (fun i hi => by
          have := k6 i hi
          unfold gi at this
          rcases this with q | q <;> rw [q] <;> rfl)
    · exact h.elim
  · exact h.elim
end SND4
