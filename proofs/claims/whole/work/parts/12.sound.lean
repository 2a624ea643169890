section SND6
variable {G : Gx} {d : Nat} {M : MI} {MC MS : Nat} {p : Program} {e : Env} {R : Room} {s : State} {m : MethodId} {args : Array Value} {below : List Frame} {meth : Method} {c : Code} {Qs : State → Prop} {Qa : Option Value → List Sh → Mem → Prop} {pc : Nat} {loc : XV} {st : List Value} {lay : List Sh} {μ : Mem} {bc bs : Nat}
theorem set_q (cA : ClassId) (n : Nat) (f : Nat → Option Nat) (i x : Nat) : (vp_cell cA (n, .inr (.inr (.inr (.inr f))))).setSlot i (.ref x) = vp_cell cA (n, .inr (.inr (.inr (.inr (va_up f i (some x)))))) := by
  rw [vp_cell_q, vp_cell_q, arrV_store]
  refine congrArg (arrV cA n) (funext fun q => ?_)
  by_cases hq : q = i
  · subst hq
    simp [updV, va_up, va_rf]
  · simp [updV, va_up, hq]
theorem s_aastore (hB : Bd G d M MC MS p R s m args meth c) (hd : decode M.cd pc = .ok (.aastore, 1)) (h : rst st (fun x i a r => match lay[a]?, lay[x]? with
      | some sh, some sx => sh.1 = 5 ∧ sx.1 = 13 ∧ vp_in i sh.2.1 ∧ (match sh.2.2 with
        | some b :: some k :: _ => i.toNatClampNeg = k ∧ x = b + 5 * k ∧ VZ G M MC MS p e R s m args below meth c Qs (pc + 1) loc r (lay.set a (5, sh.2.1, [some b, some (k + 1)])) μ bc bs
        | _ => i.toNatClampNeg = 0 ∧ sh.2.2 = [] ∧ VZ G M MC MS p e R s m args below meth c Qs (pc + 1) loc r (lay.set a (5, sh.2.1, [some x, some 1])) μ bc bs)
      | _, _ => False)) : VZ G M MC MS p e R s m args below meth c Qs pc loc st lay μ bc bs := by
  unfold rst at h
  split at h
  · rename_i x i a r
    split at h
    · rename_i sh sx hsh hsx
      obtain ⟨h1, h2, h3, h4⟩ := h
      have hal : a < lay.length := (List.getElem?_eq_some_iff.mp hsh).1
      have go : ∀ rs', (∀ q, grd G 5 rs' q = va_up (grd G 5 sh.2.2) i.toNatClampNeg (some (G.z + x)) q) → VZ G M MC MS p e R s m args below meth c Qs (pc + 1) loc r (lay.set a (5, sh.2.1, rs')) μ bc bs → VZ G M MC MS p e R s m args below meth c Qs pc loc (.ref x :: .int i :: .ref a :: r) lay μ bc bs := by
        intro rs' hrs k H locs cells slots ls hl hP hz hS hc hs
        have he := wl_get (G := G) (μ := μ) hsh
        rw [ent_5 h1] at he
        have hx := wl_get (G := G) (μ := μ) hsx
        rw [ent_obj (ci := 7) h2] at hx
        have hlt : i.toNatClampNeg < sh.2.1 := Nat.not_le.mp fun q => h3 (Or.inr q)
        have h0 : ¬ i < 0 := fun q => h3 (Or.inl q)
        obtain ⟨r', hr', cellV, g1, g2, g3, -⟩ := hP x _ hx
        have hcls := (hB.K.1 7 _ (vwCl_at 7 (by decide))).2
        obtain ⟨kA, comp, k1, k2, k3, -⟩ := (hB.K.2 5 _ rfl).2
        have hcomp : comp = G.D.1 7 := Option.some.inj (k3.symm.trans hcls.1)
        subst hcomp
        obtain ⟨kC, hkC, -⟩ := hcls.2
        refine W.aast hB.1 hB.2.1 (hP a _ he) (fun q h => by cases h) (fun h => by cases h) k1 k2 rfl hkC ⟨h0, by show _ < (arrV _ _ _).slots.size; rw [arrV_size]; exact hlt⟩ g1 (fun q h => by rw [g3] at h; cases h) (by rw [g2]; exact hkC) (by rw [g2]; exact va_assign hcls) rfl rfl hd fun H1 e1 e2 e3 => ?_
        refine k H1 _ cells slots ls hl (up_P hP (fun b s hb hs => ⟨by rw [List.getElem?_set_ne (Ne.symm hb)] at hs; exact hs, rfl⟩) (fun s hs => ?_) e3) (by rw [e2, hz, List.length_set]) (hS.put e2 e3 (Nat.le_add_right _ _)) hc hs
        rw [List.getElem?_set_self hal] at hs
        cases hs
        rw [ent_5 rfl]
        show H1[G.z + a]? = some (vp_cell _ _)
        rw [e1]
        refine congrArg some ((set_q _ _ _ _ _).trans ?_)
        rw [funext hrs]
      split at h4
      · rename_i b k rs hrs
        obtain ⟨k1, k2, k3⟩ := h4
        refine go _ (fun q => ?_) k3
        rw [hrs, k1, k2]
        unfold grd va_up
        by_cases e1 : q = k
        · subst e1; simp
        · rw [if_neg e1]
          dsimp only
          by_cases e2 : q < k
          · rw [if_pos e2, if_pos (by omega)]
          · rw [if_neg e2, if_neg (by omega)]
      · obtain ⟨k1, k2, k3⟩ := h4
        refine go _ (fun q => ?_) k3
        rw [k2, k1]
        unfold grd va_up
        by_cases e1 : q = 0
        · subst e1; simp
        · rw [if_neg e1]
          dsimp only
          rw [if_neg (by omega)]
    · exact h.elim
  · exact h.elim
theorem jw_cl_scale : Cond.classLink "BellRibbons$Payments" 9 "BellRibbons$Scale" ∈ gtbl := by
  have h : nTab.all (fun q => !(q.1 == 5 && q.2.1 == 9) || gat q.2.2.2.1 (.classLink "BellRibbons$Payments" 9 "BellRibbons$Scale")) = true ∧ nTab.any (fun q => q.1 == 5 && q.2.1 == 9) = true := by decide +kernel
  obtain ⟨q, h1, h2⟩ := List.any_eq_true.mp h.2
  have h3 := List.all_eq_true.mp h.1 q h1
  rw [h2] at h3
  exact gat_mem (by simpa using h3)
theorem s_anewarray (hB : Bd G d M MC MS p R s m args meth c) {n : Nat} (hd : decode M.cd pc = .ok (.anewarray n, 3)) (h : p1 st (fun k r => (inf M).1 = 5 ∧ n = 9 ∧ ¬ k < 0 ∧ k.toNatClampNeg ≤ 60000000 ∧ 1 ≤ bc ∧ k.toNatClampNeg ≤ bs ∧ VZ G M MC MS p e R s m args below meth c Qs (pc + 3) loc (.ref lay.length :: r) (lay ++ [(5, k.toNatClampNeg, [])]) (clr μ lay.length) (bc - 1) (bs - k.toNatClampNeg))) : VZ G M MC MS p e R s m args below meth c Qs pc loc st lay μ bc bs := by
  unfold p1 at h
  split at h
  · rename_i k r
    obtain ⟨h1, h2, h3, h4, h5, h6, h7⟩ := h
    subst h2
    intro H locs cells slots ls hl hP hz hS hc hs
    obtain ⟨-, -, hml, -, -, -, -, -, -, -, hfr, hlo, hRc, hRs, -⟩ := id hB
    have how := hB.own
    rw [show M.1 = 5 from h1] at how
    refine W.anew hB.1 hB.2.1 how (hB.ts _ jw_cl_scale) (va_AO.use hB.xw.2.1) rfl hd rfl h3 (by omega) (by omega) (by omega) fun cA kA comp f1 f2 f3 f4 => ?_
    obtain ⟨kA2, comp2, -, -, -, g4⟩ := (hB.K.2 5 _ rfl).2
    have hT : G.T 5 = cA := Option.some.inj (g4.symm.trans f1)
    have o1 : ∀ q : Nat, q < H.size → (H.push ({ cls := cA, slots := Array.replicate k.toNatClampNeg .null, vm := .none } : Cell))[q]? = H[q]? := fun q hq => by rw [Array.getElem?_push, if_neg (Nat.ne_of_lt hq)]
    rw [hz]
    refine h7 _ locs (cells + 1) (slots + k.toNatClampNeg) ls hl (app_P hP hz clr_ent' ?_ o1) (by rw [Array.size_push, hz]; simp; omega) (hS.grow (by rw [Array.size_push]; omega) o1) (by omega) (by omega)
    rw [ent_5 rfl]
    show (H.push _)[G.z + lay.length]? = some (vp_cell _ _)
    rw [← hz, Array.getElem?_push_size, vp_cell_q, ← hT]
    refine congrArg some (Eq.trans ?_ (arrV_new _ _ _))
    rfl
  · exact h.elim
theorem jw_gl5 : Cond.classLink "BellRibbons$Payments" 21 "[[I" ∈ gtbl := gat_mem (i := 368) (by decide +kernel)
theorem jw_gl4 : Cond.classLink "BellRibbons$Leveller" 21 "[[I" ∈ gtbl := gat_mem (i := 417) (by decide +kernel)
theorem jw_gl0 : Cond.classLink "BellRibbons$Debts" 9 "[[I" ∈ gtbl := gat_mem (i := 502) (by decide +kernel)
theorem outer_arr (c : ClassId) (N h0 : Nat) (i : Nat) : Jvm.Free.Multi.outerC c N h0 i = arrV c N (fun j => if j < i then .ref (h0 + 1 + j) else .null) := by
  induction i with
  | zero =>
    refine (arrV_new c N .null).trans (congrArg (arrV c N) (funext fun j => ?_))
    rw [if_neg (Nat.not_lt_zero j)]
  | succ i ih =>
    refine (congrArg (fun z => Cell.setSlot z i (.ref (h0 + 1 + i))) ih).trans ((arrV_store ..).trans (congrArg (arrV c N) (funext fun j => ?_)))
    by_cases e : j = i
    · subst e; simp [updV]
    · by_cases h : j < i
      · simp [updV, e, h, Nat.lt_succ_of_lt h]
      · simp [updV, e, h, show ¬ j < i + 1 by omega]
/-- the making of an array of arrays -/
theorem s_mna (hB : Bd G d M MC MS p R s m args meth c) {n k : Nat} (hd : decode M.cd pc = .ok (.multianewarray n k, 4)) (h : p2 st (fun c' w r => ((inf M).1, n) ∈ [(5, 21), (4, 21), (0, 9)] ∧ k = 2 ∧ ¬ c' < 0 ∧ ¬ w < 0 ∧ c'.toNatClampNeg ≤ 60000000 ∧ w.toNatClampNeg ≤ 60000000 ∧ 1 + c'.toNatClampNeg ≤ bc ∧ c'.toNatClampNeg + c'.toNatClampNeg * w.toNatClampNeg ≤ bs ∧ VZ G M MC MS p e R s m args below meth c Qs (pc + 4) loc (.ref lay.length :: r) (lay ++ (4, c'.toNatClampNeg, [some (lay.length + 1), some c'.toNatClampNeg]) :: List.replicate c'.toNatClampNeg (0, w.toNatClampNeg, [])) (clrN μ lay.length (1 + c'.toNatClampNeg)) (bc - (1 + c'.toNatClampNeg)) (bs - (c'.toNatClampNeg + c'.toNatClampNeg * w.toNatClampNeg)))) : VZ G M MC MS p e R s m args below meth c Qs pc loc st lay μ bc bs := by
  unfold p2 at h
  split at h
  · rename_i w k2 r
    obtain ⟨h1, rfl, h3, h4, h5, h6, h7, h8, h9⟩ := h
    intro H locs cells slots ls hl hP hz hS hc hs T hT X
    obtain ⟨-, -, hml, -, -, -, -, -, -, -, hfr, hlo, hRc, hRs, -⟩ := id hB
    have hlk : (Cond.classLink (cn M.1) n ("[" ++ (FieldType.array .int).toString)).before args s = true := by
      have h1' : (M.1, n) ∈ [(5, 21), (4, 21), (0, 9)] := h1
      simp only [List.mem_cons, Prod.mk.injEq, List.not_mem_nil, or_false] at h1'
      rcases h1' with ⟨e1, e2⟩ | ⟨e1, e2⟩ | ⟨e1, e2⟩ <;> rw [e1, e2]
      · exact hB.ts _ jw_gl5
      · exact hB.ts _ jw_gl4
      · exact hB.ts _ jw_gl0
    obtain ⟨vm₁, cA, comp, -, fA, fC, -, -, X', step⟩ := X.multianewarray2F hB.1 hB.own hlk hB.xw.2.2 (hB.ts _ jw_arr_int) (g := F0 m pc ls ((Value.int w :: .int k2 :: r).map (cv G))) rfl (by rw [hB.2.1]; exact hd) (rest := r.map (cv G)) rfl h3 h4 (by omega) (by show w.toNatClampNeg * 4 ≤ _; omega) (by omega) rfl rfl (by omega) (by omega)
    have e4 : cA = G.T 4 := Option.some.inj (fA.symm.trans (hB.K.2 4 _ rfl).2)
    have e0 : comp = G.T 0 := Option.some.inj (fC.symm.trans (hB.K.2 0 _ rfl).2)
    subst e4 e0
    generalize hN : k2.toNatClampNeg = N at *
    generalize hK : w.toNatClampNeg = K at *
    generalize hF : Jvm.Free.Multi.fill (T.setVm vm₁) (G.T 4) (G.T 0) N K (defaultValue .int) N = F at X' step
    have hTh : (T.setVm vm₁).heap = H := hT
    obtain ⟨f1, f2, -, -⟩ := Jvm.Free.Multi.fill_facts (T.setVm vm₁) (G.T 4) (G.T 0) N K (defaultValue .int) N
    rw [hF, hTh] at f1 f2
    have hold : ∀ x : Nat, x < H.size → F.heap[x]? = H[x]? := fun x hx => by
      have := Jvm.Free.Multi.fill_old (T.setVm vm₁) (G.T 4) (G.T 0) N K (defaultValue .int) (a := x) (by rw [hTh]; exact hx) N
      rw [hF, hTh] at this
      exact this
    have hrow : ∀ j : Nat, j < N → F.heap[H.size + 1 + j]? = some (vp_cell (G.T 0) (K, .inl (fun _ => 0))) := fun j hj => by
      have := Jvm.Free.Multi.fill_inner (T.setVm vm₁) (G.T 4) (G.T 0) N K (defaultValue .int) N j hj
      rw [hF, hTh] at this
      refine this.trans (congrArg some ?_)
      exact arrV_new (G.T 0) K (.int 0)
    have hlenN : (lay ++ (4, N, [some (lay.length + 1), some N]) :: List.replicate N ((0, K, []) : Sh)).length = lay.length + 1 + N := by simp; omega
    have hP' : va_P G.D vwCl (wl G (lay ++ (4, N, [some (lay.length + 1), some N]) :: List.replicate N ((0, K, []) : Sh)) (clrN μ lay.length (1 + N))) F.heap := by
      intro kk q hq
      obtain ⟨sh, hsh, rfl⟩ := wl_inv hq
      by_cases q1 : kk < lay.length
      · rw [List.getElem?_append_left q1] at hsh
        have e1 : ent G sh kk (clrN μ lay.length (1 + N)) = ent G sh kk μ := by
          unfold ent fvs fv clrN
          simp only [show ¬ (lay.length ≤ kk ∧ kk < lay.length + (1 + N)) by omega, if_false]
        rw [e1]
        exact (hP kk _ (wl_get hsh)).kept (hold _ ((hP kk _ (wl_get hsh)).lt))
      · rw [List.getElem?_append_right (by omega)] at hsh
        by_cases q2 : kk = lay.length
        · subst q2
          rw [Nat.sub_self, List.getElem?_cons_zero] at hsh
          cases hsh
          rw [ent_4 rfl]
          show F.heap[G.z + lay.length]? = some (vp_cell _ _)
          rw [← hz, f2, outer_arr, vp_cell_q]
          refine congrArg some (congrArg (arrV (G.T 4) N) (funext fun j => ?_))
          unfold grd
          by_cases hj : j < N
          · simp only [hj, if_true, va_rf]
            rw [hz]
            exact congrArg Value.ref (show (G.z + lay.length + 1 + j : Nat) = G.z + (lay.length + 1 + 1 * j) by omega)
          · simp only [hj, if_false, va_rf]
        · obtain ⟨j, rfl⟩ : ∃ j, kk = lay.length + 1 + j := ⟨kk - (lay.length + 1), by omega⟩
          rw [show lay.length + 1 + j - lay.length = j + 1 by omega, List.getElem?_cons_succ, List.getElem?_replicate] at hsh
          split at hsh
          · rename_i hj
            cases hsh
            rw [ent_0 rfl]
            have e1 : (clrN μ lay.length (1 + N)).1 (lay.length + 1 + j) = fun _ => 0 := by
              unfold clrN
              simp only [show lay.length ≤ lay.length + 1 + j ∧ lay.length + 1 + j < lay.length + (1 + N) by omega, and_self, if_true]
            rw [e1]
            show F.heap[G.z + (lay.length + 1 + j)]? = some (vp_cell _ _)
            rw [show G.z + (lay.length + 1 + j) = H.size + 1 + j by omega]
            exact hrow j hj
          · cases hsh
    obtain ⟨t, a1, b1⟩ := h9 F.heap locs (cells + 1 + N) (slots + N + N * K) ls hl hP' (by rw [f1, hz, hlenN]; omega) (hS.grow (by omega) hold) (by omega) (by omega) F rfl X'
    refine ⟨t, step t ?_, b1⟩
    have e9 : T.heap.size = H.size := by rw [hT]
    rw [e9, hz]
    exact a1
  · exact h.elim
end SND6
