section SND3
variable {G : Gx} {d : Nat} {M : MI} {MC MS : Nat} {p : Program} {e : Env} {R : Room} {s : State} {m : MethodId} {args : Array Value} {below : List Frame} {meth : Method} {c : Code} {Qs : State → Prop} {Qa : Option Value → List Sh → Mem → Prop} {pc : Nat} {loc : XV} {st : List Value} {lay : List Sh} {μ : Mem} {bc bs : Nat}
theorem ent_0 {sh : Sh} {a : Nat} (h : sh.1 = 0) : ent G sh a μ = .inl (G.T 0, sh.2.1, .inl (μ.1 a)) := by
  obtain ⟨k, n, rs⟩ := sh; cases h; rfl
theorem ent_1 {sh : Sh} {a : Nat} (h : sh.1 = 1) : ent G sh a μ = .inl (G.T 1, sh.2.1, .inl (μ.1 a)) := by
  obtain ⟨k, n, rs⟩ := sh; cases h; rfl
theorem ent_2 {sh : Sh} {a : Nat} (h : sh.1 = 2) : ent G sh a μ = .inl (G.T 2, sh.2.1, .inl (μ.1 a)) := by
  obtain ⟨k, n, rs⟩ := sh; cases h; rfl
theorem ent_3 {sh : Sh} {a : Nat} (h : sh.1 = 3) : ent G sh a μ = .inl (G.T 3, sh.2.1, .inr (.inl (μ.2 a))) := by
  obtain ⟨k, n, rs⟩ := sh; cases h; rfl
theorem ent_4 {sh : Sh} {a : Nat} (h : sh.1 = 4) : ent G sh a μ = .inl (G.T 4, sh.2.1, .inr (.inr (.inr (.inr (grd G 1 sh.2.2))))) := by
  obtain ⟨k, n, rs⟩ := sh; cases h; rfl
theorem ent_5 {sh : Sh} {a : Nat} (h : sh.1 = 5) : ent G sh a μ = .inl (G.T 5, sh.2.1, .inr (.inr (.inr (.inr (grd G 5 sh.2.2))))) := by
  obtain ⟨k, n, rs⟩ := sh; cases h; rfl
theorem si_at {a k : Nat} {x : Int32} : (si μ a k x).1 a = upd (μ.1 a) k x := by simp [si]
theorem sl_at {a k : Nat} {x : Int64} : (sl μ a k x).2 a = vp_updL (μ.2 a) k x := by simp [sl]
theorem s_iaload (hB : Bd G d M MC MS p R s m args meth c) (hd : decode M.cd pc = .ok (.iaload, 1)) (h : pa st (fun i a r => match lay[a]? with
      | some sh => sh.1 = 0 ∧ vp_in i sh.2.1 ∧ VZ G M MC MS p e R s m args below meth c Qs (pc + 1) loc (.int (gi μ a i.toNatClampNeg) :: r) lay μ bc bs
      | none => False) (fun i r => M.1 = 99 ∧ vp_in i G.sL ∧ VZ G M MC MS p e R s m args below meth c Qs (pc + 1) loc (.int (G.xs i.toNatClampNeg) :: r) lay μ bc bs)) : VZ G M MC MS p e R s m args below meth c Qs pc loc st lay μ bc bs := by
  unfold pa at h
  split at h
  · split at h
    · rename_i sh hsh
      intro H locs cells slots ls hl hP hz hS hc hs
      have he := wl_get (G := G) (μ := μ) hsh
      rw [ent_0 h.1] at he
      exact va_iald hB.1 hB.2.1 hB.K hP _ 0 he rfl h.2.1 hd (h.2.2 H locs cells slots ls hl hP hz hS hc hs)
    · exact h.elim
  · obtain ⟨h1, h2, h3⟩ := h
    obtain ⟨g1, g2⟩ := hB.2.2.2.2.2.2.2.2.2.2.2.2.2.2 h1
    intro H locs cells slots ls hl hP hz hS hc hs
    exact va_sld hB.1 hB.2.1 g1 (Nat.lt_of_lt_of_le g2 hB.2.2.2.2.2.2.2.2.2.1) (Nat.not_le.mpr g2) hS h2 hd (h3 H locs cells slots ls hl hP hz hS hc hs)
  · exact h.elim
theorem s_baload (hB : Bd G d M MC MS p R s m args meth c) (hd : decode M.cd pc = .ok (.baload, 1)) (h : pa st (fun i a r => match lay[a]? with
      | some sh => (sh.1 = 1 ∨ sh.1 = 2) ∧ vp_in i sh.2.1 ∧ VZ G M MC MS p e R s m args below meth c Qs (pc + 1) loc (.int (gi μ a i.toNatClampNeg) :: r) lay μ bc bs
      | none => False) (fun _ _ => False)) : VZ G M MC MS p e R s m args below meth c Qs pc loc st lay μ bc bs := by
  unfold pa at h
  split at h
  · split at h
    · rename_i sh hsh
      intro H locs cells slots ls hl hP hz hS hc hs
      have he := wl_get (G := G) (μ := μ) hsh
      rcases h.1 with h1 | h1
      · rw [ent_1 h1] at he
        exact va_zald hB.1 hB.2.1 hB.K hP _ 1 he rfl h.2.1 hd (h.2.2 H locs cells slots ls hl hP hz hS hc hs)
      · rw [ent_2 h1] at he
        exact va_bald hB.1 hB.2.1 hB.K hP _ 2 he rfl h.2.1 hd (h.2.2 H locs cells slots ls hl hP hz hS hc hs)
    · exact h.elim
  · exact h.elim
  · exact h.elim
theorem s_laload (hB : Bd G d M MC MS p R s m args meth c) (hd : decode M.cd pc = .ok (.laload, 1)) (h : pa st (fun i a r => match lay[a]? with
      | some sh => sh.1 = 3 ∧ vp_in i sh.2.1 ∧ VZ G M MC MS p e R s m args below meth c Qs (pc + 1) loc (.long (gl μ a i.toNatClampNeg) :: r) lay μ bc bs
      | none => False) (fun _ _ => False)) : VZ G M MC MS p e R s m args below meth c Qs pc loc st lay μ bc bs := by
  unfold pa at h
  split at h
  · split at h
    · rename_i sh hsh
      intro H locs cells slots ls hl hP hz hS hc hs
      have he := wl_get (G := G) (μ := μ) hsh
      rw [ent_3 h.1] at he
      exact va_lald hB.1 hB.2.1 hB.K hP _ 3 he rfl h.2.1 hd (h.2.2 H locs cells slots ls hl hP hz hS hc hs)
    · exact h.elim
  · exact h.elim
  · exact h.elim
theorem grd_at {w b k : Nat} {rs : List (Option Nat)} {i : Nat} (h : i < k) : grd G w (some b :: some k :: rs) i = some (G.z + (b + w * i)) := by
  unfold grd
  exact if_pos h
theorem s_aaload (hB : Bd G d M MC MS p R s m args meth c) (hd : decode M.cd pc = .ok (.aaload, 1)) (h : pa st (fun i a r => match lay[a]? with
      | some sh => vp_in i sh.2.1 ∧ (match sh.2.2 with
        | some b :: some k :: _ => i.toNatClampNeg < k ∧ (sh.1 = 4 ∧ VZ G M MC MS p e R s m args below meth c Qs (pc + 1) loc (.ref (b + 1 * i.toNatClampNeg) :: r) lay μ bc bs ∨ sh.1 = 5 ∧ VZ G M MC MS p e R s m args below meth c Qs (pc + 1) loc (.ref (b + 5 * i.toNatClampNeg) :: r) lay μ bc bs)
        | _ => False)
      | none => False) (fun _ _ => False)) : VZ G M MC MS p e R s m args below meth c Qs pc loc st lay μ bc bs := by
  unfold pa at h
  split at h
  · rename_i i a r
    split at h
    · rename_i sh hsh
      intro H locs cells slots ls hl hP hz hS hc hs
      have he := wl_get (G := G) (μ := μ) hsh
      obtain ⟨h1, h2⟩ := h
      split at h2
      · rename_i b k rs hrs
        obtain ⟨h2, h3⟩ := h2
        have hlt : i.toNatClampNeg < sh.2.1 := Nat.not_le.mp fun q => h1 (Or.inr q)
        rcases h3 with ⟨h3, h4⟩ | ⟨h3, h4⟩
        · rw [ent_4 h3, hrs] at he
          refine W.aald (v := va_rf (grd G 1 (some b :: some k :: rs) i.toNatClampNeg)) (ty := .array .int) hB.1 hB.2.1 (hP a _ he) ((hB.K.2 4 _ rfl).1 sh.2.1 (fun j => va_rf (grd G 1 (some b :: some k :: rs) j))) rfl (fun q => by cases q) (by show ¬ (i < 0 ∨ (arrV _ _ _).slots.size ≤ _); rw [arrV_size]; exact h1) (by show (arrV _ _ _).slots[_]? = _; rw [arrV_read _ _ hlt]) rfl rfl hd ?_
          rw [grd_at h2]
          exact h4 H locs cells slots ls hl hP hz hS hc hs
        · rw [ent_5 h3, hrs] at he
          refine va_aldq hB.1 hB.2.1 hB.K hP _ 5 he rfl h1 hd ?_
          rw [grd_at h2]
          exact h4 H locs cells slots ls hl hP hz hS hc hs
      · exact h2.elim
    · exact h.elim
  · exact h.elim
  · exact h.elim
theorem s_alen (hB : Bd G d M MC MS p R s m args meth c) (hd : decode M.cd pc = .ok (.arraylength, 1)) (h : match st with
    | .ref a :: r => match lay[a]? with
      | some sh => sh.1 < 6 ∧ VZ G M MC MS p e R s m args below meth c Qs (pc + 1) loc (.int (nI sh.2.1) :: r) lay μ bc bs
      | none => False
    | .float _ :: r => M.1 = 99 ∧ VZ G M MC MS p e R s m args below meth c Qs (pc + 1) loc (.int (nI G.sL) :: r) lay μ bc bs
    | _ => False) : VZ G M MC MS p e R s m args below meth c Qs pc loc st lay μ bc bs := by
  split at h
  · rename_i a r
    split at h
    · rename_i sh hsh
      intro H locs cells slots ls hl hP hz hS hc hs
      have he := wl_get (G := G) (μ := μ) hsh
      obtain ⟨k, n, rs⟩ := sh
      obtain ⟨h1, h2⟩ := h
      match k, h1, he with
      | 0, _, he => exact va_alen hB.1 hB.2.1 hB.K hP a 0 (x := (n, .inl (μ.1 a))) he rfl rfl hd (h2 H locs cells slots ls hl hP hz hS hc hs)
      | 1, _, he => exact va_alen hB.1 hB.2.1 hB.K hP a 1 (x := (n, .inl (μ.1 a))) he rfl rfl hd (h2 H locs cells slots ls hl hP hz hS hc hs)
      | 2, _, he => exact va_alen hB.1 hB.2.1 hB.K hP a 2 (x := (n, .inl (μ.1 a))) he rfl rfl hd (h2 H locs cells slots ls hl hP hz hS hc hs)
      | 3, _, he => exact va_alen hB.1 hB.2.1 hB.K hP a 3 (x := (n, .inr (.inl (μ.2 a)))) he rfl rfl hd (h2 H locs cells slots ls hl hP hz hS hc hs)
      | 4, _, he => exact va_alen hB.1 hB.2.1 hB.K hP a 4 (x := (n, .inr (.inr (.inr (.inr (grd G 1 rs)))))) he rfl rfl hd (h2 H locs cells slots ls hl hP hz hS hc hs)
      | 5, _, he => exact va_alen hB.1 hB.2.1 hB.K hP a 5 (x := (n, .inr (.inr (.inr (.inr (grd G 5 rs)))))) he rfl rfl hd (h2 H locs cells slots ls hl hP hz hS hc hs)
    · exact h.elim
  · obtain ⟨h1, h3⟩ := h
    obtain ⟨g1, g2⟩ := hB.2.2.2.2.2.2.2.2.2.2.2.2.2.2 h1
    intro H locs cells slots ls hl hP hz hS hc hs
    exact va_slen hB.1 hB.2.1 g1 (Nat.lt_of_lt_of_le g2 hB.2.2.2.2.2.2.2.2.2.1) (Nat.not_le.mpr g2) hS hd (h3 H locs cells slots ls hl hP hz hS hc hs)
  · exact h.elim
theorem s_iastore (hB : Bd G d M MC MS p R s m args meth c) (hd : decode M.cd pc = .ok (.iastore, 1)) (h : pst st (fun x i a r => match lay[a]? with
      | some sh => sh.1 = 0 ∧ vp_in i sh.2.1 ∧ VZ G M MC MS p e R s m args below meth c Qs (pc + 1) loc r lay (si μ a i.toNatClampNeg x) bc bs
      | none => False)) : VZ G M MC MS p e R s m args below meth c Qs pc loc st lay μ bc bs := by
  unfold pst at h
  split at h
  · rename_i x i a r
    split at h
    · rename_i sh hsh
      obtain ⟨h1, h2, h3⟩ := h
      intro H locs cells slots ls hl hP hz hS hc hs
      have he := wl_get (G := G) (μ := μ) hsh
      rw [ent_0 h1] at he
      refine W.iast hB.1 hB.2.1 (hP a _ he) ((hB.K.2 0 _ rfl).1 sh.2.1 (fun j => .int (μ.1 a j))) (fun q => by cases q) (by show ¬ (i < 0 ∨ (arrV _ _ _).slots.size ≤ _); rw [arrV_size]; exact h2) rfl rfl hd fun H1 e1 e2 e3 => ?_
      refine h3 H1 _ cells slots ls hl (up_P hP (fun b s hb hs => ⟨hs, si_ent b s hb⟩) (fun s hs => ?_) e3) (by rw [e2, hz]) (hS.put e2 e3 (Nat.le_add_right _ _)) hc hs
      rw [hsh] at hs
      cases hs
      rw [ent_0 h1, si_at]
      show H1[G.z + a]? = some (vp_cell _ _)
      rw [e1]
      exact congrArg some (set_i _ _ _ _ _)
    · exact h.elim
  · exact h.elim
theorem s_bastore (hB : Bd G d M MC MS p R s m args meth c) (hd : decode M.cd pc = .ok (.bastore, 1)) (h : pst st (fun x i a r => match lay[a]? with
      | some sh => vp_in i sh.2.1 ∧ (sh.1 = 1 ∧ VZ G M MC MS p e R s m args below meth c Qs (pc + 1) loc r lay (si μ a i.toNatClampNeg (vp_nar .boolean x)) bc bs ∨ sh.1 = 2 ∧ VZ G M MC MS p e R s m args below meth c Qs (pc + 1) loc r lay (si μ a i.toNatClampNeg (vp_nar .byte x)) bc bs)
      | none => False)) : VZ G M MC MS p e R s m args below meth c Qs pc loc st lay μ bc bs := by
  unfold pst at h
  split at h
  · rename_i x i a r
    split at h
    · rename_i sh hsh
      obtain ⟨h2, h3⟩ := h
      intro H locs cells slots ls hl hP hz hS hc hs
      have he := wl_get (G := G) (μ := μ) hsh
      rcases h3 with ⟨h1, h3⟩ | ⟨h1, h3⟩
      · rw [ent_1 h1] at he
        refine W.zast hB.1 hB.2.1 (hP a _ he) ((hB.K.2 1 _ rfl).1 sh.2.1 (fun j => .int (μ.1 a j))) (fun q => by cases q) (by show ¬ (i < 0 ∨ (arrV _ _ _).slots.size ≤ _); rw [arrV_size]; exact h2) rfl rfl hd fun H1 e1 e2 e3 => ?_
        refine h3 H1 _ cells slots ls hl (up_P hP (fun b s hb hs => ⟨hs, si_ent b s hb⟩) (fun s hs => ?_) e3) (by rw [e2, hz]) (hS.put e2 e3 (Nat.le_add_right _ _)) hc hs
        rw [hsh] at hs
        cases hs
        rw [ent_1 h1, si_at]
        show H1[G.z + a]? = some (vp_cell _ _)
        rw [e1, nar_z]
        exact congrArg some (set_i _ _ _ _ _)
      · rw [ent_2 h1] at he
        refine W.bast hB.1 hB.2.1 (hP a _ he) ((hB.K.2 2 _ rfl).1 sh.2.1 (fun j => .int (μ.1 a j))) (fun q => by cases q) (by show ¬ (i < 0 ∨ (arrV _ _ _).slots.size ≤ _); rw [arrV_size]; exact h2) rfl rfl hd fun H1 e1 e2 e3 => ?_
        refine h3 H1 _ cells slots ls hl (up_P hP (fun b s hb hs => ⟨hs, si_ent b s hb⟩) (fun s hs => ?_) e3) (by rw [e2, hz]) (hS.put e2 e3 (Nat.le_add_right _ _)) hc hs
        rw [hsh] at hs
        cases hs
        rw [ent_2 h1, si_at]
        show H1[G.z + a]? = some (vp_cell _ _)
        rw [e1, nar_b]
        exact congrArg some (set_i _ _ _ _ _)
    · exact h.elim
  · exact h.elim
theorem s_lastore (hB : Bd G d M MC MS p R s m args meth c) (hd : decode M.cd pc = .ok (.lastore, 1)) (h : qst st (fun x i a r => match lay[a]? with
      | some sh => sh.1 = 3 ∧ vp_in i sh.2.1 ∧ VZ G M MC MS p e R s m args below meth c Qs (pc + 1) loc r lay (sl μ a i.toNatClampNeg x) bc bs
      | none => False)) : VZ G M MC MS p e R s m args below meth c Qs pc loc st lay μ bc bs := by
  unfold qst at h
  split at h
  · rename_i x i a r
    split at h
    · rename_i sh hsh
      obtain ⟨h1, h2, h3⟩ := h
      intro H locs cells slots ls hl hP hz hS hc hs
      have he := wl_get (G := G) (μ := μ) hsh
      rw [ent_3 h1] at he
      refine W.last hB.1 hB.2.1 (hP a _ he) ((hB.K.2 3 _ rfl).1 sh.2.1 (fun j => .long (μ.2 a j))) (fun q => by cases q) (by show ¬ (i < 0 ∨ (arrV _ _ _).slots.size ≤ _); rw [arrV_size]; exact h2) rfl rfl hd fun H1 e1 e2 e3 => ?_
      refine h3 H1 _ cells slots ls hl (up_P hP (fun b s hb hs => ⟨hs, sl_ent b s hb⟩) (fun s hs => ?_) e3) (by rw [e2, hz]) (hS.put e2 e3 (Nat.le_add_right _ _)) hc hs
      rw [hsh] at hs
      cases hs
      rw [ent_3 h1, sl_at]
      show H1[G.z + a]? = some (vp_cell _ _)
      rw [e1]
      exact congrArg some (set_l _ _ _ _ _)
    · exact h.elim
  · exact h.elim
theorem swt_find {x : Int32} {f : Nat → Prop} : ∀ (lo : Int) (os : List Int), swt x pc lo os f → ∀ (j : Nat) (o : Int), os[j]? = some o → x.toInt = lo + (j : Int) → f ((pc : Int) + o).toNat
  | _, [], _, j, o, h, _ => by simp at h
  | lo, o' :: r, h, 0, o, hj, hx => by
    simp only [List.getElem?_cons_zero, Option.some.injEq] at hj
    subst hj
    exact h.1 (by simpa using hx)
  | lo, o' :: r, h, j + 1, o, hj, hx => swt_find (lo + 1) r h.2 j o (by simpa using hj) (by rw [hx]; omega)
theorem s_tsw (hB : Bd G d M MC MS p R s m args meth c) {df lo hi : Int} {os : Array Int} {len : Nat} (ht : tok pc (.tableswitch df lo hi os) = true) (hd : decode M.cd pc = .ok (.tableswitch df lo hi os, len)) (h : p1 st (fun x r => ((x.toInt < lo ∨ hi < x.toInt) → VZ G M MC MS p e R s m args below meth c Qs ((pc : Int) + df).toNat loc r lay μ bc bs) ∧ lo + os.size = hi + 1 ∧ swt x pc lo os.toList (fun t => VZ G M MC MS p e R s m args below meth c Qs t loc r lay μ bc bs))) : VZ G M MC MS p e R s m args below meth c Qs pc loc st lay μ bc bs := by
  unfold p1 at h
  split at h
  · rename_i x r
    obtain ⟨h1, h2, h3⟩ := h
    unfold tok at ht
    simp only [Bool.and_eq_true, decide_eq_true_eq, List.all_eq_true] at ht
    intro H locs cells slots ls hl hP hz hS hc hs
    by_cases hx : x.toInt < lo ∨ hi < x.toInt
    · exact lv_tableOut hB.1 hB.2.1 hd hx (tgt := ((pc : Int) + df).toNat) (by omega) (h1 hx H locs cells slots ls hl hP hz hS hc hs)
    · have hj : (x.toInt - lo).toNat < os.size := by omega
      have ho : os[(x.toInt - lo).toNat]? = some os[(x.toInt - lo).toNat] := Array.getElem?_eq_getElem hj
      have ho2 : os.toList[(x.toInt - lo).toNat]? = some os[(x.toInt - lo).toNat] := by rw [Array.getElem?_toList]; exact ho
      have hpos := ht.2 _ (List.mem_of_getElem? ho2)
      refine lv_tableIn hB.1 hB.2.1 hd (fun q => hx (Or.inl q)) (fun q => hx (Or.inr q)) ho (tgt := ((pc : Int) + os[(x.toInt - lo).toNat]).toNat) (by omega) ?_
      exact swt_find lo _ h3 _ _ ho2 (by omega) H locs cells slots ls hl hP hz hS hc hs
  · exact h.elim
end SND3
