theorem fTab_nf : fTab.all (fun q => q.2.2.2.2.1 == 2 || !(TT q.2.2.1 q.2.2.2.1).2.2.2) = true := by decide +kernel
theorem fTab_no : fTab.all (fun q => q.2.2.2.2.2.1 == 0 || q.1 != q.2.2.1) = true := by decide +kernel
def isRT : FieldType → Bool
  | .object _ => true
  | .array _ => true
  | _ => false
theorem fTab_rf : fTab.all (fun q => q.2.2.2.2.1 != 2 || isRT (tyT q.2.2.1 q.2.2.2.1)) = true := by decide +kernel
theorem fl_spec {o n ci kk kd : Nat} (h : fl o n = some (ci, kk, kd)) : ∃ nst p, (o, n, ci, kk, kd, nst, p) ∈ fTab := by
  unfold fl at h
  obtain ⟨q, hq, hqe⟩ := Option.map_eq_some_iff.mp h
  have h1 := List.find?_some hq
  simp only [Bool.and_eq_true, beq_iff_eq] at h1
  have h2 := List.mem_of_find?_eq_some hq
  obtain ⟨a, b, c, e, f, g, i⟩ := q
  simp only [Prod.mk.injEq] at hqe
  obtain ⟨rfl, rfl, rfl⟩ := hqe
  obtain ⟨rfl, rfl⟩ := h1
  exact ⟨g, i, h2⟩
theorem fl_facts {o n ci kk kd nst p : Nat} (h : (o, n, ci, kk, kd, nst, p) ∈ fTab) : (nst = 0 → Cond.fieldLink (cn o) n (cn ci) (TT ci kk).2.1 (TT ci kk).2.2.1 ∈ gtbl) ∧ (nst ≠ 0 → Cond.fieldLinkNest (cn o) n (cn ci) (TT ci kk).2.1 (TT ci kk).2.2.1 "BellRibbons" ∈ nestW) ∧ kk < NF ci ∧ ci < 12 ∧ (TT ci kk).1 = cn ci ∧ (kdT ci)[kk]? = some kd ∧ kd = (match tyT ci kk with | .int => 0 | .long => 1 | .boolean => 3 | _ => 2) := by
  have h1 := List.all_eq_true.mp fTab_ok _ h
  unfold flkB at h1
  simp only [Bool.and_eq_true, decide_eq_true_eq] at h1
  obtain ⟨⟨⟨⟨⟨⟨⟨g1, g2⟩, g3⟩, g4⟩, g5⟩, g6⟩, g7⟩, g8⟩ := h1
  refine ⟨fun e => ?_, fun e => ?_, g3, g4, g5, g6, g8⟩
  · rw [if_pos e] at g1
    exact gat_mem g1
  · rw [if_neg e] at g1
    exact List.mem_of_getElem? (of_decide_eq_true g1)
theorem fvs_get {G : Gx} {ci : Nat} {rs : List (Option Nat)} {a : Nat} {μ : Mem} {k kd : Nat} (h : (kdT ci)[k]? = some kd) : (fvs G ci rs a μ)[k]? = some (fv G rs a μ kd k) := by
  unfold fvs
  rw [List.getElem?_map, List.getElem?_zipIdx, h]
  simp
theorem fvs_len {G : Gx} {ci : Nat} {rs : List (Option Nat)} {a : Nat} {μ : Mem} : (fvs G ci rs a μ).length = (kdT ci).length := by simp [fvs]
theorem fvs_set {G : Gx} {ci : Nat} {rs rs' : List (Option Nat)} {a : Nat} {μ μ' : Mem} {k kd : Nat} {v : Value} (h : (kdT ci)[k]? = some kd) (hv : fv G rs' a μ' kd k = v) (ho : ∀ j kj, j ≠ k → fv G rs' a μ' kj j = fv G rs a μ kj j) : (fvs G ci rs a μ).set k v = fvs G ci rs' a μ' := by
  have hl : k < (kdT ci).length := (List.getElem?_eq_some_iff.mp h).1
  apply List.ext_getElem?
  intro j
  by_cases e : j = k
  · subst e
    rw [List.getElem?_set_self (by rw [fvs_len]; exact hl), fvs_get h, hv]
  · rw [List.getElem?_set_ne (Ne.symm e)]
    cases e2 : (kdT ci)[j]? with
    | none =>
      have h1 := List.getElem?_eq_none_iff.mp e2
      rw [List.getElem?_eq_none (by rw [fvs_len]; exact h1), List.getElem?_eq_none (by rw [fvs_len]; exact h1)]
    | some kj => rw [fvs_get e2, fvs_get e2, ho j kj e]
theorem ent_obj {G : Gx} {sh : Sh} {a ci : Nat} {μ : Mem} (h : sh.1 = ci + 6) : ent G sh a μ = .inr (ci, fvs G ci sh.2.2 a μ) := by
  obtain ⟨k, n, rs⟩ := sh
  cases h
  rfl
theorem up_P {G : Gx} {lay lay' : List Sh} {μ μ' : Mem} {H H1 : Heap} {a : Nat} (hP : va_P G.D vwCl (wl G lay μ) H) (hk : ∀ b s, b ≠ a → lay'[b]? = some s → lay[b]? = some s ∧ ent G s b μ' = ent G s b μ) (hn : ∀ s, lay'[a]? = some s → va_at G.D vwCl (G.z + a, ent G s a μ') H1) (oq : ∀ q : Nat, q ≠ G.z + a → H1[q]? = H[q]?) : va_P G.D vwCl (wl G lay' μ') H1 := by
  intro k q hq
  obtain ⟨s, hs, rfl⟩ := wl_inv hq
  by_cases e : k = a
  · subst e
    exact hn s hs
  · obtain ⟨h1, h2⟩ := hk k s e hs
    rw [h2]
    exact (hP k _ (wl_get h1)).kept (oq _ (by omega))
theorem set_i (cA : ClassId) (n : Nat) (f : Nat → Int32) (i : Nat) (x : Int32) : (vp_cell cA (n, .inl f)).setSlot i (.int x) = vp_cell cA (n, .inl (upd f i x)) := by
  rw [vp_cell_i, vp_cell_i, arrV_store]
  refine congrArg (arrV cA n) (funext fun q => ?_)
  by_cases hq : q = i
  · subst hq
    simp [updV, upd]
  · simp [updV, upd, hq]
theorem set_l (cA : ClassId) (n : Nat) (f : Nat → Int64) (i : Nat) (x : Int64) : (vp_cell cA (n, .inr (.inl f))).setSlot i (.long x) = vp_cell cA (n, .inr (.inl (vp_updL f i x))) := by
  show (arrV cA n (fun j => .long (f j))).setSlot i (.long x) = arrV cA n (fun j => .long (vp_updL f i x j))
  rw [arrV_store]
  refine congrArg (arrV cA n) (funext fun q => ?_)
  by_cases hq : q = i
  · subst hq
    simp [updV, vp_updL]
  · simp [updV, vp_updL, hq]
theorem nar_z (x : Int32) : narrow .boolean (.int x) = .int (vp_nar .boolean x) := rfl
theorem nar_b (x : Int32) : narrow .byte (.int x) = .int (vp_nar .byte x) := rfl
section SND2
variable {G : Gx} {d : Nat} {M : MI} {MC MS : Nat} {p : Program} {e : Env} {R : Room} {s : State} {m : MethodId} {args : Array Value} {below : List Frame} {meth : Method} {c : Code} {Qs : State → Prop} {Qa : Option Value → List Sh → Mem → Prop} {pc : Nat} {loc : XV} {st : List Value} {lay : List Sh} {μ : Mem} {bc bs : Nat}
theorem Bd.own (hB : Bd G d M MC MS p R s m args meth c) : s.vm.findClass (cn M.1) = some m.cls := by
  rw [hB.2.2.2.2.2.2.2.2.1]
  exact hB.2.2.2.1
theorem Bd.ts (hB : Bd G d M MC MS p R s m args meth c) : ∀ w ∈ gtbl, w.before args s = true := hB.2.2.2.2.1
theorem Bd.K (hB : Bd G d M MC MS p R s m args meth c) : va_K G.D vwCl (tys G) s := hB.2.2.2.2.2.1
theorem Bd.xw (hB : Bd G d M MC MS p R s m args meth c) : XW s := hB.2.2.2.2.2.2.1
theorem s_getfield (hB : Bd G d M MC MS p R s m args meth c) {n : Nat} (hd : decode M.cd pc = .ok (.getfield n, 3)) (h : match fl (inf M).1 n with
    | some (ci, kk, kd) => pr st (fun a r => match lay[a]? with
      | some sh => sh.1 = ci + 6 ∧ gfld kd sh a μ kk (fun v => VZ G M MC MS p e R s m args below meth c Qs (pc + 3) loc (v :: r) lay μ bc bs)
      | none => False)
    | none => False) : VZ G M MC MS p e R s m args below meth c Qs pc loc st lay μ bc bs := by
  split at h
  · rename_i ci kk kd hf
    unfold pr at h
    split at h
    · rename_i a r
      split at h
      · rename_i sh hsh
        obtain ⟨nst, pp, hm⟩ := fl_spec hf
        obtain ⟨f1, f2, f3, f4, f5, f6, f7⟩ := fl_facts hm
        intro H locs cells slots ls hl hP hz hS hc hs
        have he := wl_get (G := G) (μ := μ) hsh
        rw [ent_obj h.1] at he
        have hv := fvs_get (G := G) (rs := sh.2.2) (a := a) (μ := μ) f6
        have go : ∀ v, fv G sh.2.2 a μ kd kk = cv G v → W p G.1 e R s m args below meth c H locs cells slots Qs (F0 m (pc + 3) ls ((v :: r).map (cv G))) → W p G.1 e R s m args below meth c H locs cells slots Qs (F0 m pc ls ((Value.ref a :: r).map (cv G))) := by
          intro v e1 k
          by_cases hn0 : nst = 0
          · exact va_get hB.1 hB.2.1 hB.ts (inTT ci f4) hB.own hB.K hP a he (vwCl_at ci f4) kk f3 (hB.ts _ (f1 hn0)) (fun x hx => by rw [f5] at hx; exact hx) (v := cv G v) (by rw [hv, e1]) hd k
          · exact va_getN hB.1 hB.2.1 hB.ts (inTT ci f4) hB.own hB.K hP a he (vwCl_at ci f4) kk f3 (va_Nw.use rfl (hB.xw.1 _ (f2 hn0))) (fun x hx => by rw [f5] at hx; exact hx) (v := cv G v) (by rw [hv, e1]) hd k
        have h2 := h.2
        unfold gfld at h2
        split at h2
        · exact go _ rfl (h2 H locs cells slots ls hl hP hz hS hc hs)
        · refine go _ ?_ (h2 H locs cells slots ls hl hP hz hS hc hs)
          unfold fv
          cases hr : sh.2.2.getD kk none with
          | none => rfl
          | some b => rfl
        · rename_i hk1 hk2
          refine go _ ?_ (h2 H locs cells slots ls hl hP hz hS hc hs)
          unfold fv
          split
          · exact absurd rfl hk1
          · exact absurd rfl hk2
          · rfl
      · exact h.elim
    · exact h.elim
  · exact h.elim
theorem s_putfield (hB : Bd G d M MC MS p R s m args meth c) {n : Nat} (hd : decode M.cd pc = .ok (.putfield n, 3)) (hin2 : (inf M).2.2.2.1 = 2 → meth.name = "<init>") (h : match fl (inf M).1 n with
    | some (ci, kk, kd) => pfld kd st (fun v a r => match lay[a]? with
      | some sh => sh.1 = ci + 6 ∧ (kd = 2 → (inf M).2.2.2.1 = 2 ∧ (inf M).1 = ci ∨ (TT ci kk).2.2.2 = false) ∧ sfld lay μ sh a kk v (fun lay' μ' => VZ G M MC MS p e R s m args below meth c Qs (pc + 3) loc r lay' μ' bc bs)
      | none => False)
    | none => False) : VZ G M MC MS p e R s m args below meth c Qs pc loc st lay μ bc bs := by
  split at h
  · rename_i ci kk kd hf
    obtain ⟨nst, pp, hm⟩ := fl_spec hf
    obtain ⟨f1, f2, f3, f4, f5, f6, f7⟩ := fl_facts hm
    have f8 := List.all_eq_true.mp fTab_nf _ hm
    have f9 := List.all_eq_true.mp fTab_no _ hm
    have f10 := List.all_eq_true.mp fTab_rf _ hm
    simp only [Bool.or_eq_true, beq_iff_eq, bne_iff_ne, ne_eq, Bool.not_eq_true'] at f8 f9 f10
    have go : ∀ (v : Value) (a : Nat) (r : List Value) (sh : Sh) (lay' : List Sh) (μ' : Mem), lay[a]? = some sh → sh.1 = ci + 6 → (kd = 2 → (inf M).2.2.2.1 = 2 ∧ (inf M).1 = ci ∨ (TT ci kk).2.2.2 = false) → narrow (tyT ci kk) (cv G v) = cv G v → fits (tyT ci kk) (cv G v) = true →
        lay'.length = lay.length → (∀ b s, b ≠ a → lay'[b]? = some s → lay[b]? = some s ∧ ent G s b μ' = ent G s b μ) → (∀ s, lay'[a]? = some s → ent G s a μ' = .inr (ci, (fvs G ci sh.2.2 a μ).set kk (cv G v))) →
        VZ G M MC MS p e R s m args below meth c Qs (pc + 3) loc r lay' μ' bc bs → VZ G M MC MS p e R s m args below meth c Qs pc loc (v :: .ref a :: r) lay μ bc bs := by
      intro v a r sh lay' μ' hsh hsc hfin hnw hft hln hkp hnw2 k H locs cells slots ls hl hP hz hS hc hs
      have he := wl_get (G := G) (μ := μ) hsh
      rw [ent_obj hsc] at he
      have hct := vwCl_at ci f4
      have hap := va_apart (own := cn M.1) hB.ts (inTT ci f4) (tyT ci) (tyTT ci f4) (nmTT ci f4) hB.K hct
      obtain ⟨q, h1, cell, q1, q2, q3, q4⟩ := hP a _ he
      have hr : q = (cn ci, TT ci, NF ci) := Option.some.inj (h1.symm.trans hct)
      subst hr
      obtain ⟨hSl, hfc, kC, hkC, hkind⟩ := hB.K.1 ci _ hct
      obtain ⟨cf, kf, fi, f, hi, hsl⟩ := hSl kk f3
      have hlay := hB.ts _ (inTT ci f4 _ (u_in_lay f3))
      have hst := (u_facts hfc hkC (u_lays hB.ts (inTT ci f4) f3) hi).1
      have hlk : kk < (fvs G ci sh.2.2 a μ).length := by rw [fvs_len]; exact (List.getElem?_eq_some_iff.mp f6).1
      have hpd := tyTT ci f4 kk f3
      have fin : ∀ H1 : Heap, H1[G.z + a]? = some (cell.setSlot f.slot (cv G v)) → H1.size = H.size → (∀ q : Nat, q ≠ G.z + a → H1[q]? = H[q]?) → W p G.1 e R s m args below meth c H1 (locs ++ [⟨G.z + a, f.slot⟩]) cells slots Qs (F0 m (pc + 3) ls (r.map (cv G))) := by
        intro H1 e1 e2 e3
        rw [hsl] at e1 ⊢
        refine k H1 _ cells slots ls hl (up_P hP hkp (fun s hs => ?_) e3) (by rw [e2, hz, hln]) (hS.put e2 e3 (Nat.le_add_right _ _)) hc hs
        rw [hnw2 s hs]
        exact ⟨_, hct, t_OB.to (V := updV (vp_V (fvs G ci sh.2.2 a μ)) kk (cv G v)) ⟨_, e1, q2, q3, t_set q4 hap f3 (cv G v)⟩ (fun j _ => vp_updV_set hlk (cv G v) j)⟩
      have hsame : ∀ x, s.fieldFound? (TT ci kk).1 (TT ci kk).2.1 (TT ci kk).2.2.1 = some x → s.fieldFound? (cn ci) (TT ci kk).2.1 (TT ci kk).2.2.1 = some x := fun x hx => by rw [f5] at hx; exact hx
      unfold u_lay at hlay
      by_cases hff : (TT ci kk).2.2.2 = true
      · have hkd2 : kd = 2 := by
          rcases f8 with q | q
          · exact q
          · rw [hff] at q; cases q
        rcases hfin hkd2 with ⟨g1, g2⟩ | g
        · have hn0 : nst = 0 := by
            rcases f9 with q | q
            · exact q
            · exact absurd g2 q
          rw [if_pos hff] at hlay
          have hcf : m.cls = cf := by
            obtain ⟨_, _, c', _, _, _, -, -, hf', -, -, -, hown2, -⟩ := Cond.laysFinal_spec hlay
            have e1 : c' = cf := by have := hi.symm.trans hf'; simp at this; exact this.1.symm
            rw [f5] at hown2
            have g3 : M.1 = ci := g2
            have how := hB.own
            rw [g3] at how
            rw [← e1]; exact Option.some.inj (how.symm.trans hown2)
          have h6 := u_fits hfc hkC hkind (Or.inr hlay) hi hpd hnw hft
          exact W.putFinK hB.1 hB.2.1 hB.own (hB.ts _ (f1 hn0)) (hsame _ hi) hst hcf (hin2 g1) (by rw [q2]; exact h6) q1 q3 (by rw [hsl]; exact k2_hasslot (q4 kk f3)) rfl rfl hd fin
        · rw [hff] at g; cases g
      · rw [if_neg hff] at hlay
        have h6 := u_store hfc hkC hkind hlay hi hpd hnw hft
        by_cases hn0 : nst = 0
        · exact W.putK hB.1 hB.2.1 (f := f) ⟨hB.own, hB.ts _ (f1 hn0), ⟨_, _, _, hsame _ hi⟩, hst⟩ (by rw [q2]; exact h6) q1 q3 (by rw [hsl]; exact k2_hasslot (q4 kk f3)) rfl rfl hd fin
        · exact va_WputK hB.1 hB.2.1 (f := f) hB.own (va_Nw.use rfl (hB.xw.1 _ (f2 hn0))) (hsame _ hi) hst (by rw [q2]; exact h6) q1 q3 (by rw [hsl]; exact k2_hasslot (q4 kk f3)) rfl rfl hd fin
    unfold pfld at h
    split at h
    · rename_i x a r
      obtain ⟨h0, h⟩ := h
      split at h
      · rename_i sh hsh
        obtain ⟨h1, h2, h3⟩ := h
        unfold sfld at h3
        refine go _ a r sh _ _ hsh h1 h2 ?_ ?_ rfl (fun b s hb hs => ⟨hs, si_ent b s hb⟩) (fun s hs => ?_) h3
        · rcases h0 with h0 | ⟨h0, h5⟩
          · rw [h0] at f7
            cases hty : tyT ci kk <;> rw [hty] at f7 <;> first | rfl | (simp at f7)
          · rw [h0] at f7
            cases hty : tyT ci kk <;> rw [hty] at f7 <;> first | (simp at f7; done) | skip
            rcases h5 with rfl | rfl <;> rfl
        · rcases h0 with h0 | ⟨h0, h5⟩
          · rw [h0] at f7
            cases hty : tyT ci kk <;> rw [hty] at f7 <;> first | rfl | (simp at f7)
          · rw [h0] at f7
            cases hty : tyT ci kk <;> rw [hty] at f7 <;> first | (simp at f7; done) | skip
            rcases h5 with rfl | rfl <;> rfl
        · rw [hsh] at hs
          cases hs
          rw [ent_obj h1, fvs_set f6 (rs' := sh.2.2) (μ' := si μ a kk x)]
          · rcases h0 with h0 | ⟨h0, -⟩ <;> subst h0 <;> simp [fv, si, upd, cv]
          · intro j kj hj
            unfold fv si
            split <;> simp [upd, hj]
      · exact h.elim
    · rename_i x a r
      obtain ⟨h0, h⟩ := h
      split at h
      · rename_i sh hsh
        obtain ⟨h1, h2, h3⟩ := h
        unfold sfld at h3
        subst h0
        refine go _ a r sh _ _ hsh h1 h2 ?_ ?_ rfl (fun b s hb hs => ⟨hs, sl_ent b s hb⟩) (fun s hs => ?_) h3
        · cases hty : tyT ci kk <;> rw [hty] at f7 <;> first | rfl | (simp at f7)
        · cases hty : tyT ci kk <;> rw [hty] at f7 <;> first | rfl | (simp at f7)
        · rw [hsh] at hs
          cases hs
          rw [ent_obj h1, fvs_set f6 (rs' := sh.2.2) (μ' := sl μ a kk x)]
          · simp [fv, sl, vp_updL, cv]
          · intro j kj hj
            unfold fv sl
            split <;> simp [vp_updL, hj]
      · exact h.elim
    · rename_i x a r
      obtain ⟨h0, h⟩ := h
      split at h
      · rename_i sh hsh
        obtain ⟨h1, h2, h3⟩ := h
        unfold sfld at h3
        subst h0
        have hal : a < lay.length := (List.getElem?_eq_some_iff.mp hsh).1
        have hrt : isRT (tyT ci kk) = true := by
          rcases f10 with q | q
          · exact absurd rfl q
          · exact q
        refine go _ a r sh _ _ hsh h1 h2 ?_ ?_ (List.length_set ..) (fun b s hb hs => ⟨by rw [List.getElem?_set_ne (Ne.symm hb)] at hs; exact hs, rfl⟩) (fun s hs => ?_) h3.2
        · cases hty : tyT ci kk <;> rw [hty] at hrt <;> first | rfl | cases hrt
        · cases hty : tyT ci kk <;> rw [hty] at hrt <;> first | rfl | cases hrt
        · rw [List.getElem?_set_self hal] at hs
          cases hs
          rw [ent_obj (by exact h1), fvs_set f6 (rs' := sh.2.2.set kk (some x)) (μ' := μ)]
          · simp [fv, cv, va_rf, List.getD_eq_getElem?_getD, List.getElem?_set_self h3.1]
          · intro j kj hj
            unfold fv
            split <;> simp [List.getD_eq_getElem?_getD, List.getElem?_set_ne (Ne.symm hj)]
      · exact h.elim
    · exact h.elim
  · exact h.elim
end SND2
