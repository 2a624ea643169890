section SND8
variable {G : Gx} {d : Nat} {M : MI} {MC MS : Nat} {p : Program} {e : Env} {R : Room} {s : State} {m : MethodId} {args : Array Value} {below : List Frame} {meth : Method} {c : Code} {Qs : State → Prop} {Qa : Option Value → List Sh → Mem → Prop}
/-- Z holds wherever a stretch of code, walked, comes to places where it is to hold -/
def Closed (G : Gx) (d : Nat) (M : MI) (Qa : Option Value → List Sh → Mem → Prop) (Z : Kt) : Prop := ∀ (n : Nat) (stops : List Nat) (pc : Nat) (loc : XV) (st : List Value) (lay : List Sh) (μ : Mem) (bc bs : Nat), wp G d M Qa Z stops n pc loc st lay μ bc bs → Z pc loc st lay μ bc bs
theorem VZ_closed (hB : Bd G d M MC MS p R s m args meth c) (hR : RetOK G M MC MS p e R s m args below meth c Qs Qa) (hin2 : (inf M).2.2.2.1 = 2 → meth.name = "<init>") : Closed G d M Qa (VZ G M MC MS p e R s m args below meth c Qs) := by
  intro n stops
  induction n with
  | zero => intro pc loc st lay μ bc bs h; exact h
  | succ n ih =>
    intro pc loc st lay μ bc bs h
    unfold wp at h
    split at h
    · rename_i i len t v hd
      refine ex_sound hB hR hin2 hd (exec1_m (fun pc loc st lay μ bc bs q => ?_) h)
      cases hs : stops.elem pc with
      | true => rw [hs] at q; exact q
      | false => rw [hs] at q; exact ih _ _ _ _ _ _ _ q
    · exact h.elim
/-- the locals at a method's start -/
def loc0 (av : List Value) (n : Nat) : XV := (av.flatMap (fun v => if v.category = 2 then [some v, none] else [some v])) ++ List.replicate (n - (av.flatMap (fun v => if v.category = 2 then [some v, none] else [some v])).length) none
theorem lv_args_mem (G : Gx) : ∀ (av : List Value) (i j : Nat) (v : Value), (av.flatMap (fun v => if v.category = 2 then [some v, none] else [some v]))[j]? = some (some v) → (i + j, cv G v) ∈ lv_args i (av.map (cv G))
  | [], _, _, _, h => by simp at h
  | a :: r, i, j, v, h => by
    simp only [List.flatMap_cons] at h
    simp only [List.map_cons, lv_args, cv_cat]
    by_cases hc : a.category = 2
    · rw [if_pos hc] at h ⊢
      match j, h with
      | 0, h =>
        simp at h
        subst h
        exact List.mem_cons_self
      | 1, h => simp at h
      | j + 2, h =>
        have := lv_args_mem G r (i + 2) j v (by simpa using h)
        rw [show i + (j + 2) = i + 2 + j by omega]
        exact List.mem_cons_of_mem _ this
    · rw [if_neg hc] at h ⊢
      match j, h with
      | 0, h =>
        simp at h
        subst h
        exact List.mem_cons_self
      | j + 1, h =>
        have := lv_args_mem G r (i + 1) j v (by simpa using h)
        rw [show i + (j + 1) = i + 1 + j by omega]
        exact List.mem_cons_of_mem _ this
theorem lg_len (G : Gx) : ∀ av : List Value, (lg_sl (av.map (cv G))).length = (av.flatMap (fun v => if v.category = 2 then [some v, none] else [some v])).length
  | [] => rfl
  | a :: r => by
    have ih := lg_len G r
    unfold lg_sl at ih ⊢
    simp only [List.map_cons, List.flatMap_cons, List.length_append, cv_cat, ih]
    split <;> rfl
theorem loc0_ok {av : List Value} {n : Nat} (h : (av.flatMap (fun v => if v.category = 2 then [some v, none] else [some v])).length ≤ n) : Lok G ((lg_sl (av.map (cv G)) ++ List.replicate (n - (lg_sl (av.map (cv G))).length) Slot.unset).toArray) n (loc0 av n) := by
  have h1 := lv_entry (av.map (cv G)) (n := n) (by rw [lg_len]; exact h)
  refine ⟨⟨h1.1, h1.2.1, fun q hq => h1.2.2 q ?_⟩, by unfold loc0; rw [List.length_append, List.length_replicate]; omega⟩
  obtain ⟨v, hv1, hv2⟩ := lvl_mem.mp hq
  unfold loc0 at hv1
  by_cases hl : q.1 < (av.flatMap (fun v => if v.category = 2 then [some v, none] else [some v])).length
  · rw [List.getElem?_append_left hl] at hv1
    have := lv_args_mem G av 0 q.1 v hv1
    rw [Nat.zero_add] at this
    have e : q = (q.1, cv G v) := Prod.ext rfl hv2
    rw [e]
    exact this
  · rw [List.getElem?_append_right (by omega), List.getElem?_replicate] at hv1
    split at hv1 <;> simp at hv1
/-- A CONTRACT OUT OF A WALK -/
theorem KC_intro {N : MI} {av : List Value} {lay : List Sh} {μ : Mem} {bc bs : Nat} {Q : Option Value → List Sh → Mem → Nat → Nat → Prop} (cc ss : Nat) (hm : mokD N) (h99 : N.1 ≠ 99) (h9 : (inf N).2.1 ≠ 9) (hc : cc ≤ bc) (hs : ss ≤ bs) (hlen : (av.flatMap (fun v => if v.category = 2 then [some v, none] else [some v])).length ≤ N.ml)
    (h : ∀ Z : Kt, Closed G d N (fun r lay' μ' => Q r lay' μ' (bc - cc) (bs - ss)) Z → Z 0 (loc0 av N.ml) [] lay μ cc ss) : KC G d N av lay μ bc bs Q := by
  refine ⟨cc, ss, hc, hs, ?_⟩
  obtain ⟨m1, m2, m3, m4, m5, m6, m7, m8, m9, m10, m11, m12⟩ := mok_facts hm
  unfold Kx
  refine Met.ofW (cc := N.cd) (maxL := N.ml) (ret := N.rt) m6 rfl ?_
  intro p e s m args below meth c s₁ B hml hv
  obtain ⟨hargs, hP, hz, hK, hXW⟩ := hv
  have hts : ∀ w ∈ gtbl, w.before args s = true := fun w hw => atoms_spec (ws := .code N.yn N.cd N.ml N.rt :: gtbl) B.pre w (List.mem_cons_of_mem _ hw)
  have hB : Bd G d N cc ss p (headSpec (.code N.yn N.cd N.ml N.rt :: gtbl) { frames := d, cells := cc, slots := ss, locals := 64 * d }).room s m args meth c :=
    ⟨B.exec, B.bytes, hml, findClass_of_methodNamed B.named, hts, hK, hXW, fun hn => (name_of_methodNamed B.named B.method).1.trans hn, m9, by rw [hz]; omega, Nat.le_refl _, Nat.le_refl _, rfl, rfl, fun q => absurd q h99⟩
  have hret : RetOK G N cc ss p e (headSpec (.code N.yn N.cd N.ml N.rt :: gtbl) { frames := d, cells := cc, slots := ss, locals := 64 * d }).room s m args below meth c (MQ below (KQ G (inf N).2.1 (fun r lay' μ' => Q r lay' μ' (bc - cc) (bs - ss))) args s cc ss (fun q => G.z ≤ q)) (fun r lay' μ' => Q r lay' μ' (bc - cc) (bs - ss)) := by
    intro v lay' μ' H locs cells slots ls pc hq hi hP' hz' hS' hc' hs'
    have hf : ∀ q ∈ locs, G.z ≤ q.base := hS'.2.2
    have hF : ∀ t : State, t.heap = H → va_F (fun q => G.z ≤ q) s t := fun t ht => by rw [← ht] at hS'; exact ⟨hS'.1, hS'.2.1⟩
    have hrep : ∀ t : State, t.heap = H → s.WarmedH t.vm → Rep G lay' μ' t := fun t ht hW => rep_pre hB hP' hz' t ht hW
    refine W.widen (k := cc) (n := ss) hc' hs' ?_
    have hlocks := B.notSynchronized
    match v, hi with
    | none, hi =>
      have hrt : N.rt = none := by
        rw [m12] at hi
        have h2 := hi.2
        revert h2
        split <;> intro h2 <;> first | assumption | (cases h2)
      refine W.vret B.exec B.bytes (by rw [B.returns, hrt]) (fun t ht hW => ?_) hf hi.1
      rw [hi.2]
      exact ⟨⟨(lay', μ'), rfl, hq, hrep t ht hW⟩, hF t ht⟩
    | some (.int x), hi =>
      have hrt : ∃ ty, N.rt = some ty ∧ narrow ty (.int x) = .int x ∧ ((inf N).2.1 = 1 ∨ (inf N).2.1 = 3) := by
        have h2 := hi.2
        unfold rok at h2
        rcases h2 with h2 | ⟨h2, h3⟩
        · rw [h2] at m12
          revert m12
          split <;> intro m12 <;> first | (cases m12; done) | skip
          rename_i hh
          exact ⟨.int, hh, rfl, Or.inl h2⟩
        · rw [h2] at m12
          revert m12
          split <;> intro m12 <;> first | (cases m12; done) | skip
          rename_i hh
          exact ⟨.boolean, hh, by rcases h3 with rfl | rfl <;> rfl, Or.inr h2⟩
      obtain ⟨ty, hrt, hnar, hrk⟩ := hrt
      refine W.zret B.exec B.bytes (by rw [B.returns, hrt]) hnar (fun t ht hW => ?_) hf hi.1
      rcases hrk with hrk | hrk <;> rw [hrk] <;> exact ⟨⟨x, (lay', μ'), rfl, hq, hrep t ht hW⟩, hF t ht⟩
    | some (.long x), hi =>
      have hrt : N.rt = some .long := by
        rw [m12] at hi
        have h2 := hi.2
        revert h2
        split <;> intro h2 <;> first | assumption | (cases h2)
      refine W.lret B.exec B.bytes (by rw [B.returns, hrt]) (fun t ht hW => ?_) hf hi.1
      rw [hi.2]
      exact ⟨⟨x, (lay', μ'), rfl, hq, hrep t ht hW⟩, hF t ht⟩
  have key := h _ (VZ_closed hB hret (fun h2 => (name_of_methodNamed B.named B.method).1.trans (m10 h2)))
  have hE : entryFrame m args N.ml = F0 m 0 ((lg_sl (av.map (cv G)) ++ List.replicate (N.ml - (lg_sl (av.map (cv G))).length) Slot.unset).toArray) [] := by
    rw [show args = (av.map (cv G)).toArray from hargs]
    exact lg_entry_eq m _ _
  rw [hE]
  exact key s.heap [] 0 0 _ (loc0_ok hlen) hP hz va_S.rf (by omega) (by omega)
end SND8
