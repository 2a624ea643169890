/-! THE ABSTRACT MACHINE: heap as a list of shapes and two maps of numbers; what an instruction asks; that it's sound -/
abbrev XV : Type := List (Option Value)
abbrev Sh : Type := Nat × Nat × List (Option Nat)
abbrev Mem : Type := (Nat → Nat → Int32) × (Nat → Nat → Int64)
/-- launch, tables, kinds of arrays, base, script: its cell, length, ints -/
abbrev Gx : Type := Launch × va_G × (Nat → ClassId) × Nat × Nat × Nat × (Nat → Int32)
def Gx.D (G : Gx) : va_G := G.2.1
def Gx.T (G : Gx) : Nat → ClassId := G.2.2.1
def Gx.z (G : Gx) : Nat := G.2.2.2.1
def Gx.sb (G : Gx) : Nat := G.2.2.2.2.1
def Gx.sL (G : Gx) : Nat := G.2.2.2.2.2.1
def Gx.xs (G : Gx) : Nat → Int32 := G.2.2.2.2.2.2
def cv (G : Gx) (v : Value) : Value := match v with
  | .ref a => .ref (G.z + a)
  | .float _ => .ref G.sb
  | v => v
theorem cv_cat (G : Gx) (v : Value) : (cv G v).category = v.category := by cases v <;> rfl
def gi (μ : Mem) (a k : Nat) : Int32 := μ.1 a k
def gl (μ : Mem) (a k : Nat) : Int64 := μ.2 a k
def si (μ : Mem) (a k : Nat) (x : Int32) : Mem := (fun b => if b = a then upd (μ.1 b) k x else μ.1 b, μ.2)
def sl (μ : Mem) (a k : Nat) (x : Int64) : Mem := (μ.1, fun b => if b = a then vp_updL (μ.2 b) k x else μ.2 b)
/-- the cell a is new: zeros -/
def clr (μ : Mem) (a : Nat) : Mem := (fun b => if b = a then fun _ => 0 else μ.1 b, fun b => if b = a then fun _ => 0 else μ.2 b)
/-- the cells from a on, n of them, are new -/
def clrN (μ : Mem) (a n : Nat) : Mem := (fun b => if a ≤ b ∧ b < a + n then fun _ => 0 else μ.1 b, fun b => if a ≤ b ∧ b < a + n then fun _ => 0 else μ.2 b)
/-- the content of the array a is f -/
def sar (μ : Mem) (a : Nat) (f : Nat → Int32) : Mem := (fun b => if b = a then f else μ.1 b, μ.2)
def fv (G : Gx) (rs : List (Option Nat)) (a : Nat) (μ : Mem) (kd k : Nat) : Value := match kd with
  | 1 => .long (μ.2 a k)
  | 2 => va_rf ((rs.getD k none).map (fun b => G.z + b))
  | _ => .int (μ.1 a k)
def fvs (G : Gx) (ci : Nat) (rs : List (Option Nat)) (a : Nat) (μ : Mem) : List Value := (kdT ci).zipIdx.map (fun p => fv G rs a μ p.1 p.2)
def grd (G : Gx) (w : Nat) (rs : List (Option Nat)) : Nat → Option Nat := fun i => match rs with
  | some b :: some c :: _ => if i < c then some (G.z + (b + w * i)) else none
  | _ => none
def ent (G : Gx) (sh : Sh) (a : Nat) (μ : Mem) : va_E := match sh.1 with
  | 0 => .inl (G.T 0, sh.2.1, .inl (μ.1 a))
  | 1 => .inl (G.T 1, sh.2.1, .inl (μ.1 a))
  | 2 => .inl (G.T 2, sh.2.1, .inl (μ.1 a))
  | 3 => .inl (G.T 3, sh.2.1, .inr (.inl (μ.2 a)))
  | 4 => .inl (G.T 4, sh.2.1, .inr (.inr (.inr (.inr (grd G 1 sh.2.2)))))
  | 5 => .inl (G.T 5, sh.2.1, .inr (.inr (.inr (.inr (grd G 5 sh.2.2)))))
  | c + 6 => .inr (c, fvs G c sh.2.2 a μ)
def wl (G : Gx) (lay : List Sh) (μ : Mem) : va_W := lay.zipIdx.map (fun p => (G.z + p.2, ent G p.1 p.2 μ))
def tys (G : Gx) : List (ClassId × FieldType) := [(G.T 0, .int), (G.T 1, .boolean), (G.T 2, .byte), (G.T 3, .long), (G.T 4, .array .int), (G.T 5, .object "BellRibbons$Scale")]
theorem wl_get {G : Gx} {lay : List Sh} {μ : Mem} {a : Nat} {sh : Sh} (h : lay[a]? = some sh) : (wl G lay μ)[a]? = some (G.z + a, ent G sh a μ) := by
  unfold wl
  rw [List.getElem?_map, List.getElem?_zipIdx, h]
  simp
theorem wl_inv {G : Gx} {lay : List Sh} {μ : Mem} {a : Nat} {q : Nat × va_E} (h : (wl G lay μ)[a]? = some q) : ∃ sh, lay[a]? = some sh ∧ q = (G.z + a, ent G sh a μ) := by
  unfold wl at h
  rw [List.getElem?_map, List.getElem?_zipIdx] at h
  cases e : lay[a]? with
  | none => rw [e] at h; simp at h
  | some sh => rw [e] at h; simp at h; exact ⟨sh, rfl, h.symm⟩
theorem wl_len {G : Gx} {lay : List Sh} {μ : Mem} : (wl G lay μ).length = lay.length := by simp [wl]
theorem wl_set {G : Gx} {lay : List Sh} {μ μ' : Mem} {a : Nat} {sh sh' : Sh} (h : lay[a]? = some sh) (hk : ∀ b s, b ≠ a → lay[b]? = some s → ent G s b μ' = ent G s b μ) : (wl G lay μ).set a (G.z + a, ent G sh' a μ') = wl G (lay.set a sh') μ' := by
  have hl : a < lay.length := (List.getElem?_eq_some_iff.mp h).1
  apply List.ext_getElem?
  intro i
  by_cases e : i = a
  · subst e
    rw [List.getElem?_set_self (by rw [wl_len]; exact hl), wl_get (sh := sh') (by rw [List.getElem?_set_self hl])]
  · rw [List.getElem?_set_ne (Ne.symm e)]
    cases e2 : lay[i]? with
    | none =>
      have h1 : lay.length ≤ i := List.getElem?_eq_none_iff.mp e2
      rw [List.getElem?_eq_none (by rw [wl_len]; exact h1), List.getElem?_eq_none (by rw [wl_len, List.length_set]; exact h1)]
    | some s => rw [wl_get e2, wl_get (sh := s) (by rw [List.getElem?_set_ne (Ne.symm e)]; exact e2), hk i s e e2]
theorem wl_D (G : Gx) (lay : List Sh) (μ : Mem) : va_D (fun q => G.z ≤ q) (wl G lay μ) := by
  refine ⟨fun i j p q hi hj e => ?_, fun k q hk => ?_⟩
  · obtain ⟨s1, -, rfl⟩ := wl_inv hi
    obtain ⟨s2, -, rfl⟩ := wl_inv hj
    dsimp only at e
    omega
  · obtain ⟨s1, -, rfl⟩ := wl_inv hk
    dsimp only
    omega
theorem wl_app {G : Gx} {lay : List Sh} {μ μ' : Mem} {sh : Sh} (hk : ∀ b s, lay[b]? = some s → ent G s b μ' = ent G s b μ) : wl G (lay ++ [sh]) μ' = wl G lay μ ++ [(G.z + lay.length, ent G sh lay.length μ')] := by
  apply List.ext_getElem?
  intro i
  by_cases e : i < lay.length
  · rw [List.getElem?_append_left (by rw [wl_len]; exact e)]
    obtain ⟨s, hs⟩ : ∃ s, lay[i]? = some s := ⟨_, List.getElem?_eq_getElem e⟩
    rw [wl_get hs, wl_get (sh := s) (by rw [List.getElem?_append_left e]; exact hs), hk i s hs]
  · rw [List.getElem?_append_right (by rw [wl_len]; omega), wl_len]
    by_cases e2 : i = lay.length
    · subst e2
      rw [wl_get (sh := sh) (by simp)]
      simp
    · rw [List.getElem?_eq_none (by rw [wl_len, List.length_append, List.length_singleton]; omega), List.getElem?_eq_none (by simp; omega)]
/-- words of nest mates, of arrays of references: told beside the tables, for they're moved otherwise -/
def XW (U : State) : Prop := (∀ w ∈ nestW, va_Nw w U) ∧ va_AO "BellRibbons$Scale" U ∧ (Cond.arrayOver (.array .int)).before #[] U = true
def Rep (G : Gx) (lay : List Sh) (μ : Mem) (U : State) : Prop := va_P G.D vwCl (wl G lay μ) U.heap ∧ U.heap.size = G.z + lay.length ∧ va_K G.D vwCl (tys G) U ∧ XW U
def KQ (G : Gx) (rk : Nat) (Q : Option Value → List Sh → Mem → Prop) : Array Value → State → Outcome → State → Prop := match rk with
  | 0 => va_Qv (fun u : List Sh × Mem => Q none u.1 u.2) (fun u t => Rep G u.1 u.2 t) (fun q => G.z ≤ q)
  | 2 => va_Ql (fun r (u : List Sh × Mem) => Q (some (.long r)) u.1 u.2) (fun u t => Rep G u.1 u.2 t) (fun q => G.z ≤ q)
  | _ => va_Qi (fun r (u : List Sh × Mem) => Q (some (.int r)) u.1 u.2) (fun u t => Rep G u.1 u.2 t) (fun q => G.z ≤ q)
def Kx (G : Gx) (d : Nat) (N : MI) (av : List Value) (lay : List Sh) (μ : Mem) (c s : Nat) (Q : Option Value → List Sh → Mem → Prop) : Prop :=
  Met G.1 N.yn (.code N.yn N.cd N.ml N.rt :: gtbl) { frames := d, cells := c, slots := s, locals := 64 * d } (va_Pc (av.map (cv G)) (Rep G lay μ)) (KQ G (inf N).2.1 Q) c s (fun q => G.z ≤ q)
/-- the call's contract, with what it may make out of the caller's budget -/
def KC (G : Gx) (d : Nat) (N : MI) (av : List Value) (lay : List Sh) (μ : Mem) (bc bs : Nat) (Q : Option Value → List Sh → Mem → Nat → Nat → Prop) : Prop :=
  ∃ c s, c ≤ bc ∧ s ≤ bs ∧ Kx G d N av lay μ c s (fun r lay' μ' => Q r lay' μ' (bc - c) (bs - s))
-- locals
def isL : Option Value → Bool
  | some v => v.category == 2
  | none => false
def lget : XV → Nat → Option Value
  | [], _ => none
  | a :: _, 0 => a
  | _ :: r, i + 1 => lget r i
def lset : XV → Nat → Value → Option XV
  | [], _, _ => none
  | _ :: r, 0, v => some (some v :: r)
  | a :: r, i + 1, v => (lset r i v).map (fun q => (bif (i == 0) && isL a then none else a) :: q)
def lset2 : XV → Nat → Value → Option XV
  | [], _, _ => none
  | _ :: [], 0, _ => none
  | _ :: _ :: r, 0, v => some (some v :: none :: r)
  | a :: r, i + 1, v => (lset2 r i v).map (fun q => (bif (i == 0) && isL a then none else a) :: q)
theorem lget_at : ∀ (loc : XV) (i : Nat) (v : Value), lget loc i = some v → loc[i]? = some (some v)
  | [], _, _, h => by simp [lget] at h
  | a :: r, 0, v, h => by simp [lget] at h; simp [h]
  | a :: r, i + 1, v, h => by simpa using lget_at r i v h
theorem lset_spec : ∀ (loc : XV) (i : Nat) (v : Value) (loc' : XV), lset loc i v = some loc' → loc'.length = loc.length ∧ i < loc.length ∧ ∀ j w, loc'[j]? = some (some w) → (j = i ∧ w = v) ∨ (j ≠ i ∧ loc[j]? = some (some w) ∧ ¬ (j + 1 = i ∧ w.category = 2))
  | [], _, _, _, h => by simp [lset] at h
  | a :: r, 0, v, loc', h => by
    simp only [lset, Option.some.injEq] at h
    subst h
    refine ⟨rfl, by simp, fun j w hj => ?_⟩
    cases j with
    | zero => simp at hj; exact Or.inl ⟨rfl, hj.symm⟩
    | succ j => exact Or.inr ⟨by omega, by simpa using hj, by omega⟩
  | a :: r, i + 1, v, loc', h => by
    simp only [lset, Option.map_eq_some_iff] at h
    obtain ⟨q, hq, rfl⟩ := h
    obtain ⟨h1, h2, h3⟩ := lset_spec r i v q hq
    refine ⟨by simp [h1], by simp [h2], fun j w hj => ?_⟩
    cases j with
    | zero =>
      right
      by_cases hc : ((i == 0) && isL a) = true
      · rw [hc] at hj; simp at hj
      · rw [Bool.not_eq_true] at hc
        rw [hc] at hj
        simp only [cond_false, List.getElem?_cons_zero, Option.some.injEq] at hj
        subst hj
        refine ⟨by omega, rfl, fun hh => ?_⟩
        have h0 : i = 0 := by omega
        subst h0
        simp [isL, hh.2] at hc
    | succ j =>
      rcases h3 j w (by simpa using hj) with ⟨e, f⟩ | ⟨e, f, g⟩
      · exact Or.inl ⟨by omega, f⟩
      · exact Or.inr ⟨by omega, by simpa using f, fun hh => g ⟨by omega, hh.2⟩⟩
theorem lset2_spec : ∀ (loc : XV) (i : Nat) (v : Value) (loc' : XV), lset2 loc i v = some loc' → loc'.length = loc.length ∧ i + 1 < loc.length ∧ ∀ j w, loc'[j]? = some (some w) → (j = i ∧ w = v) ∨ (j ≠ i ∧ j ≠ i + 1 ∧ loc[j]? = some (some w) ∧ ¬ (j + 1 = i ∧ w.category = 2))
  | [], _, _, _, h => by simp [lset2] at h
  | [a], 0, _, _, h => by simp [lset2] at h
  | a :: b :: r, 0, v, loc', h => by
    simp only [lset2, Option.some.injEq] at h
    subst h
    refine ⟨rfl, by simp, fun j w hj => ?_⟩
    match j with
    | 0 => simp at hj; exact Or.inl ⟨rfl, hj.symm⟩
    | 1 => simp at hj
    | j + 2 => exact Or.inr ⟨by omega, by omega, by simpa using hj, by omega⟩
  | a :: r, i + 1, v, loc', h => by
    simp only [lset2, Option.map_eq_some_iff] at h
    obtain ⟨q, hq, rfl⟩ := h
    obtain ⟨h1, h2, h3⟩ := lset2_spec r i v q hq
    refine ⟨by simp [h1], by simp; omega, fun j w hj => ?_⟩
    cases j with
    | zero =>
      right
      by_cases hc : ((i == 0) && isL a) = true
      · rw [hc] at hj; simp at hj
      · rw [Bool.not_eq_true] at hc
        rw [hc] at hj
        simp only [cond_false, List.getElem?_cons_zero, Option.some.injEq] at hj
        subst hj
        refine ⟨by omega, by omega, rfl, fun hh => ?_⟩
        have h0 : i = 0 := by omega
        subst h0
        simp [isL, hh.2] at hc
    | succ j =>
      rcases h3 j w (by simpa using hj) with ⟨e, f⟩ | ⟨e, f, g, g2⟩
      · exact Or.inl ⟨by omega, f⟩
      · exact Or.inr ⟨by omega, by omega, by simpa using g, fun hh => g2 ⟨by omega, hh.2⟩⟩
def lvl (G : Gx) (loc : XV) : List (Nat × Value) := loc.zipIdx.filterMap (fun p => p.1.map (fun v => (p.2, cv G v)))
theorem lvl_mem {G : Gx} {loc : XV} {q : Nat × Value} : q ∈ lvl G loc ↔ ∃ v, loc[q.1]? = some (some v) ∧ q.2 = cv G v := by
  unfold lvl
  rw [List.mem_filterMap]
  constructor
  · rintro ⟨⟨o, j⟩, hm, hq⟩
    rw [List.mem_zipIdx_iff_getElem?] at hm
    cases o with
    | none => simp at hq
    | some v =>
      simp only [Option.map_some, Option.some.injEq] at hq
      subst hq
      exact ⟨v, hm, rfl⟩
  · rintro ⟨v, h1, h2⟩
    refine ⟨(some v, q.1), by rw [List.mem_zipIdx_iff_getElem?]; exact h1, ?_⟩
    simp [← h2]
def Lok (G : Gx) (ls : Array Slot) (n : Nat) (loc : XV) : Prop := lv_has ls n (lvl G loc) ∧ loc.length = n
theorem Lok.get {G : Gx} {ls : Array Slot} {n : Nat} {loc : XV} (h : Lok G ls n loc) {i : Nat} {v : Value} (hg : lget loc i = some v) : ls[i]? = some (.val (cv G v)) := h.1.2.2 (i, cv G v) (lvl_mem.mpr ⟨v, lget_at loc i v hg, rfl⟩)
theorem Lok.set {G : Gx} {ls : Array Slot} {n : Nat} {loc loc' : XV} {i : Nat} {v : Value} (h : Lok G ls n loc) (hs : lset loc i v = some loc') : i < n ∧ ∀ ls', lv_has ls' n ((i, cv G v) :: (lvl G loc).filter (fun q => !(q.1 == i) && !(q.1 + 1 == i && q.2.category == 2))) → Lok G ls' n loc' := by
  obtain ⟨h1, h2, h3⟩ := lset_spec loc i v loc' hs
  refine ⟨by rw [← h.2]; exact h2, fun ls' hl => ⟨⟨hl.1, hl.2.1, fun q hq => hl.2.2 q ?_⟩, h1.trans h.2⟩⟩
  obtain ⟨w, hw1, hw2⟩ := lvl_mem.mp hq
  rcases h3 q.1 w hw1 with ⟨e, f⟩ | ⟨e, f, g⟩
  · subst f
    rw [List.mem_cons]
    left
    exact Prod.ext e hw2
  · rw [List.mem_cons]
    right
    rw [List.mem_filter]
    refine ⟨lvl_mem.mpr ⟨w, f, hw2⟩, ?_⟩
    rw [hw2, cv_cat]
    simp only [Bool.and_eq_true, Bool.not_eq_true', beq_eq_false_iff_ne, ne_eq, Bool.and_eq_false_imp, beq_iff_eq]
    exact ⟨e, fun hh hh2 => g ⟨hh, hh2⟩⟩
theorem Lok.set2 {G : Gx} {ls : Array Slot} {n : Nat} {loc loc' : XV} {i : Nat} {v : Value} (h : Lok G ls n loc) (hs : lset2 loc i v = some loc') : i + 1 < n ∧ ∀ ls', lv_has ls' n ((i, cv G v) :: (lvl G loc).filter (fun q => !(q.1 == i) && (!(q.1 == i + 1) && !(q.1 + 1 == i && q.2.category == 2)))) → Lok G ls' n loc' := by
  obtain ⟨h1, h2, h3⟩ := lset2_spec loc i v loc' hs
  refine ⟨by rw [← h.2]; exact h2, fun ls' hl => ⟨⟨hl.1, hl.2.1, fun q hq => hl.2.2 q ?_⟩, h1.trans h.2⟩⟩
  obtain ⟨w, hw1, hw2⟩ := lvl_mem.mp hq
  rcases h3 q.1 w hw1 with ⟨e, f⟩ | ⟨e, e2, f, g⟩
  · subst f
    rw [List.mem_cons]
    left
    exact Prod.ext e hw2
  · rw [List.mem_cons]
    right
    rw [List.mem_filter]
    refine ⟨lvl_mem.mpr ⟨w, f, hw2⟩, ?_⟩
    rw [hw2, cv_cat]
    simp only [Bool.and_eq_true, Bool.not_eq_true', beq_eq_false_iff_ne, ne_eq, Bool.and_eq_false_imp, beq_iff_eq]
    exact ⟨e, e2, fun hh hh2 => g ⟨hh, hh2⟩⟩
