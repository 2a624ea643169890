/-! moments are sums of what each ribbon gives -/
def feel (A : Nat → Nat → Int32) : Nat → Nat → Int32 → Nat → Int32
  | 0, _, _, _ => 0
  | f + 1, q, h, r => if q = 0 then 0 else (if r = (A 0 q).toNatClampNeg then A 1 q * h else 0) + feel A f (A 0 q).toNatClampNeg h r
/-- what so heavy and pushed a thing at an arm of rod o gives to rod r -/
def ctr (A : Nat → Nat → Int32) (o : Nat) (arm h p : Int32) (r : Nat) : Int32 := (if r = o then arm * h + p else 0) + feel A 10 o h r
def cR (A : Nat → Nat → Int32) (hv : Nat → Bool → Int32) (r i : Nat) : Int32 := if A 11 i = 0 then 0 else ctr A (A 5 i).toNatClampNeg (A 6 i) (hv i true) (hv i false) r
def OnOK (A : Nat → Nat → Int32) (nr : Nat) : Prop := ∀ j, 0 < j → j < nr → ∃ o, o < j ∧ A 0 j = nI o
def qadd (q q' : (Nat → Int32) × (Nat → Int32)) : (Nat → Int32) × (Nat → Int32) := (fun x => q.1 x + q'.1 x, fun x => q.2 x + q'.2 x)
theorem pst1_add {A : Nat → Nat → Int32} {r : Nat} {q q' : (Nat → Int32) × (Nat → Int32)} : pst1 A r (qadd q q') = qadd (pst1 A r q) (pst1 A r q') := by
  unfold pst1 qadd upd
  apply Prod.ext
  · funext x
    by_cases c : x = (A 0 r).toNatClampNeg
    · simp only [c, if_true]; grind
    · simp only [c, if_false]
  · funext x
    by_cases c : x = (A 0 r).toNatClampNeg
    · simp only [c, if_true]; grind
    · simp only [c, if_false]
theorem ps_add {A : Nat → Nat → Int32} : ∀ {k : Nat} {q q' : (Nat → Int32) × (Nat → Int32)}, ps A k (qadd q q') = qadd (ps A k q) (ps A k q')
  | 0, _, _ => rfl
  | k + 1, q, q' => by rw [ps, ps, ps, pst1_add, ps_add]
theorem ps_0 {A : Nat → Nat → Int32} : ∀ {k : Nat}, ps A k (fun _ => 0, fun _ => 0) = (fun _ => 0, fun _ => 0)
  | 0 => rfl
  | k + 1 => by
    have e : pst1 A (k + 1) (fun _ => 0, fun _ => 0) = (fun _ => 0, fun _ => 0) := by
      unfold pst1 upd
      apply Prod.ext <;> funext x <;> dsimp only <;> split <;> grind
    rw [ps, e, ps_0]
theorem feel_f {A : Nat → Nat → Int32} {nr : Nat} {h : Int32} {r : Nat} (hA : OnOK A nr) (hn : nr ≤ 10) : ∀ {f g o : Nat}, o < nr → o ≤ f → o ≤ g → feel A f o h r = feel A g o h r
  | 0, 0, _, _, _, _ => rfl
  | 0, g + 1, o, _, h1, _ => by rw [feel, feel, if_pos (by omega)]
  | f + 1, 0, o, _, _, h1 => by rw [feel, feel, if_pos (by omega)]
  | f + 1, g + 1, o, h0, h1, h2 => by
    rw [feel, feel]
    by_cases c : o = 0
    · rw [if_pos c, if_pos c]
    · obtain ⟨u, hu, e⟩ := hA o (by omega) h0
      rw [if_neg c, if_neg c, e, nI_clamp (by omega), feel_f hA hn (f := f) (g := g) (o := u) (by omega) (by omega) (by omega)]
theorem feel_sub {A : Nat → Nat → Int32} {h h' : Int32} {r : Nat} : ∀ {f o : Nat}, feel A f o (h - h') r = feel A f o h r - feel A f o h' r
  | 0, _ => by rw [feel, feel, feel]; grind
  | f + 1, o => by
    rw [feel, feel, feel, feel_sub]
    by_cases c : o = 0
    · simp only [c, if_true]; grind
    · simp only [c, if_false]
      by_cases c2 : r = (A 0 o).toNatClampNeg
      · simp only [c2, if_true]; grind
      · simp only [c2, if_false]; grind
theorem ctr_sub {A : Nat → Nat → Int32} {o r : Nat} {arm h h' p p' : Int32} : ctr A o arm (h - h') (p - p') r = ctr A o arm h p r - ctr A o arm h' p' r := by
  unfold ctr
  rw [feel_sub]
  by_cases c : r = o
  · simp only [c, if_true]; grind
  · simp only [c, if_false]; grind
theorem ps_sg {A : Nat → Nat → Int32} {nr : Nat} {h : Int32} {r : Nat} (hA : OnOK A nr) (hn : nr ≤ 10) : ∀ {k o : Nat} {l m : Nat → Int32}, k < nr → o ≤ k → (∀ x, x ≤ k → l x = if x = o then h else 0) → (ps A k (l, m)).2 r = m r + feel A k o h r
  | 0, o, l, m, _, _, _ => by rw [ps, feel]; grind
  | k + 1, o, l, m, hk, ho, hl => by
    obtain ⟨u, hu, e⟩ := hA (k + 1) (by omega) hk
    have p1 : ∀ x, (pst1 A (k + 1) (l, m)).1 x = if x = u then l u + l (k + 1) else l x := fun x => pst1_1 e (by omega)
    have p2 : ∀ x, (pst1 A (k + 1) (l, m)).2 x = if x = u then m u + A 1 (k + 1) * l (k + 1) else m x := fun x => pst1_2 e (by omega)
    rw [ps]
    by_cases c : o = k + 1
    · subst c
      have q := ps_sg (h := h) (r := r) hA hn (k := k) (o := u) (l := (pst1 A (k + 1) (l, m)).1) (m := (pst1 A (k + 1) (l, m)).2) (by omega) (by omega) (fun x hx => by
        rw [p1, hl u (by omega), hl (k + 1) (by omega), hl x (by omega), if_neg (show ¬ u = k + 1 by omega), if_pos rfl, if_neg (show ¬ x = k + 1 by omega)]
        by_cases c : x = u
        · rw [if_pos c, if_pos c]; grind
        · rw [if_neg c, if_neg c])
      rw [show ps A k (pst1 A (k + 1) (l, m)) = ps A k ((pst1 A (k + 1) (l, m)).1, (pst1 A (k + 1) (l, m)).2) from rfl, q, p2, hl (k + 1) (by omega), if_pos (show k + 1 = k + 1 from rfl), feel, if_neg (show ¬ k + 1 = 0 by omega), e, nI_clamp (by omega)]
      by_cases c : r = u
      · subst c; simp only [if_true]; grind
      · simp only [c, if_false]; grind
    · have q := ps_sg (h := h) (r := r) hA hn (k := k) (o := o) (l := (pst1 A (k + 1) (l, m)).1) (m := (pst1 A (k + 1) (l, m)).2) (by omega) (by omega) (fun x hx => by
        rw [p1, hl u (by omega), hl (k + 1) (by omega), hl x (by omega), if_neg (show ¬ k + 1 = o by omega)]
        by_cases c : x = u
        · subst c; rw [if_pos rfl]; grind
        · rw [if_neg c])
      rw [show ps A k (pst1 A (k + 1) (l, m)) = ps A k ((pst1 A (k + 1) (l, m)).1, (pst1 A (k + 1) (l, m)).2) from rfl, q, p2, hl (k + 1) (by omega), if_neg (show ¬ k + 1 = o by omega), feel_f hA hn (f := k + 1) (g := k) (o := o) (by omega) (by omega) (by omega)]
      by_cases c : r = u
      · subst c; simp only [if_true]; grind
      · simp only [c, if_false]
theorem WFd.on {A : Nat → Nat → Int32} {nr nb : Nat} (h : WFd A nr nb) : OnOK A nr := fun j h1 h2 => (h.2.1 j h2).2.1 h1
theorem WG_sum {A : Nat → Nat → Int32} {hv : Nat → Bool → Int32} {nr nb r : Nat} (hW : WFd A nr nb) : ∀ {i : Nat}, i ≤ nb → (WG A hv nr i).2 r = sm (cR A hv r) i
  | 0, _ => by unfold WG; rw [ph, ps_0]; rfl
  | i + 1, hi => by
    have ih := WG_sum (hv := hv) (r := r) hW (i := i) (by omega)
    obtain ⟨⟨n1, n2, n3⟩, q2, q3⟩ := id hW
    rw [sm, ← ih]
    unfold WG cR
    by_cases c : A 11 i = 0
    · rw [ph, if_pos c, if_pos c]; grind
    · obtain ⟨⟨o, ho, eo⟩, -⟩ := q3 i (by omega)
      have e : ph A hv (i + 1) = qadd (ph A hv i) (fun x => if x = o then hv i true else 0, fun x => if x = o then A 6 i * hv i true + hv i false else 0) := by
        apply Prod.ext
        · funext x
          rw [ph_1 c eo (by omega)]
          unfold qadd
          by_cases z : x = o
          · simp only [z, if_true]
          · simp only [z, if_false]; grind
        · funext x
          rw [ph_2 c eo (by omega)]
          unfold qadd
          by_cases z : x = o
          · simp only [z, if_true]
          · simp only [z, if_false]; grind
      rw [e, ps_add, if_neg c]
      unfold ctr
      rw [eo, nI_clamp (by omega)]
      show (ps A (nr - 1) (ph A hv i)).2 r + (ps A (nr - 1) _).2 r = _
      rw [ps_sg (h := hv i true) (r := r) hW.on n2 (k := nr - 1) (o := o) (by omega) (by omega) (fun x _ => rfl), feel_f hW.on n2 (f := nr - 1) (g := 10) (by omega) (by omega) (by omega)]
theorem sm_upd {f g : Nat → Int32} {i : Nat} : ∀ {n : Nat}, i < n → (∀ j, j < n → j ≠ i → g j = f j) → sm g n = sm f n + (g i - f i)
  | 0, h, _ => absurd h (by omega)
  | n + 1, h, q => by
    rw [sm, sm]
    by_cases c : i = n
    · subst c
      rw [sm_cong (fun j hj => q j (by omega) (by omega))]; grind
    · rw [sm_upd (show i < n by omega) (fun j hj => q j (by omega)), q n (by omega) (by omega)]; grind
theorem feel_A {A A' : Nat → Nat → Int32} {nr : Nat} {h : Int32} {r : Nat} (hA : OnOK A nr) (hn : nr ≤ 10) (e0 : ∀ j, j < nr → A' 0 j = A 0 j) (e1 : ∀ j, j < nr → A' 1 j = A 1 j) : ∀ {f o : Nat}, o < nr → feel A' f o h r = feel A f o h r
  | 0, _, _ => rfl
  | f + 1, o, ho => by
    rw [feel, feel, e0 o ho, e1 o ho]
    by_cases c : o = 0
    · rw [if_pos c, if_pos c]
    · obtain ⟨u, hu, e⟩ := hA o (by omega) ho
      rw [if_neg c, if_neg c, e, nI_clamp (by omega), feel_A hA hn e0 e1 (f := f) (o := u) (by omega)]
theorem ctr_A {A A' : Nat → Nat → Int32} {nr : Nat} {arm h p : Int32} {o r : Nat} (hA : OnOK A nr) (hn : nr ≤ 10) (e0 : ∀ j, j < nr → A' 0 j = A 0 j) (e1 : ∀ j, j < nr → A' 1 j = A 1 j) (ho : o < nr) : ctr A' o arm h p r = ctr A o arm h p r := by
  unfold ctr; rw [feel_A hA hn e0 e1 ho]
