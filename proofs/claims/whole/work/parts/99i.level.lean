/-! rows of places, in their order -/
def lpL (m : Nat) (nx : Nat → List (List Nat)) (pre : List Nat) : Nat → List (List Nat)
  | 0 => []
  | r + 1 => (if pre.elem (m - (r + 1)) = true then [] else nx (m - (r + 1))) ++ lpL m nx pre r
def pmL (m : Nat) : Nat → List Nat → List (List Nat)
  | 0, pre => [pre]
  | f + 1, pre => lpL m (fun q => pmL m f (pre ++ [q])) pre m
def kF (f : Nat → Nat) : Nat → Option Nat
  | 0 => none
  | t + 1 => if f t ≤ f (t + 1) then some t else kF f t
def jF (f : Nat → Nat) (x : Nat) : Nat → Nat
  | 0 => 0
  | t + 1 => if x ≤ f t then t else jF f x t
def swF (f : Nat → Nat) (i j : Nat) : Nat → Nat := fun t => if t = j then f i else if t = i then f j else f t
/-- the next row -/
def nwF (n : Nat) (f : Nat → Nat) : Option (Nat → Nat) := match kF f (n - 1) with
  | none => none
  | some k => some (fun i => if k < i ∧ i < n then swF f k (jF f (f k) n) (n + k - i) else swF f k (jF f (f k) n) i)
def nxL (m : Nat) (L : List Nat) : Option (List Nat) := match nwF m (fun i => L.getD i 0) with
  | none => none
  | some h => some ((List.range m).map h)
def chk (m : Nat) : List (List Nat) → Bool
  | [] => true
  | [a] => (nxL m a).isNone
  | a :: b :: t => decide (nxL m a = some b) && chk m (b :: t)
theorem chk_1 : ∀ m, m < 7 → 1 ≤ m → chk m (pmL m m []) = true ∧ (pmL m m []).head? = some (List.range m) := by decide +kernel
theorem lpL_mem {m : Nat} {nx : Nat → List (List Nat)} {pre : List Nat} {I : List Nat → Prop} (h : ∀ q, q < m → ∀ P ∈ nx q, I P) : ∀ {r : Nat}, r ≤ m → ∀ P ∈ lpL m nx pre r, I P
  | 0, _, P, hP => by simp [lpL] at hP
  | r + 1, hr, P, hP => by
    rw [lpL] at hP
    rcases List.mem_append.mp hP with hP | hP
    · by_cases c : pre.elem (m - (r + 1)) = true
      · rw [if_pos c] at hP; simp at hP
      · rw [if_neg c] at hP; exact h _ (by omega) P hP
    · exact lpL_mem h (by omega) P hP
theorem pmL_mem {m : Nat} : ∀ {f : Nat} {pre : List Nat}, (∀ x ∈ pre, x < m) → ∀ P ∈ pmL m f pre, P.length = pre.length + f ∧ ∀ x ∈ P, x < m
  | 0, pre, h, P, hP => by
    rw [pmL, List.mem_singleton] at hP
    subst hP; exact ⟨rfl, h⟩
  | f + 1, pre, h, P, hP => by
    rw [pmL] at hP
    refine lpL_mem (I := fun P => P.length = pre.length + (f + 1) ∧ ∀ x ∈ P, x < m) (fun q hq P hP => ?_) (Nat.le_refl _) P hP
    have := pmL_mem (f := f) (pre := pre ++ [q]) (fun x hx => by
      rcases List.mem_append.mp hx with hx | hx
      · exact h x hx
      · rw [List.mem_singleton] at hx; omega) P hP
    rw [List.length_append, List.length_singleton] at this
    exact ⟨by omega, this.2⟩
/-- the first of the least -/
def lvB (v : List Nat → Int32) (B : Int32 × List Nat) (l : List (List Nat)) : Int32 × List Nat := l.foldl (fun B P => if v P < B.1 then (v P, P) else B) B
theorem lvB_app {v : List Nat → Int32} {B : Int32 × List Nat} {l l' : List (List Nat)} : lvB v B (l ++ l') = lvB v (lvB v B l) l' := List.foldl_append
theorem lvB_c {v : List Nat → Int32} {a : List Nat} {t : List (List Nat)} {B : Int32 × List Nat} : lvB v B (a :: t) = lvB v (if v a < B.1 then (v a, a) else B) t := rfl
theorem lvB_cong {v v' : List Nat → Int32} {l : List (List Nat)} : (∀ P ∈ l, v P = v' P) → ∀ (B : Int32 × List Nat), lvB v B l = lvB v' B l := by
  induction l with
  | nil => intro _ B; unfold lvB; rw [List.foldl_nil, List.foldl_nil]
  | cons a t ih =>
    intro h B
    have e : (if v a < B.1 then (v a, a) else B) = (if v' a < B.1 then (v' a, a) else B) := by
      have q := h a List.mem_cons_self
      by_cases c : v a < B.1
      · rw [if_pos c]; rw [q] at c ⊢; rw [if_pos c]
      · rw [if_neg c]; rw [q] at c; rw [if_neg c]
    exact lvB_c.trans (((ih (fun P hP => h P (List.mem_cons_of_mem _ hP))) _).trans ((congrArg (fun x => lvB v' x t) e).trans lvB_c.symm))
theorem lvB_0 {v : List Nat → Int32} {x y : Int32} {l : List (List Nat)} (hl : l ≠ []) (hx : ∀ P ∈ l, v P < x) (hy : ∀ P ∈ l, v P < y) : lvB v (x, []) l = lvB v (y, []) l := by
  cases l with
  | nil => exact absurd rfl hl
  | cons a t =>
    rw [lvB_c, lvB_c, if_pos (hx a List.mem_cons_self), if_pos (hy a List.mem_cons_self)]
theorem lvB_mem {v : List Nat → Int32} {l : List (List Nat)} : ∀ {B : Int32 × List Nat}, (lvB v B l).2 = B.2 ∨ (lvB v B l).2 ∈ l := by
  induction l with
  | nil => intro B; exact Or.inl rfl
  | cons a t ih =>
    intro B
    rw [lvB_c]
    rcases ih (B := if v a < B.1 then (v a, a) else B) with e | e
    · rw [e]
      split
      · exact Or.inr List.mem_cons_self
      · exact Or.inl rfl
    · exact Or.inr (List.mem_cons_of_mem _ e)
theorem lvB_in {v : List Nat → Int32} {x : Int32} {l : List (List Nat)} (hl : l ≠ []) (hx : ∀ P ∈ l, v P < x) : (lvB v (x, []) l).2 ∈ l := by
  cases l with
  | nil => exact absurd rfl hl
  | cons a t =>
    rw [lvB_c, if_pos (hx a List.mem_cons_self)]
    rcases lvB_mem (v := v) (l := t) (B := (v a, a)) with e | e
    · rw [e]; exact List.mem_cons_self
    · exact List.mem_cons_of_mem _ e
/-! ribbons hung elsewhere -/
def mv (A : Nat → Nat → Int32) (i : Nat) (q a : Int32) : Nat → Nat → Int32 := fun f j => if j = i ∧ f = 5 then q else if j = i ∧ f = 6 then a else A f j
theorem mv_5 {A : Nat → Nat → Int32} {i : Nat} {q a : Int32} : mv A i q a 5 i = q := if_pos ⟨rfl, rfl⟩
theorem mv_6 {A : Nat → Nat → Int32} {i : Nat} {q a : Int32} : mv A i q a 6 i = a := by unfold mv; rw [if_neg (by omega), if_pos ⟨rfl, rfl⟩]
theorem mv_f {A : Nat → Nat → Int32} {i f : Nat} {q a : Int32} (h5 : f ≠ 5) (h6 : f ≠ 6) : mv A i q a f = A f := funext fun j => by unfold mv; rw [if_neg (fun z => h5 z.2), if_neg (fun z => h6 z.2)]
theorem mv_j {A : Nat → Nat → Int32} {i f j : Nat} {q a : Int32} (h : j ≠ i) : mv A i q a f j = A f j := by unfold mv; rw [if_neg (fun z => h z.1), if_neg (fun z => h z.1)]
theorem mv_wf {A : Nat → Nat → Int32} {i q nr nb : Nat} {a : Int32} (h : WFd A nr nb) (hq : q < nr) (ha : -9 ≤ a.toInt ∧ a.toInt ≤ 9) : WFd (mv A i (nI q) a) nr nb := by
  obtain ⟨h1, h2, h3⟩ := h
  refine ⟨h1, fun j hj => (h2 j hj).cong' (fun f hf => congrFun (mv_f (by omega) (by omega)) j), fun j hj => ?_⟩
  by_cases c : j = i
  · subst c
    have x := h3 j hj
    unfold RibOK at x ⊢
    rw [mv_5, mv_6, mv_f (f := 7) (by omega) (by omega), mv_f (f := 8) (by omega) (by omega), mv_f (f := 9) (by omega) (by omega), mv_f (f := 10) (by omega) (by omega), mv_f (f := 11) (by omega) (by omega)]
    exact ⟨⟨q, hq, rfl⟩, ha, x.2.2⟩
  · exact (h3 j hj).cong (fun f _ => mv_j c)
/-- what ribbon i, hung at rod q and arm a, gives to rod r -/
def plI (LV : (Nat → Int32) → Bool → Int32) (A : Nat → Nat → Int32) (w : Int32) (i q : Nat) (a : Int32) (r : Nat) : Int32 := ctr A q a (LV (FA A i (A 7 i) (nI q) a w) true) (LV (FA A i (A 7 i) (nI q) a w) false) r
def owI (LV : (Nat → Int32) → Bool → Int32) (A : Nat → Nat → Int32) (w : Int32) (i r : Nat) : Int32 := ctr A (A 5 i).toNatClampNeg (A 6 i) (hvA LV A w i true) (hvA LV A w i false) r
theorem WG_mv {LV : (Nat → Int32) → Bool → Int32} {A : Nat → Nat → Int32} {i q nr nb r : Nat} {a w : Int32} (hW : WFd A nr nb) (hq : q < nr) (ha : -9 ≤ a.toInt ∧ a.toInt ≤ 9) (hi : i < nb) (h11 : ¬ A 11 i = 0) : (WG (mv A i (nI q) a) (hvA LV (mv A i (nI q) a) w) nr nb).2 r = (WG A (hvA LV A w) nr nb).2 r + (plI LV A w i q a r - owI LV A w i r) := by
  have n2 := hW.1.2.1
  rw [WG_sum (mv_wf hW hq ha) (Nat.le_refl _), WG_sum hW (Nat.le_refl _)]
  have hc : ∀ o arm h p, o < nr → ctr (mv A i (nI q) a) o arm h p r = ctr A o arm h p r := fun o arm h p ho => ctr_A hW.on n2 (fun j _ => congrFun (mv_f (by omega) (by omega)) j) (fun j _ => congrFun (mv_f (by omega) (by omega)) j) ho
  rw [sm_upd (f := cR A (hvA LV A w) r) (i := i) hi (fun j hj hji => ?_)]
  · congr 1
    unfold cR plI owI
    rw [mv_f (f := 11) (by omega) (by omega), if_neg h11, if_neg h11, mv_5, mv_6, nI_clamp (by omega), hc q _ _ _ hq]
    have hv : ∀ b, hvA LV (mv A i (nI q) a) w i b = LV (FA A i (A 7 i) (nI q) a w) b := fun b => by
      unfold hvA FA
      rw [mv_5, mv_6, mv_f (f := 7) (by omega) (by omega), mv_f (f := 8) (by omega) (by omega), mv_f (f := 9) (by omega) (by omega), mv_f (f := 4) (by omega) (by omega)]
    rw [hv, hv]
  · obtain ⟨⟨o, ho, eo⟩, -⟩ := hW.2.2 j hj
    unfold cR
    have hv : ∀ b, hvA LV (mv A i (nI q) a) w j b = hvA LV A w j b := fun b => by
      unfold hvA FA
      rw [mv_j hji, mv_j hji, mv_j hji, mv_j hji, mv_j hji, mv_f (f := 4) (by omega) (by omega)]
    rw [mv_j hji, mv_j hji, mv_j hji, hv, hv, eo, nI_clamp (by omega), hc o _ _ _ ho]
/-- the told ribbons, hung by the row P: the first k of them -/
def hgA (A : Nat → Nat → Int32) (ri ro : Nat → Nat) (ar : Nat → Int32) (P : Nat → Nat) : Nat → (Nat → Nat → Int32)
  | 0 => A
  | k + 1 => mv (hgA A ri ro ar P k) (ri k) (nI (ro (P k))) (ar (P k))
theorem hg_f {A : Nat → Nat → Int32} {ri ro : Nat → Nat} {ar : Nat → Int32} {P : Nat → Nat} {f : Nat} (h5 : f ≠ 5) (h6 : f ≠ 6) : ∀ {k : Nat}, hgA A ri ro ar P k f = A f
  | 0 => rfl
  | k + 1 => by rw [hgA, mv_f h5 h6]; exact hg_f h5 h6
theorem hg_j {A : Nat → Nat → Int32} {ri ro : Nat → Nat} {ar : Nat → Int32} {P : Nat → Nat} {f j : Nat} : ∀ {k : Nat}, (∀ x, x < k → j ≠ ri x) → hgA A ri ro ar P k f j = A f j
  | 0, _ => rfl
  | k + 1, h => by rw [hgA, mv_j (h k (by omega))]; exact hg_j (fun x hx => h x (by omega))
theorem hg_at {A : Nat → Nat → Int32} {ri ro : Nat → Nat} {ar : Nat → Int32} {P : Nat → Nat} {x : Nat} : ∀ {k : Nat}, x < k → (∀ i j, i < j → j < k → ri i ≠ ri j) → hgA A ri ro ar P k 5 (ri x) = nI (ro (P x)) ∧ hgA A ri ro ar P k 6 (ri x) = ar (P x)
  | 0, h, _ => absurd h (by omega)
  | k + 1, h, hd => by
    rw [hgA]
    by_cases c : x = k
    · subst c; rw [mv_5, mv_6]; exact ⟨rfl, rfl⟩
    · rw [mv_j (hd x k (by omega) (by omega)), mv_j (hd x k (by omega) (by omega))]
      exact hg_at (by omega) (fun i j h1 h2 => hd i j h1 (by omega))
/-- what is told -/
def Tld (A : Nat → Nat → Int32) (nr nb m : Nat) (ri ro : Nat → Nat) (ar : Nat → Int32) : Prop := (∀ k, k < m → ri k < nb ∧ ¬ A 11 (ri k) = 0 ∧ ro k < nr ∧ -9 ≤ (ar k).toInt ∧ (ar k).toInt ≤ 9) ∧ ∀ i j, i < j → j < m → ri i ≠ ri j
theorem hg_wf {A : Nat → Nat → Int32} {ri ro : Nat → Nat} {ar : Nat → Int32} {P : Nat → Nat} {nr nb m : Nat} (hW : WFd A nr nb) (hT : Tld A nr nb m ri ro ar) (hP : ∀ k, k < m → P k < m) : ∀ {k : Nat}, k ≤ m → WFd (hgA A ri ro ar P k) nr nb
  | 0, _ => hW
  | k + 1, hk => by
    have t := hT.1 (P k) (hP k (by omega))
    exact mv_wf (hg_wf hW hT hP (by omega)) t.2.2.1 t.2.2.2
theorem hg_mo {LV : (Nat → Int32) → Bool → Int32} {A : Nat → Nat → Int32} {ri ro : Nat → Nat} {ar : Nat → Int32} {P : Nat → Nat} {nr nb m r : Nat} {w : Int32} (hW : WFd A nr nb) (hT : Tld A nr nb m ri ro ar) (hP : ∀ k, k < m → P k < m) : ∀ {k : Nat}, k ≤ m → (WG (hgA A ri ro ar P k) (hvA LV (hgA A ri ro ar P k) w) nr nb).2 r = mo0 LV A nr nb w r + sm (fun j => plI LV A w (ri j) (ro (P j)) (ar (P j)) r - owI LV A w (ri j) r) k
  | 0, _ => by rw [sm, Int32.add_zero]; rfl
  | k + 1, hk => by
    have ih := hg_mo (LV := LV) (r := r) (w := w) hW hT hP (k := k) (by omega)
    have t := hT.1 (P k) (hP k (by omega))
    have tk := hT.1 k (by omega)
    have n2 := hW.1.2.1
    have hj : ∀ f, hgA A ri ro ar P k f (ri k) = A f (ri k) := fun f => hg_j (fun x hx e => hT.2 x k hx (by omega) e.symm)
    rw [hgA, WG_mv (hg_wf hW hT hP (by omega)) t.2.2.1 t.2.2.2 tk.1 (by rw [hj]; exact tk.2.1), ih, sm]
    have hc : ∀ o arm h p, o < nr → ctr (hgA A ri ro ar P k) o arm h p r = ctr A o arm h p r := fun o arm h p ho => ctr_A hW.on n2 (fun j _ => congrFun (hg_f (by omega) (by omega)) j) (fun j _ => congrFun (hg_f (by omega) (by omega)) j) ho
    have e1 : plI LV (hgA A ri ro ar P k) w (ri k) (ro (P k)) (ar (P k)) r = plI LV A w (ri k) (ro (P k)) (ar (P k)) r := by
      unfold plI FA
      rw [hc _ _ _ _ t.2.2.1, hj, hj, hj, hg_f (f := 4) (by omega) (by omega)]
    obtain ⟨⟨o, ho, eo⟩, -⟩ := hW.2.2 (ri k) tk.1
    have e2 : owI LV (hgA A ri ro ar P k) w (ri k) r = owI LV A w (ri k) r := by
      unfold owI hvA FA
      rw [hj, hj, hj, hj, hj, hg_f (f := 4) (by omega) (by omega), eo, nI_clamp (by omega), hc _ _ _ _ ho]
    rw [e1, e2]; grind
/-- the leans together -/
def vsI (A : Nat → Nat → Int32) (mo : Nat → Int32) (nr : Nat) : Int32 := sm (fun r => abI (lnV (mo r) (A 2 r))) nr
theorem abI_b {x : Int32} (h : -9 ≤ x.toInt ∧ x.toInt ≤ 9) : ∃ k, k ≤ 9 ∧ abI x = nI k := by
  unfold abI
  by_cases c : 0 ≤ x
  · rw [if_pos c]
    obtain ⟨k, hk, e⟩ := ofN c
    subst e
    rw [nI_toInt hk] at h
    exact ⟨k, by omega, rfl⟩
  · rw [if_neg c]
    rw [i_le, show (0 : Int32).toInt = 0 from rfl] at c
    refine ⟨(-x.toInt).toNat, by omega, ?_⟩
    rw [i_eq, nI_toInt (by omega), Int32.toInt_sub, show (0 : Int32).toInt = 0 from rfl, Int.bmod_eq_of_le (by omega) (by omega)]
    omega
theorem vsI_b {A : Nat → Nat → Int32} {mo : Nat → Int32} : ∀ {nr : Nat}, nr ≤ 10 → ∃ k, k ≤ 9 * nr ∧ vsI A mo nr = nI k
  | 0, _ => ⟨0, by omega, rfl⟩
  | nr + 1, h => by
    obtain ⟨k, hk, e⟩ := vsI_b (A := A) (mo := mo) (nr := nr) (by omega)
    obtain ⟨k', hk', e'⟩ := abI_b (lnV_b (m := mo nr) (st := A 2 nr))
    refine ⟨k + k', by omega, ?_⟩
    unfold vsI at e ⊢
    rw [sm, e, e', nI_add]
theorem vsI_lt {A : Nat → Nat → Int32} {mo : Nat → Int32} {nr : Nat} {x : Int32} (hn : nr ≤ 10) (hx : 1000000000 ≤ x.toInt) : vsI A mo nr < x := by
  obtain ⟨k, hk, e⟩ := vsI_b (A := A) (mo := mo) hn
  rw [e, i_lt, nI_toInt (by omega)]
  omega
