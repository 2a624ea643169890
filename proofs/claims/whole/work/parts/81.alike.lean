/-! how often each stands in a row; the most alike -/
def cnt (a : Nat → Int64) (x : Int64) : Nat → Nat
  | 0 => 0
  | n + 1 => cnt a x n + if a n = x then 1 else 0
def ulx (a : Nat → Int64) (i : Nat) (y : Int64) : Nat → Int64 := fun j => if j = i then y else a j
theorem ulx_s {a : Nat → Int64} {i : Nat} {y : Int64} : ulx a i y i = y := if_pos rfl
theorem ulx_n {a : Nat → Int64} {i j : Nat} {y : Int64} (h : j ≠ i) : ulx a i y j = a j := if_neg h
theorem cnt_cong {a b : Nat → Int64} {x : Int64} : ∀ {n : Nat}, (∀ j, j < n → a j = b j) → cnt a x n = cnt b x n
  | 0, _ => rfl
  | n + 1, h => by rw [cnt, cnt, cnt_cong (fun j hj => h j (by omega)), h n (by omega)]
theorem cnt_upd {a : Nat → Int64} {i : Nat} {x y : Int64} : ∀ {n : Nat}, i < n → cnt (ulx a i y) x n + (if a i = x then 1 else 0) = cnt a x n + (if y = x then 1 else 0)
  | 0, h => absurd h (by omega)
  | n + 1, h => by
    rw [cnt, cnt]
    by_cases c : i = n
    · subst c
      rw [cnt_cong (b := a) (fun j hj => ulx_n (by omega)), ulx_s]
      omega
    · have := cnt_upd (a := a) (x := x) (y := y) (n := n) (i := i) (by omega)
      rw [ulx_n (by omega)]
      omega
theorem cnt_mono {a : Nat → Int64} {x : Int64} {k n : Nat} (h : k ≤ n) : cnt a x k ≤ cnt a x n := by
  induction n with
  | zero => have : k = 0 := by omega
            subst this; exact Nat.le_refl _
  | succ n ih =>
    by_cases c : k = n + 1
    · subst c; exact Nat.le_refl _
    · have := ih (by omega); rw [cnt]; omega
theorem cnt_le {a : Nat → Int64} {x : Int64} : ∀ {n : Nat}, cnt a x n ≤ n
  | 0 => Nat.le_refl _
  | n + 1 => by have := cnt_le (a := a) (x := x) (n := n); rw [cnt]; split <;> omega
theorem cnt_swap {a : Nat → Int64} {i j n : Nat} {y : Int64} {C : Int64 → Nat} (hj : j < i) (hi : i < n) (h : ∀ x, cnt (ulx a i y) x n = C x) (x : Int64) : cnt (ulx (ulx a i (a j)) j y) x n = C x := by
  have e0 := h x
  have e1 := cnt_upd (a := a) (i := i) (x := x) (y := y) hi
  have e2 := cnt_upd (a := a) (i := i) (x := x) (y := a j) hi
  have e3 := cnt_upd (a := ulx a i (a j)) (i := j) (x := x) (y := y) (n := n) (by omega)
  rw [ulx_n (by omega)] at e3
  omega
def Most (a : Nat → Int64) (n M : Nat) : Prop := ∀ m, M ≤ m ↔ ∀ x, cnt a x n ≤ m
theorem Most.uni {a b : Nat → Int64} {n M M' : Nat} (h : Most a n M) (h' : Most b n M') (e : ∀ x, cnt a x n = cnt b x n) : M = M' := by
  have h1 : M ≤ M' := (h M').mpr (fun x => by rw [e]; exact (h' M').mp (Nat.le_refl _) x)
  have h2 : M' ≤ M := (h' M).mpr (fun x => by rw [← e]; exact (h M).mp (Nat.le_refl _) x)
  omega
theorem Most.le {a : Nat → Int64} {n M : Nat} (h : Most a n M) : M ≤ n := (h n).mpr (fun _ => cnt_le)
theorem Most.pos {a : Nat → Int64} {n M : Nat} (h : Most a n M) (hn : 0 < n) : 0 < M := by
  have := (h M).mp (Nat.le_refl _) (a (n - 1))
  have e : cnt a (a (n - 1)) n = cnt a (a (n - 1)) (n - 1) + if a (n - 1) = a (n - 1) then 1 else 0 := by
    rw [show n = (n - 1) + 1 by omega]; rfl
  rw [if_pos rfl] at e
  omega
/-- counted from each place on -/
theorem Most.of {a : Nat → Int64} {n M : Nat} (h : ∀ m, M ≤ m ↔ ∀ j, j < n → cnt a (a j) n - cnt a (a j) j ≤ m) : Most a n M := by
  intro m
  rw [h m]
  constructor
  · intro q x
    have key : ∀ k, k ≤ n → cnt a x n - cnt a x (n - k) ≤ m := by
      intro k
      induction k with
      | zero => intro _; rw [Nat.sub_zero]; omega
      | succ k ih =>
        intro hk
        by_cases c : a (n - (k + 1)) = x
        · have := q (n - (k + 1)) (by omega)
          rw [c] at this; exact this
        · have e : cnt a x (n - k) = cnt a x (n - (k + 1)) := by
            rw [show n - k = (n - (k + 1)) + 1 by omega, cnt, if_neg c]; rfl
          rw [← e]; exact ih (by omega)
    have := key n (Nat.le_refl _)
    rw [Nat.sub_self, show cnt a x 0 = 0 from rfl] at this
    omega
  · intro q j hj
    have := q (a j)
    omega
/-- one more of a row that is sorted -/
theorem Most.step {a : Nat → Int64} {n k L S : Nat} (hs : ∀ i j, i < j → j < n → a i ≤ a j) (hk : k < n) (hL : Most a k L) (hS : 0 < k → S = cnt a (a (k - 1)) k) : Most a (k + 1) (max L (if 0 < k ∧ a k = a (k - 1) then S + 1 else 1)) ∧ (if 0 < k ∧ a k = a (k - 1) then S + 1 else 1) = cnt a (a k) (k + 1) := by
  have e : (if 0 < k ∧ a k = a (k - 1) then S + 1 else 1) = cnt a (a k) (k + 1) := by
    rw [cnt, if_pos rfl]
    by_cases c : 0 < k ∧ a k = a (k - 1)
    · rw [if_pos c, hS c.1, c.2]
    · rw [if_neg c]
      have z : ∀ i, i ≤ k → cnt a (a k) i = 0 := by
        intro i
        induction i with
        | zero => intro _; rfl
        | succ i ih =>
          intro hi
          rw [cnt, ih (by omega), if_neg (fun y => ?_)]
          apply c
          refine ⟨by omega, Int64.le_antisymm ?_ (hs _ _ (by omega) hk)⟩
          rw [← y]
          by_cases u : i = k - 1
          · subst u; exact Int64.le_refl _
          · exact hs _ _ (by omega) (by omega)
      rw [z k (Nat.le_refl _)]
  refine ⟨?_, e⟩
  rw [e]
  intro m
  rw [Nat.max_le, hL m]
  constructor
  · intro ⟨q1, q2⟩ x
    by_cases c : a k = x
    · rw [← c]; exact q2
    · rw [cnt, if_neg c]; exact q1 x
  · intro q
    exact ⟨fun x => Nat.le_trans (cnt_mono (Nat.le_succ _)) (q x), q _⟩
/-- a row that is sorted below k but for a hole; one is to come into it -/
def Hol (a : Nat → Int64) (i k : Nat) (y : Int64) : Prop := (∀ p q, p < q → q ≤ k → p ≠ i → q ≠ i → a p ≤ a q) ∧ ∀ q, i < q → q ≤ k → y ≤ a q
theorem Hol.start {a : Nat → Int64} {k : Nat} (h : ∀ p q, p < q → q < k → a p ≤ a q) : Hol a k k (a k) := ⟨fun p q h1 h2 _ h4 => h p q h1 (by omega), fun q h1 h2 => by omega⟩
theorem Hol.move {a : Nat → Int64} {i k : Nat} {y : Int64} (h : Hol a i k y) (hi : 1 ≤ i) (hk : i ≤ k) (c : ¬ a (i - 1) ≤ y) : Hol (ulx a i (a (i - 1))) (i - 1) k y := by
  obtain ⟨h1, h2⟩ := h
  have c' : y ≤ a (i - 1) := (Int64.le_total _ _).resolve_left c
  refine ⟨fun p q u1 u2 u3 u4 => ?_, fun q u1 u2 => ?_⟩
  · by_cases e : q = i
    · subst e; rw [ulx_s, ulx_n (by omega)]; exact h1 _ _ (by omega) (by omega) (by omega) (by omega)
    · rw [ulx_n e]
      by_cases e2 : p = i
      · subst e2; rw [ulx_s]; exact h1 _ _ (by omega) u2 (by omega) e
      · rw [ulx_n e2]; exact h1 _ _ u1 u2 e2 e
  · by_cases e : q = i
    · subst e; rw [ulx_s]; exact c'
    · rw [ulx_n e]; exact h2 q (by omega) u2
theorem Hol.fill {a : Nat → Int64} {i k : Nat} {y : Int64} (h : Hol a i k y) (hk : i ≤ k) (c : 1 ≤ i → a (i - 1) ≤ y) : ∀ p q, p < q → q < k + 1 → ulx a i y p ≤ ulx a i y q := by
  obtain ⟨h1, h2⟩ := h
  intro p q u1 u2
  by_cases e : q = i
  · subst e
    rw [ulx_s, ulx_n (by omega)]
    refine Int64.le_trans ?_ (c (by omega))
    by_cases e3 : p = q - 1
    · subst e3; exact Int64.le_refl _
    · exact h1 _ _ (by omega) (by omega) (by omega) (by omega)
  · rw [ulx_n e]
    by_cases e2 : p = i
    · subst e2; rw [ulx_s]; exact h2 q (by omega) (by omega)
    · rw [ulx_n e2]; exact h1 _ _ u1 (by omega) e2 e
def gp : Nat → Nat
  | 0 => 1
  | t + 1 => 3 * gp t + 1
theorem gp_pos : ∀ {t : Nat}, 1 ≤ gp t
  | 0 => Nat.le_refl _
  | t + 1 => by rw [gp]; omega
theorem gp_le {t : Nat} (h : t ≤ 8) : gp t ≤ 9841 := by
  have : t = 0 ∨ t = 1 ∨ t = 2 ∨ t = 3 ∨ t = 4 ∨ t = 5 ∨ t = 6 ∨ t = 7 ∨ t = 8 := by omega
  rcases this with rfl | rfl | rfl | rfl | rfl | rfl | rfl | rfl | rfl <;> decide
