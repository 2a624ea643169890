/-! rings of debts: the search, and what it finds -/
abbrev Bst : Type := Nat × Nat × (Nat → Nat)
def upN (P : Nat → Nat) (n q : Nat) : Nat → Nat := fun k => if k = n then q else P k
theorem upN_s {P : Nat → Nat} {n q : Nat} : upN P n q n = q := if_pos rfl
theorem upN_n {P : Nat → Nat} {n q k : Nat} (h : k ≠ n) : upN P n q k = P k := if_neg h
/-- the least debt on the way -/
def lsE (S : Nat → Nat → Nat) (P : Nat → Nat) : Nat → Nat
  | 0 => 268435455
  | 1 => 268435455
  | n + 2 => min (lsE S P (n + 1)) (S (P n) (P (n + 1)))
def mnE (S : Nat → Nat → Nat) (P : Nat → Nat) (n : Nat) : Nat := min (lsE S P n) (S (P (n - 1)) (P 0))
def lkB (S : Nat → Nat → Nat) (P : Nat → Nat) (n : Nat) (B : Bst) : Bst := if B.1 < mnE S P n * n ∨ (mnE S P n * n = B.1 ∧ 0 < mnE S P n * n ∧ n < B.2.1) then (mnE S P n * n, n, P) else B
def onP (P : Nat → Nat) (n q : Nat) : Bool := anB (fun k => decide (P k = q)) n
def okB (S : Nat → Nat → Nat) (P : Nat → Nat) (n q : Nat) : Bool := !onP P n q && decide (0 < S (P (n - 1)) q)
def rsL (ok : Nat → Bool) (nx : Nat → Bst → Bst) : Nat → Bst → Bst
  | 0, B => B
  | r + 1, B => rsL ok nx r (if ok (7 - r) = true then nx (7 - r) B else B)
def rsF (S : Nat → Nat → Nat) : Nat → Nat → (Nat → Nat) → Bst → Bst
  | 0, n, P, B => lkB S P n B
  | f + 1, n, P, B => rsL (okB S P n) (fun q B => rsF S f (n + 1) (upN P n q) B) (7 - P 0) (lkB S P n B)
def rgB (S : Nat → Nat → Nat) : Nat → Bst
  | 0 => (0, 0, fun _ => 0)
  | s + 1 => rsF S 7 1 (fun _ => s) (rgB S s)
def SOK (S : Nat → Nat → Nat) : Prop := (∀ a b, S a b ≤ 3960) ∧ ∀ a, S a a = 0
def BOK (B : Bst) : Prop := B.1 ≤ 31680 ∧ B.2.1 ≤ 8
theorem lsE_cong {S : Nat → Nat → Nat} {P P' : Nat → Nat} : ∀ {n : Nat}, (∀ k, k < n → P k = P' k) → lsE S P n = lsE S P' n
  | 0, _ => rfl
  | 1, _ => rfl
  | n + 2, h => by rw [lsE, lsE, lsE_cong (n := n + 1) (fun k hk => h k (by omega)), h n (by omega), h (n + 1) (by omega)]
theorem lsE_up {S : Nat → Nat → Nat} {P : Nat → Nat} {n q : Nat} (hn : 1 ≤ n) : lsE S (upN P n q) (n + 1) = min (lsE S P n) (S (P (n - 1)) q) := by
  obtain ⟨m, rfl⟩ : ∃ m, n = m + 1 := ⟨n - 1, by omega⟩
  rw [lsE, lsE_cong (P' := P) (fun k hk => upN_n (by omega)), upN_n (show m ≠ m + 1 by omega), upN_s]
  rfl
theorem lsE_le {S : Nat → Nat → Nat} {P : Nat → Nat} : ∀ {n : Nat}, lsE S P n ≤ 268435455
  | 0 => Nat.le_refl _
  | 1 => Nat.le_refl _
  | n + 2 => by rw [lsE]; exact Nat.le_trans (Nat.min_le_left _ _) (lsE_le (n := n + 1))
theorem mnE_le {S : Nat → Nat → Nat} {P : Nat → Nat} {n : Nat} (hS : SOK S) : mnE S P n ≤ 3960 := Nat.le_trans (Nat.min_le_right _ _) (hS.1 _ _)
theorem lkB_0 {S : Nat → Nat → Nat} {P : Nat → Nat} {n : Nat} {B : Bst} (h : mnE S P n = 0) : lkB S P n B = B := by
  unfold lkB; rw [h, Nat.zero_mul, if_neg (fun z => by omega)]
theorem lkB_ok {S : Nat → Nat → Nat} {P : Nat → Nat} {n : Nat} {B : Bst} (hS : SOK S) (hn : n ≤ 8) (h : BOK B) : BOK (lkB S P n B) := by
  unfold lkB
  split
  · exact ⟨Nat.mul_le_mul (mnE_le hS) hn, hn⟩
  · exact h
theorem rsL_inv {ok : Nat → Bool} {nx : Nat → Bst → Bst} {I : Bst → Prop} (h : ∀ q B, q ≤ 7 → ok q = true → I B → I (nx q B)) : ∀ {r : Nat} {B : Bst}, I B → I (rsL ok nx r B)
  | 0, _, q => q
  | r + 1, B, q => by
    rw [rsL]
    refine rsL_inv h ?_
    split
    · rename_i c; exact h _ _ (by omega) c q
    · exact q
theorem rsL_id {ok : Nat → Bool} {nx : Nat → Bst → Bst} {B : Bst} (h : ∀ q, q ≤ 7 → ok q = true → nx q B = B) : ∀ {r : Nat}, rsL ok nx r B = B
  | 0 => rfl
  | r + 1 => by
    rw [rsL]
    have e : (if ok (7 - r) = true then nx (7 - r) B else B) = B := by
      split
      · rename_i c; exact h _ (by omega) c
      · rfl
    rw [e]; exact rsL_id h
theorem rsF_ok {S : Nat → Nat → Nat} (hS : SOK S) : ∀ {f n : Nat} {P : Nat → Nat} {B : Bst}, f + n ≤ 8 → BOK B → BOK (rsF S f n P B)
  | 0, n, P, B, hn, h => lkB_ok hS (by omega) h
  | f + 1, n, P, B, hn, h => by
    rw [rsF]
    exact rsL_inv (I := BOK) (fun q B _ _ hB => rsF_ok hS (by omega) hB) (lkB_ok hS (by omega) h)
/-- not even all people in one ring would make more of so little -/
theorem rsF_low {S : Nat → Nat → Nat} : ∀ {f n : Nat} {P : Nat → Nat} {B : Bst}, 1 ≤ n → f + n ≤ 8 → BOK B → lsE S P n * 8 ≤ B.1 → rsF S f n P B = B := by
  have lk : ∀ {n : Nat} {P : Nat → Nat} {B : Bst}, n ≤ 8 → BOK B → lsE S P n * 8 ≤ B.1 → lkB S P n B = B := by
    intro n P B hn hB h
    unfold lkB
    have h1 : mnE S P n ≤ lsE S P n := Nat.min_le_left _ _
    have h2 : mnE S P n * n ≤ lsE S P n * 8 := Nat.mul_le_mul h1 hn
    have hB2 := hB.2
    rw [if_neg]
    intro z
    rcases z with z | ⟨z1, z2, z3⟩
    · omega
    · have h3 : mnE S P n * (n + 1) ≤ lsE S P n * 8 := Nat.mul_le_mul h1 (by omega)
      rw [Nat.mul_succ] at h3
      have h4 : 0 < mnE S P n := Nat.pos_of_ne_zero (fun y => by rw [y, Nat.zero_mul] at z2; omega)
      omega
  intro f
  induction f with
  | zero => intro n P B h1 hn hB h; exact lk (by omega) hB h
  | succ f ih =>
    intro n P B h1 hn hB h
    rw [rsF, lk (by omega) hB h]
    refine rsL_id (fun q _ _ => ih (by omega) (by omega) hB ?_)
    rw [lsE_up h1]
    exact Nat.le_trans (Nat.mul_le_mul (Nat.min_le_left _ _) (Nat.le_refl _)) h
/-- a way of debts -/
def PaO (S : Nat → Nat → Nat) (P : Nat → Nat) (n : Nat) : Prop := (∀ k, k < n → P k < 8) ∧ (∀ i j, i < j → j < n → P i ≠ P j) ∧ 0 < lsE S P n
theorem onP_f {P : Nat → Nat} {n q : Nat} (h : onP P n q = false) : ∀ k, k < n → P k ≠ q := fun k hk e => by
  have := anB_t (p := fun k => decide (P k = q)) hk (decide_eq_true e)
  rw [show anB (fun k => decide (P k = q)) n = onP P n q from rfl, h] at this
  exact absurd this (by decide)
theorem PaO.up {S : Nat → Nat → Nat} {P : Nat → Nat} {n q : Nat} (h : PaO S P n) (hn : 1 ≤ n) (hq : q ≤ 7) (ok : okB S P n q = true) : PaO S (upN P n q) (n + 1) := by
  obtain ⟨h1, h2, h3⟩ := h
  unfold okB at ok
  obtain ⟨o1, o2⟩ := Bool.and_eq_true_iff.mp ok
  have o1' : onP P n q = false := by cases e : onP P n q with | true => rw [e] at o1; exact absurd o1 (by decide) | false => rfl
  have on := onP_f o1'
  refine ⟨fun k hk => ?_, fun i j hij hj => ?_, ?_⟩
  · by_cases c : k = n
    · subst c; rw [upN_s]; omega
    · rw [upN_n c]; exact h1 k (by omega)
  · by_cases c : j = n
    · subst c; rw [upN_s, upN_n (by omega)]; exact on i hij
    · rw [upN_n c, upN_n (by omega)]; exact h2 i j hij (by omega)
  · rw [lsE_up hn]
    have := of_decide_eq_true o2
    omega
theorem PaO.one {S : Nat → Nat → Nat} {s : Nat} (h : s < 8) : PaO S (fun _ => s) 1 := ⟨fun _ _ => h, fun i j h1 h2 => by omega, by show 0 < 268435455; omega⟩
/-- no more different numbers below n than n -/
theorem pig : ∀ (n : Nat) (P : Nat → Nat) (m : Nat), (∀ k, k < m → P k < n) → (∀ i j, i < j → j < m → P i ≠ P j) → m ≤ n
  | 0, P, m, h1, _ => by
    cases m with
    | zero => exact Nat.le_refl _
    | succ m => exact absurd (h1 0 (by omega)) (by omega)
  | n + 1, P, m, h1, h2 => by
    cases m with
    | zero => omega
    | succ m =>
      -- the place of n goes to the last one
      have hi : ∀ i j, i < m + 1 → j < m + 1 → i ≠ j → P i ≠ P j := fun i j x y z => by
        rcases Nat.lt_or_gt_of_ne z with c | c
        · exact h2 i j c y
        · exact fun e => h2 j i c x e.symm
      by_cases c : ∃ i, i < m + 1 ∧ P i = n
      · obtain ⟨i, c1, c2⟩ := c
        have := pig n (fun k => if k = i then P m else P k) m (fun k hk => ?_) (fun a b hab hb => ?_)
        · omega
        · by_cases e : k = i
          · simp only [e, if_true]
            have x1 := h1 m (by omega)
            have x2 := hi m i (by omega) c1 (by omega)
            rw [c2] at x2
            omega
          · simp only [e, if_false]
            have x1 := h1 k (by omega)
            have x2 := hi k i (by omega) c1 e
            rw [c2] at x2
            omega
        · by_cases e : a = i
          · by_cases e2 : b = i
            · omega
            · simp only [e, e2, if_true, if_false]; exact hi m b (by omega) (by omega) (by omega)
          · by_cases e2 : b = i
            · simp only [e, e2, if_true, if_false]; exact hi a m (by omega) (by omega) (by omega)
            · simp only [e, e2, if_false]; exact hi a b (by omega) (by omega) (by omega)
      · have := pig n P m (fun k hk => ?_) (fun a b hab hb => h2 a b hab (by omega))
        · have l := h1 m (by omega)
          have l2 : P m ≠ n := fun e => c ⟨m, by omega, e⟩
          -- the last one is below n as well
          have := pig n P (m + 1) (fun k hk => ?_) h2
          · omega
          · have x1 := h1 k hk
            have x2 : P k ≠ n := fun e => c ⟨k, hk, e⟩
            omega
        · have x1 := h1 k (by omega)
          have x2 : P k ≠ n := fun e => c ⟨k, by omega, e⟩
          omega
theorem PaO.full {S : Nat → Nat → Nat} {P : Nat → Nat} {q : Nat} (h : PaO S P 8) (hq : q ≤ 7) : okB S P 8 q = false := by
  cases e : okB S P 8 q with
  | false => rfl
  | true =>
    have := h.up (by omega) hq e
    have := pig 8 (upN P 8 q) 9 this.1 this.2.1
    omega
/-- a ring that stands in the book -/
def RgO (S : Nat → Nat → Nat) (B : Bst) : Prop := B.2.1 = 0 ∧ B.1 = 0 ∨ (2 ≤ B.2.1 ∧ B.2.1 ≤ 8) ∧ (∀ k, k < B.2.1 → B.2.2 k < 8) ∧ (∀ i j, i < j → j < B.2.1 → B.2.2 i ≠ B.2.2 j) ∧ 0 < mnE S B.2.2 B.2.1 ∧ B.1 = mnE S B.2.2 B.2.1 * B.2.1
theorem lkB_rg {S : Nat → Nat → Nat} {P : Nat → Nat} {n : Nat} {B : Bst} (hS : SOK S) (hP : PaO S P n) (h1 : 1 ≤ n) (hn : n ≤ 8) (h : RgO S B) : RgO S (lkB S P n B) := by
  unfold lkB
  split
  · rename_i c
    have pos : 0 < mnE S P n * n := by omega
    have mp : 0 < mnE S P n := Nat.pos_of_ne_zero (fun y => by rw [y, Nat.zero_mul] at pos; omega)
    right
    refine ⟨⟨?_, hn⟩, hP.1, hP.2.1, mp, rfl⟩
    by_cases e : n = 1
    · subst e
      unfold mnE at mp
      rw [show S (P (1 - 1)) (P 0) = 0 from hS.2 _] at mp
      omega
    · show 2 ≤ n; omega
  · exact h
theorem rsF_rg {S : Nat → Nat → Nat} (hS : SOK S) : ∀ {f n : Nat} {P : Nat → Nat} {B : Bst}, 1 ≤ n → f + n ≤ 8 → PaO S P n → RgO S B → RgO S (rsF S f n P B)
  | 0, n, P, B, h1, hn, hP, h => lkB_rg hS hP h1 (by omega) h
  | f + 1, n, P, B, h1, hn, hP, h => by
    rw [rsF]
    exact rsL_inv (I := RgO S) (fun q B hq ok hB => rsF_rg hS (by omega) (by omega) (hP.up h1 hq ok) hB) (lkB_rg hS hP h1 (by omega) h)
theorem rgB_rg {S : Nat → Nat → Nat} (hS : SOK S) : ∀ {s : Nat}, s ≤ 8 → RgO S (rgB S s)
  | 0, _ => Or.inl ⟨rfl, rfl⟩
  | s + 1, h => rsF_rg hS (by omega) (by omega) (PaO.one (by omega)) (rgB_rg hS (by omega))
theorem rgB_ok {S : Nat → Nat → Nat} (hS : SOK S) : ∀ {s : Nat}, BOK (rgB S s)
  | 0 => ⟨Nat.zero_le _, Nat.zero_le _⟩
  | s + 1 => rsF_ok hS (by omega) (rgB_ok hS)
theorem RgO.pos {S : Nat → Nat → Nat} {B : Bst} (h : RgO S B) : 0 < B.1 ↔ 0 < B.2.1 := by
  rcases h with ⟨h1, h2⟩ | ⟨⟨h1, h2⟩, -, -, h5, h6⟩
  · omega
  · have : 0 < B.1 := by rw [h6]; exact Nat.mul_pos h5 (by omega)
    omega
