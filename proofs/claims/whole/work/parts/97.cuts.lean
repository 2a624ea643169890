/-! debts cut away: the mathematics -/
def u2 (A : Nat → Nat → Int32) (i l : Nat) : Nat → Nat → Int32 := fun f j => if j = i ∧ f = 7 then nI l else if j = i ∧ f = 11 then (if 0 < l then 1 else 0) else A f j
theorem u2_7 {A : Nat → Nat → Int32} {i l : Nat} : u2 A i l 7 i = nI l := if_pos ⟨rfl, rfl⟩
theorem u2_11 {A : Nat → Nat → Int32} {i l : Nat} : u2 A i l 11 i = if 0 < l then 1 else 0 := by unfold u2; rw [if_neg (by omega), if_pos ⟨rfl, rfl⟩]
theorem u2_f {A : Nat → Nat → Int32} {i l f j : Nat} (h7 : f ≠ 7) (h11 : f ≠ 11) : u2 A i l f j = A f j := by unfold u2; rw [if_neg (fun z => h7 z.2), if_neg (fun z => h11 z.2)]
theorem u2_j {A : Nat → Nat → Int32} {i l f j : Nat} (h : j ≠ i) : u2 A i l f j = A f j := by unfold u2; rw [if_neg (fun z => h z.1), if_neg (fun z => h z.1)]
abbrev Cst : Type := (Nat → Nat → Int32) × Nat
def ctS (a b : Nat) (q : Cst) (i : Nat) : Cst := if dbB q.1 a b i = true ∧ 0 < q.2 then (u2 q.1 i ((q.1 7 i).toNatClampNeg - q.2), q.2 - (q.1 7 i).toNatClampNeg) else q
def ctA (a b m : Nat) (A : Nat → Nat → Int32) : Nat → Cst
  | 0 => (A, m)
  | i + 1 => ctS a b (ctA a b m A i) i
theorem ctS_j {a b : Nat} {q : Cst} {i f j : Nat} (h : j ≠ i) : (ctS a b q i).1 f j = q.1 f j := by
  unfold ctS
  split
  · exact u2_j h
  · rfl
theorem ctS_f {a b : Nat} {q : Cst} {i f j : Nat} (h7 : f ≠ 7) (h11 : f ≠ 11) : (ctS a b q i).1 f j = q.1 f j := by
  unfold ctS
  split
  · exact u2_f h7 h11
  · rfl
theorem ctA_ge {a b m : Nat} {A : Nat → Nat → Int32} {f j : Nat} : ∀ {i : Nat}, i ≤ j → (ctA a b m A i).1 f j = A f j
  | 0, _ => rfl
  | i + 1, h => by rw [ctA, ctS_j (by omega)]; exact ctA_ge (by omega)
theorem ctA_f {a b m : Nat} {A : Nat → Nat → Int32} {f j : Nat} (h7 : f ≠ 7) (h11 : f ≠ 11) : ∀ {i : Nat}, (ctA a b m A i).1 f j = A f j
  | 0 => rfl
  | i + 1 => by rw [ctA, ctS_f h7 h11]; exact ctA_f h7 h11
theorem ctA_0 {a b m : Nat} {A : Nat → Nat → Int32} {i : Nat} (h : (ctA a b m A i).2 = 0) : ∀ {j : Nat}, i ≤ j → ctA a b m A j = ctA a b m A i
  | 0, hj => by rw [show i = 0 by omega]
  | j + 1, hj => by
    by_cases c : i = j + 1
    · rw [c]
    · have ih := ctA_0 h (j := j) (by omega)
      rw [ctA, ih]
      unfold ctS
      rw [if_neg (fun z => by omega)]
def Rbs (A : Nat → Nat → Int32) (nr nb : Nat) : Prop := (∀ i, i < nb → RibOK A nr i) ∧ True
def Hbs (A : Nat → Nat → Int32) : Prop := ∀ i, i < 40 → A 11 i = 0 ∨ A 11 i = 1
theorem ctS_rb {a b nr nb : Nat} {q : Cst} {i : Nat} (h : Rbs q.1 nr nb) : Rbs (ctS a b q i).1 nr nb := by
  unfold ctS
  split
  · dsimp only
    refine ⟨fun j hj => ?_, trivial⟩
    by_cases c : j = i
    · subst c
      obtain ⟨h1, h2, ⟨l, hl, el, hh⟩, h4, h5⟩ := h.1 j hj
      unfold RibOK
      rw [u2_f (f := 5) (by omega) (by omega), u2_f (f := 6) (by omega) (by omega), u2_f (f := 8) (by omega) (by omega), u2_f (f := 9) (by omega) (by omega), u2_f (f := 10) (by omega) (by omega), u2_7, u2_11]
      refine ⟨h1, h2, ⟨(q.1 7 j).toNatClampNeg - q.2, ?_, rfl, fun z => ?_⟩, h4, h5⟩
      · rw [el, nI_clamp (by omega)]; omega
      · refine Decidable.byContradiction (fun y => z ?_)
        rw [if_neg (by omega)]
    · exact (h.1 j hj).cong (fun f _ => u2_j c)
  · exact h
theorem ctS_hb {a b : Nat} {q : Cst} {i : Nat} (h : Hbs q.1) : Hbs (ctS a b q i).1 := by
  unfold ctS
  split
  · dsimp only
    intro j hj
    by_cases c : j = i
    · subst c; rw [u2_11]; split
      · exact Or.inr rfl
      · exact Or.inl rfl
    · rw [u2_j c]; exact h j hj
  · exact h
theorem ctA_hb {a b m : Nat} {A : Nat → Nat → Int32} (h : Hbs A) : ∀ {i : Nat}, Hbs (ctA a b m A i).1
  | 0 => h
  | i + 1 => ctS_hb (ctA_hb h)
theorem ctA_rb {a b m nr nb : Nat} {A : Nat → Nat → Int32} (h : Rbs A nr nb) : ∀ {i : Nat}, Rbs (ctA a b m A i).1 nr nb
  | 0 => h
  | i + 1 => ctS_rb (ctA_rb h)
theorem dbB_x {A : Nat → Nat → Int32} {a b i : Nat} (h : dbB A a b i = true) : ¬ A 11 i = 0 ∧ A 8 i = 1 ∧ A 9 i = nI a ∧ A 10 i = nI b := by
  unfold dbB at h
  obtain ⟨z1, z2⟩ := Bool.and_eq_true_iff.mp h
  obtain ⟨z1, z3⟩ := Bool.and_eq_true_iff.mp z1
  obtain ⟨z1, z4⟩ := Bool.and_eq_true_iff.mp z1
  refine ⟨fun y => ?_, of_decide_eq_true z4, of_decide_eq_true z3, of_decide_eq_true z2⟩
  rw [decide_eq_true y] at z1; exact absurd z1 (by decide)
theorem dbB_i {A : Nat → Nat → Int32} {a b i : Nat} (h : ¬ A 11 i = 0 ∧ A 8 i = 1 ∧ A 9 i = nI a ∧ A 10 i = nI b) : dbB A a b i = true := by
  unfold dbB
  rw [decide_eq_false h.1, decide_eq_true h.2.1, decide_eq_true h.2.2.1, decide_eq_true h.2.2.2]; rfl
/-- one ribbon's part of a debt is no more than before -/
theorem ctS_le {a b x y nr nb i j : Nat} {q : Cst} (h : Rbs q.1 nr nb) (hj : j < nb) : dbT (ctS a b q i).1 x y j ≤ dbT q.1 x y j := by
  by_cases c : j = i
  · subst c
    unfold ctS
    split
    · rename_i z
      obtain ⟨-, -, ⟨l, hl, el, -⟩, -⟩ := h.1 j hj
      dsimp only
      unfold dbT
      rw [u2_7]
      by_cases y1 : dbB (u2 q.1 j ((q.1 7 j).toNatClampNeg - q.2)) x y j = true
      · rw [if_pos y1]
        obtain ⟨z1, z2, z3, z4⟩ := dbB_x y1
        rw [u2_f (by omega) (by omega)] at z2 z3 z4
        rw [if_pos (dbB_i ⟨(dbB_x z.1).1, z2, z3, z4⟩), el, nI_clamp (n := l) (by omega), nI_clamp (by omega)]
        omega
      · rw [if_neg y1]; exact Nat.zero_le _
    · exact Nat.le_refl _
  · unfold dbT dbB
    rw [ctS_j c, ctS_j c, ctS_j c, ctS_j c, ctS_j c]
    exact Nat.le_refl _
theorem smN_mono {f g : Nat → Nat} : ∀ {n : Nat}, (∀ i, i < n → f i ≤ g i) → smN f n ≤ smN g n
  | 0, _ => Nat.le_refl _
  | n + 1, h => by
    have := smN_mono (n := n) (fun i hi => h i (by omega))
    have := h n (by omega)
    rw [smN, smN]; omega
theorem smN_lt {f g : Nat → Nat} {k : Nat} : ∀ {n : Nat}, (∀ i, i < n → f i ≤ g i) → k < n → f k < g k → smN f n < smN g n
  | 0, _, h, _ => absurd h (by omega)
  | n + 1, h, hk, hf => by
    have hn := h n (by omega)
    rw [smN, smN]
    by_cases c : k = n
    · subst c
      have := smN_mono (f := f) (g := g) (n := k) (fun i hi => h i (by omega))
      omega
    · have := smN_lt (f := f) (g := g) (k := k) (n := n) (fun i hi => h i (by omega)) (by omega) hf
      omega
theorem ctA_le {a b m x y nr nb : Nat} {A : Nat → Nat → Int32} (h : Rbs A nr nb) : ∀ {i : Nat}, dbS (ctA a b m A i).1 nb x y ≤ dbS A nb x y
  | 0 => Nat.le_refl _
  | i + 1 => Nat.le_trans (smN_mono (fun _ hj => ctS_le (ctA_rb h) hj)) (ctA_le h (i := i))
/-- what is left of the debt itself -/
theorem ctA_own {a b m nr nb : Nat} {A : Nat → Nat → Int32} (h : Rbs A nr nb) : ∀ {i : Nat}, i ≤ nb → smN (dbT (ctA a b m A i).1 a b) i = smN (dbT A a b) i - m ∧ (ctA a b m A i).2 = m - smN (dbT A a b) i
  | 0, _ => by rw [smN, smN]; exact ⟨(Nat.zero_sub _).symm, rfl⟩
  | i + 1, hi => by
    obtain ⟨i1, i2⟩ := ctA_own h (i := i) (by omega)
    have hrb := ctA_rb (a := a) (b := b) (m := m) h (i := i)
    have e0 : smN (dbT (ctA a b m A (i + 1)).1 a b) i = smN (dbT (ctA a b m A i).1 a b) i := smN_cong (fun j hj => by
      rw [ctA]; unfold dbT dbB; rw [ctS_j (by omega), ctS_j (by omega), ctS_j (by omega), ctS_j (by omega), ctS_j (by omega)])
    have e1 : ∀ f, (ctA a b m A i).1 f i = A f i := fun f => ctA_ge (Nat.le_refl _)
    have e2 : dbT (ctA a b m A i).1 a b i = dbT A a b i := by unfold dbT dbB; rw [e1, e1, e1, e1, e1]
    have e3 : dbB (ctA a b m A i).1 a b i = dbB A a b i := by unfold dbB; rw [e1, e1, e1, e1]
    obtain ⟨-, -, ⟨l, hl, el, -⟩, -⟩ := h.1 i (by omega)
    rw [smN, e0, smN, i1, ctA]
    unfold ctS
    by_cases c : dbB A a b i = true
    · have dt : dbT A a b i = l := by unfold dbT; rw [if_pos c, el, nI_clamp (by omega)]
      by_cases c2 : 0 < (ctA a b m A i).2
      · rw [if_pos ⟨by rw [e3]; exact c, c2⟩]
        dsimp only
        rw [e1, el, nI_clamp (by omega), i2, dt]
        have : ∀ l', l' ≤ 99 → dbT (u2 (ctA a b m A i).1 i l') a b i = l' := fun l' hl' => by
          unfold dbT
          rw [u2_7, nI_clamp (by omega)]
          by_cases y : dbB (u2 (ctA a b m A i).1 i l') a b i = true
          · rw [if_pos y]
          · rw [if_neg y]
            refine (Nat.eq_zero_of_not_pos (fun z => y (dbB_i ⟨?_, ?_, ?_, ?_⟩))).symm
            · rw [u2_11, if_pos z]; decide
            · rw [u2_f (by omega) (by omega), e1]; exact (dbB_x c).2.1
            · rw [u2_f (by omega) (by omega), e1]; exact (dbB_x c).2.2.1
            · rw [u2_f (by omega) (by omega), e1]; exact (dbB_x c).2.2.2
        rw [this _ (by omega)]
        omega
      · rw [if_neg (fun z => c2 z.2), e2, dt]
        omega
    · have dt : dbT A a b i = 0 := by unfold dbT; rw [if_neg c]
      rw [if_neg (fun z => c (by rw [← e3]; exact z.1)), e2, dt]
      omega
/-- round a ring -/
def rcA (nb m e : Nat) (P : Nat → Nat) (A : Nat → Nat → Int32) : Nat → (Nat → Nat → Int32)
  | 0 => A
  | k + 1 => (ctA (P k) (P ((k + 1) % m)) e (rcA nb m e P A k) nb).1
theorem rcA_rb {nr nb m e : Nat} {P : Nat → Nat} {A : Nat → Nat → Int32} (h : Rbs A nr nb) : ∀ {k : Nat}, Rbs (rcA nb m e P A k) nr nb
  | 0 => h
  | k + 1 => ctA_rb (rcA_rb h)
theorem rcA_hb {nb m e : Nat} {P : Nat → Nat} {A : Nat → Nat → Int32} (h : Hbs A) : ∀ {k : Nat}, Hbs (rcA nb m e P A k)
  | 0 => h
  | k + 1 => ctA_hb (rcA_hb h)
theorem rcA_f {nb m e : Nat} {P : Nat → Nat} {A : Nat → Nat → Int32} {f j : Nat} (h7 : f ≠ 7) (h11 : f ≠ 11) : ∀ {k : Nat}, rcA nb m e P A k f j = A f j
  | 0 => rfl
  | k + 1 => by rw [rcA, ctA_f h7 h11]; exact rcA_f h7 h11
theorem rcA_le {nr nb m e x y : Nat} {P : Nat → Nat} {A : Nat → Nat → Int32} (h : Rbs A nr nb) : ∀ {k j : Nat}, j ≤ k → dbS (rcA nb m e P A k) nb x y ≤ dbS (rcA nb m e P A j) nb x y
  | 0, j, hj => by rw [show j = 0 by omega]; exact Nat.le_refl _
  | k + 1, j, hj => by
    by_cases c : j = k + 1
    · rw [c]; exact Nat.le_refl _
    · exact Nat.le_trans (ctA_le (rcA_rb h)) (rcA_le h (k := k) (j := j) (by omega))
def pNd (S : Nat → Nat → Nat) : Nat := smN (fun x => smN (fun y => if 0 < S x y then 1 else 0) 8) 8
theorem pN_64 {S : Nat → Nat → Nat} : pNd S ≤ 64 := by
  have := smN_le (f := fun x => smN (fun y => if 0 < S x y then 1 else 0) 8) (c := 8) (n := 8) (fun x _ => ?_)
  · exact this
  · have := smN_le (f := fun y => if 0 < S x y then 1 else 0) (c := 1) (n := 8) (fun y _ => by split <;> omega)
    omega
theorem pN_lt {S S' : Nat → Nat → Nat} {x y : Nat} (hx : x < 8) (hy : y < 8) (h : ∀ a b, S' a b ≤ S a b) (h0 : S' x y = 0) (h1 : 0 < S x y) : pNd S' < pNd S := by
  have key : ∀ a, ∀ j, j < 8 → (if 0 < S' a j then 1 else 0) ≤ (if 0 < S a j then 1 else 0) := fun a j _ => by
    have := h a j
    split
    · rw [if_pos (by omega)]; exact Nat.le_refl _
    · exact Nat.zero_le _
  refine smN_lt (k := x) (fun a _ => smN_mono (key a)) hx ?_
  refine smN_lt (k := y) (key x) hy ?_
  rw [h0, if_neg (by omega), if_pos h1]; exact Nat.zero_lt_one
theorem lsE_mem {S : Nat → Nat → Nat} {P : Nat → Nat} (hS : SOK S) : ∀ {n : Nat}, 2 ≤ n → ∃ k, k + 1 < n ∧ lsE S P n = S (P k) (P (k + 1))
  | 0, h => by omega
  | 1, h => by omega
  | 2, _ => ⟨0, by omega, by
    have := hS.1 (P 0) (P 1)
    show min 268435455 (S (P 0) (P 1)) = S (P 0) (P 1)
    omega⟩
  | n + 3, _ => by
    obtain ⟨k, h1, h2⟩ := lsE_mem (P := P) hS (n := n + 2) (by omega)
    rw [lsE]
    by_cases c : lsE S P (n + 2) ≤ S (P (n + 1)) (P (n + 2))
    · exact ⟨k, by omega, by rw [Nat.min_eq_left c]; exact h2⟩
    · exact ⟨n + 1, by omega, Nat.min_eq_right (Nat.le_of_lt (Nat.not_le.mp c))⟩
/-- each ring ends at least one debt -/
theorem rcA_pN {nr nb : Nat} {A : Nat → Nat → Int32} {B : Bst} (hn : nb ≤ 40) (h : Rbs A nr nb) (hB : RgO (dbS A nb) B) (hp : 0 < B.2.1) : pNd (dbS (rcA nb B.2.1 (B.1 / B.2.1) B.2.2 A B.2.1) nb) < pNd (dbS A nb) := by
  have hS := dbS_ok hn h.1
  rcases hB with ⟨z, -⟩ | ⟨⟨b1, b2⟩, b3, b4, b5, b6⟩
  · omega
  · have ee : B.1 / B.2.1 = mnE (dbS A nb) B.2.2 B.2.1 := by rw [b6]; exact Nat.mul_div_cancel _ hp
    rw [ee]
    generalize hm : B.2.1 = m at *
    generalize hP : B.2.2 = P at *
    -- where the least one stands
    have hk : ∃ k, k < m ∧ dbS A nb (P k) (P ((k + 1) % m)) = mnE (dbS A nb) P m := by
      unfold mnE
      by_cases c : lsE (dbS A nb) P m ≤ dbS A nb (P (m - 1)) (P 0)
      · obtain ⟨k, h1, h2⟩ := lsE_mem (P := P) hS (n := m) b1
        refine ⟨k, by omega, ?_⟩
        rw [Nat.min_eq_left c, h2, Nat.mod_eq_of_lt h1]
      · refine ⟨m - 1, by omega, ?_⟩
        rw [Nat.min_eq_right (by omega), show m - 1 + 1 = m by omega, Nat.mod_self]
    obtain ⟨k, k1, k2⟩ := hk
    refine pN_lt (b3 k k1) (b3 _ (Nat.mod_lt _ (by omega))) (fun a b => rcA_le h (Nat.zero_le _)) ?_ (by rw [k2]; exact b5)
    -- at its own turn it becomes 0
    have s1 : dbS (rcA nb m (mnE (dbS A nb) P m) P A (k + 1)) nb (P k) (P ((k + 1) % m)) = 0 := by
      rw [rcA]
      have := (ctA_own (a := P k) (b := P ((k + 1) % m)) (m := mnE (dbS A nb) P m) (rcA_rb (m := m) (e := mnE (dbS A nb) P m) (P := P) h (k := k)) (i := nb) (Nat.le_refl _)).1
      have l := rcA_le (m := m) (e := mnE (dbS A nb) P m) (P := P) (x := P k) (y := P ((k + 1) % m)) h (k := k) (j := 0) (Nat.zero_le _)
      rw [show dbS (rcA nb m (mnE (dbS A nb) P m) P A 0) nb (P k) (P ((k + 1) % m)) = mnE (dbS A nb) P m from k2] at l
      unfold dbS at l this ⊢
      rw [this]; omega
    have l2 := rcA_le (m := m) (e := mnE (dbS A nb) P m) (P := P) (x := P k) (y := P ((k + 1) % m)) h (k := m) (j := k + 1) (by omega)
    omega
/-- again and again -/
def clF (nb : Nat) : Nat → (Nat → Nat → Int32) → Nat → Cst
  | 0, A, t => (A, t)
  | k + 1, A, t => if 0 < (rgB (dbS A nb) 8).2.1 then clF nb k (rcA nb (rgB (dbS A nb) 8).2.1 ((rgB (dbS A nb) 8).1 / (rgB (dbS A nb) 8).2.1) (rgB (dbS A nb) 8).2.2 A (rgB (dbS A nb) 8).2.1) (t + (rgB (dbS A nb) 8).1) else (A, t)
theorem clF_no {nb k t : Nat} {A : Nat → Nat → Int32} (h : (rgB (dbS A nb) 8).2.1 = 0) : clF nb k A t = (A, t) := by
  cases k with
  | zero => rfl
  | succ k => rw [clF, if_neg (by omega)]
theorem pN_ring {nr nb : Nat} {A : Nat → Nat → Int32} (hn : nb ≤ 40) (h : Rbs A nr nb) (h0 : pNd (dbS A nb) = 0) : (rgB (dbS A nb) 8).2.1 = 0 := by
  refine Nat.eq_zero_of_not_pos (fun z => ?_)
  have := rcA_pN hn h (rgB_rg (dbS_ok hn h.1) (Nat.le_refl 8)) z
  omega
theorem clF_eq {nr nb : Nat} (hn : nb ≤ 40) : ∀ {k k' t : Nat} {A : Nat → Nat → Int32}, Rbs A nr nb → pNd (dbS A nb) ≤ k → pNd (dbS A nb) ≤ k' → clF nb k A t = clF nb k' A t
  | 0, k', t, A, h, h1, _ => by
    have := pN_ring hn h (by omega)
    rw [clF_no this, clF_no this]
  | k + 1, 0, t, A, h, _, h2 => by
    have := pN_ring hn h (by omega)
    rw [clF_no this, clF_no this]
  | k + 1, k' + 1, t, A, h, h1, h2 => by
    rw [clF, clF]
    by_cases c : 0 < (rgB (dbS A nb) 8).2.1
    · rw [if_pos c, if_pos c]
      have := rcA_pN hn h (rgB_rg (dbS_ok hn h.1) (Nat.le_refl 8)) c
      exact clF_eq hn (rcA_rb h) (by omega) (by omega)
    · rw [if_neg c, if_neg c]
theorem clF_rb {nr nb : Nat} : ∀ {k t : Nat} {A : Nat → Nat → Int32}, Rbs A nr nb → Rbs (clF nb k A t).1 nr nb
  | 0, _, _, h => h
  | k + 1, t, A, h => by
    rw [clF]
    split
    · exact clF_rb (rcA_rb h)
    · exact h
theorem clF_hb {nb : Nat} : ∀ {k t : Nat} {A : Nat → Nat → Int32}, Hbs A → Hbs (clF nb k A t).1
  | 0, _, _, h => h
  | k + 1, t, A, h => by
    rw [clF]
    split
    · exact clF_hb (rcA_hb h)
    · exact h
theorem clF_f {nb : Nat} {f j : Nat} (h7 : f ≠ 7) (h11 : f ≠ 11) : ∀ {k t : Nat} {A : Nat → Nat → Int32}, (clF nb k A t).1 f j = A f j
  | 0, _, _ => rfl
  | k + 1, t, A => by
    rw [clF]
    split
    · rw [clF_f h7 h11, rcA_f h7 h11]
    · rfl
/-- both books alike -/
def Ebk (A B : Nat → Nat → Int32) (nb : Nat) : Prop := ∀ f, 5 ≤ f → f < 12 → ∀ i, i < nb → A f i = B f i
theorem Ebk.db {A B : Nat → Nat → Int32} {nb : Nat} (h : Ebk A B nb) : dbS A nb = dbS B nb := funext fun a => funext fun b => dbS_cong (fun f h7 h12 i hi => h f (by omega) h12 i hi)
theorem Ebk.ct {A B : Nat → Nat → Int32} {nb a b m : Nat} (h : Ebk A B nb) : ∀ {i : Nat}, i ≤ nb → Ebk (ctA a b m A i).1 (ctA a b m B i).1 nb ∧ (ctA a b m A i).2 = (ctA a b m B i).2
  | 0, _ => ⟨h, rfl⟩
  | i + 1, hi => by
    obtain ⟨i1, i2⟩ := h.ct (a := a) (b := b) (m := m) (i := i) (by omega)
    have eb : dbB (ctA a b m A i).1 a b i = dbB (ctA a b m B i).1 a b i := by
      unfold dbB
      rw [i1 8 (by omega) (by omega) i (by omega), i1 9 (by omega) (by omega) i (by omega), i1 10 (by omega) (by omega) i (by omega), i1 11 (by omega) (by omega) i (by omega)]
    have e7 := i1 7 (by omega) (by omega) i (by omega)
    rw [ctA, ctA]
    unfold ctS
    rw [eb, i2, e7]
    split
    · refine ⟨fun f h5 h12 j hj => ?_, rfl⟩
      dsimp only
      unfold u2
      split
      · rfl
      · split
        · rfl
        · exact i1 f h5 h12 j hj
    · exact ⟨i1, i2⟩
theorem Ebk.rc {A B : Nat → Nat → Int32} {nb m e : Nat} {P : Nat → Nat} (h : Ebk A B nb) : ∀ {k : Nat}, Ebk (rcA nb m e P A k) (rcA nb m e P B k) nb
  | 0 => h
  | k + 1 => ((h.rc (k := k)).ct (Nat.le_refl _)).1
theorem Ebk.cl {nb : Nat} : ∀ {k t : Nat} {A B : Nat → Nat → Int32}, Ebk A B nb → Ebk (clF nb k A t).1 (clF nb k B t).1 nb ∧ (clF nb k A t).2 = (clF nb k B t).2
  | 0, _, _, _, h => ⟨h, rfl⟩
  | k + 1, t, A, B, h => by
    rw [clF, clF, h.db]
    split
    · exact Ebk.cl h.rc
    · exact ⟨h, rfl⟩
