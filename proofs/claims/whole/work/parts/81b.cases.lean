/-! the cases, one behind the other -/
def clR (p : Nat → Nat → Bool) (i : Nat) : Nat → List (Nat × Nat)
  | 0 => []
  | j + 1 => clR p i j ++ if p i j = true then [(i, j + 1)] else []
def clA (p : Nat → Nat → Bool) : Nat → List (Nat × Nat)
  | 0 => []
  | i + 1 => clA p i ++ clR p i 99
def cg (L : List (Nat × Nat)) (k : Nat) : Nat × Nat := L.getD k (0, 0)
theorem cg_l {L M : List (Nat × Nat)} {k : Nat} (h : k < L.length) : cg (L ++ M) k = cg L k := by
  unfold cg; rw [List.getD_eq_getElem?_getD, List.getD_eq_getElem?_getD, List.getElem?_append_left h]
theorem cg_s {L : List (Nat × Nat)} {x : Nat × Nat} : cg (L ++ [x]) L.length = x := by
  unfold cg; rw [List.getD_eq_getElem?_getD, List.getElem?_append_right (Nat.le_refl _)]; simp
theorem cg_mem {L : List (Nat × Nat)} {k : Nat} (h : k < L.length) : cg L k ∈ L := by
  unfold cg; rw [List.getD_eq_getElem?_getD, List.getElem?_eq_getElem h]; exact List.getElem_mem h
theorem clR_mem {p : Nat → Nat → Bool} {i : Nat} {x : Nat × Nat} : ∀ {m : Nat}, x ∈ clR p i m → ∃ j, j < m ∧ p i j = true ∧ x = (i, j + 1)
  | 0, h => by simp [clR] at h
  | m + 1, h => by
    rw [clR] at h
    rcases List.mem_append.mp h with h | h
    · obtain ⟨j, h1, h2, h3⟩ := clR_mem h; exact ⟨j, by omega, h2, h3⟩
    · by_cases c : p i m = true
      · rw [if_pos c] at h; exact ⟨m, by omega, c, List.mem_singleton.mp h⟩
      · rw [if_neg c] at h; simp at h
theorem clA_mem {p : Nat → Nat → Bool} {x : Nat × Nat} : ∀ {m : Nat}, x ∈ clA p m → ∃ i j, i < m ∧ j < 99 ∧ p i j = true ∧ x = (i, j + 1)
  | 0, h => by simp [clA] at h
  | m + 1, h => by
    rw [clA] at h
    rcases List.mem_append.mp h with h | h
    · obtain ⟨i, j, h1, h2, h3, h4⟩ := clA_mem h; exact ⟨i, j, by omega, h2, h3, h4⟩
    · obtain ⟨j, h1, h2, h3⟩ := clR_mem h; exact ⟨m, j, by omega, h1, h2, h3⟩
theorem clR_cong {p q : Nat → Nat → Bool} {i : Nat} : ∀ {m : Nat}, (∀ j, j < m → p i j = q i j) → clR p i m = clR q i m
  | 0, _ => rfl
  | m + 1, h => by rw [clR, clR, clR_cong (fun j hj => h j (by omega)), h m (by omega)]
theorem clA_cong {p q : Nat → Nat → Bool} : ∀ {m : Nat}, (∀ i j, i < m → j < 99 → p i j = q i j) → clA p m = clA q m
  | 0, _ => rfl
  | m + 1, h => by rw [clA, clA, clA_cong (fun i j hi hj => h i j (by omega) hj), clR_cong (fun j hj => h m j (by omega) hj)]
theorem clR_le {p : Nat → Nat → Bool} {i : Nat} : ∀ {m : Nat}, (clR p i m).length ≤ m
  | 0 => Nat.le_refl _
  | m + 1 => by
    have := clR_le (p := p) (i := i) (m := m)
    rw [clR, List.length_append]
    split
    · rw [List.length_singleton]; omega
    · rw [List.length_nil]; omega
theorem clR_mono {p : Nat → Nat → Bool} {i k m : Nat} (h : k ≤ m) : (clR p i k).length ≤ (clR p i m).length := by
  induction m with
  | zero => have : k = 0 := by omega
            subst this; exact Nat.le_refl _
  | succ m ih =>
    by_cases c : k = m + 1
    · subst c; exact Nat.le_refl _
    · have := ih (by omega); rw [clR, List.length_append]; omega
theorem clR_lt {p : Nat → Nat → Bool} {i k : Nat} (hk : p i k = false) : ∀ {m : Nat}, k < m → (clR p i m).length + 1 ≤ m
  | 0, h => absurd h (by omega)
  | m + 1, h => by
    rw [clR, List.length_append]
    by_cases c : k = m
    · subst c
      rw [if_neg (by rw [hk]; decide), List.length_nil]
      have := clR_le (p := p) (i := i) (m := k)
      omega
    · have := clR_lt hk (m := m) (by omega)
      split
      · rw [List.length_singleton]; omega
      · rw [List.length_nil]; omega
theorem clA_le {p : Nat → Nat → Bool} : ∀ {m : Nat}, (∀ i, i < m → ∃ k, k < 99 ∧ p i k = false) → (clA p m).length ≤ 98 * m
  | 0, _ => Nat.le_refl _
  | m + 1, h => by
    have := clA_le (p := p) (m := m) (fun i hi => h i (by omega))
    obtain ⟨k, h1, h2⟩ := h m (by omega)
    have := clR_lt h2 h1
    rw [clA, List.length_append]
    omega
/-- where one more is found there is room for it -/
theorem clA_room {p : Nat → Nat → Bool} {i j : Nat} (hj : j < 99) (hp : p i j = true) (h : ∀ q, q < i + 1 → ∃ k, k < 99 ∧ p q k = false) : (clA p i ++ clR p i j).length < 98 * (i + 1) := by
  have h1 := clA_le h
  have h2 := clR_mono (p := p) (i := i) (k := j + 1) (m := 99) (by omega)
  rw [clA, List.length_append] at h1
  rw [clR, if_pos hp, List.length_append, List.length_singleton] at h2
  rw [List.length_append]
  omega
