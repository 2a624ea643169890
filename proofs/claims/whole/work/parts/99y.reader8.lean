/-! faults have their number and place -/
def Gd (L : Nat) (r : Rs) : Prop := match r with
  | .inl e => 1 ≤ e.1 ∧ e.1 ≤ 5 ∧ e.2 ≤ L
  | .inr x => x.2 ≤ L
theorem Gd.bd {L : Nat} {r : Rs} {f : Tr → Nat → Rs} (h : Gd L r) (hf : ∀ t p, p ≤ L → Gd L (f t p)) : Gd L (bd r f) := by
  cases r with
  | inl e => exact h
  | inr x => exact hf x.1 x.2 h
theorem nxC_ge {L : Nat} {fb : Nat → Nat} {p : Nat} {P : Int32 → Bool} (hP : P (-1) = false) (h : P (nxC L fb p) = true) : p < L := by
  unfold nxC at h
  by_cases y : p < L
  · exact y
  · rw [if_neg y, hP] at h; exact absurd h (by decide)
section GD
variable {L : Nat} {fb : Nat → Nat}
theorem loopR_Gd {isOp : Int32 → Bool} {fac : Nat → Rs} (ho : isOp (-1) = false) (hf : ∀ p, p ≤ L → Gd L (fac p)) : ∀ {n p : Nat} {t : Tr}, p ≤ L → Gd L (loopR (nxC L fb) isOp fac n p t)
  | 0, p, t, hp => hp
  | n + 1, p, t, hp => by
    rw [loopR]
    by_cases c : isOp (nxC L fb p) = true
    · rw [if_pos c]
      have := nxC_ge ho c
      exact (hf (p + 1) (by omega)).bd (fun t' q hq => loopR_Gd ho hf hq)
    · rw [if_neg c]; exact hp
theorem lvR_Gd {isOp : Int32 → Bool} {fac : Nat → Rs} (ho : isOp (-1) = false) (hf : ∀ p, p ≤ L → Gd L (fac p)) {p : Nat} (hp : p ≤ L) : Gd L (lvR (nxC L fb) isOp fac p) := (hf p hp).bd (fun _ _ hq => loopR_Gd ho hf hq)
theorem numR_Gd : ∀ {n p : Nat} {x : Int32}, p ≤ L → Gd L (numR (nxC L fb) n p x)
  | 0, p, x, hp => by
    rw [numR]
    by_cases c : isDg (nxC L fb p) = true
    · rw [if_pos c]; exact ⟨Nat.le_of_ble_eq_true rfl, Nat.le_of_ble_eq_true rfl, hp⟩
    · rw [if_neg c]; exact hp
  | n + 1, p, x, hp => by
    rw [numR]
    by_cases c : isDg (nxC L fb p) = true
    · rw [if_pos c]
      have := nxC_ge (P := isDg) (by decide) c
      exact numR_Gd (by omega)
    · rw [if_neg c]; exact hp
theorem atomR_Gd {p : Nat} (hp : p ≤ L) : Gd L (atomR (nxC L fb) p) := by
  rw [atomR]
  by_cases c : isDg (nxC L fb p) = true
  · rw [if_pos c]; exact numR_Gd hp
  · rw [if_neg c]
    by_cases c2 : isVl (nxC L fb p) = true
    · rw [if_pos c2]
      have := nxC_ge (P := isVl) (by decide) c2
      exact (show p + 1 ≤ L by omega)
    · rw [if_neg c2]; exact ⟨Nat.le_of_ble_eq_true rfl, Nat.le_of_ble_eq_true rfl, hp⟩
theorem clsR_Gd {c : Int32} (hc : c ≠ -1) {r : Rs} (h : Gd L r) : Gd L (clsR (nxC L fb) c r) := h.bd (fun t q hq => by
  by_cases y : nxC L fb q = c
  · rw [if_pos y]
    have := nxC_lt hc y
    exact (show q + 1 ≤ L by omega)
  · rw [if_neg y]; exact ⟨Nat.le_of_ble_eq_true rfl, Nat.le_of_ble_eq_true rfl, hq⟩)
theorem facK_Gd : ∀ {k p : Nat}, p ≤ L → Gd L (facK (nxC L fb) k p)
  | 0, p, hp => by
    rw [facK]
    by_cases c : nxC L fb p = 91
    · rw [if_pos c]; exact ⟨Nat.le_of_ble_eq_true rfl, Nat.le_of_ble_eq_true rfl, hp⟩
    · rw [if_neg c]; exact atomR_Gd hp
  | k + 1, p, hp => by
    rw [facK]
    by_cases c : nxC L fb p = 91
    · rw [if_pos c]
      have := nxC_lt (by decide) c
      exact clsR_Gd (by decide) (lvR_Gd (by decide) (fun p hp => lvR_Gd (by decide) (fun p hp => facK_Gd hp) hp) (by omega))
    · rw [if_neg c]; exact atomR_Gd hp
theorem sumK_Gd {k p : Nat} (hp : p ≤ L) : Gd L (sumK (nxC L fb) k p) := lvR_Gd (by decide) (fun p hp => lvR_Gd (by decide) (fun p hp => facK_Gd hp) hp) hp
theorem cmpR_Gd {k p : Nat} (hp : p ≤ L) : Gd L (cmpR (nxC L fb) k p) := (sumK_Gd hp).bd (fun t q hq => by
  by_cases c : isSg (nxC L fb q) = true
  · rw [if_pos c]
    have := nxC_ge (P := isSg) (by decide) c
    exact (sumK_Gd (by omega)).bd (fun t' q' hq' => hq')
  · rw [if_neg c]; exact ⟨Nat.le_of_ble_eq_true rfl, Nat.le_of_ble_eq_true rfl, hq⟩)
theorem pieK_Gd : ∀ {k p : Nat}, p ≤ L → Gd L (pieK (nxC L fb) k p)
  | 0, p, hp => by
    rw [pieK]
    by_cases c : nxC L fb p = 33 ∨ nxC L fb p = 40
    · rw [if_pos c]; exact ⟨Nat.le_of_ble_eq_true rfl, Nat.le_of_ble_eq_true rfl, hp⟩
    · rw [if_neg c]; exact cmpR_Gd hp
  | k + 1, p, hp => by
    rw [pieK]
    by_cases c : nxC L fb p = 33
    · rw [if_pos c]
      have := nxC_lt (by decide) c
      exact (pieK_Gd (k := k) (by omega)).bd (fun t q hq => hq)
    · rw [if_neg c]
      by_cases c2 : nxC L fb p = 40
      · rw [if_pos c2]
        have := nxC_lt (by decide) c2
        exact clsR_Gd (by decide) (lvR_Gd (by decide) (fun p hp => lvR_Gd (by decide) (fun p hp => pieK_Gd hp) hp) (by omega))
      · rw [if_neg c2]; exact cmpR_Gd hp
theorem cndK_Gd {k p : Nat} (hp : p ≤ L) : Gd L (cndK (nxC L fb) k p) := lvR_Gd (by decide) (fun p hp => lvR_Gd (by decide) (fun p hp => pieK_Gd hp) hp) hp
theorem claR_Gd {c p : Nat} (hp : p ≤ L) : (∀ e, claR (nxC L fb) c p = .inl e → 1 ≤ e.1 ∧ e.1 ≤ 5 ∧ e.2 ≤ L) ∧ ∀ x, claR (nxC L fb) c p = .inr x → x.2 ≤ L := by
  rw [claR]
  by_cases c1 : nxC L fb p = 103 ∨ nxC L fb p = 112
  · rw [if_pos c1]
    have hlt : p < L := by
      rcases c1 with z | z
      · exact nxC_lt (by decide) z
      · exact nxC_lt (by decide) z
    by_cases c2 : 14 ≤ c
    · rw [if_pos c2]
      exact ⟨fun e h => by rw [← Sum.inl.inj h]; exact ⟨Nat.le_of_ble_eq_true rfl, Nat.le_of_ble_eq_true rfl, hp⟩, fun x h => by simp at h⟩
    · rw [if_neg c2]
      have g := sumK_Gd (L := L) (fb := fb) (k := 6) (p := p + 1) (by omega)
      cases es : sumK (nxC L fb) 6 (p + 1) with
      | inl er =>
        rw [es] at g
        exact ⟨fun e h => by rw [← Sum.inl.inj h]; exact g, fun x h => by simp at h⟩
      | inr y =>
        rw [es] at g
        dsimp only
        by_cases c3 : nxC L fb y.2 = 40
        · rw [if_pos c3]
          have := nxC_lt (by decide) c3
          have g2 := cndK_Gd (L := L) (fb := fb) (k := 5) (p := y.2 + 1) (by omega)
          cases ec : cndK (nxC L fb) 5 (y.2 + 1) with
          | inl er =>
            rw [ec] at g2
            exact ⟨fun e h => by rw [← Sum.inl.inj h]; exact g2, fun x h => by simp at h⟩
          | inr u =>
            rw [ec] at g2
            dsimp only
            by_cases c4 : nxC L fb u.2 = 41
            · rw [if_pos c4]
              have := nxC_lt (by decide) c4
              exact ⟨fun e h => by simp at h, fun x h => by rw [← Sum.inr.inj h]; exact (show u.2 + 1 ≤ L by omega)⟩
            · rw [if_neg c4]
              exact ⟨fun e h => by rw [← Sum.inl.inj h]; exact ⟨Nat.le_of_ble_eq_true rfl, Nat.le_of_ble_eq_true rfl, g2⟩, fun x h => by simp at h⟩
        · rw [if_neg c3]
          exact ⟨fun e h => by rw [← Sum.inl.inj h]; exact ⟨Nat.le_of_ble_eq_true rfl, Nat.le_of_ble_eq_true rfl, g⟩, fun x h => by simp at h⟩
  · rw [if_neg c1]
    exact ⟨fun e h => by rw [← Sum.inl.inj h]; exact ⟨Nat.le_of_ble_eq_true rfl, Nat.le_of_ble_eq_true rfl, hp⟩, fun x h => by simp at h⟩
end GD
def lawR (nx : Nat → Int32) (L : Nat) : Nat → List Cl → Nat → (Nat × Nat) ⊕ List Cl
  | 0, _, p => .inl (1, p)
  | n + 1, cs, p => match claR nx cs.length p with
    | .inl e => .inl e
    | .inr x => if x.2 < L then (if nx x.2 = 59 then lawR nx L n (cs ++ [x.1]) (x.2 + 1) else .inl (1, x.2)) else .inr (cs ++ [x.1])
theorem lawR_Gd {L : Nat} {fb : Nat → Nat} : ∀ {n p : Nat} {cs : List Cl} {e : Nat × Nat}, p ≤ L → lawR (nxC L fb) L n cs p = .inl e → 1 ≤ e.1 ∧ e.1 ≤ 5 ∧ e.2 ≤ L
  | 0, p, cs, e, hp, h => by rw [← Sum.inl.inj h]; exact ⟨Nat.le_of_ble_eq_true rfl, Nat.le_of_ble_eq_true rfl, hp⟩
  | n + 1, p, cs, e, hp, h => by
    rw [lawR] at h
    have g := claR_Gd (L := L) (fb := fb) (c := cs.length) hp
    cases ec : claR (nxC L fb) cs.length p with
    | inl er => rw [ec] at h; exact g.1 e (by rw [ec, Sum.inl.inj h])
    | inr x =>
      rw [ec] at h
      dsimp only at h
      have := g.2 x ec
      by_cases c : x.2 < L
      · rw [if_pos c] at h
        by_cases c2 : nxC L fb x.2 = 59
        · rw [if_pos c2] at h; exact lawR_Gd (by omega) h
        · rw [if_neg c2] at h; rw [← Sum.inl.inj h]; exact ⟨Nat.le_of_ble_eq_true rfl, Nat.le_of_ble_eq_true rfl, this⟩
      · rw [if_neg c] at h; simp at h
theorem flt_ne {f p L : Nat} (hL : L ≤ 200) (h : 1 ≤ f ∧ f ≤ 5 ∧ p ≤ L) : flt f p < 0 := by
  unfold flt
  have e : ∀ f, f < 6 → ∀ p, p < 201 → 1 ≤ f → -1000 * nI f - nI p < 0 := by decide +kernel
  exact e f (by omega) p (by omega) h.1
