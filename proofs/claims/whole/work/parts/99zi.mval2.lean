def Rv (r : Rs) : Prop := match r with
  | .inl _ => True
  | .inr x => RV x.1 ∧ 1 ≤ x.1.1.length
theorem Rv.bd {r : Rs} {f : Tr → Nat → Rs} (h : Rv r) (hf : ∀ t p, RV t → 1 ≤ t.1.length → Rv (f t p)) : Rv (bd r f) := by
  cases r with
  | inl e => exact trivial
  | inr x => exact hf x.1 x.2 h.1 h.2
theorem tBin_1 {op : Int32} {a b : Tr} : 1 ≤ (tBin op a b).1.length := by
  show 1 ≤ (a.1 ++ b.1 ++ [(op, 0)]).length
  rw [List.length_append, List.length_singleton]; omega
section RVS
variable {nx : Nat → Int32}
theorem loopR_Rv {isOp : Int32 → Bool} {fac : Nat → Rs} (ho : ∀ c, isOp c = true → ¬ c ≤ 2) (hf : ∀ p, Rv (fac p)) : ∀ {n p : Nat} {t : Tr}, RV t → 1 ≤ t.1.length → Rv (loopR nx isOp fac n p t)
  | 0, p, t, h, h1 => ⟨h, h1⟩
  | n + 1, p, t, h, h1 => by
    rw [loopR]
    by_cases c : isOp (nx p) = true
    · rw [if_pos c]
      exact (hf (p + 1)).bd (fun t' q h' h1' => loopR_Rv ho hf (RV.bin (ho _ c) h h' h1' h1) tBin_1)
    · rw [if_neg c]; exact ⟨h, h1⟩
theorem lvR_Rv {isOp : Int32 → Bool} {fac : Nat → Rs} (ho : ∀ c, isOp c = true → ¬ c ≤ 2) (hf : ∀ p, Rv (fac p)) {p : Nat} : Rv (lvR nx isOp fac p) := (hf p).bd (fun _ _ h h1 => loopR_Rv ho hf h h1)
theorem numR_Rv : ∀ {n p : Nat} {x : Int32}, Rv (numR nx n p x)
  | 0, p, x => by
    rw [numR]
    by_cases c : isDg (nx p) = true
    · rw [if_pos c]; exact trivial
    · rw [if_neg c]; exact ⟨RV.num, Nat.le_refl _⟩
  | n + 1, p, x => by
    rw [numR]
    by_cases c : isDg (nx p) = true
    · rw [if_pos c]; exact numR_Rv
    · rw [if_neg c]; exact ⟨RV.num, Nat.le_refl _⟩
theorem atomR_Rv {p : Nat} : Rv (atomR nx p) := by
  rw [atomR]
  by_cases c : isDg (nx p) = true
  · rw [if_pos c]; exact numR_Rv
  · rw [if_neg c]
    by_cases c2 : isVl (nx p) = true
    · rw [if_pos c2]; exact ⟨RV.fac, Nat.le_refl _⟩
    · rw [if_neg c2]; exact trivial
theorem clsR_Rv {c : Int32} {r : Rs} (h : Rv r) : Rv (clsR nx c r) := h.bd (fun t q a b => by
  by_cases y : nx q = c
  · rw [if_pos y]; exact ⟨a, b⟩
  · rw [if_neg y]; exact trivial)
theorem oTm : ∀ c, isTm c = true → ¬ c ≤ 2 := fun c h => by rcases of_decide_eq_true h with rfl | rfl | rfl <;> decide
theorem oPl : ∀ c, isPl c = true → ¬ c ≤ 2 := fun c h => by rcases of_decide_eq_true h with rfl | rfl <;> decide
theorem oSg : ∀ c, isSg c = true → ¬ c ≤ 2 := fun c h => by rcases of_decide_eq_true h with rfl | rfl | rfl <;> decide
theorem oAn : ∀ c, isAn c = true → ¬ c ≤ 2 := fun c h => by rw [show c = 38 from of_decide_eq_true h]; decide
theorem oOr : ∀ c, isOr c = true → ¬ c ≤ 2 := fun c h => by rw [show c = 124 from of_decide_eq_true h]; decide
theorem facK_Rv : ∀ {k p : Nat}, Rv (facK nx k p)
  | 0, p => by
    rw [facK]
    by_cases c : nx p = 91
    · rw [if_pos c]; exact trivial
    · rw [if_neg c]; exact atomR_Rv
  | k + 1, p => by
    rw [facK]
    by_cases c : nx p = 91
    · rw [if_pos c]; exact clsR_Rv (lvR_Rv oPl (fun p => lvR_Rv oTm (fun p => facK_Rv)))
    · rw [if_neg c]; exact atomR_Rv
theorem sumK_Rv {k p : Nat} : Rv (sumK nx k p) := lvR_Rv oPl (fun p => lvR_Rv oTm (fun p => facK_Rv))
theorem cmpR_Rv {k p : Nat} : Rv (cmpR nx k p) := sumK_Rv.bd (fun t q a b => by
  by_cases c : isSg (nx q) = true
  · rw [if_pos c]; exact sumK_Rv.bd (fun t' q' a' b' => ⟨RV.bin (oSg _ c) a a' b' b, tBin_1⟩)
  · rw [if_neg c]; exact trivial)
theorem pieK_Rv : ∀ {k p : Nat}, Rv (pieK nx k p)
  | 0, p => by
    rw [pieK]
    by_cases c : nx p = 33 ∨ nx p = 40
    · rw [if_pos c]; exact trivial
    · rw [if_neg c]; exact cmpR_Rv
  | k + 1, p => by
    rw [pieK]
    by_cases c : nx p = 33
    · rw [if_pos c]
      exact (pieK_Rv (k := k)).bd (fun t q a b => ⟨a.no, by
        show 1 ≤ (t.1 ++ [(2, 0)]).length
        rw [List.length_append, List.length_singleton]; omega⟩)
    · rw [if_neg c]
      by_cases c2 : nx p = 40
      · rw [if_pos c2]; exact clsR_Rv (lvR_Rv oOr (fun p => lvR_Rv oAn (fun p => pieK_Rv)))
      · rw [if_neg c2]; exact cmpR_Rv
theorem cndK_Rv {k p : Nat} : Rv (cndK nx k p) := lvR_Rv oOr (fun p => lvR_Rv oAn (fun p => pieK_Rv))
end RVS
