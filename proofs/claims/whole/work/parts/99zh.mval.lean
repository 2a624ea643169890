/-! a tree's code, worked by the reference, gives the tree's value -/
def CdA (code arg : Nat → Int32) (i : Nat) (l : List (Int32 × Int32)) : Prop := ∀ j x, l[j]? = some x → code (i + j) = x.1 ∧ arg (i + j) = x.2
theorem CdA.left {code arg : Nat → Int32} {i : Nat} {a b : List (Int32 × Int32)} (h : CdA code arg i (a ++ b)) : CdA code arg i a := fun j x hx => h j x (by
  have : j < a.length := by
    by_cases y : j < a.length
    · exact y
    · rw [List.getElem?_eq_none (by omega)] at hx; exact absurd hx (by simp)
  rw [List.getElem?_append_left this]; exact hx)
theorem CdA.right {code arg : Nat → Int32} {i : Nat} {a b : List (Int32 × Int32)} (h : CdA code arg i (a ++ b)) : CdA code arg (i + a.length) b := fun j x hx => by
  rw [Nat.add_assoc]
  exact h (a.length + j) x (by rw [List.getElem?_append_right (by omega), Nat.add_sub_cancel_left]; exact hx)
def RV (t : Tr) : Prop := ∀ code arg F i n l, CdA code arg i t.1 → l.length + t.1.length ≤ 240 → wkL code arg F (n + t.1.length) i l = wkL code arg F n (i + t.1.length) (t.2.1 F :: l)
theorem RV.num {x : Int32} : RV (tNum x) := fun code arg F i n l h hl => by
  obtain ⟨h1, h2⟩ := h 0 (0, x) rfl
  rw [Nat.add_zero] at h1 h2
  dsimp only at h1 h2
  have hl' : l.length < 240 := by have : (tNum x).1.length = 1 := rfl; omega
  show wkL code arg F (n + 1) i l = wkL code arg F n (i + 1) ((x, false) :: l)
  cases l with
  | nil => rw [wkL, h1, h2, if_pos (by decide), if_neg (by decide), if_pos hl', if_pos rfl]
  | cons y t => rw [wkL, h1, h2, if_pos (by decide), if_neg (by decide), if_pos hl', if_pos rfl]
theorem RV.fac {x : Int32} : RV (tFac x) := fun code arg F i n l h hl => by
  obtain ⟨h1, h2⟩ := h 0 (1, x) rfl
  rw [Nat.add_zero] at h1 h2
  dsimp only at h1 h2
  have hl' : l.length < 240 := by have : (tFac x).1.length = 1 := rfl; omega
  show wkL code arg F (n + 1) i l = wkL code arg F n (i + 1) ((F (fIx x), false) :: l)
  cases l with
  | nil => rw [wkL, h1, h2, if_pos (by decide), if_neg (by decide), if_pos hl', if_neg (by decide)]
  | cons y t => rw [wkL, h1, h2, if_pos (by decide), if_neg (by decide), if_pos hl', if_neg (by decide)]
theorem RV.no {a : Tr} (ha : RV a) : RV (tNot a) := fun code arg F i n l h hl => by
  have e : (tNot a).1 = a.1 ++ [(2, 0)] := rfl
  have el : (tNot a).1.length = a.1.length + 1 := by rw [e, List.length_append, List.length_singleton]
  rw [e] at h
  obtain ⟨h1, -⟩ := h.right 0 (2, 0) rfl
  rw [Nat.add_zero] at h1
  dsimp only at h1
  rw [el] at hl ⊢
  rw [show n + (a.1.length + 1) = (n + 1) + a.1.length by omega, ha code arg F i (n + 1) l h.left (by omega), wkL, h1, if_pos (by decide), if_pos rfl, Nat.add_assoc]
  rfl
theorem RV.bin {op : Int32} {a b : Tr} (hop : ¬ op ≤ 2) (ha : RV a) (hb : RV b) (hb1 : 1 ≤ b.1.length) (ha1 : 1 ≤ a.1.length) : RV (tBin op a b) := fun code arg F i n l h hl => by
  have e : (tBin op a b).1 = a.1 ++ b.1 ++ [(op, 0)] := rfl
  have el : (tBin op a b).1.length = a.1.length + b.1.length + 1 := by rw [e, List.length_append, List.length_append, List.length_singleton]
  rw [e] at h
  obtain ⟨h1, -⟩ := h.right 0 (op, 0) rfl
  rw [Nat.add_zero, List.length_append, ← Nat.add_assoc] at h1
  dsimp only at h1
  rw [el] at hl ⊢
  rw [show n + (a.1.length + b.1.length + 1) = (n + 1 + b.1.length) + a.1.length by omega, ha code arg F i (n + 1 + b.1.length) l h.left.left (by omega), hb code arg F (i + a.1.length) (n + 1) _ h.left.right (by rw [List.length_cons]; omega), wkL, h1, if_neg hop, show i + (a.1.length + b.1.length + 1) = i + a.1.length + b.1.length + 1 by omega]
  rfl
