/-! what holds of both objects between two calls -/
def RodOK (A : Nat → Nat → Int32) (j : Nat) : Prop := (j = 0 → A 0 j = -1) ∧ (0 < j → ∃ k, k < j ∧ A 0 j = nI k) ∧ (-9 ≤ (A 1 j).toInt ∧ (A 1 j).toInt ≤ 9) ∧ (1 ≤ (A 2 j).toInt ∧ (A 2 j).toInt ≤ 999)
def RibOK (A : Nat → Nat → Int32) (nr i : Nat) : Prop := (∃ k, k < nr ∧ A 5 i = nI k) ∧ (-9 ≤ (A 6 i).toInt ∧ (A 6 i).toInt ≤ 9) ∧ (∃ l, l ≤ 99 ∧ A 7 i = nI l ∧ (¬ A 11 i = 0 → 1 ≤ l)) ∧ (∃ o, o < 8 ∧ A 9 i = nI o) ∧ (A 8 i = 0 ∧ A 10 i = -1 ∨ A 8 i = 1 ∧ ∃ t, t < 8 ∧ A 10 i = nI t ∧ ¬ A 10 i = A 9 i)
def BoolOK (A : Nat → Nat → Int32) : Prop := (∀ j, j < 10 → (A 3 j = 0 ∨ A 3 j = 1) ∧ (A 4 j = 0 ∨ A 4 j = 1)) ∧ ∀ i, i < 40 → (A 11 i = 0 ∨ A 11 i = 1)
def Same (A B : Nat → Nat → Int32) (nr nb : Nat) : Prop := (∀ f, f < 5 → ∀ j, j < nr → A f j = B f j) ∧ ∀ f, 5 ≤ f → f < 12 → ∀ i, i < nb → A f i = B f i
def LedOK (A B : Nat → Nat → Int32) (nr nb : Nat) : Prop := (1 ≤ nr ∧ nr ≤ 10 ∧ nb ≤ 40) ∧ (∀ j, j < nr → RodOK A j) ∧ (∀ i, i < nb → RibOK A nr i) ∧ BoolOK A ∧ Same A B nr nb
theorem RodOK.cong {A A' : Nat → Nat → Int32} {j : Nat} (h : ∀ f, f < 12 → A' f j = A f j) (q : RodOK A j) : RodOK A' j := by
  unfold RodOK at q ⊢
  rw [h 0 (by omega), h 1 (by omega), h 2 (by omega)]
  exact q
theorem RibOK.cong {A A' : Nat → Nat → Int32} {nr i : Nat} (h : ∀ f, f < 12 → A' f i = A f i) (q : RibOK A nr i) : RibOK A' nr i := by
  unfold RibOK at q ⊢
  rw [h 5 (by omega), h 6 (by omega), h 7 (by omega), h 8 (by omega), h 9 (by omega), h 10 (by omega), h 11 (by omega)]
  exact q
theorem RodOK.cong' {A A' : Nat → Nat → Int32} {j : Nat} (h : ∀ f, f < 5 → A' f j = A f j) (q : RodOK A j) : RodOK A' j := by
  unfold RodOK at q ⊢
  rw [h 0 (by omega), h 1 (by omega), h 2 (by omega)]
  exact q
theorem RibOK.cong' {A A' : Nat → Nat → Int32} {nr i : Nat} (q : RibOK A nr i) (h : ∀ f, 5 ≤ f → f < 12 → A' f i = A f i) : RibOK A' nr i := by
  unfold RibOK at q ⊢
  rw [h 5 (by omega) (by omega), h 6 (by omega) (by omega), h 7 (by omega) (by omega), h 8 (by omega) (by omega), h 9 (by omega) (by omega), h 10 (by omega) (by omega), h 11 (by omega) (by omega)]
  exact q
theorem BoolOK.cong {A A' : Nat → Nat → Int32} (h : ∀ f, f < 12 → ∀ j, A' f j = A f j) (q : BoolOK A) : BoolOK A' := by
  unfold BoolOK at q ⊢
  refine ⟨fun j hj => ?_, fun i hi => ?_⟩
  · rw [h 3 (by omega), h 4 (by omega)]; exact q.1 j hj
  · rw [h 11 (by omega)]; exact q.2 i hi
theorem LedOK.cong {A A' B B' : Nat → Nat → Int32} {nr nb : Nat} (ha : ∀ f, f < 12 → ∀ j, A' f j = A f j) (hb : ∀ f, f < 12 → ∀ j, B' f j = B f j) (q : LedOK A B nr nb) : LedOK A' B' nr nb := by
  obtain ⟨q1, q2, q3, q4, q5, q6⟩ := q
  refine ⟨q1, fun j hj => (q2 j hj).cong (fun f hf => ha f hf j), fun i hi => (q3 i hi).cong (fun f hf => ha f hf i), q4.cong ha, fun f hf j hj => ?_, fun f h5 hf i hi => ?_⟩
  · rw [ha f (by omega), hb f (by omega)]; exact q5 f hf j hj
  · rw [ha f hf, hb f hf]; exact q6 f h5 hf i hi
/-- where the reference keeps what it keeps -/
def kM (f : Nat) : Nat := if f = 0 then 195 else if f = 1 then 196 else 194 + (if f = 2 then 0 else f)
def LedI (μ : Mem) : Prop := ∃ nr nb, (gi μ 3 12) = nI nr ∧ (gi μ 144 2) = nI nr ∧ (gi μ 3 13) = nI nb ∧ (gi μ 144 3) = nI nb ∧ LedOK (fun f => gi μ (4 + f)) (fun f => gi μ (146 + f)) nr nb
def NumI (μ : Mem) : Prop := ((gi μ 3 14) = (gi μ 144 4) ∧ -9 ≤ (gi μ 3 14) ∧ (gi μ 3 14) ≤ 9) ∧ (gi μ 3 15) = (gi μ 144 5) ∧ 0 ≤ (gi μ 3 15) ∧ (gi μ 3 15) ≤ 65535
def TapeI (μ : Mem) : Prop := ∃ ts, ts ≤ 220 ∧ (gi μ 1 1) = nI ts ∧ (gi μ 144 1) = nI ts ∧ ∀ j, j < ts → ∃ b, b < 256 ∧ (gi μ 2 (j)) = nI b ∧ (gi μ 145 (j)) &&& 255 = nI b
def KeptI (μ : Mem) : Prop := ((gi μ 0 11) = 0 ∧ (gi μ 144 68) = 0) ∨ ((gi μ 0 11) = 1 ∧ (gi μ 144 68) = 1 ∧ ∃ nr nb, (gi μ 16 12) = nI nr ∧ (gi μ 144 69) = nI nr ∧ (gi μ 16 13) = nI nb ∧ (gi μ 144 70) = nI nb ∧ LedOK (fun f => gi μ (17 + f)) (fun f => gi μ (kM f)) nr nb ∧ ((gi μ 16 14) = (gi μ 144 71) ∧ -9 ≤ (gi μ 16 14) ∧ (gi μ 16 14) ≤ 9) ∧ (gi μ 16 15) = (gi μ 144 72) ∧ 0 ≤ (gi μ 16 15) ∧ (gi μ 16 15) ≤ 65535)
/-- the cells that the two laws stand in are the same -/
def LawEq (μ μ' : Mem) : Prop := (∀ f, f < 5 → ∀ j, gi μ' (30 + f) j = gi μ (30 + f) j) ∧ gi μ' 29 7 = gi μ 29 7 ∧ gi μ' 29 8 = gi μ 29 8 ∧ (∀ f, f < 6 → ∀ j, gi μ' (158 + f) j = gi μ (158 + f) j) ∧ gi μ' 144 18 = gi μ 144 18
def Inv (LR : Mem → Prop) (μ : Mem) : Prop := LedI μ ∧ NumI μ ∧ TapeI μ ∧ KeptI μ ∧ LR μ
theorem LedI.cong {μ μ' : Mem} (h1 : gi μ' 3 12 = gi μ 3 12) (h2 : gi μ' 3 13 = gi μ 3 13) (h3 : gi μ' 144 2 = gi μ 144 2) (h4 : gi μ' 144 3 = gi μ 144 3) (ha : ∀ f, f < 12 → ∀ j, gi μ' (4 + f) j = gi μ (4 + f) j) (hb : ∀ f, f < 12 → ∀ j, gi μ' (146 + f) j = gi μ (146 + f) j) (q : LedI μ) : LedI μ' := by
  obtain ⟨nr, nb, q1, q2, q3, q4, q5⟩ := q
  exact ⟨nr, nb, h1.trans q1, h3.trans q2, h2.trans q3, h4.trans q4, q5.cong ha hb⟩
theorem NumI.cong {μ μ' : Mem} (h1 : gi μ' 3 14 = gi μ 3 14) (h2 : gi μ' 3 15 = gi μ 3 15) (h3 : gi μ' 144 4 = gi μ 144 4) (h4 : gi μ' 144 5 = gi μ 144 5) (q : NumI μ) : NumI μ' := by
  unfold NumI at q ⊢
  rw [h1, h2, h3, h4]
  exact q
theorem TapeI.cong {μ μ' : Mem} (h1 : gi μ' 1 1 = gi μ 1 1) (h2 : gi μ' 144 1 = gi μ 144 1) (ha : ∀ j, gi μ' 2 j = gi μ 2 j) (hb : ∀ j, gi μ' 145 j = gi μ 145 j) (q : TapeI μ) : TapeI μ' := by
  obtain ⟨ts, q1, q2, q3, q4⟩ := q
  refine ⟨ts, q1, h1.trans q2, h2.trans q3, fun j hj => ?_⟩
  rw [ha, hb]
  exact q4 j hj
theorem KeptI.cong {μ μ' : Mem} (h0 : gi μ' 0 11 = gi μ 0 11) (hm : ∀ k, 68 ≤ k → k ≤ 72 → gi μ' 144 k = gi μ 144 k) (hk : ∀ k, gi μ' 16 k = gi μ 16 k) (ha : ∀ f, f < 12 → ∀ j, gi μ' (17 + f) j = gi μ (17 + f) j) (hb : ∀ f, f < 12 → ∀ j, gi μ' (194 + f) j = gi μ (194 + f) j) (q : KeptI μ) : KeptI μ' := by
  unfold KeptI at q ⊢
  rw [h0, hm 68 (by omega) (by omega), hm 69 (by omega) (by omega), hm 70 (by omega) (by omega), hm 71 (by omega) (by omega), hm 72 (by omega) (by omega), hk, hk, hk, hk]
  rcases q with q | ⟨q1, q2, nr, nb, r1, r2, r3, r4, r5, r6⟩
  · exact Or.inl q
  · refine Or.inr ⟨q1, q2, nr, nb, r1, r2, r3, r4, r5.cong ha (fun f hf j => ?_), r6⟩
    have h9 : ∃ g, g < 12 ∧ kM f = 194 + g := by
      unfold kM
      split
      · exact ⟨1, by omega, rfl⟩
      · split
        · exact ⟨2, by omega, rfl⟩
        · split
          · exact ⟨0, by omega, rfl⟩
          · exact ⟨f, hf, rfl⟩
    obtain ⟨g, hg, e⟩ := h9
    show gi μ' (kM f) j = gi μ (kM f) j
    rw [e]
    exact hb g hg j
theorem RibOK.mono {A : Nat → Nat → Int32} {nr nr' i : Nat} (h : nr ≤ nr') (q : RibOK A nr i) : RibOK A nr' i := by
  obtain ⟨⟨k, hk, e⟩, q⟩ := q
  exact ⟨⟨k, by omega, e⟩, q⟩
/-- rods' data change at one place, or a rod is added there -/
theorem LedOK.rodU {A A' B B' : Nat → Nat → Int32} {nr nr' nb k : Nat} (hk : k < nr') (hn : nr' = nr ∨ nr' = nr + 1 ∧ k = nr ∧ nr < 10) (ha : ∀ f, f < 12 → ∀ j, (5 ≤ f ∨ j ≠ k) → A' f j = A f j) (hb : ∀ f, f < 12 → ∀ j, (5 ≤ f ∨ j ≠ k) → B' f j = B f j) (hr : RodOK A' k) (hz : (A' 3 k = 0 ∨ A' 3 k = 1) ∧ (A' 4 k = 0 ∨ A' 4 k = 1)) (he : ∀ f, f < 5 → A' f k = B' f k) (q : LedOK A B nr nb) : LedOK A' B' nr' nb := by
  obtain ⟨q1, q2, q3, q4, q5, q6⟩ := q
  refine ⟨by omega, fun j hj => ?_, fun i hi => ((q3 i hi).mono (by omega)).cong' ?_, ⟨fun j hj => ?_, fun i hi => ?_⟩, fun f hf j hj => ?_, fun f h5 hf i hi => ?_⟩
  · by_cases e : j = k
    · subst e; exact hr
    · exact (q2 j (by omega)).cong (fun f hf => ha f hf j (Or.inr e))
  · exact fun f h5 hf => ha f hf i (Or.inl h5)
  · by_cases e : j = k
    · subst e; exact hz
    · rw [ha 3 (by omega) j (Or.inr e), ha 4 (by omega) j (Or.inr e)]; exact q4.1 j hj
  · rw [ha 11 (by omega) i (Or.inl (by omega))]; exact q4.2 i hi
  · by_cases e : j = k
    · subst e; exact he f hf
    · rw [ha f (by omega) j (Or.inr e), hb f (by omega) j (Or.inr e)]; exact q5 f hf j (by omega)
  · rw [ha f hf i (Or.inl h5), hb f hf i (Or.inl h5)]; exact q6 f h5 hf i hi
/-- ribbons' data change at one place, or a ribbon is added there -/
theorem LedOK.ribU {A A' B B' : Nat → Nat → Int32} {nr nb nb' k : Nat} (hk : k < nb') (hn : nb' = nb ∨ nb' = nb + 1 ∧ k = nb ∧ nb < 40) (ha : ∀ f, f < 12 → ∀ j, (f < 5 ∨ j ≠ k) → A' f j = A f j) (hb : ∀ f, f < 12 → ∀ j, (f < 5 ∨ j ≠ k) → B' f j = B f j) (hr : RibOK A' nr k) (hz : A' 11 k = 0 ∨ A' 11 k = 1) (he : ∀ f, 5 ≤ f → f < 12 → A' f k = B' f k) (q : LedOK A B nr nb) : LedOK A' B' nr nb' := by
  obtain ⟨q1, q2, q3, q4, q5, q6⟩ := q
  refine ⟨by omega, fun j hj => (q2 j hj).cong' (fun f hf => ha f (by omega) j (Or.inl hf)), fun i hi => ?_, ⟨fun j hj => ?_, fun i hi => ?_⟩, fun f hf j hj => ?_, fun f h5 hf i hi => ?_⟩
  · by_cases e : i = k
    · subst e; exact hr
    · exact (q3 i (by omega)).cong (fun f hf => ha f hf i (Or.inr e))
  · rw [ha 3 (by omega) j (Or.inl (by omega)), ha 4 (by omega) j (Or.inl (by omega))]; exact q4.1 j hj
  · by_cases e : i = k
    · subst e; exact hz
    · rw [ha 11 (by omega) i (Or.inr e)]; exact q4.2 i hi
  · rw [ha f (by omega) j (Or.inl hf), hb f (by omega) j (Or.inl hf)]; exact q5 f hf j hj
  · by_cases e : i = k
    · subst e; exact he f h5 hf
    · rw [ha f hf i (Or.inr e), hb f hf i (Or.inr e)]; exact q6 f h5 hf i (by omega)
