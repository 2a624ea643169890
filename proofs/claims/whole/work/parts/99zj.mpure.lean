/-! the reference's stack of signs against the grammar: sums -/
def Pg (p : Nat) (r : Rs) : Prop := ∀ x, r = .inr x → p ≤ x.2
theorem Pg.bd {p : Nat} {r : Rs} {f : Tr → Nat → Rs} (h : Pg p r) (hf : ∀ t q, p ≤ q → Pg p (f t q)) : Pg p (bd r f) := by
  cases r with
  | inl e => exact fun x hx => by have h2 : (Sum.inl e : Rs) = .inr x := hx; simp at h2
  | inr y => exact hf y.1 y.2 (h y rfl)
theorem Pg.mo {p q : Nat} {r : Rs} (h : Pg q r) (hq : p ≤ q) : Pg p r := fun x hx => Nat.le_trans hq (h x hx)
theorem Pg.inr {p q : Nat} {t : Tr} (h : p ≤ q) : Pg p (.inr (t, q)) := fun x hx => by rw [← Sum.inr.inj hx]; exact h
theorem Pg.inl {p : Nat} {e : Nat × Nat} : Pg p (.inl e) := fun x hx => by simp at hx
section PUR
variable {nx : Nat → Int32}
theorem loopR_Pg {isOp : Int32 → Bool} {fac : Nat → Rs} (hf : ∀ p, Pg p (fac p)) : ∀ {n p : Nat} {t : Tr}, Pg p (loopR nx isOp fac n p t)
  | 0, p, t => Pg.inr (Nat.le_refl _)
  | n + 1, p, t => by
    rw [loopR]
    by_cases c : isOp (nx p) = true
    · rw [if_pos c]
      exact ((hf (p + 1)).mo (by omega)).bd (fun t' q hq => (loopR_Pg hf).mo hq)
    · rw [if_neg c]; exact Pg.inr (Nat.le_refl _)
theorem lvR_Pg {isOp : Int32 → Bool} {fac : Nat → Rs} (hf : ∀ p, Pg p (fac p)) {p : Nat} : Pg p (lvR nx isOp fac p) := (hf p).bd (fun _ _ hq => (loopR_Pg hf).mo hq)
theorem atomR_Pg {p : Nat} : Pg p (atomR nx p) := by
  rw [atomR]
  by_cases c : isDg (nx p) = true
  · rw [if_pos c]; exact fun x hx => (numR_form hx).2
  · rw [if_neg c]
    by_cases c2 : isVl (nx p) = true
    · rw [if_pos c2]; exact Pg.inr (by omega)
    · rw [if_neg c2]; exact Pg.inl
theorem clsR_Pg {c : Int32} {r : Rs} {p : Nat} (h : Pg p r) : Pg p (clsR nx c r) := h.bd (fun t q hq => by
  by_cases y : nx q = c
  · rw [if_pos y]; exact Pg.inr (by omega)
  · rw [if_neg y]; exact Pg.inl)
theorem facK_Pg : ∀ {k p : Nat}, Pg p (facK nx k p)
  | 0, p => by
    rw [facK]
    by_cases c : nx p = 91
    · rw [if_pos c]; exact Pg.inl
    · rw [if_neg c]; exact atomR_Pg
  | k + 1, p => by
    rw [facK]
    by_cases c : nx p = 91
    · rw [if_pos c]; exact (clsR_Pg (lvR_Pg (fun p => lvR_Pg (fun p => facK_Pg)))).mo (by omega)
    · rw [if_neg c]; exact atomR_Pg
theorem sumK_Pg {k p : Nat} : Pg p (sumK nx k p) := lvR_Pg (fun p => lvR_Pg (fun p => facK_Pg))
theorem cmpR_Pg {k p : Nat} : Pg p (cmpR nx k p) := sumK_Pg.bd (fun t q hq => by
  by_cases c : isSg (nx q) = true
  · rw [if_pos c]; exact (sumK_Pg.bd (fun t' q' h' => Pg.inr h')).mo (by omega)
  · rw [if_neg c]; exact Pg.inl)
theorem pieK_Pg : ∀ {k p : Nat}, Pg p (pieK nx k p)
  | 0, p => by
    rw [pieK]
    by_cases c : nx p = 33 ∨ nx p = 40
    · rw [if_pos c]; exact Pg.inl
    · rw [if_neg c]; exact cmpR_Pg
  | k + 1, p => by
    rw [pieK]
    by_cases c : nx p = 33
    · rw [if_pos c]; exact ((pieK_Pg (k := k)).bd (fun t q hq => Pg.inr hq)).mo (by omega)
    · rw [if_neg c]
      by_cases c2 : nx p = 40
      · rw [if_pos c2]; exact (clsR_Pg (lvR_Pg (fun p => lvR_Pg (fun p => pieK_Pg)))).mo (by omega)
      · rw [if_neg c2]; exact cmpR_Pg
theorem cndK_Pg {k p : Nat} : Pg p (cndK nx k p) := lvR_Pg (fun p => lvR_Pg (fun p => pieK_Pg))
theorem flS_no {P : Int32 → Bool} {S : List Int32} (h : P (tpM S) = false) : flS P S = (S, []) := by
  cases S with
  | nil => rfl
  | cons x t => rw [flS, if_neg (by rw [show P x = false from h]; decide)]
theorem flS_yes {P : Int32 → Bool} {x : Int32} {S : List Int32} (h : P x = true) : flS P (x :: S) = ((flS P S).1, (x, 0) :: (flS P S).2) := by rw [flS, if_pos h]
abbrev StP := List Int32 → List (Int32 × Int32) → Nat → Nat → Prop
/-- behind an operand -/
def AV (nx : Nat → Int32) (Am Bm X : StP) (E : Nat × Nat → Prop) (S : List Int32) (C : List (Int32 × Int32)) (p k : Nat) : Prop :=
  (isTm (nx p) = true ∨ isPl (nx p) = true → Bm (nx p :: (flS (smP (isPl (nx p))) S).1) (C ++ (flS (smP (isPl (nx p))) S).2) (p + 1) k) ∧
  (isTm (nx p) = false → isPl (nx p) = false → nx p ≠ 93 → X (flS (smP true) S).1 (C ++ (flS (smP true) S).2) p k) ∧
  (nx p = 93 → tpM (flS (smP true) S).1 ≠ 91 → E (1, p)) ∧
  (nx p = 93 → ∀ T, (flS (smP true) S).1 = 91 :: T → Am T (C ++ (flS (smP true) S).2) (p + 1) (k + 1))
/-- before an operand -/
def BV (nx : Nat → Int32) (Am : StP) (E : Nat × Nat → Prop) (S : List Int32) (C : List (Int32 × Int32)) (p k : Nat) : Prop :=
  (∀ e, brM nx k p = .inl e → E e) ∧ ∀ y, brM nx k p = .inr y → Am (List.replicate y.1 91 ++ S) (C ++ y.2.1.1) y.2.2 (k - y.1)
variable {Am Bm X : StP} {E : Nat × Nat → Prop}
theorem AV.tm {c : Int32} {S : List Int32} {C : List (Int32 × Int32)} {p k : Nat} (hc : isTm c = true) (h : AV nx Am Bm X E S (C ++ [(c, 0)]) p k) : AV nx Am Bm X E (c :: S) C p k := by
  have e : ∀ b, flS (smP b) (c :: S) = ((flS (smP b) S).1, (c, 0) :: (flS (smP b) S).2) := fun b => flS_yes (by unfold smP; rw [hc, Bool.true_or])
  unfold AV at h ⊢
  simp only [e]
  simpa only [List.append_assoc, List.singleton_append] using h
theorem AV.pl {c : Int32} {S : List Int32} {C : List (Int32 × Int32)} {p k : Nat} (hc : isPl c = true) (hp : isTm (nx p) = false) (h : AV nx Am Bm X E S (C ++ [(c, 0)]) p k) : AV nx Am Bm X E (c :: S) C p k := by
  have e : flS (smP true) (c :: S) = ((flS (smP true) S).1, (c, 0) :: (flS (smP true) S).2) := flS_yes (by unfold smP; rw [hc]; simp)
  unfold AV at h ⊢
  rw [hp] at h ⊢
  cases ep : isPl (nx p) with
  | true =>
    rw [ep] at h
    simp only [e]
    simpa only [List.append_assoc, List.singleton_append] using h
  | false =>
    rw [ep] at h
    simp only [e]
    refine ⟨fun z => ?_, ?_⟩
    · rcases z with z | z <;> exact absurd z (by decide)
    · simpa only [List.append_assoc, List.singleton_append] using h.2
theorem BV.at {S : List Int32} {C : List (Int32 × Int32)} {p k : Nat} (hn : nx p ≠ 91) (h1 : ∀ e, atomR nx p = .inl e → E e) (h2 : ∀ y, atomR nx p = .inr y → Am S (C ++ y.1.1) y.2 k) : BV nx Am E S C p k := by
  have e : brM nx k p = atM nx p := by cases k <;> rw [brM, if_neg hn]
  unfold BV
  rw [e, atM]
  cases ea : atomR nx p with
  | inl er => exact ⟨fun e' he => by rw [← Sum.inl.inj he]; exact h1 _ ea, fun y hy => by simp at hy⟩
  | inr x => exact ⟨fun e' he => by simp at he, fun y hy => by rw [← Sum.inr.inj hy]; exact h2 _ ea⟩
theorem BV.op {S : List Int32} {C : List (Int32 × Int32)} {p k : Nat} (hn : nx p = 91) (h : BV nx Am E (91 :: S) C (p + 1) k) : BV nx Am E S C p (k + 1) := by
  unfold BV at h ⊢
  rw [brM, if_pos hn]
  cases eb : brM nx k (p + 1) with
  | inl er => rw [eb] at h; exact ⟨fun e' he => by rw [← Sum.inl.inj he]; exact h.1 _ rfl, fun y hy => by simp at hy⟩
  | inr x =>
    rw [eb] at h
    refine ⟨fun e' he => by simp at he, fun y hy => ?_⟩
    rw [← Sum.inr.inj hy]
    have := h.2 _ rfl
    dsimp only
    rw [List.replicate_succ', List.append_assoc, show k + 1 - (x.1 + 1) = k - x.1 by omega]
    exact this
/-- the road of a run of operators -/
theorem lp_AV {isOp : Int32 → Bool} {fac : Nat → Rs} {k L : Nat} (hL : L ≤ 200) (hnx : ∀ p, isOp (nx p) = true → p < L) (hPg : ∀ p, Pg p (fac p)) {S : List Int32} {C : List (Int32 × Int32)} {W : Nat → Prop}
    (step : ∀ p t, W p → isOp (nx p) = true → (∀ e, fac (p + 1) = .inl e → E e) → (∀ x, fac (p + 1) = .inr x → W x.2 → AV nx Am Bm X E S (C ++ (tBin (nx p) t x.1).1) x.2 k) → AV nx Am Bm X E S (C ++ t.1) p k)
    (hW : ∀ p x, fac p = .inr x → W x.2) : ∀ n p t, 201 ≤ n + p → W p → (∀ e, loopR nx isOp fac n p t = .inl e → E e) → (∀ x, loopR nx isOp fac n p t = .inr x → isOp (nx x.2) = false → W x.2 → AV nx Am Bm X E S (C ++ x.1.1) x.2 k) → AV nx Am Bm X E S (C ++ t.1) p k := by
  intro n
  induction n with
  | zero =>
    intro p t hn w g1 g2
    refine g2 (t, p) rfl ?_ w
    cases eo : isOp (nx p) with
    | false => rfl
    | true => have := hnx p eo; omega
  | succ n ih =>
    intro p t hn w g1 g2
    rw [loopR] at g1 g2
    by_cases c : isOp (nx p) = true
    · rw [if_pos c] at g1 g2
      refine step p t w c (fun e he => g1 e (by rw [he]; rfl)) (fun x hx wx => ?_)
      have hp := hPg (p + 1) x hx
      rw [hx] at g1 g2
      exact ih x.2 (tBin (nx p) t x.1) (by omega) wx g1 g2
    · rw [if_neg c] at g1 g2
      exact g2 (t, p) rfl (by revert c; cases isOp (nx p) <;> simp) w
section GO
variable {L : Nat}
theorem T_AV {k : Nat} (hL : L ≤ 200) (hnx : ∀ p, isTm (nx p) = true → p < L) (hB : ∀ S C p, BV nx Am E S C p k → Bm S C p k)
    (F : ∀ p S C, (∀ e, facK nx k p = .inl e → E e) → (∀ x, facK nx k p = .inr x → AV nx Am Bm X E S (C ++ x.1.1) x.2 k) → BV nx Am E S C p k)
    (p : Nat) (S : List Int32) (C : List (Int32 × Int32)) (hS : isTm (tpM S) = false) (g1 : ∀ e, lvR nx isTm (facK nx k) p = .inl e → E e) (g2 : ∀ x, lvR nx isTm (facK nx k) p = .inr x → isTm (nx x.2) = false → AV nx Am Bm X E S (C ++ x.1.1) x.2 k) : BV nx Am E S C p k := by
  refine F p S C (fun e he => g1 e (by rw [lvR, he]; rfl)) (fun x hx => ?_)
  rw [lvR, hx] at g1 g2
  refine lp_AV (isOp := isTm) (fac := facK nx k) (W := fun _ => True) hL hnx (fun p => facK_Pg) (fun p t _ hc a1 a2 => ?_) (fun _ _ _ => trivial) 201 x.2 x.1 (by omega) trivial g1 (fun y hy ho _ => g2 y hy ho)
  have hp : isPl (nx p) = false := by rcases of_decide_eq_true hc with e | e | e <;> rw [e] <;> decide
  have h93 : nx p ≠ 93 := by rcases of_decide_eq_true hc with e | e | e <;> rw [e] <;> decide
  have e0 : flS (smP false) S = (S, []) := flS_no (by unfold smP; rw [hS]; rfl)
  refine ⟨fun _ => ?_, fun z => absurd (z.symm.trans hc) (by decide), fun z => absurd z h93, fun z => absurd z h93⟩
  rw [hp, e0, List.append_nil]
  refine hB _ _ _ (F (p + 1) _ _ a1 (fun y hy => AV.tm hc ?_))
  have := a2 y hy trivial
  rw [show (tBin (nx p) t y.1).1 = t.1 ++ y.1.1 ++ [(nx p, 0)] from rfl] at this
  simpa only [List.append_assoc] using this
theorem S_AV {k : Nat} (hL : L ≤ 200) (hnx : ∀ p, isTm (nx p) = true → p < L) (hnp : ∀ p, isPl (nx p) = true → p < L) (hB : ∀ S C p, BV nx Am E S C p k → Bm S C p k)
    (F : ∀ p S C, (∀ e, facK nx k p = .inl e → E e) → (∀ x, facK nx k p = .inr x → AV nx Am Bm X E S (C ++ x.1.1) x.2 k) → BV nx Am E S C p k)
    (p : Nat) (S : List Int32) (C : List (Int32 × Int32)) (hS : isTm (tpM S) = false) (hS2 : isPl (tpM S) = false) (g1 : ∀ e, sumK nx k p = .inl e → E e) (g2 : ∀ x, sumK nx k p = .inr x → isTm (nx x.2) = false → isPl (nx x.2) = false → AV nx Am Bm X E S (C ++ x.1.1) x.2 k) : BV nx Am E S C p k := by
  unfold sumK at g1 g2
  have TT := T_AV (X := X) (E := E) (Am := Am) (Bm := Bm) hL hnx hB F
  have step : ∀ p t, isTm (nx p) = false → isPl (nx p) = true → (∀ e, lvR nx isTm (facK nx k) (p + 1) = .inl e → E e) → (∀ x, lvR nx isTm (facK nx k) (p + 1) = .inr x → isTm (nx x.2) = false → AV nx Am Bm X E S (C ++ (tBin (nx p) t x.1).1) x.2 k) → AV nx Am Bm X E S (C ++ t.1) p k := fun p t ht hc a1 a2 => by
    have h93 : nx p ≠ 93 := by rcases of_decide_eq_true hc with e | e <;> rw [e] <;> decide
    have e0 : flS (smP true) S = (S, []) := flS_no (by unfold smP; rw [hS, hS2]; rfl)
    refine ⟨fun _ => ?_, fun _ z => absurd (z.symm.trans hc) (by decide), fun z => absurd z h93, fun z => absurd z h93⟩
    rw [hc, e0, List.append_nil]
    refine hB _ _ _ (TT (p + 1) _ _ ht a1 (fun y hy hy2 => AV.pl hc hy2 ?_))
    have := a2 y hy hy2
    rw [show (tBin (nx p) t y.1).1 = t.1 ++ y.1.1 ++ [(nx p, 0)] from rfl] at this
    simpa only [List.append_assoc] using this
  refine TT p S C hS (fun e he => g1 e (by rw [lvR, he]; rfl)) (fun x hx hx2 => ?_)
  rw [lvR, hx] at g1 g2
  have lp : ∀ n p t, 201 ≤ n + p → isTm (nx p) = false → (∀ e, loopR nx isPl (lvR nx isTm (facK nx k)) n p t = .inl e → E e) → (∀ x, loopR nx isPl (lvR nx isTm (facK nx k)) n p t = .inr x → isTm (nx x.2) = false → isPl (nx x.2) = false → AV nx Am Bm X E S (C ++ x.1.1) x.2 k) → AV nx Am Bm X E S (C ++ t.1) p k := by
    intro n
    induction n with
    | zero =>
      intro p t hn w g1 g2
      refine g2 (t, p) rfl w ?_
      cases eo : isPl (nx p) with
      | false => rfl
      | true => have := hnp p eo; omega
    | succ n ih =>
      intro p t hn w g1 g2
      rw [loopR] at g1 g2
      by_cases c : isPl (nx p) = true
      · rw [if_pos c] at g1 g2
        refine step p t w c (fun e he => g1 e (by rw [he]; rfl)) (fun x hx wx => ?_)
        have hp := lvR_Pg (isOp := isTm) (fac := facK nx k) (nx := nx) (fun p => facK_Pg) x hx
        rw [hx] at g1 g2
        exact ih x.2 (tBin (nx p) t x.1) (by omega) wx g1 g2
      · rw [if_neg c] at g1 g2
        exact g2 (t, p) rfl w (by revert c; cases isPl (nx p) <;> simp)
  exact lp 201 x.2 x.1 (by omega) hx2 g1 g2
theorem F_AV (hL : L ≤ 200) (hnx : ∀ p, isTm (nx p) = true → p < L) (hnp : ∀ p, isPl (nx p) = true → p < L) (hA : ∀ S C p k, AV nx Am Bm X E S C p k → Am S C p k) (hB : ∀ S C p k, BV nx Am E S C p k → Bm S C p k) (hX : ∀ S C p k, E (1, p) → X (91 :: S) C p k) : ∀ k p S C, (∀ e, facK nx k p = .inl e → E e) → (∀ x, facK nx k p = .inr x → AV nx Am Bm X E S (C ++ x.1.1) x.2 k) → BV nx Am E S C p k := by
  intro k
  induction k with
  | zero =>
    intro p S C g1 g2
    rw [facK] at g1 g2
    by_cases c : nx p = 91
    · rw [if_pos c] at g1
      refine ⟨fun e he => ?_, fun y hy => ?_⟩
      · rw [brM, if_pos c] at he; rw [← Sum.inl.inj he]; exact g1 _ rfl
      · rw [brM, if_pos c] at hy; simp at hy
    · rw [if_neg c] at g1 g2
      exact BV.at c g1 (fun y hy => hA _ _ _ _ (g2 y hy))
  | succ k ih =>
    intro p S C g1 g2
    rw [facK] at g1 g2
    by_cases c : nx p = 91
    · rw [if_pos c] at g1 g2
      refine BV.op c (S_AV (X := X) (Bm := Bm) hL hnx hnp (fun S C p => hB S C p k) ih (p + 1) (91 :: S) C (show isTm 91 = false by decide) (show isPl 91 = false by decide) (fun e he => g1 e ?_) (fun x hx h1 h2 => ?_))
      · rw [show lvR nx isPl (lvR nx isTm (facK nx k)) (p + 1) = .inl e from he]; rfl
      · rw [show lvR nx isPl (lvR nx isTm (facK nx k)) (p + 1) = .inr x from hx] at g1 g2
        have e0 : flS (smP true) (91 :: S) = (91 :: S, []) := flS_no (show smP true 91 = false by decide)
        unfold clsR bd at g1 g2
        dsimp only at g1 g2
        refine ⟨fun z => ?_, fun _ _ h93 => ?_, fun h93 ht => ?_, fun h93 T hT => ?_⟩
        · rcases z with z | z
          · exact absurd (z.symm.trans h1) (by decide)
          · exact absurd (z.symm.trans h2) (by decide)
        · rw [e0, List.append_nil]
          rw [if_neg h93] at g1
          exact hX _ _ _ _ (g1 _ rfl)
        · rw [e0] at ht; exact absurd rfl ht
        · rw [e0] at hT
          rw [e0, List.append_nil]
          rw [if_pos h93] at g2
          rw [← (List.cons.inj hT).2]
          exact hA _ _ _ _ (g2 _ rfl)
    · rw [if_neg c] at g1 g2
      exact BV.at c g1 (fun y hy => hA _ _ _ _ (g2 y hy))
end GO
end PUR
