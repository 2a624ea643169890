/-! the reference's stack of signs against the grammar: conditions -/
def cmV (nx : Nat → Int32) (k p : Nat) : Rs := bd (vaR nx k p) (fun t q => if isSg (nx q) = true then bd (vaR nx k (q + 1)) (fun t' q' => .inr (tBin (nx q) t t', q')) else .inl (1, q))
theorem cmV_eq {nx : Nat → Int32} {k p : Nat} : cmV nx k p = bd (cmpR nx k p) (fun t q => if nx q = 93 then .inl (1, q) else .inr (t, q)) := by
  unfold cmV cmpR vaR
  cases e1 : sumK nx k p with
  | inl e => rfl
  | inr x =>
    unfold bd
    dsimp only
    by_cases c : nx x.2 = 93
    · rw [if_pos c, if_neg (by rw [c]; decide)]
    · rw [if_neg c]
      dsimp only
      by_cases c2 : isSg (nx x.2) = true
      · rw [if_pos c2, if_pos c2]
        cases e2 : sumK nx k (x.2 + 1) with
        | inl e => rfl
        | inr y =>
          dsimp only
          by_cases c3 : nx y.2 = 93
          · rw [if_pos c3, if_pos c3]
          · rw [if_neg c3, if_neg c3]
      · rw [if_neg c2, if_neg c2]
def atP (nx : Nat → Int32) (k p : Nat) : (Nat × Nat) ⊕ (List Int32 × Tr × Nat) := match cmV nx k p with
  | .inl e => .inl e
  | .inr x => .inr ([], x.1, x.2)
def brP (nx : Nat → Int32) : Nat → Nat → (Nat × Nat) ⊕ (List Int32 × Tr × Nat)
  | 0, p => if nx p = 33 ∨ nx p = 40 then .inl (5, p) else atP nx 0 p
  | k + 1, p => if nx p = 33 ∨ nx p = 40 then (match brP nx k (p + 1) with
      | .inl e => .inl e
      | .inr y => .inr (y.1 ++ [nx p], y.2.1, y.2.2)) else atP nx (k + 1) p
abbrev OvP := List (Int32 × Int32) → Nat → Prop
def AEm (Am : StP) (S : List Int32) (C : List (Int32 × Int32)) (p k : Nat) : Prop := Am (S.drop (nb33 S)) (C ++ List.replicate (nb33 S) (2, 0)) p (k + nb33 S)
/-- behind a piece -/
def AP (nx : Nat → Int32) (Am Bm : StP) (Ov : OvP) (E : Nat × Nat → Prop) (S : List Int32) (C : List (Int32 × Int32)) (p k : Nat) : Prop :=
  (isAn (nx p) = true ∨ isOr (nx p) = true → Bm (nx p :: (flS (jnP (isOr (nx p))) S).1) (C ++ (flS (jnP (isOr (nx p))) S).2) (p + 1) k) ∧
  (isAn (nx p) = false → isOr (nx p) = false → nx p ≠ 41 → E (1, p)) ∧
  (nx p = 41 → ∃ T, (flS (jnP true) S).1 = 40 :: T ∧ (T = [] → Ov (C ++ (flS (jnP true) S).2) (p + 1)) ∧ (T ≠ [] → AEm Am T (C ++ (flS (jnP true) S).2) (p + 1) (k + 1)))
/-- before a piece -/
def BP (nx : Nat → Int32) (Am : StP) (E : Nat × Nat → Prop) (S : List Int32) (C : List (Int32 × Int32)) (p k : Nat) : Prop :=
  (∀ e, brP nx k p = .inl e → E e) ∧ ∀ y, brP nx k p = .inr y → AEm Am (y.1 ++ S) (C ++ y.2.1.1) y.2.2 (k - y.1.length)
section PUQ
variable {nx : Nat → Int32} {Am Bm : StP} {Ov : OvP} {E : Nat × Nat → Prop}
theorem AEm.no {S : List Int32} {C : List (Int32 × Int32)} {p k : Nat} (h : AEm Am S (C ++ [(2, 0)]) p (k + 1)) : AEm Am (33 :: S) C p k := by
  unfold AEm at h ⊢
  rw [nb33, if_pos rfl, List.drop_succ_cons, List.replicate_succ, show k + (nb33 S + 1) = k + 1 + nb33 S by omega]
  rw [List.append_assoc] at h
  exact h
theorem AEm.z {S : List Int32} {C : List (Int32 × Int32)} {p k : Nat} (h0 : nb33 S = 0) (h : Am S C p k) : AEm Am S C p k := by
  unfold AEm
  rw [h0, List.drop_zero, List.replicate_zero, List.append_nil, Nat.add_zero]; exact h
theorem AEm.uz {S : List Int32} {C : List (Int32 × Int32)} {p k : Nat} (h0 : nb33 S = 0) (h : AEm Am S C p k) : Am S C p k := by
  unfold AEm at h
  rw [h0, List.drop_zero, List.replicate_zero, List.append_nil, Nat.add_zero] at h; exact h
theorem AP.an {S : List Int32} {C : List (Int32 × Int32)} {p k : Nat} (h : AP nx Am Bm Ov E S (C ++ [(38, 0)]) p k) : AP nx Am Bm Ov E (38 :: S) C p k := by
  have e : ∀ b, flS (jnP b) (38 :: S) = ((flS (jnP b) S).1, (38, 0) :: (flS (jnP b) S).2) := fun b => flS_yes (by unfold jnP; rw [show isAn 38 = true by decide, Bool.true_or])
  unfold AP at h ⊢
  simp only [e]
  simpa only [List.append_assoc, List.singleton_append] using h
theorem AP.or {S : List Int32} {C : List (Int32 × Int32)} {p k : Nat} (hp : isAn (nx p) = false) (h : AP nx Am Bm Ov E S (C ++ [(124, 0)]) p k) : AP nx Am Bm Ov E (124 :: S) C p k := by
  have e : flS (jnP true) (124 :: S) = ((flS (jnP true) S).1, (124, 0) :: (flS (jnP true) S).2) := flS_yes (by decide)
  unfold AP at h ⊢
  rw [hp] at h ⊢
  cases ep : isOr (nx p) with
  | true =>
    rw [ep] at h
    simp only [e]
    simpa only [List.append_assoc, List.singleton_append] using h
  | false =>
    rw [ep] at h
    simp only [e]
    refine ⟨fun z => ?_, ?_⟩
    · rcases z with z | z <;> exact absurd z (by decide)
    · simpa only [List.append_assoc, List.singleton_append] using h.2
theorem BP.at {S : List Int32} {C : List (Int32 × Int32)} {p k : Nat} (hn : ¬ (nx p = 33 ∨ nx p = 40)) (h1 : ∀ e, cmV nx k p = .inl e → E e) (h2 : ∀ y, cmV nx k p = .inr y → AEm Am S (C ++ y.1.1) y.2 k) : BP nx Am E S C p k := by
  have e : brP nx k p = atP nx k p := by cases k <;> rw [brP, if_neg hn]
  unfold BP
  rw [e, atP]
  cases ea : cmV nx k p with
  | inl er => exact ⟨fun e' he => by rw [← Sum.inl.inj he]; exact h1 _ ea, fun y hy => by simp at hy⟩
  | inr x => exact ⟨fun e' he => by simp at he, fun y hy => by rw [← Sum.inr.inj hy]; exact h2 _ ea⟩
theorem BP.op {S : List Int32} {C : List (Int32 × Int32)} {p k : Nat} (hn : nx p = 33 ∨ nx p = 40) (h : BP nx Am E (nx p :: S) C (p + 1) k) : BP nx Am E S C p (k + 1) := by
  unfold BP at h ⊢
  rw [brP, if_pos hn]
  cases eb : brP nx k (p + 1) with
  | inl er => rw [eb] at h; exact ⟨fun e' he => by rw [← Sum.inl.inj he]; exact h.1 _ rfl, fun y hy => by simp at hy⟩
  | inr x =>
    rw [eb] at h
    refine ⟨fun e' he => by simp at he, fun y hy => ?_⟩
    rw [← Sum.inr.inj hy]
    have := h.2 _ rfl
    dsimp only
    rw [List.append_assoc, List.length_append, List.length_singleton, show k + 1 - (x.1.length + 1) = k - x.1.length by omega]
    exact this
variable {L : Nat}
theorem N_AP {k : Nat} (hL : L ≤ 200) (hnx : ∀ p, isAn (nx p) = true → p < L) (hB : ∀ S C p, S ≠ [] → BP nx Am E S C p k → Bm S C p k)
    (F : ∀ p S C, S ≠ [] → (∀ e, pieK nx k p = .inl e → E e) → (∀ x, pieK nx k p = .inr x → AEm (AP nx Am Bm Ov E) S (C ++ x.1.1) x.2 k) → BP nx Am E S C p k)
    (p : Nat) (S : List Int32) (C : List (Int32 × Int32)) (hn : S ≠ []) (hS : isAn (tpM S) = false) (h33 : nb33 S = 0) (g1 : ∀ e, lvR nx isAn (pieK nx k) p = .inl e → E e) (g2 : ∀ x, lvR nx isAn (pieK nx k) p = .inr x → isAn (nx x.2) = false → AP nx Am Bm Ov E S (C ++ x.1.1) x.2 k) : BP nx Am E S C p k := by
  have step : ∀ p t, isAn (nx p) = true → (∀ e, pieK nx k (p + 1) = .inl e → E e) → (∀ x, pieK nx k (p + 1) = .inr x → AP nx Am Bm Ov E S (C ++ (tBin (nx p) t x.1).1) x.2 k) → AP nx Am Bm Ov E S (C ++ t.1) p k := fun p t hc a1 a2 => by
    have c38 : nx p = 38 := of_decide_eq_true hc
    have hp : isOr (nx p) = false := by rw [c38]; decide
    have e0 : flS (jnP false) S = (S, []) := flS_no (by unfold jnP; rw [hS]; rfl)
    refine ⟨fun _ => ?_, fun z => absurd (z.symm.trans hc) (by decide), fun z => absurd (z.symm.trans c38) (by decide)⟩
    rw [hp, e0, List.append_nil]
    rw [c38] at a2 ⊢
    refine hB _ _ _ (List.cons_ne_nil _ _) (F (p + 1) _ _ (List.cons_ne_nil _ _) a1 (fun y hy => AEm.z (by rw [nb33, if_neg (by decide)]) (AP.an ?_)))
    have := a2 y hy
    rw [show (tBin 38 t y.1).1 = t.1 ++ y.1.1 ++ [(38, 0)] from rfl] at this
    simpa only [List.append_assoc] using this
  refine F p S C hn (fun e he => g1 e (by rw [lvR, he]; rfl)) (fun x hx => AEm.z h33 ?_)
  rw [lvR, hx] at g1 g2
  have lp : ∀ n p t, 201 ≤ n + p → (∀ e, loopR nx isAn (pieK nx k) n p t = .inl e → E e) → (∀ x, loopR nx isAn (pieK nx k) n p t = .inr x → isAn (nx x.2) = false → AP nx Am Bm Ov E S (C ++ x.1.1) x.2 k) → AP nx Am Bm Ov E S (C ++ t.1) p k := by
    intro n
    induction n with
    | zero =>
      intro p t hn g1 g2
      refine g2 (t, p) rfl ?_
      cases eo : isAn (nx p) with
      | false => rfl
      | true => have := hnx p eo; omega
    | succ n ih =>
      intro p t hn g1 g2
      rw [loopR] at g1 g2
      by_cases c : isAn (nx p) = true
      · rw [if_pos c] at g1 g2
        refine step p t c (fun e he => g1 e (by rw [he]; rfl)) (fun x hx => ?_)
        have hp := pieK_Pg x hx
        rw [hx] at g1 g2
        exact ih x.2 (tBin (nx p) t x.1) (by omega) g1 g2
      · rw [if_neg c] at g1 g2
        exact g2 (t, p) rfl (by revert c; cases isAn (nx p) <;> simp)
  exact lp 201 x.2 x.1 (by omega) g1 g2
theorem O_AP {k : Nat} (hL : L ≤ 200) (hnx : ∀ p, isAn (nx p) = true → p < L) (hnp : ∀ p, isOr (nx p) = true → p < L) (hB : ∀ S C p, S ≠ [] → BP nx Am E S C p k → Bm S C p k)
    (F : ∀ p S C, S ≠ [] → (∀ e, pieK nx k p = .inl e → E e) → (∀ x, pieK nx k p = .inr x → AEm (AP nx Am Bm Ov E) S (C ++ x.1.1) x.2 k) → BP nx Am E S C p k)
    (p : Nat) (S : List Int32) (C : List (Int32 × Int32)) (hn : S ≠ []) (hS : isAn (tpM S) = false) (hS2 : isOr (tpM S) = false) (h33 : nb33 S = 0) (g1 : ∀ e, cndK nx k p = .inl e → E e) (g2 : ∀ x, cndK nx k p = .inr x → isAn (nx x.2) = false → isOr (nx x.2) = false → AP nx Am Bm Ov E S (C ++ x.1.1) x.2 k) : BP nx Am E S C p k := by
  unfold cndK at g1 g2
  have TT := N_AP (E := E) (Am := Am) (Bm := Bm) (Ov := Ov) hL hnx hB F
  have step : ∀ p t, isAn (nx p) = false → isOr (nx p) = true → (∀ e, lvR nx isAn (pieK nx k) (p + 1) = .inl e → E e) → (∀ x, lvR nx isAn (pieK nx k) (p + 1) = .inr x → isAn (nx x.2) = false → AP nx Am Bm Ov E S (C ++ (tBin (nx p) t x.1).1) x.2 k) → AP nx Am Bm Ov E S (C ++ t.1) p k := fun p t ht hc a1 a2 => by
    have c124 : nx p = 124 := of_decide_eq_true hc
    have e0 : flS (jnP true) S = (S, []) := flS_no (by unfold jnP; rw [hS, hS2]; rfl)
    refine ⟨fun _ => ?_, fun _ z => absurd (z.symm.trans hc) (by decide), fun z => absurd (z.symm.trans c124) (by decide)⟩
    rw [hc, e0, List.append_nil]
    rw [c124] at a2 ⊢
    refine hB _ _ _ (List.cons_ne_nil _ _) (TT (p + 1) _ _ (List.cons_ne_nil _ _) (show isAn 124 = false by decide) (by rw [nb33, if_neg (by decide)]) a1 (fun y hy hy2 => AP.or hy2 ?_))
    have := a2 y hy hy2
    rw [show (tBin 124 t y.1).1 = t.1 ++ y.1.1 ++ [(124, 0)] from rfl] at this
    simpa only [List.append_assoc] using this
  refine TT p S C hn hS h33 (fun e he => g1 e (by rw [lvR, he]; rfl)) (fun x hx hx2 => ?_)
  rw [lvR, hx] at g1 g2
  have lp : ∀ n p t, 201 ≤ n + p → isAn (nx p) = false → (∀ e, loopR nx isOr (lvR nx isAn (pieK nx k)) n p t = .inl e → E e) → (∀ x, loopR nx isOr (lvR nx isAn (pieK nx k)) n p t = .inr x → isAn (nx x.2) = false → isOr (nx x.2) = false → AP nx Am Bm Ov E S (C ++ x.1.1) x.2 k) → AP nx Am Bm Ov E S (C ++ t.1) p k := by
    intro n
    induction n with
    | zero =>
      intro p t hn w g1 g2
      refine g2 (t, p) rfl w ?_
      cases eo : isOr (nx p) with
      | false => rfl
      | true => have := hnp p eo; omega
    | succ n ih =>
      intro p t hn w g1 g2
      rw [loopR] at g1 g2
      by_cases c : isOr (nx p) = true
      · rw [if_pos c] at g1 g2
        refine step p t w c (fun e he => g1 e (by rw [he]; rfl)) (fun x hx wx => ?_)
        have hp := lvR_Pg (isOp := isAn) (fac := pieK nx k) (nx := nx) (fun p => pieK_Pg) x hx
        rw [hx] at g1 g2
        exact ih x.2 (tBin (nx p) t x.1) (by omega) wx g1 g2
      · rw [if_neg c] at g1 g2
        exact g2 (t, p) rfl w (by revert c; cases isOr (nx p) <;> simp)
  exact lp 201 x.2 x.1 (by omega) hx2 g1 g2
theorem P_AP (hL : L ≤ 200) (hnx : ∀ p, isAn (nx p) = true → p < L) (hnp : ∀ p, isOr (nx p) = true → p < L) (hA : ∀ S C p k, AP nx Am Bm Ov E S C p k → Am S C p k) (hB : ∀ S C p k, S ≠ [] → BP nx Am E S C p k → Bm S C p k) : ∀ k p S C, S ≠ [] → (∀ e, pieK nx k p = .inl e → E e) → (∀ x, pieK nx k p = .inr x → AEm (AP nx Am Bm Ov E) S (C ++ x.1.1) x.2 k) → BP nx Am E S C p k := by
  have hAE : ∀ S C p k, AEm (AP nx Am Bm Ov E) S C p k → AEm Am S C p k := fun S C p k h => hA _ _ _ _ h
  have atm : ∀ k p S C, ¬ (nx p = 33 ∨ nx p = 40) → (∀ e, cmpR nx k p = .inl e → E e) → (∀ x, cmpR nx k p = .inr x → AEm (AP nx Am Bm Ov E) S (C ++ x.1.1) x.2 k) → BP nx Am E S C p k := fun k p S C c g1 g2 => by
    refine BP.at c (fun e he => ?_) (fun y hy => ?_)
    · rw [cmV_eq] at he
      cases ec : cmpR nx k p with
      | inl e' => rw [ec] at he; rw [← Sum.inl.inj he]; exact g1 _ ec
      | inr x =>
        rw [ec] at he
        unfold bd at he
        dsimp only at he
        by_cases c3 : nx x.2 = 93
        · rw [if_pos c3] at he
          rw [← Sum.inl.inj he]
          exact (g2 x ec).2.1 (by rw [c3]; decide) (by rw [c3]; decide) (by rw [c3]; decide)
        · rw [if_neg c3] at he; simp at he
    · rw [cmV_eq] at hy
      cases ec : cmpR nx k p with
      | inl e' => rw [ec] at hy; simp [bd] at hy
      | inr x =>
        rw [ec] at hy
        unfold bd at hy
        dsimp only at hy
        by_cases c3 : nx x.2 = 93
        · rw [if_pos c3] at hy; simp at hy
        · rw [if_neg c3] at hy
          rw [← Sum.inr.inj hy]
          exact hAE _ _ _ _ (g2 x ec)
  intro k
  induction k with
  | zero =>
    intro p S C hn g1 g2
    rw [pieK] at g1 g2
    by_cases c : nx p = 33 ∨ nx p = 40
    · rw [if_pos c] at g1
      refine ⟨fun e he => ?_, fun y hy => ?_⟩
      · rw [brP, if_pos c] at he; rw [← Sum.inl.inj he]; exact g1 _ rfl
      · rw [brP, if_pos c] at hy; simp at hy
    · rw [if_neg c] at g1 g2
      exact atm _ _ _ _ c g1 g2
  | succ k ih =>
    intro p S C hn g1 g2
    rw [pieK] at g1 g2
    by_cases c : nx p = 33
    · rw [if_pos c] at g1 g2
      refine BP.op (Or.inl c) ?_
      rw [c]
      refine ih (p + 1) (33 :: S) C (List.cons_ne_nil _ _) (fun e he => g1 e (by rw [he]; rfl)) (fun x hx => AEm.no ?_)
      have := g2 (tNot x.1, x.2) (by rw [hx]; rfl)
      rw [show (tNot x.1).1 = x.1.1 ++ [(2, 0)] from rfl] at this
      simpa only [List.append_assoc] using this
    · rw [if_neg c] at g1 g2
      by_cases c2 : nx p = 40
      · rw [if_pos c2] at g1 g2
        refine BP.op (Or.inr c2) ?_
        rw [c2]
        refine O_AP (Bm := Bm) (Ov := Ov) hL hnx hnp (fun S C p => hB S C p k) ih (p + 1) (40 :: S) C (List.cons_ne_nil _ _) (show isAn 40 = false by decide) (show isOr 40 = false by decide) (by rw [nb33, if_neg (by decide)]) (fun e he => g1 e ?_) (fun x hx h1 h2 => ?_)
        · rw [show lvR nx isOr (lvR nx isAn (pieK nx k)) (p + 1) = .inl e from he]; rfl
        · rw [show lvR nx isOr (lvR nx isAn (pieK nx k)) (p + 1) = .inr x from hx] at g1 g2
          have e0 : flS (jnP true) (40 :: S) = (40 :: S, []) := flS_no (show jnP true 40 = false by decide)
          unfold clsR bd at g1 g2
          dsimp only at g1 g2
          refine ⟨fun z => ?_, fun _ _ h41 => ?_, fun h41 => ⟨S, ?_, fun z => absurd z hn, fun _ => ?_⟩⟩
          · rcases z with z | z
            · exact absurd (z.symm.trans h1) (by decide)
            · exact absurd (z.symm.trans h2) (by decide)
          · rw [if_neg h41] at g1
            exact g1 _ rfl
          · rw [e0]
          · rw [e0, List.append_nil]
            rw [if_pos h41] at g2
            exact hAE _ _ _ _ (g2 _ rfl)
      · rw [if_neg c2] at g1 g2
        exact atm _ _ _ _ (fun z => z.elim c c2) g1 g2
end PUQ
