/-! the grammar of laws -/
def nxC (L : Nat) (fb : Nat → Nat) (p : Nat) : Int32 := if p < L then nI (fb p) else -1
/-- a tree: its code behind its parts, its value by the facts, the room it needs -/
abbrev Tr := List (Int32 × Int32) × ((Nat → Int32) → Int32 × Bool) × Nat
/-- a fault and its place, or a tree and the place behind it -/
abbrev Rs := (Nat × Nat) ⊕ (Tr × Nat)
def tNum (v : Int32) : Tr := ([(0, v)], fun _ => (v, false), 1)
def tFac (c : Int32) : Tr := ([(1, c)], fun F => (F (fIx c), false), 1)
def tBin (op : Int32) (a b : Tr) : Tr := (a.1 ++ b.1 ++ [(op, 0)], fun F => doM op (a.2.1 F) (b.2.1 F), max a.2.2 (b.2.2 + 1))
def tNot (a : Tr) : Tr := (a.1 ++ [(2, 0)], fun F => (1 - (a.2.1 F).1, (a.2.1 F).2), a.2.2)
def isTm (c : Int32) : Bool := decide (c = 42 ∨ c = 47 ∨ c = 37)
def isPl (c : Int32) : Bool := decide (c = 43 ∨ c = 45)
def isSg (c : Int32) : Bool := decide (c = 60 ∨ c = 62 ∨ c = 61)
def isDg (c : Int32) : Bool := decide (48 ≤ c ∧ c ≤ 57)
def isVl (c : Int32) : Bool := decide (c = 108 ∨ c = 99 ∨ c = 111 ∨ c = 97 ∨ c = 114 ∨ c = 119 ∨ c = 118)
def isAn (c : Int32) : Bool := decide (c = 38)
def isOr (c : Int32) : Bool := decide (c = 124)
def bd (r : Rs) (f : Tr → Nat → Rs) : Rs := match r with
  | .inl e => .inl e
  | .inr x => f x.1 x.2
def loopR (nx : Nat → Int32) (isOp : Int32 → Bool) (fac : Nat → Rs) : Nat → Nat → Tr → Rs
  | 0, p, t => .inr (t, p)
  | n + 1, p, t => if isOp (nx p) = true then bd (fac (p + 1)) (fun t' q => loopR nx isOp fac n q (tBin (nx p) t t')) else .inr (t, p)
def lvR (nx : Nat → Int32) (isOp : Int32 → Bool) (fac : Nat → Rs) (p : Nat) : Rs := bd (fac p) (fun t q => loopR nx isOp fac 201 q t)
def numR (nx : Nat → Int32) : Nat → Nat → Int32 → Rs
  | 0, p, v => if isDg (nx p) = true then .inl (2, p) else .inr (tNum v, p)
  | n + 1, p, v => if isDg (nx p) = true then numR nx n (p + 1) (10 * v + nx p - 48) else .inr (tNum v, p)
def atomR (nx : Nat → Int32) (p : Nat) : Rs := if isDg (nx p) = true then numR nx 5 p 0 else if isVl (nx p) = true then .inr (tFac (nx p), p + 1) else .inl (1, p)
/-- a sign that must stand behind -/
def clsR (nx : Nat → Int32) (c : Int32) (r : Rs) : Rs := bd r (fun t q => if nx q = c then .inr (t, q + 1) else .inl (1, q))
def facK (nx : Nat → Int32) : Nat → Nat → Rs
  | 0, p => if nx p = 91 then .inl (5, p) else atomR nx p
  | k + 1, p => if nx p = 91 then clsR nx 93 (lvR nx isPl (lvR nx isTm (facK nx k)) (p + 1)) else atomR nx p
def sumK (nx : Nat → Int32) (k p : Nat) : Rs := lvR nx isPl (lvR nx isTm (facK nx k)) p
def cmpR (nx : Nat → Int32) (k p : Nat) : Rs := bd (sumK nx k p) (fun t q => if isSg (nx q) = true then bd (sumK nx k (q + 1)) (fun t' q' => .inr (tBin (nx q) t t', q')) else .inl (1, q))
def pieK (nx : Nat → Int32) : Nat → Nat → Rs
  | 0, p => if nx p = 33 ∨ nx p = 40 then .inl (5, p) else cmpR nx 0 p
  | k + 1, p => if nx p = 33 then bd (pieK nx k (p + 1)) (fun t q => .inr (tNot t, q)) else if nx p = 40 then clsR nx 41 (lvR nx isOr (lvR nx isAn (pieK nx k)) (p + 1)) else cmpR nx (k + 1) p
def cndK (nx : Nat → Int32) (k p : Nat) : Rs := lvR nx isOr (lvR nx isAn (pieK nx k)) p
/-! the code of the first kind, run -/
theorem rk_fuel {code opd : Nat → Int32} {sz : Nat} {F : Nat → Int32} : ∀ {n p n' : Nat} {l : List Int32} {h : Bool}, 201 ≤ p + n → 201 ≤ p + n' → rkL code opd sz F n p l h = rkL code opd sz F n' p l h := by
  intro n
  induction n with
  | zero =>
    intro p n' l h h1 h2
    cases n' with
    | zero => rfl
    | succ n' => rw [rkL, rkL, if_neg (by omega)]
  | succ n ih =>
    intro p n' l h h1 h2
    cases n' with
    | zero => rw [rkL, rkL, if_neg (by omega)]
    | succ n' =>
      rw [rkL, rkL]
      have e : ∀ l h, rkL code opd sz F n (p + 1) l h = rkL code opd sz F n' (p + 1) l h := fun l h => ih (by omega) (by omega)
      have e2 : ∀ l h, rkL code opd sz F n (max (p + 1) (opd p).toNatClampNeg) l h = rkL code opd sz F n' (max (p + 1) (opd p).toNatClampNeg) l h := fun l h => ih (by omega) (by omega)
      simp only [e, e2]
def rk (code opd : Nat → Int32) (sz : Nat) (F : Nat → Int32) (p : Nat) (l : List Int32) (h : Bool) : List Int32 × Bool × Bool := rkL code opd sz F 201 p l h
theorem rk_at {code opd : Nat → Int32} {sz : Nat} {F : Nat → Int32} {p : Nat} {l : List Int32} {h : Bool} (hp : p < sz) (hs : sz ≤ 200) : rk code opd sz F p l h = (if code p = 0 then (l, h, false)
      else if code p = 1 then rk code opd sz F (p + 1) (putL (opd p) l) h
      else if code p = 2 then rk code opd sz F (p + 1) (putL (if 0 ≤ opd p ∧ opd p ≤ 6 then F (opd p).toNatClampNeg else 0) l) h
      else if code p = 3 then rk code opd sz F (p + 1) l (!h)
      else if code p = 4 ∨ code p = 5 then
        (if h = decide (code p = 4) then rk code opd sz F (max (p + 1) (opd p).toNatClampNeg) l h else rk code opd sz F (p + 1) l h)
      else if code p = 60 ∨ code p = 62 ∨ code p = 61 then rk code opd sz F (p + 1) (cmpL (code p) h l).1 (cmpL (code p) h l).2
      else if (cmbL (code p) l).2 then ((cmbL (code p) l).1, h, true)
      else rk code opd sz F (p + 1) (cmbL (code p) l).1 h) := by
  have e : ∀ l h, rkL code opd sz F 200 (p + 1) l h = rk code opd sz F (p + 1) l h := fun l h => rk_fuel (by omega) (by omega)
  have e2 : ∀ l h, rkL code opd sz F 200 (max (p + 1) (opd p).toNatClampNeg) l h = rk code opd sz F (max (p + 1) (opd p).toNatClampNeg) l h := fun l h => rk_fuel (by omega) (by omega)
  rw [rk, rkL, if_pos (by omega)]
  simp only [e, e2]
def Agr (q q' : Nat) (code opd c o : Nat → Int32) : Prop := ∀ j, q ≤ j → j < q' → c j = code j ∧ o j = opd j
theorem Agr.sub {q q' r r' : Nat} {code opd c o : Nat → Int32} (h : Agr q q' code opd c o) (h1 : q ≤ r) (h2 : r' ≤ q') : Agr r r' code opd c o := fun j a b => h j (by omega) (by omega)
/-- the code from q to q' reckons the tree -/
def XE (code opd : Nat → Int32) (q q' : Nat) (t : Tr) : Prop := q ≤ q' ∧ ∀ c o sz F l h, Agr q q' code opd c o → q' ≤ sz → sz ≤ 200 → l.length + t.2.2 ≤ 32 → if (t.2.1 F).2 = true then (rk c o sz F q l h).2.2 = true else rk c o sz F q l h = rk c o sz F q' ((t.2.1 F).1 :: l) h
theorem XE.mv {code opd code' opd' : Nat → Int32} {q q' : Nat} {t : Tr} (x : XE code opd q q' t) (h : Agr q q' code opd code' opd') : XE code' opd' q q' t := ⟨x.1, fun c o sz F l hb a => x.2 c o sz F l hb (fun j j1 j2 => ⟨(a j j1 j2).1.trans (h j j1 j2).1, (a j j1 j2).2.trans (h j j1 j2).2⟩)⟩
theorem XE.num {code opd : Nat → Int32} {q : Nat} {v : Int32} (h1 : code q = 1) (h2 : opd q = v) : XE code opd q (q + 1) (tNum v) := ⟨by omega, fun c o sz F l h a hq hs hl => by
  obtain ⟨a1, a2⟩ := a q (by omega) (by omega)
  have hl' : l.length + 1 ≤ 32 := hl
  rw [if_neg (show ¬ ((tNum v).2.1 F).2 = true from fun z => absurd (show false = true from z) (by decide)), rk_at (by omega) hs, a1, a2, h1, h2, if_neg (by decide), if_pos rfl, putL, if_pos (by omega)]
  rfl⟩
theorem fIx_le (c : Int32) : fIx c ≤ 6 := by
  unfold fIx
  (repeat' split) <;> omega
theorem XE.fac {code opd : Nat → Int32} {q : Nat} {x : Int32} (h1 : code q = 2) (h2 : opd q = nI (fIx x)) : XE code opd q (q + 1) (tFac x) := ⟨by omega, fun c o sz F l h a hq hs hl => by
  obtain ⟨a1, a2⟩ := a q (by omega) (by omega)
  have hl' : l.length + 1 ≤ 32 := hl
  have hf := fIx_le x
  rw [if_neg (show ¬ ((tFac x).2.1 F).2 = true from fun z => absurd (show false = true from z) (by decide)), rk_at (by omega) hs, a1, a2, h1, h2, if_neg (by decide), if_neg (by decide), if_pos rfl, putL, if_pos (by omega), if_pos ⟨nI_pos' (by omega), nI_le (b := 6) hf (by omega)⟩, nI_clamp (by omega)]
  rfl⟩
theorem cmb_z {op a b : Int32} {l : List Int32} (h : op = 47 ∨ op = 37) (hb : b = 0) : cmbL op (b :: a :: l) = (a :: l, true) := by
  subst hb
  rcases h with rfl | rfl
  · simp only [cmbL, show ¬ (47 : Int32) = 43 by decide, show ¬ (47 : Int32) = 45 by decide, show ¬ (47 : Int32) = 42 by decide, if_false, if_true]
  · simp only [cmbL, show ¬ (37 : Int32) = 43 by decide, show ¬ (37 : Int32) = 45 by decide, show ¬ (37 : Int32) = 42 by decide, if_false, if_true]
theorem cmb_w {op a b : Int32} {l : List Int32} (h : op = 42 ∨ op = 47 ∨ op = 37 ∨ op = 43 ∨ op = 45) (hb : ¬ ((op = 47 ∨ op = 37) ∧ b = 0)) : cmbL op (b :: a :: l) = (wkV op a b :: l, false) := by
  rcases h with rfl | rfl | rfl | rfl | rfl
  · simp only [cmbL, wkV, show ¬ (42 : Int32) = 43 by decide, show ¬ (42 : Int32) = 45 by decide, if_false, if_true]
  · simp only [cmbL, wkV, show ¬ b = 0 from fun e => hb ⟨Or.inl rfl, e⟩, show ¬ (47 : Int32) = 43 by decide, show ¬ (47 : Int32) = 45 by decide, show ¬ (47 : Int32) = 42 by decide, if_false, if_true]
  · simp only [cmbL, wkV, show ¬ b = 0 from fun e => hb ⟨Or.inr rfl, e⟩, show ¬ (37 : Int32) = 43 by decide, show ¬ (37 : Int32) = 45 by decide, show ¬ (37 : Int32) = 42 by decide, show ¬ (37 : Int32) = 47 by decide, if_false, if_true]
  · simp only [cmbL, wkV, if_true]
  · simp only [cmbL, wkV, show ¬ (45 : Int32) = 43 by decide, if_false, if_true]
theorem XE.bin {code opd : Nat → Int32} {q q1 q2 : Nat} {a b : Tr} {op : Int32} (hop : isTm op = true ∨ isPl op = true) (xa : XE code opd q q1 a) (xb : XE code opd q1 q2 b) (h1 : code q2 = op) : XE code opd q (q2 + 1) (tBin op a b) := by
  obtain ⟨a1, a2⟩ := xa
  obtain ⟨b1, b2⟩ := xb
  refine ⟨by omega, fun c o sz F l h ag hq hs hl => ?_⟩
  have hl' : l.length + max a.2.2 (b.2.2 + 1) ≤ 32 := hl
  have A := a2 c o sz F l h (ag.sub (by omega) (by omega)) (by omega) hs (by omega)
  have B := b2 c o sz F ((a.2.1 F).1 :: l) h (ag.sub (by omega) (by omega)) (by omega) hs (by rw [List.length_cons]; omega)
  have ev : (tBin op a b).2.1 F = doM op (a.2.1 F) (b.2.1 F) := rfl
  have hop' : op = 42 ∨ op = 47 ∨ op = 37 ∨ op = 43 ∨ op = 45 := by
    rcases hop with hop | hop
    · rcases of_decide_eq_true hop with h | h | h
      · exact Or.inl h
      · exact Or.inr (Or.inl h)
      · exact Or.inr (Or.inr (Or.inl h))
    · rcases of_decide_eq_true hop with h | h
      · exact Or.inr (Or.inr (Or.inr (Or.inl h)))
      · exact Or.inr (Or.inr (Or.inr (Or.inr h)))
  have n1 : ¬ (op = 38 ∨ op = 124) := by rcases hop' with rfl | rfl | rfl | rfl | rfl <;> decide
  rw [ev]
  generalize a.2.1 F = x at A B ⊢
  generalize b.2.1 F = y at B ⊢
  obtain ⟨x1, x2⟩ := x
  obtain ⟨y1, y2⟩ := y
  unfold doM
  rw [if_neg n1]
  dsimp only at A B ⊢
  cases x2 with
  | true => rw [if_pos rfl] at A; rw [Bool.true_or, Bool.true_or, if_pos rfl]; exact A
  | false =>
    rw [if_neg (by decide)] at A
    rw [A, Bool.false_or]
    cases y2 with
    | true => rw [if_pos rfl] at B; rw [Bool.true_or, if_pos rfl]; exact B
    | false =>
      rw [if_neg (by decide)] at B
      rw [B, Bool.false_or, rk_at (by omega) hs, (ag q2 (by omega) (by omega)).1, h1]
      have g1 : ¬ op = 0 ∧ ¬ op = 1 ∧ ¬ op = 2 ∧ ¬ op = 3 ∧ ¬ (op = 4 ∨ op = 5) ∧ ¬ (op = 60 ∨ op = 62 ∨ op = 61) := by rcases hop' with rfl | rfl | rfl | rfl | rfl <;> decide
      obtain ⟨g1, g2, g3, g4, g5, g6⟩ := g1
      rw [if_neg g1, if_neg g2, if_neg g3, if_neg g4, if_neg g5, if_neg g6]
      by_cases z : (op = 47 ∨ op = 37) ∧ y1 = 0
      · have e1 : (decide (op = 47 ∨ op = 37) && decide (y1 = 0)) = true := by rw [decide_eq_true z.1, decide_eq_true z.2]; rfl
        rw [e1, if_pos rfl, cmb_z (l := l) (a := x1) z.1 z.2, if_pos rfl]
      · have e1 : (decide (op = 47 ∨ op = 37) && decide (y1 = 0)) = false := by
          by_cases z1 : op = 47 ∨ op = 37
          · rw [decide_eq_false (fun y => z ⟨z1, y⟩), Bool.and_false]
          · rw [decide_eq_false z1, Bool.false_and]
        rw [e1, if_neg (by decide), cmb_w (l := l) (a := x1) hop' z, if_neg (fun z => absurd (show false = true from z) (by decide))]
/-- the code from q to q' tells whether the condition holds -/
def XC (code opd : Nat → Int32) (q q' : Nat) (t : Tr) : Prop := q ≤ q' ∧ (∀ F, (t.2.1 F).1 = 0 ∨ (t.2.1 F).1 = 1) ∧ ∀ c o sz F h, Agr q q' code opd c o → q' ≤ sz → sz ≤ 200 → if (t.2.1 F).2 = true then (rk c o sz F q [] h).2.2 = true else rk c o sz F q [] h = rk c o sz F q' [] (decide ((t.2.1 F).1 = 1))
theorem XC.mv {code opd code' opd' : Nat → Int32} {q q' : Nat} {t : Tr} (x : XC code opd q q' t) (h : Agr q q' code opd code' opd') : XC code' opd' q q' t := ⟨x.1, x.2.1, fun c o sz F hb a => x.2.2 c o sz F hb (fun j j1 j2 => ⟨(a j j1 j2).1.trans (h j j1 j2).1, (a j j1 j2).2.trans (h j j1 j2).2⟩)⟩
theorem bI_01 {c : Prop} [Decidable c] : bI c = 0 ∨ bI c = 1 := by
  by_cases h : c
  · rw [bI_t h]; exact Or.inr rfl
  · rw [bI_f h]; exact Or.inl rfl
theorem bI_d {c : Prop} [Decidable c] : decide (bI c = 1) = decide c := by
  by_cases h : c
  · rw [bI_t h, decide_eq_true h]; rfl
  · rw [bI_f h, decide_eq_false h]; rfl
theorem wk_c {op a b : Int32} (h : op = 60 ∨ op = 62 ∨ op = 61) : (wkV op a b = 0 ∨ wkV op a b = 1) ∧ decide (wkV op a b = 1) = cmpV op a b := by
  rcases h with rfl | rfl | rfl
  · rw [show wkV 60 a b = bI (a < b) from rfl, show cmpV 60 a b = decide (a < b) from rfl]; exact ⟨bI_01, bI_d⟩
  · rw [show wkV 62 a b = bI (b < a) from rfl, show cmpV 62 a b = decide (b < a) from rfl]; exact ⟨bI_01, bI_d⟩
  · rw [show wkV 61 a b = bI (a = b) from rfl, show cmpV 61 a b = decide (a = b) from rfl]; exact ⟨bI_01, bI_d⟩
theorem XC.cmp {code opd : Nat → Int32} {q q1 q2 : Nat} {a b : Tr} {op : Int32} (hop : isSg op = true) (na : a.2.2 ≤ 32) (nb : b.2.2 + 1 ≤ 32) (xa : XE code opd q q1 a) (xb : XE code opd q1 q2 b) (h1 : code q2 = op) : XC code opd q (q2 + 1) (tBin op a b) := by
  obtain ⟨a1, a2⟩ := xa
  obtain ⟨b1, b2⟩ := xb
  have hop' := of_decide_eq_true hop
  have n1 : ¬ (op = 38 ∨ op = 124) := by rcases hop' with rfl | rfl | rfl <;> decide
  have n2 : ¬ (op = 47 ∨ op = 37) := by rcases hop' with rfl | rfl | rfl <;> decide
  have ev : ∀ F, (tBin op a b).2.1 F = (wkV op (a.2.1 F).1 (b.2.1 F).1, (a.2.1 F).2 || (b.2.1 F).2) := fun F => by
    show doM op (a.2.1 F) (b.2.1 F) = _
    unfold doM
    rw [if_neg n1, decide_eq_false n2, Bool.false_and, Bool.or_false]
  refine ⟨by omega, fun F => by rw [ev]; exact (wk_c hop').1, fun c o sz F h ag hq hs => ?_⟩
  have A := a2 c o sz F [] h (ag.sub (by omega) (by omega)) (by omega) hs (by rw [List.length_nil]; omega)
  have B := b2 c o sz F [(a.2.1 F).1] h (ag.sub (by omega) (by omega)) (by omega) hs (by rw [List.length_singleton]; omega)
  rw [ev, (wk_c hop').2]
  dsimp only
  cases x2 : (a.2.1 F).2 with
  | true => rw [x2, if_pos rfl] at A; rw [Bool.true_or, if_pos rfl]; exact A
  | false =>
    rw [x2, if_neg (by decide)] at A
    rw [A, Bool.false_or]
    cases y2 : (b.2.1 F).2 with
    | true => rw [y2, if_pos rfl] at B; rw [if_pos rfl]; exact B
    | false =>
      rw [y2, if_neg (by decide)] at B
      have g1 : ¬ op = 0 ∧ ¬ op = 1 ∧ ¬ op = 2 ∧ ¬ op = 3 ∧ ¬ (op = 4 ∨ op = 5) := by rcases hop' with rfl | rfl | rfl <;> decide
      obtain ⟨g1, g2, g3, g4, g5⟩ := g1
      rw [if_neg (by decide), B, rk_at (by omega) hs, (ag q2 (by omega) (by omega)).1, h1, if_neg g1, if_neg g2, if_neg g3, if_neg g4, if_neg g5, if_pos hop', cmpL]
theorem XC.no {code opd : Nat → Int32} {q q1 : Nat} {a : Tr} (xa : XC code opd q q1 a) (h1 : code q1 = 3) : XC code opd q (q1 + 1) (tNot a) := by
  obtain ⟨a1, a2, a3⟩ := xa
  have ev : ∀ F, (tNot a).2.1 F = (1 - (a.2.1 F).1, (a.2.1 F).2) := fun F => rfl
  refine ⟨by omega, fun F => ?_, fun c o sz F h ag hq hs => ?_⟩
  · rw [ev]
    rcases a2 F with e | e
    · rw [e]; exact Or.inr (show (1 - 0 : Int32) = 1 by decide)
    · rw [e]; exact Or.inl (show (1 - 1 : Int32) = 0 by decide)
  · have A := a3 c o sz F h (ag.sub (by omega) (by omega)) (by omega) hs
    rw [ev]
    dsimp only
    cases x2 : (a.2.1 F).2 with
    | true => rw [x2, if_pos rfl] at A; rw [if_pos rfl]; exact A
    | false =>
      rw [x2, if_neg (by decide)] at A
      rw [if_neg (by decide), A, rk_at (by omega) hs, (ag q1 (by omega) (by omega)).1, h1, if_neg (by decide), if_neg (by decide), if_neg (by decide), if_pos rfl]
      rcases a2 F with e | e
      · rw [e]; rfl
      · rw [e]; rfl
/-- a chain whose jumps js are not aimed yet; it stops at s -/
def XH (s : Bool) (code opd : Nat → Int32) (js : List Nat) (q q' : Nat) (t : Tr) : Prop := q ≤ q' ∧ (∀ F, (t.2.1 F).1 = 0 ∨ (t.2.1 F).1 = 1) ∧ ∀ c o sz E F h, (∀ j, q ≤ j → j < q' → c j = code j ∧ (j ∉ js → o j = opd j)) → (∀ j ∈ js, o j = nI E) → q' ≤ E → E ≤ sz → sz ≤ 200 → if (t.2.1 F).2 = true then (rk c o sz F q [] h).2.2 = true else rk c o sz F q [] h = rk c o sz F q' [] (decide ((t.2.1 F).1 = 1)) ∨ (decide ((t.2.1 F).1 = 1) = s ∧ rk c o sz F q [] h = rk c o sz F E [] s)
theorem XH.one {s : Bool} {code opd : Nat → Int32} {q q' : Nat} {t : Tr} (x : XC code opd q q' t) : XH s code opd [] q q' t := ⟨x.1, x.2.1, fun c o sz E F h ag _ h1 h2 h3 => by
  have := x.2.2 c o sz F h (fun j j1 j2 => ⟨(ag j j1 j2).1, (ag j j1 j2).2 (by simp)⟩) (by omega) h3
  by_cases c : (t.2.1 F).2 = true
  · rw [if_pos c] at this ⊢; exact this
  · rw [if_neg c] at this ⊢; exact Or.inl this⟩
def jpS (s : Bool) : Int32 := if s then 4 else 5
def jpO (s : Bool) : Int32 := if s then 124 else 38
theorem XH.step {s : Bool} {code opd : Nat → Int32} {js : List Nat} {q q1 q2 : Nat} {a b : Tr} (xa : XH s code opd js q q1 a) (hj : ∀ j ∈ js, j < q1) (h1 : code q1 = jpS s) (xb : XC code opd (q1 + 1) q2 b) : XH s code opd (q1 :: js) q q2 (tBin (jpO s) a b) := by
  obtain ⟨a1, a2, a3⟩ := xa
  obtain ⟨b1, b2, b3⟩ := xb
  have ev : ∀ F, (tBin (jpO s) a b).2.1 F = if (a.2.1 F).2 = true ∨ decide ((a.2.1 F).1 = 1) = s then a.2.1 F else b.2.1 F := fun F => by
    show doM (jpO s) (a.2.1 F) (b.2.1 F) = _
    unfold doM
    rw [if_pos (by cases s; exact Or.inl rfl; exact Or.inr rfl)]
    have e : (a.2.1 F).1 ≠ (if jpO s = 38 then 1 else 0) ↔ decide ((a.2.1 F).1 = 1) = s := by
      rcases a2 F with e | e
      · rw [e]; cases s <;> decide
      · rw [e]; cases s <;> decide
    simp only [e]
  refine ⟨by omega, fun F => ?_, fun c o sz E F h ag hE e1 e2 e3 => ?_⟩
  · rw [ev]; split
    · exact a2 F
    · exact b2 F
  · have A := a3 c o sz E F h (fun j j1 j2 => ⟨(ag j j1 (by omega)).1, fun n => (ag j j1 (by omega)).2 (fun z => by
      rcases List.mem_cons.mp z with z | z
      · omega
      · exact n z)⟩) (fun j hj' => hE j (List.mem_cons_of_mem _ hj')) (by omega) e2 e3
    have oq : o q1 = nI E := hE q1 List.mem_cons_self
    rw [ev]
    cases x2 : (a.2.1 F).2 with
    | true => rw [x2, if_pos rfl] at A; rw [if_pos (Or.inl rfl), x2, if_pos rfl]; exact A
    | false =>
      rw [x2, if_neg (by decide)] at A
      have jmp : ∀ hb, rk c o sz F q1 [] hb = if hb = s then rk c o sz F E [] hb else rk c o sz F (q1 + 1) [] hb := fun hb => by
        rw [rk_at (by omega) e3, (ag q1 (by omega) (by omega)).1, h1, oq, nI_clamp (by omega), show max (q1 + 1) E = E by omega]
        cases s
        · rw [show jpS false = 5 from rfl, if_neg (by decide), if_neg (by decide), if_neg (by decide), if_neg (by decide), if_pos (Or.inr rfl)]; rfl
        · rw [show jpS true = 4 from rfl, if_neg (by decide), if_neg (by decide), if_neg (by decide), if_neg (by decide), if_pos (Or.inl rfl)]; rfl
      by_cases cs : decide ((a.2.1 F).1 = 1) = s
      · rw [if_pos (Or.inr cs), x2, if_neg (by decide)]
        refine Or.inr ⟨cs, ?_⟩
        rcases A with A | A
        · rw [A, cs, jmp, if_pos rfl]
        · exact A.2
      · have A' : rk c o sz F q [] h = rk c o sz F q1 [] (decide ((a.2.1 F).1 = 1)) := by
          rcases A with A | A
          · exact A
          · exact absurd A.1 cs
        rw [if_neg (show ¬ (false = true ∨ decide ((a.2.1 F).1 = 1) = s) from fun z => z.elim (fun z => absurd z (by decide)) cs), A', jmp, if_neg cs]
        have B := b3 c o sz F (decide ((a.2.1 F).1 = 1)) (fun j j1 j2 => ⟨(ag j (by omega) j2).1, (ag j (by omega) j2).2 (fun z => by
          rcases List.mem_cons.mp z with z | z
          · omega
          · have := hj j z; omega)⟩) (by omega) e3
        by_cases y : (b.2.1 F).2 = true
        · rw [if_pos y] at B ⊢; exact B
        · rw [if_neg y] at B ⊢; exact Or.inl B
/-- aimed behind itself -/
theorem XH.fin {s : Bool} {code opd code' opd' : Nat → Int32} {js : List Nat} {q q' : Nat} {t : Tr} (x : XH s code opd js q q' t) (hj : ∀ j ∈ js, q ≤ j ∧ j < q') (h : ∀ j, q ≤ j → j < q' → code' j = code j ∧ (j ∉ js → opd' j = opd j)) (ho : ∀ j ∈ js, opd' j = nI q') : XC code' opd' q q' t := by
  obtain ⟨x1, x2, x3⟩ := x
  refine ⟨x1, x2, fun c o sz F hb ag hq hs => ?_⟩
  have := x3 c o sz q' F hb (fun j j1 j2 => ⟨(ag j j1 j2).1.trans (h j j1 j2).1, fun n => (ag j j1 j2).2.trans ((h j j1 j2).2 n)⟩) (fun j hjj => by
    obtain ⟨j1, j2⟩ := hj j hjj
    exact (ag j j1 j2).2.trans (ho j hjj)) (by omega) hq hs
  by_cases c' : (t.2.1 F).2 = true
  · rw [if_pos c'] at this ⊢; exact this
  · rw [if_neg c'] at this ⊢
    rcases this with z | z
    · exact z
    · rw [z.2, z.1]
