/-! groups of people as bits; the best order -/
theorem bt_n {s i : Nat} (hs : s < 2 ^ 31) (hi : i < 32) : bt (nI s) i = s.testBit i := by
  unfold bt
  rw [show (nI s).toBitVec = BitVec.ofNat 32 s from rfl, BitVec.getLsbD_ofNat, decide_eq_true hi, Bool.true_and]
theorem bt_and {x y : Int32} {i : Nat} : bt (x &&& y) i = (bt x i && bt y i) := by
  unfold bt; rw [Int32.toBitVec_and, BitVec.getLsbD_and]
theorem bt_not {x : Int32} {i : Nat} (hi : i < 32) : bt (x ^^^ -1) i = !bt x i := by
  unfold bt
  rw [Int32.toBitVec_xor, BitVec.getLsbD_xor, show (-1 : Int32).toBitVec = BitVec.allOnes 32 from rfl, BitVec.getLsbD_allOnes, decide_eq_true hi, Bool.xor_true]
theorem bt_ext0 {x : Int32} (h : ∀ i, i < 32 → bt x i = false) : x = 0 := by
  apply Int32.toBitVec_inj.mp
  apply BitVec.eq_of_getLsbD_eq
  intro i hi
  rw [show (0 : Int32).toBitVec = 0#32 from rfl, BitVec.getLsbD_zero]
  exact h i hi
def inB (s g p : Nat) : Bool := s.testBit p && !g.testBit p
def lf (g p : Nat) : Nat := g ||| 2 ^ p
def subG (g s : Nat) : Prop := ∀ p, p < 8 → g.testBit p = true → s.testBit p = true
theorem tb8 {g p : Nat} (h : g < 256) (hp : 8 ≤ p) : g.testBit p = false := Nat.testBit_lt_two_pow (Nat.lt_of_lt_of_le h (show 2 ^ 8 ≤ 2 ^ p from Nat.pow_le_pow_right (by decide) hp))
theorem sub_I {g s : Nat} (hg : g < 256) (hs : s < 256) : (nI g &&& (nI s ^^^ -1) = 0) ↔ subG g s := by
  constructor
  · intro h p hp e
    have : bt (nI g &&& (nI s ^^^ -1)) p = false := by rw [h, bt_0]
    rw [bt_and, bt_not (by omega), bt_n (by omega) (by omega), bt_n (by omega) (by omega), e, Bool.true_and] at this
    cases q : s.testBit p with
    | true => rfl
    | false => rw [q] at this; exact absurd this (by decide)
  · intro h
    refine bt_ext0 (fun i hi => ?_)
    rw [bt_and, bt_not hi, bt_n (by omega) hi, bt_n (by omega) hi]
    by_cases c : i < 8
    · cases q : g.testBit i with
      | false => rfl
      | true => rw [h i c q]; rfl
    · rw [tb8 hg (by omega)]; rfl
theorem in_I {g s p : Nat} (hg : g < 256) (hs : s < 256) (hp : p < 8) : bt (nI s &&& (nI g ^^^ -1)) p = inB s g p := by
  rw [bt_and, bt_not (by omega), bt_n (by omega) (by omega), bt_n (by omega) (by omega)]; rfl
theorem lf_I : ∀ g, g < 256 → ∀ p, p < 8 → nI g ||| 1 <<< (nI p &&& 31) = nI (lf g p) := by decide +kernel
theorem lf_t {g p i : Nat} : (lf g p).testBit i = (g.testBit i || decide (p = i)) := by
  unfold lf; rw [Nat.testBit_or, Nat.testBit_two_pow]
theorem lf_lt {g p : Nat} (hg : g < 256) (hp : p < 8) : lf g p < 256 := Nat.or_lt_two_pow (n := 8) hg (Nat.pow_lt_pow_right (by omega) hp)
theorem lf_gt {g p : Nat} (h : g.testBit p = false) : g < lf g p := by
  have h1 : g ≤ lf g p := Nat.left_le_or
  have h2 : g ≠ lf g p := fun e => by
    have := lf_t (g := g) (p := p) (i := p)
    rw [← e, h, decide_eq_true rfl] at this
    exact absurd this (by decide)
  omega
theorem subG.lf {g s p : Nat} (h : subG g s) (hp : inB s g p = true) : subG (lf g p) s := fun i hi e => by
  rw [lf_t] at e
  by_cases c : p = i
  · subst c; exact (Bool.and_eq_true_iff.mp hp).1
  · rw [decide_eq_false c, Bool.or_false] at e; exact h i hi e
theorem inB_n {g s p : Nat} (h : inB s g p = true) : g.testBit p = false := by
  have := (Bool.and_eq_true_iff.mp h).2
  cases e : g.testBit p with
  | false => rfl
  | true => rw [e] at this; exact absurd this (by decide)
theorem subG.le {g s : Nat} (hg : g < 256) (h : subG g s) : g ≤ s := by
  have e : g ||| s = s := Nat.eq_of_testBit_eq (fun i => by
    rw [Nat.testBit_or]
    by_cases c : i < 8
    · cases q : g.testBit i with
      | false => rw [Bool.false_or]
      | true => rw [h i c q]; rfl
    · rw [tb8 hg (by omega), Bool.false_or])
  rw [← e]; exact Nat.left_le_or
def popc (g : Nat) : Nat := smN (fun p => if g.testBit p = true then 1 else 0) 8
theorem popc_8 {g : Nat} : popc g ≤ 8 := smN_le (c := 1) (fun i _ => by split <;> omega)
theorem smN_up {f g : Nat → Nat} {k : Nat} : ∀ {n : Nat}, k < n → (∀ i, i < n → i ≠ k → g i = f i) → smN g n + f k = smN f n + g k
  | 0, h, _ => absurd h (by omega)
  | n + 1, h, q => by
    rw [smN, smN]
    by_cases c : k = n
    · subst c; rw [smN_cong (fun i hi => q i (by omega) (by omega))]; omega
    · have := smN_up (f := f) (g := g) (k := k) (n := n) (by omega) (fun i hi => q i (by omega))
      rw [q n (by omega) (by omega)]; omega
theorem popc_lf {g p : Nat} (hp : p < 8) (h : g.testBit p = false) : popc (lf g p) = popc g + 1 := by
  have := smN_up (f := fun p => if g.testBit p = true then 1 else 0) (g := fun i => if (lf g p).testBit i = true then 1 else 0) hp (fun i _ hi => by
    rw [lf_t, decide_eq_false (fun z => hi z.symm), Bool.or_false])
  rw [if_neg (by rw [h]; decide), if_pos (by rw [lf_t, decide_eq_true rfl, Bool.or_true])] at this
  unfold popc
  omega
/-- some one is left, as long as not all have come -/
theorem in_ex {g s : Nat} (h : subG g s) (hc : popc g < popc s) : ∃ p, p < 8 ∧ inB s g p = true := by
  refine Decidable.byContradiction (fun z => ?_)
  have : popc s ≤ popc g := smN_mono (fun p hp => by
    by_cases c : s.testBit p = true
    · rw [if_pos c, if_pos]
      · exact Nat.le_refl _
      · cases e : g.testBit p with
        | true => rfl
        | false => exact absurd ⟨p, hp, by unfold inB; rw [c, e]; rfl⟩ z
    · rw [if_neg c]; exact Nat.zero_le _)
  omega
section ORD
variable {tip : Int32 → Bool} {wl : Nat → Nat} {s : Nat}
def bsR (tip : Int32 → Bool) (wl : Nat → Nat) (s : Nat) : Nat → Nat → Nat
  | 0, _ => 0
  | f + 1, g => mx (fun p => if inB s g p = true then wl p + (if tip (nI (lf g p)) = true then 0 else bsR tip wl s f (lf g p)) else 0) 8
theorem mx_cong {f g : Nat → Nat} : ∀ {n : Nat}, (∀ i, i < n → f i = g i) → mx f n = mx g n
  | 0, _ => rfl
  | n + 1, h => by rw [mx, mx, mx_cong (fun i hi => h i (by omega)), h n (by omega)]
theorem bsR_eq : ∀ {f f' g : Nat}, g < 256 → 256 - g ≤ f → 256 - g ≤ f' → bsR tip wl s f g = bsR tip wl s f' g
  | 0, _, g, hg, h, _ => by omega
  | _ + 1, 0, g, hg, _, h => by omega
  | f + 1, f' + 1, g, hg, h1, h2 => by
    rw [bsR, bsR]
    refine mx_cong (fun p hp => ?_)
    by_cases c : inB s g p = true
    · rw [if_pos c, if_pos c]
      have := lf_gt (inB_n c)
      rw [bsR_eq (f := f) (f' := f') (lf_lt hg hp) (by omega) (by omega)]
    · rw [if_neg c, if_neg c]
theorem bsR_le (hw : ∀ p, p < 8 → wl p ≤ 3960) : ∀ {f g : Nat}, bsR tip wl s f g ≤ 3960 * f
  | 0, _ => Nat.le_refl _
  | f + 1, g => by
    rw [bsR]
    refine mx_le.mpr (fun p hp => ?_)
    have := hw p hp
    have := bsR_le hw (f := f) (g := lf g p)
    split
    · split <;> omega
    · omega
/-- how much can still be got, once the group g has been served -/
def bsG (tip : Int32 → Bool) (wl : Nat → Nat) (s g : Nat) : Nat := bsR tip wl s 256 g
def pv (tip : Int32 → Bool) (wl : Nat → Nat) (s g p : Nat) : Nat := wl p + (if tip (nI (lf g p)) = true then 0 else bsG tip wl s (lf g p))
theorem bsG_e {g : Nat} (hg : g < 256) : bsG tip wl s g = mx (fun p => if inB s g p = true then pv tip wl s g p else 0) 8 := by
  unfold bsG
  rw [bsR]
  refine mx_cong (fun p hp => ?_)
  by_cases c : inB s g p = true
  · rw [if_pos c, if_pos c]
    unfold pv bsG
    have := lf_gt (inB_n c)
    rw [bsR_eq (f := 255) (f' := 256) (lf_lt hg hp) (by omega) (by omega)]
  · rw [if_neg c, if_neg c]
theorem bsG_le (hw : ∀ p, p < 8 → wl p ≤ 3960) {g : Nat} : bsG tip wl s g ≤ 1013760 := bsR_le hw
theorem pv_le (hw : ∀ p, p < 8 → wl p ≤ 3960) {g p : Nat} (hp : p < 8) : pv tip wl s g p ≤ 1017720 := by
  have := hw p hp
  have := bsG_le (tip := tip) (s := s) hw (g := lf g p)
  unfold pv
  split <;> omega
def Tv (tip : Int32 → Bool) (wl : Nat → Nat) (s g : Nat) : Int32 := if tip (nI g) = true then -1 else nI (bsG tip wl s g)
theorem Tv_m (hw : ∀ p, p < 8 → wl p ≤ 3960) {g : Nat} : (Tv tip wl s g = -1) ↔ tip (nI g) = true := by
  unfold Tv
  by_cases c : tip (nI g) = true
  · rw [if_pos c]; exact ⟨fun _ => c, fun _ => rfl⟩
  · rw [if_neg c]
    refine ⟨fun z => ?_, fun z => absurd z c⟩
    have := bsG_le (tip := tip) (s := s) hw (g := g)
    rw [i_eq, nI_toInt (by omega), show (-1 : Int32).toInt = -1 from rfl] at z
    omega
theorem Tv_max (hw : ∀ p, p < 8 → wl p ≤ 3960) {g : Nat} : (if 0 < Tv tip wl s g then Tv tip wl s g else 0) = nI (if tip (nI g) = true then 0 else bsG tip wl s g) := by
  have := bsG_le (tip := tip) (s := s) hw (g := g)
  unfold Tv
  by_cases c : tip (nI g) = true
  · rw [if_pos c, if_pos c, if_neg (by decide)]; rfl
  · rw [if_neg c, if_neg c]
    by_cases z : 0 < bsG tip wl s g
    · rw [if_pos (show (0 : Int32) < nI (bsG tip wl s g) from nI_lt (a := 0) z (by omega))]
    · rw [show bsG tip wl s g = 0 by omega, if_neg (by decide)]; rfl
/-- the first place that fits, from the last r on -/
def fpF (c : Nat → Bool) : Nat → Nat
  | 0 => 8
  | r + 1 => if c (7 - r) = true then 7 - r else fpF c r
def cnd (tip : Int32 → Bool) (wl : Nat → Nat) (s g : Nat) (o : Bool) (p : Nat) : Bool := inB s g p && (o || decide (pv tip wl s g p = bsG tip wl s g))
theorem fpF_ex {c : Nat → Bool} : ∀ {r : Nat}, r ≤ 8 → (∃ p, 8 - r ≤ p ∧ p < 8 ∧ c p = true) → fpF c r < 8 ∧ c (fpF c r) = true
  | 0, _, ⟨p, h1, h2, _⟩ => by omega
  | r + 1, hr, ⟨p, h1, h2, h3⟩ => by
    rw [fpF]
    by_cases q : c (7 - r) = true
    · rw [if_pos q]; exact ⟨by omega, q⟩
    · rw [if_neg q]
      refine fpF_ex (by omega) ⟨p, ?_, h2, h3⟩
      by_cases e : p = 7 - r
      · rw [e] at h3; exact absurd h3 q
      · omega
theorem mx_at {f : Nat → Nat} : ∀ {n : Nat}, 0 < mx f n → ∃ j, j < n ∧ f j = mx f n
  | 0, h => by rw [mx] at h; omega
  | n + 1, h => by
    rw [mx] at h ⊢
    by_cases c : mx f n ≤ f n
    · exact ⟨n, by omega, (Nat.max_eq_right c).symm⟩
    · obtain ⟨j, h1, h2⟩ := mx_at (f := f) (n := n) (by omega)
      exact ⟨j, by omega, h2.trans (Nat.max_eq_left (by omega)).symm⟩
theorem cnd_ex {g : Nat} {o : Bool} (hg : g < 256) (h : ∃ p, p < 8 ∧ inB s g p = true) : ∃ p, p < 8 ∧ cnd tip wl s g o p = true := by
  obtain ⟨p, hp, ip⟩ := h
  have e := bsG_e (tip := tip) (wl := wl) (s := s) hg
  by_cases z : 0 < bsG tip wl s g
  · rw [e] at z
    obtain ⟨j, h1, h2⟩ := mx_at z
    rw [← e] at z h2
    have ij : inB s g j = true := by
      cases q : inB s g j with
      | true => rfl
      | false => rw [if_neg (by rw [q]; decide)] at h2; omega
    rw [if_pos ij] at h2
    refine ⟨j, h1, ?_⟩
    unfold cnd
    rw [ij, decide_eq_true h2, Bool.or_true]; rfl
  · have a := (mx_le (m := 0)).mp (by rw [← e]; omega) p hp
    rw [if_pos ip] at a
    refine ⟨p, hp, ?_⟩
    unfold cnd
    rw [ip, decide_eq_true (by omega), Bool.or_true]; rfl
/-- who has come after k of them, whether it is over, who came last -/
def poS (tip : Int32 → Bool) (wl : Nat → Nat) (s : Nat) : Nat → Nat × Bool × Nat
  | 0 => (0, false, 8)
  | k + 1 => (lf (poS tip wl s k).1 (fpF (cnd tip wl s (poS tip wl s k).1 ((poS tip wl s k).2.1 || tip (nI (poS tip wl s k).1))) 8), ((poS tip wl s k).2.1 || tip (nI (poS tip wl s k).1)), fpF (cnd tip wl s (poS tip wl s k).1 ((poS tip wl s k).2.1 || tip (nI (poS tip wl s k).1))) 8)
theorem poS_ok : ∀ {k : Nat}, k ≤ popc s → (poS tip wl s k).1 < 256 ∧ subG (poS tip wl s k).1 s ∧ popc (poS tip wl s k).1 = k ∧ (0 < k → (poS tip wl s k).2.2 < 8)
  | 0, _ => ⟨by show 0 < 256; decide, fun p _ e => by rw [show (poS tip wl s 0).1 = 0 from rfl, Nat.zero_testBit] at e; exact absurd e (by decide), by show popc 0 = 0; decide, fun z => by omega⟩
  | k + 1, h => by
    obtain ⟨h1, h2, h3, -⟩ := poS_ok (k := k) (by omega)
    rw [poS]
    dsimp only
    generalize (poS tip wl s k).1 = g at *
    generalize ((poS tip wl s k).2.1 || tip (nI g)) = o at *
    obtain ⟨p, hp, cp⟩ := cnd_ex (tip := tip) (wl := wl) (o := o) h1 (in_ex h2 (by omega))
    obtain ⟨f1, f2⟩ := fpF_ex (c := cnd tip wl s g o) (r := 8) (by omega) ⟨p, by omega, hp, cp⟩
    have ip : inB s g (fpF (cnd tip wl s g o) 8) = true := (Bool.and_eq_true_iff.mp f2).1
    exact ⟨lf_lt h1 f1, h2.lf ip, by rw [popc_lf f1 (inB_n ip), h3], fun _ => f1⟩
theorem fpF_cong {c c' : Nat → Bool} : ∀ {r : Nat}, r ≤ 8 → (∀ p, p < 8 → c p = c' p) → fpF c r = fpF c' r
  | 0, _, _ => rfl
  | r + 1, hr, h => by rw [fpF, fpF, h (7 - r) (by omega), fpF_cong (by omega) h]
end ORD
