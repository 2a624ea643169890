/-! bits -/
def bt (x : Int32) (i : Nat) : Bool := x.toBitVec.getLsbD i
def bl (x : Int64) (i : Nat) : Bool := x.toBitVec.getLsbD i
theorem sh1 : ∀ c, c < 32 → ((1 : Int32) <<< (nI c &&& 31)).toBitVec = BitVec.twoPow 32 c := by decide +kernel
theorem sl1 : ∀ c, c < 64 → ((1 : Int64) <<< ((nI c).toInt64 &&& 63)).toBitVec = BitVec.twoPow 64 c := by decide +kernel
theorem bt_or {x : Int32} {c i : Nat} (hc : c < 32) : bt (x ||| 1 <<< (nI c &&& 31)) i = (bt x i || decide (i = c)) := by
  unfold bt
  rw [Int32.toBitVec_or, BitVec.getLsbD_or, sh1 c hc, BitVec.getLsbD_twoPow, decide_eq_true hc, Bool.true_and]
  congr 1
  by_cases e : i = c
  · subst e; simp
  · simp [e, Ne.symm e]
theorem bl_or {x : Int64} {c i : Nat} (hc : c < 64) : bl (x ||| 1 <<< ((nI c).toInt64 &&& 63)) i = (bl x i || decide (i = c)) := by
  unfold bl
  rw [Int64.toBitVec_or, BitVec.getLsbD_or, sl1 c hc, BitVec.getLsbD_twoPow, decide_eq_true hc, Bool.true_and]
  congr 1
  by_cases e : i = c
  · subst e; simp
  · simp [e, Ne.symm e]
theorem sm1 : ∀ c, c < 32 → ((nI c &&& 31).toBitVec.smod 32).toNat = c := by decide +kernel
theorem sm2 : ∀ c, c < 64 → (((nI c).toInt64 &&& 63).toBitVec.smod 64).toNat = c := by decide +kernel
theorem bt_sh {x : Int32} {r : Nat} (hr : r < 32) : (x >>> (nI r &&& 31) &&& 1 = 0) ↔ bt x r = false := by
  have e : (x >>> (nI r &&& 31) &&& 1).toBitVec = (x.toBitVec.sshiftRight r) &&& 1#32 := by
    rw [Int32.toBitVec_and, Int32.toBitVec_shiftRight, BitVec.sshiftRight', sm1 r hr]; rfl
  unfold bt
  constructor
  · intro h
    have h0 : ((x.toBitVec.sshiftRight r) &&& 1#32).getLsbD 0 = false := by rw [← e, h]; rfl
    rw [BitVec.getLsbD_and, BitVec.getLsbD_sshiftRight] at h0
    simp [hr] at h0
    exact h0
  · intro h
    apply Int32.toBitVec_inj.mp
    rw [e]
    apply BitVec.eq_of_getLsbD_eq
    intro i hi
    rw [BitVec.getLsbD_and, BitVec.getLsbD_sshiftRight]
    by_cases q : i = 0
    · subst q; simp [hr]; rw [← BitVec.getLsbD_eq_getElem]; exact h
    · have : (1#32).getLsbD i = false := by rw [BitVec.getLsbD_one]; simp; omega
      rw [this, Bool.and_false]; simp
theorem bl_sh {x : Int64} {r : Nat} (hr : r < 64) : (x >>> ((nI r).toInt64 &&& 63) &&& 1 = 0) ↔ bl x r = false := by
  have e : (x >>> ((nI r).toInt64 &&& 63) &&& 1).toBitVec = (x.toBitVec.sshiftRight r) &&& 1#64 := by
    rw [Int64.toBitVec_and, Int64.toBitVec_shiftRight, BitVec.sshiftRight', sm2 r hr]; rfl
  unfold bl
  constructor
  · intro h
    have h0 : ((x.toBitVec.sshiftRight r) &&& 1#64).getLsbD 0 = false := by rw [← e, h]; rfl
    rw [BitVec.getLsbD_and, BitVec.getLsbD_sshiftRight] at h0
    simp [hr] at h0
    exact h0
  · intro h
    apply Int64.toBitVec_inj.mp
    rw [e]
    apply BitVec.eq_of_getLsbD_eq
    intro i hi
    rw [BitVec.getLsbD_and, BitVec.getLsbD_sshiftRight]
    by_cases q : i = 0
    · subst q; simp [hr]; rw [← BitVec.getLsbD_eq_getElem]; exact h
    · have : (1#64).getLsbD i = false := by rw [BitVec.getLsbD_one]; simp; omega
      rw [this, Bool.and_false]; simp
theorem bt_0 {i : Nat} : bt 0 i = false := by unfold bt; exact BitVec.getLsbD_zero
theorem bl_0 {i : Nat} : bl 0 i = false := by unfold bl; exact BitVec.getLsbD_zero
