abbrev Kt : Type := Nat → XV → List Value → List Sh → Mem → Nat → Nat → Prop
def szs : List Value → Nat
  | [] => 0
  | v :: r => v.category + szs r
theorem szs_eq : ∀ st : List Value, (st.map fun v => v.category).sum = szs st
  | [] => rfl
  | v :: r => by simp [szs, szs_eq r]
theorem szs_cv (G : Gx) : ∀ st : List Value, ((st.map (cv G)).map fun v => v.category).sum = szs st
  | [] => rfl
  | v :: r => by simp only [List.map_cons, List.sum_cons, szs, cv_cat, szs_cv G r]
def p1 (st : List Value) (f : Int32 → List Value → Prop) : Prop := match st with
  | .int x :: r => f x r
  | _ => False
def p2 (st : List Value) (f : Int32 → Int32 → List Value → Prop) : Prop := match st with
  | .int y :: .int x :: r => f x y r
  | _ => False
def q1 (st : List Value) (f : Int64 → List Value → Prop) : Prop := match st with
  | .long x :: r => f x r
  | _ => False
def q2 (st : List Value) (f : Int64 → Int64 → List Value → Prop) : Prop := match st with
  | .long y :: .long x :: r => f x y r
  | _ => False
def qi (st : List Value) (f : Int64 → Int32 → List Value → Prop) : Prop := match st with
  | .int y :: .long x :: r => f x y r
  | _ => False
def pr (st : List Value) (f : Nat → List Value → Prop) : Prop := match st with
  | .ref a :: r => f a r
  | _ => False
def pa (st : List Value) (f : Int32 → Nat → List Value → Prop) (g : Int32 → List Value → Prop) : Prop := match st with
  | .int i :: .ref a :: r => f i a r
  | .int i :: .float _ :: r => g i r
  | _ => False
def pst (st : List Value) (f : Int32 → Int32 → Nat → List Value → Prop) : Prop := match st with
  | .int x :: .int i :: .ref a :: r => f x i a r
  | _ => False
def qst (st : List Value) (f : Int64 → Int32 → Nat → List Value → Prop) : Prop := match st with
  | .long x :: .int i :: .ref a :: r => f x i a r
  | _ => False
def rst (st : List Value) (f : Nat → Int32 → Nat → List Value → Prop) : Prop := match st with
  | .ref x :: .int i :: .ref a :: r => f x i a r
  | _ => False
def pac (st : List Value) (f : Int32 → Int32 → Nat → Int32 → Nat → List Value → Prop) : Prop := match st with
  | .int n :: .int dp :: .ref a :: .int sp :: .ref a0 :: r => f n dp a sp a0 r
  | _ => False
def brI (c : ClassFile.Cond) (x y : Int32) (kt kf : Prop) : Prop := match c with
  | .eq => (x = y → kt) ∧ (¬ x = y → kf)
  | .ne => (¬ x = y → kt) ∧ (x = y → kf)
  | .lt => (x < y → kt) ∧ (¬ x < y → kf)
  | .ge => (y ≤ x → kt) ∧ (¬ y ≤ x → kf)
  | .gt => (y < x → kt) ∧ (¬ y < x → kf)
  | .le => (x ≤ y → kt) ∧ (¬ x ≤ y → kf)
def swt (x : Int32) (pc : Nat) : Int → List Int → (Nat → Prop) → Prop
  | _, [], _ => True
  | lo, o :: r, f => (x.toInt = lo → f ((pc : Int) + o).toNat) ∧ swt x pc (lo + 1) r f
def swl (x : Int32) (pc : Nat) (dflt : Int) : List (Int × Int) → (Nat → Prop) → Prop
  | [], f => f ((pc : Int) + dflt).toNat
  | o :: r, f => (x.toInt = o.1 → f ((pc : Int) + o.2).toNat) ∧ (¬ x.toInt = o.1 → swl x pc dflt r f)
def gfld (kd : Nat) (sh : Sh) (a : Nat) (μ : Mem) (k : Nat) (f : Value → Prop) : Prop := match kd with
  | 1 => f (.long (gl μ a k))
  | 2 => f (match sh.2.2.getD k none with
    | some b => .ref b
    | none => .null)
  | _ => f (.int (gi μ a k))
def pfld (kd : Nat) (st : List Value) (f : Value → Nat → List Value → Prop) : Prop := match st with
  | .int x :: .ref a :: r => (kd = 0 ∨ kd = 3 ∧ (x = 0 ∨ x = 1)) ∧ f (.int x) a r
  | .long x :: .ref a :: r => kd = 1 ∧ f (.long x) a r
  | .ref x :: .ref a :: r => kd = 2 ∧ f (.ref x) a r
  | _ => False
def sfld (lay : List Sh) (μ : Mem) (sh : Sh) (a k : Nat) (v : Value) (f : List Sh → Mem → Prop) : Prop := match v with
  | .int x => f lay (si μ a k x)
  | .long x => f lay (sl μ a k x)
  | .ref b => k < sh.2.2.length ∧ f (lay.set a (sh.1, sh.2.1, sh.2.2.set k (some b))) μ
  | _ => False
def pargs : Nat → List Value → List Value → (List Value → List Value → Prop) → Prop
  | 0, acc, st, f => f acc st
  | n + 1, acc, v :: st, f => pargs n (v :: acc) st f
  | _ + 1, _, [], _ => False
def pushv : Option Value → List Value → List Value
  | none, r => r
  | some v, r => v :: r
def rcv (lay : List Sh) (o : Nat) (av : List Value) : Prop := match av with
  | .ref a :: _ => match lay[a]? with
    | some sh => sh.1 = o + 6
    | none => False
  | _ => False
def tgo (pc : Nat) (i : Instr) : Nat := match i with
  | .goto o => ((pc : Int) + o).toNat
  | .if_icmp _ o => ((pc : Int) + o).toNat
  | .ifCond _ o => ((pc : Int) + o).toNat
  | .ifnull o => ((pc : Int) + o).toNat
  | .ifnonnull o => ((pc : Int) + o).toNat
  | _ => 0
def tok (pc : Nat) (i : Instr) : Bool := match i with
  | .goto o => decide (0 ≤ (pc : Int) + o)
  | .if_icmp _ o => decide (0 ≤ (pc : Int) + o)
  | .ifCond _ o => decide (0 ≤ (pc : Int) + o)
  | .ifnull o => decide (0 ≤ (pc : Int) + o)
  | .ifnonnull o => decide (0 ≤ (pc : Int) + o)
  | .tableswitch df _ _ os => decide (0 ≤ (pc : Int) + df) && os.toList.all (fun o => decide (0 ≤ (pc : Int) + o))
  | .lookupswitch df os => decide (0 ≤ (pc : Int) + df) && os.toList.all (fun o => decide (0 ≤ (pc : Int) + o.2)) && (os.toList.zip (os.toList.drop 1)).all (fun (a, next) => a.1 < next.1)
  | _ => true
def cvl (i : Instr) : Int32 := match i with
  | .iconst n => Int32.ofInt n
  | .bipush n => (Int8.ofInt n).toInt32
  | .sipush n => (Int16.ofInt n).toInt32
  | .iinc _ n => Int32.ofInt n
  | _ => 0
def nrm (i : Instr) : Instr := match i with
  | .iload_n n => .iload n
  | .istore_n n => .istore n
  | .lload_n n => .lload n
  | .lstore_n n => .lstore n
  | .aload_n n => .aload n
  | .astore_n n => .astore n
  | .bipush _ => .iconst 0
  | .sipush _ => .iconst 0
  | .iconst _ => .iconst 0
  | .iinc i _ => .iinc i 0
  | .goto _ => .goto 0
  | .if_icmp c _ => .if_icmp c 0
  | .ifCond c _ => .ifCond c 0
  | .ifnull _ => .ifnull 0
  | .ifnonnull _ => .ifnonnull 0
  | .ldc_w n => .ldc n
  | i => i
def lenOf (i : Instr) : Nat := match i with
  | .iload _ | .lload _ | .aload _ | .istore _ | .lstore _ | .astore _ | .bipush _ | .ldc _ | .newarray _ => 2
  | .sipush _ | .ldc_w _ | .ldc2_w _ | .iinc _ _ | .goto _ | .if_icmp _ _ | .ifCond _ _ | .ifnull _ | .ifnonnull _ | .getfield _ | .putfield _ | .new _ | .anewarray _ | .invokestatic _ | .invokevirtual _ | .invokespecial _ => 3
  | .multianewarray _ _ => 4
  | .tableswitch _ _ _ _ | .lookupswitch _ _ => 0
  | _ => 1
/-- an instruction, its length, where it jumps, its number -/
def dcd (M : MI) (pc : Nat) : Option (Instr × Nat × Nat × Int32) := match decode M.cd pc with
  | .ok (i, len) => if tok pc i && (lenOf i == 0 || lenOf i == len) then some (nrm i, len, tgo pc i, cvl i) else none
  | _ => none
def atk (t : ArrayType) : Nat := match newarray.typeOf t with
  | .int => 0
  | .boolean => 1
  | .byte => 2
  | .long => 3
  | _ => 9
def rok (rk : Nat) (x : Int32) : Prop := rk = 1 ∨ rk = 3 ∧ (x = 0 ∨ x = 1)
def exec1 (G : Gx) (d : Nat) (M : MI) (Qa : Option Value → List Sh → Mem → Prop) (i : Instr) (len t : Nat) (v : Int32) (pc : Nat) (loc : XV) (st : List Value) (lay : List Sh) (μ : Mem) (bc bs : Nat) (k : Kt) : Prop :=
  match i with
  | .iload n => match lget loc n with
    | some (.int x) => k (pc + len) loc (.int x :: st) lay μ bc bs
    | _ => False
  | .lload n => match lget loc n with
    | some (.long x) => k (pc + len) loc (.long x :: st) lay μ bc bs
    | _ => False
  | .aload n => match lget loc n with
    | some (.ref x) => k (pc + len) loc (.ref x :: st) lay μ bc bs
    | some (.float x) => k (pc + len) loc (.float x :: st) lay μ bc bs
    | _ => False
  | .istore n => p1 st (fun x r => match lset loc n (.int x) with
    | some l => k (pc + len) l r lay μ bc bs
    | none => False)
  | .lstore n => q1 st (fun x r => match lset2 loc n (.long x) with
    | some l => k (pc + len) l r lay μ bc bs
    | none => False)
  | .astore n => pr st (fun x r => match lset loc n (.ref x) with
    | some l => k (pc + len) l r lay μ bc bs
    | none => False)
  | .iinc n _ => match lget loc n with
    | some (.int x) => match lset loc n (.int (x + v)) with
      | some l => k (pc + 3) l st lay μ bc bs
      | none => False
    | _ => False
  | .iconst _ => k (pc + len) loc (.int v :: st) lay μ bc bs
  | .lconst n => k (pc + 1) loc (.long (if n = 0 then 0 else 1) :: st) lay μ bc bs
  | .ldc n => match clk (inf M).1 n with
    | some x => k (pc + len) loc (.int x :: st) lay μ bc bs
    | none => False
  | .ldc2_w n => match c2lk (inf M).1 n with
    | some x => k (pc + 3) loc (.long x :: st) lay μ bc bs
    | none => False
  | .iadd => p2 st (fun x y r => k (pc + 1) loc (.int (x + y) :: r) lay μ bc bs)
  | .isub => p2 st (fun x y r => k (pc + 1) loc (.int (x - y) :: r) lay μ bc bs)
  | .imul => p2 st (fun x y r => k (pc + 1) loc (.int (x * y) :: r) lay μ bc bs)
  | .idiv => p2 st (fun x y r => ¬ y = 0 ∧ k (pc + 1) loc (.int (x / y) :: r) lay μ bc bs)
  | .irem => p2 st (fun x y r => ¬ y = 0 ∧ k (pc + 1) loc (.int (x - x / y * y) :: r) lay μ bc bs)
  | .ineg => p1 st (fun x r => k (pc + 1) loc (.int (-x) :: r) lay μ bc bs)
  | .ishl => p2 st (fun x y r => k (pc + 1) loc (.int (x <<< (y &&& 31)) :: r) lay μ bc bs)
  | .ishr => p2 st (fun x y r => k (pc + 1) loc (.int (x >>> (y &&& 31)) :: r) lay μ bc bs)
  | .iushr => p2 st (fun x y r => k (pc + 1) loc (.int (x.toUInt32 >>> (y.toUInt32 &&& Int32.toUInt32 31)).toInt32 :: r) lay μ bc bs)
  | .iand => p2 st (fun x y r => k (pc + 1) loc (.int (x &&& y) :: r) lay μ bc bs)
  | .ior => p2 st (fun x y r => k (pc + 1) loc (.int (x ||| y) :: r) lay μ bc bs)
  | .ixor => p2 st (fun x y r => k (pc + 1) loc (.int (x ^^^ y) :: r) lay μ bc bs)
  | .ladd => q2 st (fun x y r => k (pc + 1) loc (.long (x + y) :: r) lay μ bc bs)
  | .lmul => q2 st (fun x y r => k (pc + 1) loc (.long (x * y) :: r) lay μ bc bs)
  | .lor => q2 st (fun x y r => k (pc + 1) loc (.long (x ||| y) :: r) lay μ bc bs)
  | .land => q2 st (fun x y r => k (pc + 1) loc (.long (x &&& y) :: r) lay μ bc bs)
  | .lcmp => q2 st (fun x y r => k (pc + 1) loc (.int (lg_cmp x y) :: r) lay μ bc bs)
  | .lshl => qi st (fun x y r => k (pc + 1) loc (.long (x <<< (y.toInt64 &&& 63)) :: r) lay μ bc bs)
  | .lshr => qi st (fun x y r => k (pc + 1) loc (.long (x >>> (y.toInt64 &&& 63)) :: r) lay μ bc bs)
  | .i2l => p1 st (fun x r => k (pc + 1) loc (.long x.toInt64 :: r) lay μ bc bs)
  | .i2b => p1 st (fun x r => k (pc + 1) loc (.int x.toInt8.toInt32 :: r) lay μ bc bs)
  | .dup => match st with
    | v :: r => v.category = 1 ∧ k (pc + 1) loc (v :: v :: r) lay μ bc bs
    | _ => False
  | .dup2 => match st with
    | v :: w :: r => v.category = 1 ∧ w.category = 1 ∧ k (pc + 1) loc (v :: w :: v :: w :: r) lay μ bc bs
    | _ => False
  | .pop => match st with
    | v :: r => v.category = 1 ∧ k (pc + 1) loc r lay μ bc bs
    | _ => False
  | .goto _ => k t loc st lay μ bc bs
  | .if_icmp c _ => p2 st (fun x y r => brI c x y (k t loc r lay μ bc bs) (k (pc + 3) loc r lay μ bc bs))
  | .ifCond c _ => p1 st (fun x r => brI c x 0 (k t loc r lay μ bc bs) (k (pc + 3) loc r lay μ bc bs))
  | .ifnull _ => match st with
    | .ref _ :: r => k (pc + 3) loc r lay μ bc bs
    | .null :: r => k t loc r lay μ bc bs
    | _ => False
  | .ifnonnull _ => match st with
    | .ref _ :: r => k t loc r lay μ bc bs
    | .null :: r => k (pc + 3) loc r lay μ bc bs
    | _ => False
  | .tableswitch df lo hi os => p1 st (fun x r => ((x.toInt < lo ∨ hi < x.toInt) → k ((pc : Int) + df).toNat loc r lay μ bc bs) ∧ lo + os.size = hi + 1 ∧ swt x pc lo os.toList (fun t => k t loc r lay μ bc bs))
  | .lookupswitch df os => p1 st (fun x r => swl x pc df os.toList (fun t => k t loc r lay μ bc bs))
  | .getfield n => match fl (inf M).1 n with
    | some (ci, kk, kd) => pr st (fun a r => match lay[a]? with
      | some sh => sh.1 = ci + 6 ∧ gfld kd sh a μ kk (fun v => k (pc + 3) loc (v :: r) lay μ bc bs)
      | none => False)
    | none => False
  | .putfield n => match fl (inf M).1 n with
    | some (ci, kk, kd) => pfld kd st (fun v a r => match lay[a]? with
      | some sh => sh.1 = ci + 6 ∧ (kd = 2 → (inf M).2.2.2.1 = 2 ∧ (inf M).1 = ci ∨ (TT ci kk).2.2.2 = false) ∧ sfld lay μ sh a kk v (fun lay' μ' => k (pc + 3) loc r lay' μ' bc bs)
      | none => False)
    | none => False
  | .iaload => pa st (fun i a r => match lay[a]? with
      | some sh => sh.1 = 0 ∧ vp_in i sh.2.1 ∧ k (pc + 1) loc (.int (gi μ a i.toNatClampNeg) :: r) lay μ bc bs
      | none => False) (fun i r => M.1 = 99 ∧ vp_in i G.sL ∧ k (pc + 1) loc (.int (G.xs i.toNatClampNeg) :: r) lay μ bc bs)
  | .baload => pa st (fun i a r => match lay[a]? with
      | some sh => (sh.1 = 1 ∨ sh.1 = 2) ∧ vp_in i sh.2.1 ∧ k (pc + 1) loc (.int (gi μ a i.toNatClampNeg) :: r) lay μ bc bs
      | none => False) (fun _ _ => False)
  | .laload => pa st (fun i a r => match lay[a]? with
      | some sh => sh.1 = 3 ∧ vp_in i sh.2.1 ∧ k (pc + 1) loc (.long (gl μ a i.toNatClampNeg) :: r) lay μ bc bs
      | none => False) (fun _ _ => False)
  | .aaload => pa st (fun i a r => match lay[a]? with
      | some sh => vp_in i sh.2.1 ∧ (match sh.2.2 with
        | some b :: some c :: _ => i.toNatClampNeg < c ∧ (sh.1 = 4 ∧ k (pc + 1) loc (.ref (b + 1 * i.toNatClampNeg) :: r) lay μ bc bs ∨ sh.1 = 5 ∧ k (pc + 1) loc (.ref (b + 5 * i.toNatClampNeg) :: r) lay μ bc bs)
        | _ => False)
      | none => False) (fun _ _ => False)
  | .arraylength => match st with
    | .ref a :: r => match lay[a]? with
      | some sh => sh.1 < 6 ∧ k (pc + 1) loc (.int (nI sh.2.1) :: r) lay μ bc bs
      | none => False
    | .float _ :: r => M.1 = 99 ∧ k (pc + 1) loc (.int (nI G.sL) :: r) lay μ bc bs
    | _ => False
  | .iastore => pst st (fun x i a r => match lay[a]? with
      | some sh => sh.1 = 0 ∧ vp_in i sh.2.1 ∧ k (pc + 1) loc r lay (si μ a i.toNatClampNeg x) bc bs
      | none => False)
  | .bastore => pst st (fun x i a r => match lay[a]? with
      | some sh => vp_in i sh.2.1 ∧ (sh.1 = 1 ∧ k (pc + 1) loc r lay (si μ a i.toNatClampNeg (vp_nar .boolean x)) bc bs ∨ sh.1 = 2 ∧ k (pc + 1) loc r lay (si μ a i.toNatClampNeg (vp_nar .byte x)) bc bs)
      | none => False)
  | .lastore => qst st (fun x i a r => match lay[a]? with
      | some sh => sh.1 = 3 ∧ vp_in i sh.2.1 ∧ k (pc + 1) loc r lay (sl μ a i.toNatClampNeg x) bc bs
      | none => False)
  | .aastore => rst st (fun x i a r => match lay[a]?, lay[x]? with
      | some sh, some sx => sh.1 = 5 ∧ sx.1 = 13 ∧ vp_in i sh.2.1 ∧ (match sh.2.2 with
        | some b :: some c :: _ => i.toNatClampNeg = c ∧ x = b + 5 * c ∧ k (pc + 1) loc r (lay.set a (5, sh.2.1, [some b, some (c + 1)])) μ bc bs
        | _ => i.toNatClampNeg = 0 ∧ sh.2.2 = [] ∧ k (pc + 1) loc r (lay.set a (5, sh.2.1, [some x, some 1])) μ bc bs)
      | _, _ => False)
  | .new n => match nlk (inf M).1 n with
    | some ci => 1 ≤ bc ∧ NF ci ≤ bs ∧ k (pc + 3) loc (.ref lay.length :: st) (lay ++ [(ci + 6, NF ci, List.replicate (NF ci) none)]) (clr μ lay.length) (bc - 1) (bs - NF ci)
    | none => False
  | .newarray t => p1 st (fun n r => ¬ n < 0 ∧ atk t < 4 ∧ n.toNatClampNeg ≤ 60000000 ∧ 1 ≤ bc ∧ n.toNatClampNeg ≤ bs ∧ k (pc + 2) loc (.ref lay.length :: r) (lay ++ [(atk t, n.toNatClampNeg, [])]) (clr μ lay.length) (bc - 1) (bs - n.toNatClampNeg))
  | .anewarray n => p1 st (fun c r => (inf M).1 = 5 ∧ n = 9 ∧ ¬ c < 0 ∧ c.toNatClampNeg ≤ 60000000 ∧ 1 ≤ bc ∧ c.toNatClampNeg ≤ bs ∧ k (pc + 3) loc (.ref lay.length :: r) (lay ++ [(5, c.toNatClampNeg, [])]) (clr μ lay.length) (bc - 1) (bs - c.toNatClampNeg))
  | .multianewarray n m => p2 st (fun c w r => ((inf M).1, n) ∈ [(5, 21), (4, 21), (0, 9)] ∧ m = 2 ∧ ¬ c < 0 ∧ ¬ w < 0 ∧ c.toNatClampNeg ≤ 60000000 ∧ w.toNatClampNeg ≤ 60000000 ∧ 1 + c.toNatClampNeg ≤ bc ∧ c.toNatClampNeg + c.toNatClampNeg * w.toNatClampNeg ≤ bs ∧ k (pc + 4) loc (.ref lay.length :: r) (lay ++ (4, c.toNatClampNeg, [some (lay.length + 1), some c.toNatClampNeg]) :: List.replicate c.toNatClampNeg (0, w.toNatClampNeg, [])) (clrN μ lay.length (1 + c.toNatClampNeg)) (bc - (1 + c.toNatClampNeg)) (bs - (c.toNatClampNeg + c.toNatClampNeg * w.toNatClampNeg)))
  | .invokestatic n => match jlk (inf M).1 n with
    | some 1 => p2 st (fun x y r => szs r ≤ 8 ∧ 0 < d ∧ k (pc + 3) loc (.int (if x < y then y else x) :: r) lay μ bc bs)
    | some 2 => p2 st (fun x y r => szs r ≤ 8 ∧ 0 < d ∧ k (pc + 3) loc (.int (if y < x then y else x) :: r) lay μ bc bs)
    | some 3 => p1 st (fun x r => szs r ≤ 8 ∧ 0 < d ∧ k (pc + 3) loc (.int (if 0 ≤ x then x else 0 - x) :: r) lay μ bc bs)
    | some 4 => pac st (fun n dp a sp a0 r => szs r ≤ 8 ∧ 0 < d ∧ ¬ sp < 0 ∧ ¬ dp < 0 ∧ ¬ n < 0 ∧ (match lay[a0]?, lay[a]? with
      | some s0, some s1 => s0.1 = s1.1 ∧ sp.toNatClampNeg + n.toNatClampNeg ≤ s0.2.1 ∧ dp.toNatClampNeg + n.toNatClampNeg ≤ s1.2.1 ∧ (s0.1 = 0 ∨ s0.1 = 1 ∧ ∀ i, i < n.toNatClampNeg → (gi μ a0 (sp.toNatClampNeg + i) = 0 ∨ gi μ a0 (sp.toNatClampNeg + i) = 1)) ∧ k (pc + 3) loc r lay (sar μ a (va_cpy (μ.1 a0) (μ.1 a) sp.toNatClampNeg dp.toNatClampNeg n.toNatClampNeg)) bc bs
      | _, _ => False))
    | some _ => False
    | none => match mlk (inf M).1 n with
      | some N => (inf N).2.2.2.1 = 0 ∧ 0 < d ∧ pargs (inf N).2.2.1 [] st (fun av r => szs r ≤ 8 ∧ KC G (d - 1) N av lay μ bc bs (fun w lay' μ' bc' bs' => k (pc + 3) loc (pushv w r) lay' μ' bc' bs'))
      | none => False
  | .invokevirtual n => match mlk (inf M).1 n with
      | some N => (inf N).2.2.2.1 = 1 ∧ 0 < d ∧ pargs (inf N).2.2.1 [] st (fun av r => szs r ≤ 8 ∧ rcv lay (inf N).1 av ∧ KC G (d - 1) N av lay μ bc bs (fun w lay' μ' bc' bs' => k (pc + 3) loc (pushv w r) lay' μ' bc' bs'))
      | none => False
  | .invokespecial n => match jlk (inf M).1 n with
    | some 5 => pr st (fun _ r => szs r ≤ 8 ∧ 0 < d ∧ k (pc + 3) loc r lay μ bc bs)
    | some _ => False
    | none => match mlk (inf M).1 n with
      | some N => (inf N).2.2.2.1 = 2 ∧ 0 < d ∧ pargs (inf N).2.2.1 [] st (fun av r => szs r ≤ 8 ∧ rcv lay (inf N).1 av ∧ KC G (d - 1) N av lay μ bc bs (fun w lay' μ' bc' bs' => k (pc + 3) loc (pushv w r) lay' μ' bc' bs'))
      | none => False
  | .ireturn => match st with
    | [.int x] => rok (inf M).2.1 x ∧ Qa (some (.int x)) lay μ
    | _ => False
  | .lreturn => match st with
    | [.long x] => (inf M).2.1 = 2 ∧ Qa (some (.long x)) lay μ
    | _ => False
  | .return_ => match st with
    | [] => (inf M).2.1 = 0 ∧ Qa none lay μ
    | _ => False
  | _ => False
/-- n instructions from here on, but not past a stop; Z: what is asked there -/
def wp (G : Gx) (d : Nat) (M : MI) (Qa : Option Value → List Sh → Mem → Prop) (Z : Kt) (stops : List Nat) : Nat → Kt
  | 0, pc, loc, st, lay, μ, bc, bs => Z pc loc st lay μ bc bs
  | n + 1, pc, loc, st, lay, μ, bc, bs => match dcd M pc with
    | some (i, len, t, v) => exec1 G d M Qa i len t v pc loc st lay μ bc bs (fun pc loc st lay μ bc bs => bif stops.elem pc then Z pc loc st lay μ bc bs else wp G d M Qa Z stops n pc loc st lay μ bc bs)
    | none => False
