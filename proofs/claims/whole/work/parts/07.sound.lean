/-- what holds of a frame of M from its start on -/
def Bd (G : Gx) (d : Nat) (M : MI) (MC MS : Nat) (p : Program) (R : Room) (s : State) (m : MethodId) (args : Array Value) (meth : Method) (c : Code) : Prop :=
  p.tables.exec = Jvm.exec ∧ c.code = M.cd ∧ c.maxLocals = M.ml ∧ s.vm.findClass M.yn.cls = some m.cls ∧ (∀ w ∈ gtbl, w.before args s = true) ∧ va_K G.D vwCl (tys G) s ∧ XW s ∧ (M.yn.name = "<init>" → meth.name = "<init>") ∧ cn M.1 = M.yn.cls ∧ G.z ≤ s.heap.size ∧ d ≤ R.frames ∧ 64 * d ≤ R.locals ∧ R.cells = MC ∧ R.slots = MS ∧ (M.1 = 99 → va_X G.sb G.sL G.xs s s.heap ∧ G.sb < G.z)
def VZ (G : Gx) (M : MI) (MC MS : Nat) (p : Program) (e : Env) (R : Room) (s : State) (m : MethodId) (args : Array Value) (below : List Frame) (meth : Method) (c : Code) (Qs : State → Prop) : Kt := fun pc loc st lay μ bc bs =>
  ∀ (H : Heap) (locs : List Loc) (cells slots : Nat) (ls : Array Slot), Lok G ls M.ml loc → va_P G.D vwCl (wl G lay μ) H → H.size = G.z + lay.length → va_S (fun q => G.z ≤ q) s.heap H locs → cells + bc ≤ MC → slots + bs ≤ MS → W p G.1 e R s m args below meth c H locs cells slots Qs (F0 m pc ls (st.map (cv G)))
/-- a return is the end that is wanted -/
def RetOK (G : Gx) (M : MI) (MC MS : Nat) (p : Program) (e : Env) (R : Room) (s : State) (m : MethodId) (args : Array Value) (below : List Frame) (meth : Method) (c : Code) (Qs : State → Prop) (Qa : Option Value → List Sh → Mem → Prop) : Prop :=
  ∀ (v : Option Value) (lay : List Sh) (μ : Mem) (H : Heap) (locs : List Loc) (cells slots : Nat) (ls : Array Slot) (pc : Nat), Qa v lay μ → (match v with
    | none => decode M.cd pc = .ok (.return_, 1) ∧ (inf M).2.1 = 0
    | some (.int x) => decode M.cd pc = .ok (.ireturn, 1) ∧ rok (inf M).2.1 x
    | some (.long _) => decode M.cd pc = .ok (.lreturn, 1) ∧ (inf M).2.1 = 2
    | _ => False) → va_P G.D vwCl (wl G lay μ) H → H.size = G.z + lay.length → va_S (fun q => G.z ≤ q) s.heap H locs → cells ≤ MC → slots ≤ MS → W p G.1 e R s m args below meth c H locs cells slots Qs (F0 m pc ls (v.toList.map (cv G)))
theorem si_ent {G : Gx} {μ : Mem} {a k : Nat} {x : Int32} (b : Nat) (sh : Sh) (h : b ≠ a) : ent G sh b (si μ a k x) = ent G sh b μ := by
  unfold ent fvs fv si
  simp only [if_neg h]
theorem sl_ent {G : Gx} {μ : Mem} {a k : Nat} {x : Int64} (b : Nat) (sh : Sh) (h : b ≠ a) : ent G sh b (sl μ a k x) = ent G sh b μ := by
  unfold ent fvs fv sl
  simp only [if_neg h]
theorem sar_ent {G : Gx} {μ : Mem} {a : Nat} {f : Nat → Int32} (b : Nat) (sh : Sh) (h : b ≠ a) : ent G sh b (sar μ a f) = ent G sh b μ := by
  unfold ent fvs fv sar
  simp only [if_neg h]
theorem clr_ent {G : Gx} {μ : Mem} {a : Nat} (b : Nat) (sh : Sh) (h : b ≠ a) : ent G sh b (clr μ a) = ent G sh b μ := by
  unfold ent fvs fv clr
  simp only [if_neg h]
theorem set_same {lay : List Sh} {a : Nat} {sh : Sh} (h : lay[a]? = some sh) : lay.set a sh = lay := by
  apply List.ext_getElem?
  intro i
  by_cases e : i = a
  · subst e
    rw [List.getElem?_set_self (List.getElem?_eq_some_iff.mp h).1, h]
  · rw [List.getElem?_set_ne (Ne.symm e)]
section SND
variable {G : Gx} {d : Nat} {M : MI} {MC MS : Nat} {p : Program} {e : Env} {R : Room} {s : State} {m : MethodId} {args : Array Value} {below : List Frame} {meth : Method} {c : Code} {Qs : State → Prop} {Qa : Option Value → List Sh → Mem → Prop} {pc : Nat} {loc : XV} {st : List Value} {lay : List Sh} {μ : Mem} {bc bs : Nat}
theorem s_iadd (hB : Bd G d M MC MS p R s m args meth c) (hd : decode M.cd pc = .ok (.iadd, 1)) (h : p2 st (fun x y r => VZ G M MC MS p e R s m args below meth c Qs (pc + 1) loc (.int (x + y) :: r) lay μ bc bs)) : VZ G M MC MS p e R s m args below meth c Qs pc loc st lay μ bc bs := by
  unfold p2 at h
  split at h
  · intro H locs cells slots ls hl hP hz hS hc hs
    exact lv_iadd hB.1 hB.2.1 hd (h H locs cells slots ls hl hP hz hS hc hs)
  · exact h.elim
theorem s_isub (hB : Bd G d M MC MS p R s m args meth c) (hd : decode M.cd pc = .ok (.isub, 1)) (h : p2 st (fun x y r => VZ G M MC MS p e R s m args below meth c Qs (pc + 1) loc (.int (x - y) :: r) lay μ bc bs)) : VZ G M MC MS p e R s m args below meth c Qs pc loc st lay μ bc bs := by
  unfold p2 at h
  split at h
  · intro H locs cells slots ls hl hP hz hS hc hs
    exact lv_isub hB.1 hB.2.1 hd (h H locs cells slots ls hl hP hz hS hc hs)
  · exact h.elim
theorem s_imul (hB : Bd G d M MC MS p R s m args meth c) (hd : decode M.cd pc = .ok (.imul, 1)) (h : p2 st (fun x y r => VZ G M MC MS p e R s m args below meth c Qs (pc + 1) loc (.int (x * y) :: r) lay μ bc bs)) : VZ G M MC MS p e R s m args below meth c Qs pc loc st lay μ bc bs := by
  unfold p2 at h
  split at h
  · intro H locs cells slots ls hl hP hz hS hc hs
    exact lv_imul hB.1 hB.2.1 hd (h H locs cells slots ls hl hP hz hS hc hs)
  · exact h.elim
theorem s_iand (hB : Bd G d M MC MS p R s m args meth c) (hd : decode M.cd pc = .ok (.iand, 1)) (h : p2 st (fun x y r => VZ G M MC MS p e R s m args below meth c Qs (pc + 1) loc (.int (x &&& y) :: r) lay μ bc bs)) : VZ G M MC MS p e R s m args below meth c Qs pc loc st lay μ bc bs := by
  unfold p2 at h
  split at h
  · intro H locs cells slots ls hl hP hz hS hc hs
    exact lv_iand hB.1 hB.2.1 hd (h H locs cells slots ls hl hP hz hS hc hs)
  · exact h.elim
theorem s_ior (hB : Bd G d M MC MS p R s m args meth c) (hd : decode M.cd pc = .ok (.ior, 1)) (h : p2 st (fun x y r => VZ G M MC MS p e R s m args below meth c Qs (pc + 1) loc (.int (x ||| y) :: r) lay μ bc bs)) : VZ G M MC MS p e R s m args below meth c Qs pc loc st lay μ bc bs := by
  unfold p2 at h
  split at h
  · intro H locs cells slots ls hl hP hz hS hc hs
    exact lv_ior hB.1 hB.2.1 hd (h H locs cells slots ls hl hP hz hS hc hs)
  · exact h.elim
theorem s_ixor (hB : Bd G d M MC MS p R s m args meth c) (hd : decode M.cd pc = .ok (.ixor, 1)) (h : p2 st (fun x y r => VZ G M MC MS p e R s m args below meth c Qs (pc + 1) loc (.int (x ^^^ y) :: r) lay μ bc bs)) : VZ G M MC MS p e R s m args below meth c Qs pc loc st lay μ bc bs := by
  unfold p2 at h
  split at h
  · intro H locs cells slots ls hl hP hz hS hc hs
    exact lv_ixor hB.1 hB.2.1 hd (h H locs cells slots ls hl hP hz hS hc hs)
  · exact h.elim
theorem s_ishl (hB : Bd G d M MC MS p R s m args meth c) (hd : decode M.cd pc = .ok (.ishl, 1)) (h : p2 st (fun x y r => VZ G M MC MS p e R s m args below meth c Qs (pc + 1) loc (.int (x <<< (y &&& 31)) :: r) lay μ bc bs)) : VZ G M MC MS p e R s m args below meth c Qs pc loc st lay μ bc bs := by
  unfold p2 at h
  split at h
  · intro H locs cells slots ls hl hP hz hS hc hs
    exact lv_ishl hB.1 hB.2.1 hd (h H locs cells slots ls hl hP hz hS hc hs)
  · exact h.elim
theorem s_ishr (hB : Bd G d M MC MS p R s m args meth c) (hd : decode M.cd pc = .ok (.ishr, 1)) (h : p2 st (fun x y r => VZ G M MC MS p e R s m args below meth c Qs (pc + 1) loc (.int (x >>> (y &&& 31)) :: r) lay μ bc bs)) : VZ G M MC MS p e R s m args below meth c Qs pc loc st lay μ bc bs := by
  unfold p2 at h
  split at h
  · intro H locs cells slots ls hl hP hz hS hc hs
    exact lv_ishr hB.1 hB.2.1 hd (h H locs cells slots ls hl hP hz hS hc hs)
  · exact h.elim
theorem s_iushr (hB : Bd G d M MC MS p R s m args meth c) (hd : decode M.cd pc = .ok (.iushr, 1)) (h : p2 st (fun x y r => VZ G M MC MS p e R s m args below meth c Qs (pc + 1) loc (.int (x.toUInt32 >>> (y.toUInt32 &&& Int32.toUInt32 31)).toInt32 :: r) lay μ bc bs)) : VZ G M MC MS p e R s m args below meth c Qs pc loc st lay μ bc bs := by
  unfold p2 at h
  split at h
  · intro H locs cells slots ls hl hP hz hS hc hs
    exact lv_iushr hB.1 hB.2.1 hd rfl (h H locs cells slots ls hl hP hz hS hc hs)
  · exact h.elim
theorem s_idiv (hB : Bd G d M MC MS p R s m args meth c) (hd : decode M.cd pc = .ok (.idiv, 1)) (h : p2 st (fun x y r => ¬ y = 0 ∧ VZ G M MC MS p e R s m args below meth c Qs (pc + 1) loc (.int (x / y) :: r) lay μ bc bs)) : VZ G M MC MS p e R s m args below meth c Qs pc loc st lay μ bc bs := by
  unfold p2 at h
  split at h
  · intro H locs cells slots ls hl hP hz hS hc hs
    exact lv_idiv hB.1 hB.2.1 hd h.1 (h.2 H locs cells slots ls hl hP hz hS hc hs)
  · exact h.elim
theorem s_irem (hB : Bd G d M MC MS p R s m args meth c) (hd : decode M.cd pc = .ok (.irem, 1)) (h : p2 st (fun x y r => ¬ y = 0 ∧ VZ G M MC MS p e R s m args below meth c Qs (pc + 1) loc (.int (x - x / y * y) :: r) lay μ bc bs)) : VZ G M MC MS p e R s m args below meth c Qs pc loc st lay μ bc bs := by
  unfold p2 at h
  split at h
  · intro H locs cells slots ls hl hP hz hS hc hs
    exact lv_irem hB.1 hB.2.1 hd h.1 (h.2 H locs cells slots ls hl hP hz hS hc hs)
  · exact h.elim
theorem s_ineg (hB : Bd G d M MC MS p R s m args meth c) (hd : decode M.cd pc = .ok (.ineg, 1)) (h : p1 st (fun x r => VZ G M MC MS p e R s m args below meth c Qs (pc + 1) loc (.int (-x) :: r) lay μ bc bs)) : VZ G M MC MS p e R s m args below meth c Qs pc loc st lay μ bc bs := by
  unfold p1 at h
  split at h
  · intro H locs cells slots ls hl hP hz hS hc hs
    exact lv_ineg hB.1 hB.2.1 hd (h H locs cells slots ls hl hP hz hS hc hs)
  · exact h.elim
theorem s_ladd (hB : Bd G d M MC MS p R s m args meth c) (hd : decode M.cd pc = .ok (.ladd, 1)) (h : q2 st (fun x y r => VZ G M MC MS p e R s m args below meth c Qs (pc + 1) loc (.long (x + y) :: r) lay μ bc bs)) : VZ G M MC MS p e R s m args below meth c Qs pc loc st lay μ bc bs := by
  unfold q2 at h
  split at h
  · intro H locs cells slots ls hl hP hz hS hc hs
    exact lv_ladd hB.1 hB.2.1 hd (h H locs cells slots ls hl hP hz hS hc hs)
  · exact h.elim
theorem s_lmul (hB : Bd G d M MC MS p R s m args meth c) (hd : decode M.cd pc = .ok (.lmul, 1)) (h : q2 st (fun x y r => VZ G M MC MS p e R s m args below meth c Qs (pc + 1) loc (.long (x * y) :: r) lay μ bc bs)) : VZ G M MC MS p e R s m args below meth c Qs pc loc st lay μ bc bs := by
  unfold q2 at h
  split at h
  · intro H locs cells slots ls hl hP hz hS hc hs
    exact lv_lmul hB.1 hB.2.1 hd (h H locs cells slots ls hl hP hz hS hc hs)
  · exact h.elim
theorem s_lor (hB : Bd G d M MC MS p R s m args meth c) (hd : decode M.cd pc = .ok (.lor, 1)) (h : q2 st (fun x y r => VZ G M MC MS p e R s m args below meth c Qs (pc + 1) loc (.long (x ||| y) :: r) lay μ bc bs)) : VZ G M MC MS p e R s m args below meth c Qs pc loc st lay μ bc bs := by
  unfold q2 at h
  split at h
  · intro H locs cells slots ls hl hP hz hS hc hs
    exact lv_lor hB.1 hB.2.1 hd (h H locs cells slots ls hl hP hz hS hc hs)
  · exact h.elim
theorem s_land (hB : Bd G d M MC MS p R s m args meth c) (hd : decode M.cd pc = .ok (.land, 1)) (h : q2 st (fun x y r => VZ G M MC MS p e R s m args below meth c Qs (pc + 1) loc (.long (x &&& y) :: r) lay μ bc bs)) : VZ G M MC MS p e R s m args below meth c Qs pc loc st lay μ bc bs := by
  unfold q2 at h
  split at h
  · intro H locs cells slots ls hl hP hz hS hc hs
    exact lv_land hB.1 hB.2.1 hd (h H locs cells slots ls hl hP hz hS hc hs)
  · exact h.elim
theorem s_lcmp (hB : Bd G d M MC MS p R s m args meth c) (hd : decode M.cd pc = .ok (.lcmp, 1)) (h : q2 st (fun x y r => VZ G M MC MS p e R s m args below meth c Qs (pc + 1) loc (.int (lg_cmp x y) :: r) lay μ bc bs)) : VZ G M MC MS p e R s m args below meth c Qs pc loc st lay μ bc bs := by
  unfold q2 at h
  split at h
  · intro H locs cells slots ls hl hP hz hS hc hs
    exact W.lcmp hB.1 hB.2.1 hd (h H locs cells slots ls hl hP hz hS hc hs)
  · exact h.elim
theorem s_lshl (hB : Bd G d M MC MS p R s m args meth c) (hd : decode M.cd pc = .ok (.lshl, 1)) (h : qi st (fun x y r => VZ G M MC MS p e R s m args below meth c Qs (pc + 1) loc (.long (x <<< (y.toInt64 &&& 63)) :: r) lay μ bc bs)) : VZ G M MC MS p e R s m args below meth c Qs pc loc st lay μ bc bs := by
  unfold qi at h
  split at h
  · intro H locs cells slots ls hl hP hz hS hc hs
    exact lv_lshl hB.1 hB.2.1 hd rfl (h H locs cells slots ls hl hP hz hS hc hs)
  · exact h.elim
theorem s_lshr (hB : Bd G d M MC MS p R s m args meth c) (hd : decode M.cd pc = .ok (.lshr, 1)) (h : qi st (fun x y r => VZ G M MC MS p e R s m args below meth c Qs (pc + 1) loc (.long (x >>> (y.toInt64 &&& 63)) :: r) lay μ bc bs)) : VZ G M MC MS p e R s m args below meth c Qs pc loc st lay μ bc bs := by
  unfold qi at h
  split at h
  · intro H locs cells slots ls hl hP hz hS hc hs
    exact lv_lshr hB.1 hB.2.1 hd rfl (h H locs cells slots ls hl hP hz hS hc hs)
  · exact h.elim
theorem s_i2l (hB : Bd G d M MC MS p R s m args meth c) (hd : decode M.cd pc = .ok (.i2l, 1)) (h : p1 st (fun x r => VZ G M MC MS p e R s m args below meth c Qs (pc + 1) loc (.long x.toInt64 :: r) lay μ bc bs)) : VZ G M MC MS p e R s m args below meth c Qs pc loc st lay μ bc bs := by
  unfold p1 at h
  split at h
  · intro H locs cells slots ls hl hP hz hS hc hs
    exact lv_i2l hB.1 hB.2.1 hd rfl (h H locs cells slots ls hl hP hz hS hc hs)
  · exact h.elim
theorem s_i2b (hB : Bd G d M MC MS p R s m args meth c) (hd : decode M.cd pc = .ok (.i2b, 1)) (h : p1 st (fun x r => VZ G M MC MS p e R s m args below meth c Qs (pc + 1) loc (.int x.toInt8.toInt32 :: r) lay μ bc bs)) : VZ G M MC MS p e R s m args below meth c Qs pc loc st lay μ bc bs := by
  unfold p1 at h
  split at h
  · intro H locs cells slots ls hl hP hz hS hc hs
    exact lv_i2b hB.1 hB.2.1 hd rfl (h H locs cells slots ls hl hP hz hS hc hs)
  · exact h.elim
theorem s_iload (hB : Bd G d M MC MS p R s m args meth c) {n : Nat} (hd : decode M.cd pc = .ok (.iload n, 2)) (h : match lget loc n with | some (.int x) => VZ G M MC MS p e R s m args below meth c Qs (pc + 2) loc (.int x :: st) lay μ bc bs | _ => False) : VZ G M MC MS p e R s m args below meth c Qs pc loc st lay μ bc bs := by
  split at h
  · rename_i x hx
    intro H locs cells slots ls hl hP hz hS hc hs
    exact lv_iload hB.1 hB.2.1 hd (hl.get hx) (h H locs cells slots ls hl hP hz hS hc hs)
  · exact h.elim
theorem s_iload_n (hB : Bd G d M MC MS p R s m args meth c) {f : Fin 4} (hd : decode M.cd pc = .ok (.iload_n f, 1)) (h : match lget loc (f : Nat) with | some (.int x) => VZ G M MC MS p e R s m args below meth c Qs (pc + 1) loc (.int x :: st) lay μ bc bs | _ => False) : VZ G M MC MS p e R s m args below meth c Qs pc loc st lay μ bc bs := by
  split at h
  · rename_i x hx
    intro H locs cells slots ls hl hP hz hS hc hs
    exact lv_iload_n hB.1 hB.2.1 hd rfl (hl.get hx) (h H locs cells slots ls hl hP hz hS hc hs)
  · exact h.elim
theorem s_lload (hB : Bd G d M MC MS p R s m args meth c) {n : Nat} (hd : decode M.cd pc = .ok (.lload n, 2)) (h : match lget loc n with | some (.long x) => VZ G M MC MS p e R s m args below meth c Qs (pc + 2) loc (.long x :: st) lay μ bc bs | _ => False) : VZ G M MC MS p e R s m args below meth c Qs pc loc st lay μ bc bs := by
  split at h
  · rename_i x hx
    intro H locs cells slots ls hl hP hz hS hc hs
    exact lv_lload hB.1 hB.2.1 hd (hl.get hx) (h H locs cells slots ls hl hP hz hS hc hs)
  · exact h.elim
theorem s_lload_n (hB : Bd G d M MC MS p R s m args meth c) {f : Fin 4} (hd : decode M.cd pc = .ok (.lload_n f, 1)) (h : match lget loc (f : Nat) with | some (.long x) => VZ G M MC MS p e R s m args below meth c Qs (pc + 1) loc (.long x :: st) lay μ bc bs | _ => False) : VZ G M MC MS p e R s m args below meth c Qs pc loc st lay μ bc bs := by
  split at h
  · rename_i x hx
    intro H locs cells slots ls hl hP hz hS hc hs
    exact lv_lload_n hB.1 hB.2.1 hd rfl (hl.get hx) (h H locs cells slots ls hl hP hz hS hc hs)
  · exact h.elim
theorem s_aload (hB : Bd G d M MC MS p R s m args meth c) {n : Nat} (hd : decode M.cd pc = .ok (.aload n, 2)) (h : match lget loc n with | some (.ref x) => VZ G M MC MS p e R s m args below meth c Qs (pc + 2) loc (.ref x :: st) lay μ bc bs | some (.float x) => VZ G M MC MS p e R s m args below meth c Qs (pc + 2) loc (.float x :: st) lay μ bc bs | _ => False) : VZ G M MC MS p e R s m args below meth c Qs pc loc st lay μ bc bs := by
  split at h
  · rename_i x hx
    intro H locs cells slots ls hl hP hz hS hc hs
    exact lv_aload hB.1 hB.2.1 hd (hl.get hx) (h H locs cells slots ls hl hP hz hS hc hs)
  · rename_i x hx
    intro H locs cells slots ls hl hP hz hS hc hs
    exact lv_aload hB.1 hB.2.1 hd (hl.get hx) (h H locs cells slots ls hl hP hz hS hc hs)
  · exact h.elim
theorem s_aload_n (hB : Bd G d M MC MS p R s m args meth c) {f : Fin 4} (hd : decode M.cd pc = .ok (.aload_n f, 1)) (h : match lget loc (f : Nat) with | some (.ref x) => VZ G M MC MS p e R s m args below meth c Qs (pc + 1) loc (.ref x :: st) lay μ bc bs | some (.float x) => VZ G M MC MS p e R s m args below meth c Qs (pc + 1) loc (.float x :: st) lay μ bc bs | _ => False) : VZ G M MC MS p e R s m args below meth c Qs pc loc st lay μ bc bs := by
  split at h
  · rename_i x hx
    intro H locs cells slots ls hl hP hz hS hc hs
    exact lv_aload_n hB.1 hB.2.1 hd rfl (hl.get hx) (h H locs cells slots ls hl hP hz hS hc hs)
  · rename_i x hx
    intro H locs cells slots ls hl hP hz hS hc hs
    exact lv_aload_n hB.1 hB.2.1 hd rfl (hl.get hx) (h H locs cells slots ls hl hP hz hS hc hs)
  · exact h.elim
theorem s_istore (hB : Bd G d M MC MS p R s m args meth c) {n : Nat} (hd : decode M.cd pc = .ok (.istore n, 2)) (h : p1 st (fun x r => match lset loc n (.int x) with | some l => VZ G M MC MS p e R s m args below meth c Qs (pc + 2) l r lay μ bc bs | none => False)) : VZ G M MC MS p e R s m args below meth c Qs pc loc st lay μ bc bs := by
  unfold p1 at h
  split at h
  · split at h
    · rename_i hx
      intro H locs cells slots ls hl hP hz hS hc hs
      obtain ⟨hlt, hset⟩ := hl.set hx
      exact lv_istore hB.1 hB.2.1 hd hl.1 hlt rfl (fun ls2 hl2 => h H locs cells slots ls2 (hset ls2 hl2) hP hz hS hc hs)
    · exact h.elim
  · exact h.elim
theorem s_istore_n (hB : Bd G d M MC MS p R s m args meth c) {f : Fin 4} (hd : decode M.cd pc = .ok (.istore_n f, 1)) (h : p1 st (fun x r => match lset loc (f : Nat) (.int x) with | some l => VZ G M MC MS p e R s m args below meth c Qs (pc + 1) l r lay μ bc bs | none => False)) : VZ G M MC MS p e R s m args below meth c Qs pc loc st lay μ bc bs := by
  unfold p1 at h
  split at h
  · split at h
    · rename_i hx
      intro H locs cells slots ls hl hP hz hS hc hs
      obtain ⟨hlt, hset⟩ := hl.set hx
      exact lv_istore_n hB.1 hB.2.1 hd rfl hl.1 hlt rfl (fun ls2 hl2 => h H locs cells slots ls2 (hset ls2 hl2) hP hz hS hc hs)
    · exact h.elim
  · exact h.elim
theorem s_lstore (hB : Bd G d M MC MS p R s m args meth c) {n : Nat} (hd : decode M.cd pc = .ok (.lstore n, 2)) (h : q1 st (fun x r => match lset2 loc n (.long x) with | some l => VZ G M MC MS p e R s m args below meth c Qs (pc + 2) l r lay μ bc bs | none => False)) : VZ G M MC MS p e R s m args below meth c Qs pc loc st lay μ bc bs := by
  unfold q1 at h
  split at h
  · split at h
    · rename_i hx
      intro H locs cells slots ls hl hP hz hS hc hs
      obtain ⟨hlt, hset⟩ := hl.set2 hx
      exact lv_lstore hB.1 hB.2.1 hd hl.1 hlt rfl (fun ls2 hl2 => h H locs cells slots ls2 (hset ls2 hl2) hP hz hS hc hs)
    · exact h.elim
  · exact h.elim
theorem s_lstore_n (hB : Bd G d M MC MS p R s m args meth c) {f : Fin 4} (hd : decode M.cd pc = .ok (.lstore_n f, 1)) (h : q1 st (fun x r => match lset2 loc (f : Nat) (.long x) with | some l => VZ G M MC MS p e R s m args below meth c Qs (pc + 1) l r lay μ bc bs | none => False)) : VZ G M MC MS p e R s m args below meth c Qs pc loc st lay μ bc bs := by
  unfold q1 at h
  split at h
  · split at h
    · rename_i hx
      intro H locs cells slots ls hl hP hz hS hc hs
      obtain ⟨hlt, hset⟩ := hl.set2 hx
      exact lv_lstore_n hB.1 hB.2.1 hd rfl hl.1 hlt rfl (fun ls2 hl2 => h H locs cells slots ls2 (hset ls2 hl2) hP hz hS hc hs)
    · exact h.elim
  · exact h.elim
theorem s_astore (hB : Bd G d M MC MS p R s m args meth c) {n : Nat} (hd : decode M.cd pc = .ok (.astore n, 2)) (h : pr st (fun x r => match lset loc n (.ref x) with | some l => VZ G M MC MS p e R s m args below meth c Qs (pc + 2) l r lay μ bc bs | none => False)) : VZ G M MC MS p e R s m args below meth c Qs pc loc st lay μ bc bs := by
  unfold pr at h
  split at h
  · split at h
    · rename_i hx
      intro H locs cells slots ls hl hP hz hS hc hs
      obtain ⟨hlt, hset⟩ := hl.set hx
      exact lv_astore hB.1 hB.2.1 hd hl.1 hlt rfl (fun ls2 hl2 => h H locs cells slots ls2 (hset ls2 hl2) hP hz hS hc hs)
    · exact h.elim
  · exact h.elim
theorem s_astore_n (hB : Bd G d M MC MS p R s m args meth c) {f : Fin 4} (hd : decode M.cd pc = .ok (.astore_n f, 1)) (h : pr st (fun x r => match lset loc (f : Nat) (.ref x) with | some l => VZ G M MC MS p e R s m args below meth c Qs (pc + 1) l r lay μ bc bs | none => False)) : VZ G M MC MS p e R s m args below meth c Qs pc loc st lay μ bc bs := by
  unfold pr at h
  split at h
  · split at h
    · rename_i hx
      intro H locs cells slots ls hl hP hz hS hc hs
      obtain ⟨hlt, hset⟩ := hl.set hx
      exact lv_astore_n hB.1 hB.2.1 hd rfl hl.1 hlt rfl (fun ls2 hl2 => h H locs cells slots ls2 (hset ls2 hl2) hP hz hS hc hs)
    · exact h.elim
  · exact h.elim
theorem s_iinc (hB : Bd G d M MC MS p R s m args meth c) {n : Nat} {z : Int} (hd : decode M.cd pc = .ok (.iinc n z, 3)) (h : match lget loc n with | some (.int x) => (match lset loc n (.int (x + Int32.ofInt z)) with | some l => VZ G M MC MS p e R s m args below meth c Qs (pc + 3) l st lay μ bc bs | none => False) | _ => False) : VZ G M MC MS p e R s m args below meth c Qs pc loc st lay μ bc bs := by
  split at h
  · rename_i x hx
    split at h
    · rename_i l hx2
      intro H locs cells slots ls hl hP hz hS hc hs
      obtain ⟨hlt, hset⟩ := hl.set hx2
      obtain ⟨kx, hkx⟩ := List.getElem?_of_mem (lvl_mem.mpr ⟨_, lget_at loc n _ hx, rfl⟩ : (n, cv G (.int x)) ∈ lvl G loc)
      exact lv_iinc hB.1 hB.2.1 hd hl.1 hkx rfl hlt rfl (fun ls2 hl2 => h H locs cells slots ls2 (hset ls2 hl2) hP hz hS hc hs)
    · exact h.elim
  · exact h.elim
theorem s_iconst (hB : Bd G d M MC MS p R s m args meth c) {z : Int} (hd : decode M.cd pc = .ok (.iconst z, 1)) (h : VZ G M MC MS p e R s m args below meth c Qs (pc + 1) loc (.int (Int32.ofInt z) :: st) lay μ bc bs) : VZ G M MC MS p e R s m args below meth c Qs pc loc st lay μ bc bs := by
  intro H locs cells slots ls hl hP hz hS hc hs
  exact lv_iconst hB.1 hB.2.1 hd rfl (h H locs cells slots ls hl hP hz hS hc hs)
theorem s_bipush (hB : Bd G d M MC MS p R s m args meth c) {z : Int} (hd : decode M.cd pc = .ok (.bipush z, 2)) (h : VZ G M MC MS p e R s m args below meth c Qs (pc + 2) loc (.int ((Int8.ofInt z).toInt32) :: st) lay μ bc bs) : VZ G M MC MS p e R s m args below meth c Qs pc loc st lay μ bc bs := by
  intro H locs cells slots ls hl hP hz hS hc hs
  exact lv_bipush hB.1 hB.2.1 hd rfl (h H locs cells slots ls hl hP hz hS hc hs)
theorem s_sipush (hB : Bd G d M MC MS p R s m args meth c) {z : Int} (hd : decode M.cd pc = .ok (.sipush z, 3)) (h : VZ G M MC MS p e R s m args below meth c Qs (pc + 3) loc (.int ((Int16.ofInt z).toInt32) :: st) lay μ bc bs) : VZ G M MC MS p e R s m args below meth c Qs pc loc st lay μ bc bs := by
  intro H locs cells slots ls hl hP hz hS hc hs
  exact lv_sipush hB.1 hB.2.1 hd rfl (h H locs cells slots ls hl hP hz hS hc hs)
theorem s_lconst (hB : Bd G d M MC MS p R s m args meth c) {f : Fin 2} (hd : decode M.cd pc = .ok (.lconst f, 1)) (h : VZ G M MC MS p e R s m args below meth c Qs (pc + 1) loc (.long (if f = 0 then 0 else 1) :: st) lay μ bc bs) : VZ G M MC MS p e R s m args below meth c Qs pc loc st lay μ bc bs := by
  intro H locs cells slots ls hl hP hz hS hc hs
  refine lv_lconst hB.1 hB.2.1 hd (v := if f = 0 then 0 else 1) ?_ (h H locs cells slots ls hl hP hz hS hc hs)
  match f with
  | 0 => rfl
  | 1 => rfl
theorem s_ldc (hB : Bd G d M MC MS p R s m args meth c) {n : Nat} (hd : decode M.cd pc = .ok (.ldc n, 2)) (h : match clk (inf M).1 n with | some x => VZ G M MC MS p e R s m args below meth c Qs (pc + 2) loc (.int x :: st) lay μ bc bs | none => False) : VZ G M MC MS p e R s m args below meth c Qs pc loc st lay μ bc bs := by
  split at h
  · rename_i x hx
    unfold clk at hx
    obtain ⟨q, hq, hqe⟩ := Option.map_eq_some_iff.mp hx
    have h1 := List.find?_some hq
    simp only [Bool.and_eq_true, beq_iff_eq] at h1
    have h2 := gat_mem (List.all_eq_true.mp cTab_ok q (List.mem_of_find?_eq_some hq))
    rw [h1.1, h1.2, hqe] at h2
    intro H locs cells slots ls hl hP hz hS hc hs
    exact lv_ldc hB.1 hB.2.1 (own := cn M.1) (by rw [hB.2.2.2.2.2.2.2.2.1]; exact hB.2.2.2.1) (hB.2.2.2.2.1 _ h2) hd (h H locs cells slots ls hl hP hz hS hc hs)
  · exact h.elim
theorem s_ldc_w (hB : Bd G d M MC MS p R s m args meth c) {n : Nat} (hd : decode M.cd pc = .ok (.ldc_w n, 3)) (h : match clk (inf M).1 n with | some x => VZ G M MC MS p e R s m args below meth c Qs (pc + 3) loc (.int x :: st) lay μ bc bs | none => False) : VZ G M MC MS p e R s m args below meth c Qs pc loc st lay μ bc bs := by
  split at h
  · rename_i x hx
    unfold clk at hx
    obtain ⟨q, hq, hqe⟩ := Option.map_eq_some_iff.mp hx
    have h1 := List.find?_some hq
    simp only [Bool.and_eq_true, beq_iff_eq] at h1
    have h2 := gat_mem (List.all_eq_true.mp cTab_ok q (List.mem_of_find?_eq_some hq))
    rw [h1.1, h1.2, hqe] at h2
    intro H locs cells slots ls hl hP hz hS hc hs
    exact lv_ldcw hB.1 hB.2.1 (own := cn M.1) (by rw [hB.2.2.2.2.2.2.2.2.1]; exact hB.2.2.2.1) (hB.2.2.2.2.1 _ h2) hd (h H locs cells slots ls hl hP hz hS hc hs)
  · exact h.elim
theorem s_ldc2 (hB : Bd G d M MC MS p R s m args meth c) {n : Nat} (hd : decode M.cd pc = .ok (.ldc2_w n, 3)) (h : match c2lk (inf M).1 n with | some x => VZ G M MC MS p e R s m args below meth c Qs (pc + 3) loc (.long x :: st) lay μ bc bs | none => False) : VZ G M MC MS p e R s m args below meth c Qs pc loc st lay μ bc bs := by
  split at h
  · rename_i x hx
    unfold c2lk at hx
    obtain ⟨q, hq, hqe⟩ := Option.map_eq_some_iff.mp hx
    have h1 := List.find?_some hq
    simp only [Bool.and_eq_true, beq_iff_eq] at h1
    have h2 := gat_mem (List.all_eq_true.mp c2Tab_ok q (List.mem_of_find?_eq_some hq))
    rw [h1.1, h1.2, hqe] at h2
    intro H locs cells slots ls hl hP hz hS hc hs
    exact lv_ldc2 hB.1 hB.2.1 (own := cn M.1) (by rw [hB.2.2.2.2.2.2.2.2.1]; exact hB.2.2.2.1) (hB.2.2.2.2.1 _ h2) hd (h H locs cells slots ls hl hP hz hS hc hs)
  · exact h.elim
theorem s_dup (hB : Bd G d M MC MS p R s m args meth c) (hd : decode M.cd pc = .ok (.dup, 1)) (h : match st with | v :: r => v.category = 1 ∧ VZ G M MC MS p e R s m args below meth c Qs (pc + 1) loc (v :: v :: r) lay μ bc bs | _ => False) : VZ G M MC MS p e R s m args below meth c Qs pc loc st lay μ bc bs := by
  split at h
  · intro H locs cells slots ls hl hP hz hS hc hs
    exact lv_dup hB.1 hB.2.1 hd (by rw [cv_cat]; exact h.1) (h.2 H locs cells slots ls hl hP hz hS hc hs)
  · exact h.elim
theorem s_pop (hB : Bd G d M MC MS p R s m args meth c) (hd : decode M.cd pc = .ok (.pop, 1)) (h : match st with | v :: r => v.category = 1 ∧ VZ G M MC MS p e R s m args below meth c Qs (pc + 1) loc r lay μ bc bs | _ => False) : VZ G M MC MS p e R s m args below meth c Qs pc loc st lay μ bc bs := by
  split at h
  · intro H locs cells slots ls hl hP hz hS hc hs
    exact lv_pop hB.1 hB.2.1 hd (by rw [cv_cat]; exact h.1) (h.2 H locs cells slots ls hl hP hz hS hc hs)
  · exact h.elim
theorem s_dup2 (hB : Bd G d M MC MS p R s m args meth c) (hd : decode M.cd pc = .ok (.dup2, 1)) (h : match st with | v :: w :: r => v.category = 1 ∧ w.category = 1 ∧ VZ G M MC MS p e R s m args below meth c Qs (pc + 1) loc (v :: w :: v :: w :: r) lay μ bc bs | _ => False) : VZ G M MC MS p e R s m args below meth c Qs pc loc st lay μ bc bs := by
  split at h
  · intro H locs cells slots ls hl hP hz hS hc hs
    exact lv_dup2_11 hB.1 hB.2.1 hd (by rw [cv_cat]; exact h.1) (by rw [cv_cat]; exact h.2.1) (h.2.2 H locs cells slots ls hl hP hz hS hc hs)
  · exact h.elim
theorem s_goto (hB : Bd G d M MC MS p R s m args meth c) {o : Int} (ht : 0 ≤ (pc : Int) + o) (hd : decode M.cd pc = .ok (.goto o, 3)) (h : VZ G M MC MS p e R s m args below meth c Qs ((pc : Int) + o).toNat loc st lay μ bc bs) : VZ G M MC MS p e R s m args below meth c Qs pc loc st lay μ bc bs := by
  intro H locs cells slots ls hl hP hz hS hc hs
  exact lv_goto hB.1 hB.2.1 hd (by omega) (h H locs cells slots ls hl hP hz hS hc hs)
theorem s_icmp (hB : Bd G d M MC MS p R s m args meth c) {cc : ClassFile.Cond} {o : Int} (ht : 0 ≤ (pc : Int) + o) (hd : decode M.cd pc = .ok (.if_icmp cc o, 3)) (h : p2 st (fun x y r => brI cc x y (VZ G M MC MS p e R s m args below meth c Qs ((pc : Int) + o).toNat loc r lay μ bc bs) (VZ G M MC MS p e R s m args below meth c Qs (pc + 3) loc r lay μ bc bs))) : VZ G M MC MS p e R s m args below meth c Qs pc loc st lay μ bc bs := by
  unfold p2 at h
  split at h
  · intro H locs cells slots ls hl hP hz hS hc hs
    cases cc <;> unfold brI at h <;> dsimp only at h
    all_goals first | exact lv_icmp_eq hB.1 hB.2.1 hd (by omega) (fun q => h.1 q H locs cells slots ls hl hP hz hS hc hs) (fun q => h.2 q H locs cells slots ls hl hP hz hS hc hs) | exact lv_icmp_ne hB.1 hB.2.1 hd (by omega) (fun q => h.1 q H locs cells slots ls hl hP hz hS hc hs) (fun q => h.2 q H locs cells slots ls hl hP hz hS hc hs) | exact lv_icmp_lt hB.1 hB.2.1 hd (by omega) (fun q => h.1 q H locs cells slots ls hl hP hz hS hc hs) (fun q => h.2 q H locs cells slots ls hl hP hz hS hc hs) | exact lv_icmp_ge hB.1 hB.2.1 hd (by omega) (fun q => h.1 q H locs cells slots ls hl hP hz hS hc hs) (fun q => h.2 q H locs cells slots ls hl hP hz hS hc hs) | exact lv_icmp_gt hB.1 hB.2.1 hd (by omega) (fun q => h.1 q H locs cells slots ls hl hP hz hS hc hs) (fun q => h.2 q H locs cells slots ls hl hP hz hS hc hs) | exact lv_icmp_le hB.1 hB.2.1 hd (by omega) (fun q => h.1 q H locs cells slots ls hl hP hz hS hc hs) (fun q => h.2 q H locs cells slots ls hl hP hz hS hc hs)
  · exact h.elim
theorem s_if (hB : Bd G d M MC MS p R s m args meth c) {cc : ClassFile.Cond} {o : Int} (ht : 0 ≤ (pc : Int) + o) (hd : decode M.cd pc = .ok (.ifCond cc o, 3)) (h : p1 st (fun x r => brI cc x 0 (VZ G M MC MS p e R s m args below meth c Qs ((pc : Int) + o).toNat loc r lay μ bc bs) (VZ G M MC MS p e R s m args below meth c Qs (pc + 3) loc r lay μ bc bs))) : VZ G M MC MS p e R s m args below meth c Qs pc loc st lay μ bc bs := by
  unfold p1 at h
  split at h
  · intro H locs cells slots ls hl hP hz hS hc hs
    cases cc <;> unfold brI at h <;> dsimp only at h
    all_goals first | exact lv_if_eq hB.1 hB.2.1 hd (by omega) (fun q => h.1 q H locs cells slots ls hl hP hz hS hc hs) (fun q => h.2 q H locs cells slots ls hl hP hz hS hc hs) | exact lv_if_ne hB.1 hB.2.1 hd (by omega) (fun q => h.1 q H locs cells slots ls hl hP hz hS hc hs) (fun q => h.2 q H locs cells slots ls hl hP hz hS hc hs) | exact lv_if_lt hB.1 hB.2.1 hd (by omega) (fun q => h.1 q H locs cells slots ls hl hP hz hS hc hs) (fun q => h.2 q H locs cells slots ls hl hP hz hS hc hs) | exact lv_if_ge hB.1 hB.2.1 hd (by omega) (fun q => h.1 q H locs cells slots ls hl hP hz hS hc hs) (fun q => h.2 q H locs cells slots ls hl hP hz hS hc hs) | exact lv_if_gt hB.1 hB.2.1 hd (by omega) (fun q => h.1 q H locs cells slots ls hl hP hz hS hc hs) (fun q => h.2 q H locs cells slots ls hl hP hz hS hc hs) | exact lv_if_le hB.1 hB.2.1 hd (by omega) (fun q => h.1 q H locs cells slots ls hl hP hz hS hc hs) (fun q => h.2 q H locs cells slots ls hl hP hz hS hc hs)
  · exact h.elim
theorem s_ifnull (hB : Bd G d M MC MS p R s m args meth c) {o : Int} (ht : 0 ≤ (pc : Int) + o) (hd : decode M.cd pc = .ok (.ifnull o, 3)) (h : match st with | .ref _ :: r => VZ G M MC MS p e R s m args below meth c Qs (pc + 3) loc r lay μ bc bs | .null :: r => VZ G M MC MS p e R s m args below meth c Qs ((pc : Int) + o).toNat loc r lay μ bc bs | _ => False) : VZ G M MC MS p e R s m args below meth c Qs pc loc st lay μ bc bs := by
  split at h
  · intro H locs cells slots ls hl hP hz hS hc hs
    exact lv_ifnull hB.1 hB.2.1 hd (h H locs cells slots ls hl hP hz hS hc hs)
  · intro H locs cells slots ls hl hP hz hS hc hs
    exact lv_ifnullN hB.1 hB.2.1 hd (by omega) (h H locs cells slots ls hl hP hz hS hc hs)
  · exact h.elim
theorem s_ifnonnull (hB : Bd G d M MC MS p R s m args meth c) {o : Int} (ht : 0 ≤ (pc : Int) + o) (hd : decode M.cd pc = .ok (.ifnonnull o, 3)) (h : match st with | .ref _ :: r => VZ G M MC MS p e R s m args below meth c Qs ((pc : Int) + o).toNat loc r lay μ bc bs | .null :: r => VZ G M MC MS p e R s m args below meth c Qs (pc + 3) loc r lay μ bc bs | _ => False) : VZ G M MC MS p e R s m args below meth c Qs pc loc st lay μ bc bs := by
  split at h
  · intro H locs cells slots ls hl hP hz hS hc hs
    exact lv_ifnonnull hB.1 hB.2.1 hd (by omega) (h H locs cells slots ls hl hP hz hS hc hs)
  · intro H locs cells slots ls hl hP hz hS hc hs
    exact lv_ifnonnullN hB.1 hB.2.1 hd (h H locs cells slots ls hl hP hz hS hc hs)
  · exact h.elim
end SND
