def R_law : String := "BellRibbonsLaw"
def lw_P (b : Addr) (xs : List Int32) (args : Array Value) (s : State) : Prop := args = #[.ref b] ∧ s.IntsAt b xs ∧ xs.length ≤ 3072 ∧ (Jvm.Cond.and given_1 narrow_1).before args s = true
def lw_Q (_ : Array Value) (s : State) (o : Outcome) (t : State) : Prop := o = .returned (some (.int 1)) ∧ Framed s o t [] 600000 7302250
def lw_Z (below : List Frame) (a : Array Value) (s : State) : State → Prop := fun t => ∃ o, t.status = .running ∧ Ended t below o ∧ lw_Q a s o t
/-- the law's own end, with 1 on the stack, nothing written that was there before, its room as the claim has it -/
theorem lw_ret {p : Program} {l : Launch} {e : Env} {s : State} {m : MethodId} {below : List Frame} {meth : Method} {c : Code} {b : Nat} (hx : p.tables.exec = Jvm.exec) (hb : c.code = code) (hr : meth.sig.returnType = ret) (hlocks : meth.locks = false) {pc : Nat} {H : Heap} {ls : Array Slot} (hdg : decode code pc = .ok (.ireturn, 1)) : W p l e room_1 s m #[Value.ref b] below meth c H [] 600000 7302250 (lw_Z below #[Value.ref b] s) (F0 m pc ls [.int 1]) := by
  intro T hT X
  obtain ⟨fs, hret, hrun, hended, hW, hframe⟩ := X.leave (v := some (.int 1)) (hlocks := hlocks) (fun h => by rw [hr] at h; cases h)
  have hmeth' : T.vm.method? m = some meth := X.method'
  refine ⟨T.setFrames fs, ?_, .returned (some (.int 1)), hrun, hended, rfl, ⟨_, rfl⟩, hW, hframe⟩
  jvm_step X.here [X.here.top, hx, hb, hdg, hmeth', hr, ret, narrow_b1]
  (try refine ⟨rfl, ?_⟩); (try refine ⟨rfl, ?_⟩)
  first | (intro acts; rw [hret _ acts rfl rfl rfl]) | rw [hret _ _ rfl rfl rfl]
  exact Steps.refl _
/-- what holds at the law's entry: the machine, the code, the tables' words (any of lw_tbl by 'hts w (by decide +kernel)'), the script of L ints xs at the cell b, what the Statement gives of the start (any of its parts by flat_of_before) -/
def lw_At (p : Program) (s : State) (m : MethodId) (meth : Method) (c : Code) (b L : Nat) (xs : Nat → Int32) : Prop :=
  p.tables.exec = Jvm.exec ∧ c.code = code ∧ meth.sig.returnType = ret ∧ c.maxLocals = 4 ∧ s.vm.findClass R_law = some m.cls ∧ (∀ w ∈ lw_tbl, w.before #[Value.ref b] s = true) ∧ va_X b L xs s s.heap ∧ b < s.heap.size ∧ meth.locks = false ∧ (Jvm.Cond.and given_1 narrow_1).before #[Value.ref b] s = true
theorem inst_in : ∀ ci, ci < 12 → Cond.instantiable (cn ci) (NF ci) ∈ lw_tbl := by decide +kernel
theorem ao_sc : Cond.arrayOver (.object "BellRibbons$Scale") ∈ lw_tbl := by decide +kernel
theorem ao_ii : Cond.arrayOver (.array .int) ∈ lw_tbl := by decide +kernel
/-- from the entry, for every script of at most 3072 ints, the law comes to its end with true -/
theorem whole_start {p : Program} {e : Env} {s : State} {m : MethodId} {below : List Frame} {meth : Method} {c : Code} (l : Launch) {b L : Nat} {xs : Nat → Int32} (hL : L ≤ 3072) (C0 : lw_At p s m meth c b L xs) : W p l e room_1 s m #[Value.ref b] below meth c s.heap [] 0 0 (lw_Z below #[Value.ref b] s) (entryFrame m ([Value.ref b] : List Value).toArray 4) := by
  obtain ⟨hx, hb, hr, hml, hown, hts, hX, hbl, hlocks, hgv⟩ := id C0
  have hg : ∀ w ∈ gtbl, w.before #[Value.ref b] s = true := fun w hw => hts w (List.mem_filter.mp hw).1
  have kn : ∀ ci, ci < 12 → ∃ q : ClassId × (Nat → Nat), u_Kn s (cn ci) (TT ci) (NF ci) q.1 q.2 := fun ci h => by
    obtain ⟨cC, iS, hk⟩ := u_known (C := cn ci) (T := TT ci) (N := NF ci) (n := NF ci) hg (inTT ci h) (hts _ (inst_in ci h))
    exact ⟨(cC, iS), hk⟩
  have kn2 : ∀ ci : Nat, ∃ q : ClassId × (Nat → Nat), ci < 12 → u_Kn s (cn ci) (TT ci) (NF ci) q.1 q.2 := fun ci => by
    by_cases h : ci < 12
    · obtain ⟨q, hq⟩ := kn ci h
      exact ⟨q, fun _ => hq⟩
    · obtain ⟨q, -⟩ := kn 0 (by omega)
      exact ⟨q, fun z => absurd z h⟩
  obtain ⟨f, hf⟩ := Classical.axiomOfChoice kn2
  obtain ⟨cI, kI, mI, fI, hI1, hI2⟩ := Cond.arrayClass_spec (hg _ jw_arr_int)
  obtain ⟨cZ, kZ, mZ, fZ, hZ1, hZ2⟩ := Cond.arrayClass_spec (hg _ jw_arr_boolean)
  obtain ⟨cB, kB, mB, fB, hB1, hB2⟩ := Cond.arrayClass_spec (hg _ jw_arr_byte)
  obtain ⟨cJ, kJ, mJ, fJ, hJ1, hJ2⟩ := Cond.arrayClass_spec (hg _ jw_arr_long)
  obtain ⟨mQ, cQ, kQ, hQ0, -, hQ1, hQ2, fQ⟩ := arrayOverA_spec (hts _ ao_ii)
  obtain ⟨mS, cS, kS, hS0, -, hS1, hS2, fS⟩ := Cond.arrayOver_spec (hts _ ao_sc)
  obtain ⟨T, hT⟩ : ∃ T : Nat → ClassId, T = fun k => if k = 0 then cI else if k = 1 then cZ else if k = 2 then cB else if k = 3 then cJ else if k = 4 then cQ else cS := ⟨_, rfl⟩
  have t0 : T 0 = cI := by rw [hT]; rfl
  have t1 : T 1 = cZ := by rw [hT]; rfl
  have t2 : T 2 = cB := by rw [hT]; rfl
  have t3 : T 3 = cJ := by rw [hT]; rfl
  have t4 : T 4 = cQ := by rw [hT]; rfl
  have t5 : T 5 = cS := by rw [hT]; rfl
  obtain ⟨G, hG⟩ : ∃ G : Gx, G = (l, ((fun ci => (f ci).1), (fun ci => (f ci).2)), T, s.heap.size, b, L, xs) := ⟨_, rfl⟩
  have hK : va_K G.D vwCl (tys G) s := by
    rw [hG]
    refine ⟨fun k q hq => ?_, fun k q hq => ?_⟩
    · by_cases h : k < 12
      · rw [vwCl_at k h] at hq
        rw [← Option.some.inj hq]
        exact hf k h
      · rw [List.getElem?_eq_none (show vwCl.length ≤ k from Nat.le_of_not_lt h)] at hq
        exact absurd hq (by simp)
    · have hq' : [(T 0, FieldType.int), (T 1, .boolean), (T 2, .byte), (T 3, .long), (T 4, .array .int), (T 5, .object "BellRibbons$Scale")][k]? = some q := hq
      rw [t0, t1, t2, t3, t4, t5] at hq'
      match k, hq' with
      | 0, hq' => cases hq'; exact ⟨fun n z => ⟨fun k h => (by cases h), kI, hI1, mI, hI2⟩, fI⟩
      | 1, hq' => cases hq'; exact ⟨fun n z => ⟨fun k h => (by cases h), kZ, hZ1, mZ, hZ2⟩, fZ⟩
      | 2, hq' => cases hq'; exact ⟨fun n z => ⟨fun k h => (by cases h), kB, hB1, mB, hB2⟩, fB⟩
      | 3, hq' => cases hq'; exact ⟨fun n z => ⟨fun k h => (by cases h), kJ, hJ1, mJ, hJ2⟩, fJ⟩
      | 4, hq' => cases hq'; exact ⟨fun n z => ⟨fun k h => (by cases h), kQ, hQ1, mQ, hQ2⟩, fQ⟩
      | 5, hq' => cases hq'; exact ⟨fun n z => ⟨fun k h => (by cases h), kS, hS1, mS, hS2⟩, kS, mS, hS1, hS2, hS0, fS⟩
      | k + 6, hq' => simp at hq'
  have hXW : XW s := ⟨fun w hw => va_Nw.of (nestW_ok w hw) (hts w (nestW_in w hw)), va_AO.of (hts _ ao_sc), hts _ ao_ii⟩
  have z1 : G.1 = l := by rw [hG]
  have z2 : G.z = s.heap.size := by rw [hG]; rfl
  have z3 : G.sb = b := by rw [hG]; rfl
  have z4 : G.sL = L := by rw [hG]; rfl
  have z5 : G.xs = xs := by rw [hG]; rfl
  have hBd : Bd G 64 mL_law 600000 7302250 p room_1 s m #[Value.ref b] meth c := ⟨hx, hb, hml, hown, hg, hK, hXW, fun h => absurd h (by decide), rfl, by rw [z2]; exact Nat.le_refl _, by decide, by decide, rfl, rfl, fun _ => ⟨by rw [z3, z4, z5]; exact hX, by rw [z2, z3]; exact hbl⟩⟩
  have hret : RetOK G mL_law 600000 7302250 p e room_1 s m #[Value.ref b] below meth c (lw_Z below #[Value.ref b] s) (fun v _ _ => v = some (.int 1)) := by
    intro v lay μ H locs cells slots ls pc hq hi hP hz hS hc hs
    subst hq
    refine va_forget (fun q hq => by have := hS.2.2 q hq; rw [z2] at this; exact this) ?_
    refine W.widen (k := 600000) (n := 7302250) hc hs ?_
    rw [z1]
    exact lw_ret hx hb hr hlocks hi.1
  have key := lw_body (fx := 0) (bc := 600000) (bs := 7302250) (VZ_closed hBd hret (fun h => absurd h (by decide))) (by omega) (by rw [z4]; exact hL) (fun _ _ => rfl) (by omega) (by omega)
  have hlo : Lok G ((lg_sl ([Value.float 0].map (cv G)) ++ List.replicate (4 - (lg_sl ([Value.float 0].map (cv G))).length) Slot.unset).toArray) 4 (loc0 [Value.float 0] 4) := loc0_ok (Nat.le_of_ble_eq_true rfl)
  have ec : [Value.float 0].map (cv G) = [Value.ref b] := by show [Value.ref G.sb] = _; rw [z3]
  rw [ec] at hlo
  rw [lg_entry_eq]
  have fin := key s.heap [] 0 0 _ hlo (fun k q h => by simp [wl] at h) (by rw [z2]; rfl) va_S.rf (by omega) (by omega)
  rw [z1] at fin
  exact fin
set_option maxHeartbeats 4000000 in
theorem lw_walk (l : Launch) (b : Addr) (xs : List Int32) : MetFree l x (headSpec (Jvm.Cond.code x code maxLocals ret :: tables_1) room_1) (lw_P b xs) (fun _ _ _ _ _ => True) lw_Q := by
  refine MetFree.of_bodyS (code := code) (maxLocals := maxLocals) (ret := ret) (by decide) ?_ ?_
  · intro args s m h hn
    obtain ⟨meth, c, h1, h2, h3, h4, h5, h6, -, -⟩ := Cond.code_spec hn (atoms_spec (ws := Jvm.Cond.code x code maxLocals ret :: tables_1) h _ List.mem_cons_self)
    exact ⟨meth, c, h1, h2, h3, h4, h5, h6⟩
  · intro p e s m args below meth c s₁ B hml0 hP _
    obtain ⟨rfl, hx, hbd, hgv⟩ := hP
    obtain ⟨scr, harrAt, hlist, hof, hsmall⟩ := hx
    obtain ⟨hcb, hkn, -, -⟩ := State.arrayAt?_spec harrAt
    have hown : s.vm.findClass R_law = some m.cls := findClass_of_methodNamed B.named
    have hts0 : ∀ c ∈ (Jvm.Cond.code x code maxLocals ret :: tables_1), c.before #[Value.ref b] s = true := atoms_spec (ws := Jvm.Cond.code x code maxLocals ret :: tables_1) B.pre
    have hts : ∀ w ∈ lw_tbl, w.before #[Value.ref b] s = true := k2_hts_sels lw_privs (fun w hw => hts0 w (List.mem_cons_of_mem _ hw)) lw_privs_ok
    have hml : c.maxLocals = 4 := B.maxLocals_eq (hts0 _ List.mem_cons_self)
    have X₀ : Stand p l e room_1 s m #[Value.ref b] below meth c s₁ [] 0 0 := Stand.of_body B
    have hh0 : s₁.heap = s.heap := by rw [B.state]; rfl
    have hsz : scr.slots.size = xs.length := by rw [← Array.length_toList, hlist, List.length_map]
    have hval : ∀ j : Nat, j < xs.length → scr.slots[j]? = some (.int (xs.getD j 0)) := fun j hj => by
      rw [← Array.getElem?_toList, hlist]
      simp [hj]
    have hbl : b < s.heap.size := (Array.getElem?_eq_some_iff.mp hcb).1
    have hX : va_X b xs.length (fun j => xs.getD j 0) s s.heap := ⟨scr, hcb, hof, hkn, hsz, hval⟩
    have K : W p l e room_1 s m #[Value.ref b] below meth c s₁.heap [] 0 0 (lw_Z below #[Value.ref b] s) (entryFrame m ([Value.ref b] : List Value).toArray 4) := by
      rw [hh0]
      exact whole_start l hbd ⟨B.exec, B.bytes, B.returns, hml, hown, hts, hX, hbl, B.notSynchronized, hgv⟩
    obtain ⟨t, a1, o, b1, b2, b3⟩ := K s₁ rfl X₀
    exact ⟨t, o, a1, b1, b2, b3⟩
theorem lw_pre_spec {args : Array Value} {s : State} (h : (Jvm.Cond.and given_1 narrow_1).before args s = true) (hr : rest_1_c.before args s = true) : ∃ (b : Addr) (xs : List Int32), lw_P b xs args s := by
  have hs := flat_of_before _ h
  have hq := flat_of_before _ hr
  have hc : (Cond.count 1).before args s = true := hs _ (by decide +kernel)
  have harr : (Cond.arrayOf (.arg 0) .int).before args s = true := hs _ (by decide +kernel)
  have hle : (Cond.le (.length (.arg 0)) (.int 3072)).before args s = true := hs _ (by decide +kernel)
  have hlen : (Cond.isInt (.length (.arg 0))).before args s = true := hq _ (by decide +kernel)
  have hall : (Cond.all (.arg 0) (.isInt (.elem (.arg 0) (.index 0)))).before args s = true := hq _ (by decide +kernel)
  obtain ⟨b, xs, hb, hx⟩ := State.ints_of_pre rfl harr hlen hall
  have hsm : xs.length < 2 ^ 31 := hx.choose_spec.2.2.2
  have hev : (Term.length (.arg 0)).eval args s none [] s = some (.int xs.length.toInt32) := hx.length_eval hb
  have hv := Cond.le_ints hev (show (Term.int 3072).eval args s none [] s = some (.int 3072) from rfl)
  have hd : xs.length.toInt32 ≤ 3072 := by
    simpa [Cond.before, Cond.holds, hv] using hle
  have hN : xs.length ≤ 3072 := (Int32.ofNat_le_ofNat hsm (by decide)).mp (show Int32.ofNat xs.length ≤ Int32.ofNat 3072 from hd)
  exact ⟨b, xs, Cond.one_arg hc (show args[0]? = some (.ref b) from hb), hx, hN, h⟩
theorem lw_comes (l : Launch) : Comes l x (Jvm.Cond.code x code maxLocals ret :: tables_1) room_1 (fun tb e args s => Calls_1 tb e args s ∧ rest_1 tb e args s ∧ Pre_1 tb e args s)
    (fun _ _ args s o t => lw_Q args s o t) := by
  intro p e ha hc hk s m args below hf hfit hheap happ hpre
  obtain ⟨b, xs, hP⟩ := lw_pre_spec hpre.2.2 hpre.2.1
  obtain ⟨k, o, h1, h2, h3, hQ⟩ := lw_walk l b xs p e ha hc hk s m args below hf ((Spec.applies_iff_loose hf).mp happ).1 hP trivial
  exact ⟨k, o, h1, h2, h3, hQ⟩
theorem lw_frame {s t : State} {o : Outcome} {args : Array Value} (h : Framed s o t [] 600000 7302250) :
    Framed s o t (fieldLocs frame_1_writes args s ++ arrayLocs frame_1_arrays args s ++ staticLocs frame_1_statics s) 600000 7302250 := h
theorem lw_limb (L : Cond) (hL : ∀ (args : Array Value) (s t : State), L.after args s (.returned (some (.int 1))) t = true) :
    ArmFor flags0 classFile x code maxLocals ret World_1 tables_1 room_1 Calls_1 rest_1 Pre_1
      (fun tb e a s o t => postC L tb e a s o t ∧ Framed s o t (fieldLocs frame_1_writes a s ++ arrayLocs frame_1_arrays a s ++ staticLocs frame_1_statics s) 600000 7302250) := by
  intro l _ _ _ p e ha hc hk s m args below hf hfit hheap happ hpre
  obtain ⟨k, o, h1, h2, h3, rfl, hF⟩ := lw_comes l p e ha hc hk s m args below hf hfit hheap happ hpre
  exact ⟨k, _, h1, h2, h3, hL args s _, lw_frame hF⟩
theorem i_vc : Claimed_1_1 ∧ Claimed_1_2 := ⟨lw_limb limb_1_1 (fun args s t => by simp [limb_1_1, Cond.after, Cond.holds, Cond.value]), lw_limb limb_1_2 (fun args s t => Cond.after_iff.mpr (by
  first | (rw [show limb_1_2 = Cond.eq .result (.int 1) from rfl, Cond.eq_ints (x := 1) (y := 1) rfl rfl]; simp; done) | (simp [limb_1_2, Cond.value, Term.eval]; done)))⟩
