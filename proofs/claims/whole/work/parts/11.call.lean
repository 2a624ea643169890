def isNW : Cond → Bool
  | .fieldLinkNest .. => true
  | .methodLinkNest .. => true
  | _ => false
theorem nestW_nw : nestW.all isNW = true := by decide +kernel
theorem aoi_moved {s U : State} (hvm : s.vm.Alike U.vm) (h : (Cond.arrayOver (.array .int)).before #[] s = true) : (Cond.arrayOver (.array .int)).before #[] U = true := by
  have h1 := Cond.arrayOver_setVmC (args := #[]) hvm (.array .int)
  rw [h] at h1
  exact h1
theorem XW.warm {s U : State} (hW : s.WarmedH U.vm) (h : XW s) : XW U := by
  refine ⟨fun w hw => ?_, va_AO.moved hW.alike h.2.1, aoi_moved hW.alike h.2.2⟩
  have h1 := h.1 w hw
  have h2 := List.all_eq_true.mp nestW_nw w hw
  cases w <;> first | (cases h2; done) | exact va_Nw.warmF hW h1 | exact va_Nw.warmM hW h1
theorem XW.same {s U : State} (hv : s.vm = U.vm) (h : XW s) : XW U :=
  ⟨fun w hw => va_Nw.same (nestW_ok w hw) hv (h.1 w hw), va_AO.moved (hv ▸ Vm.Alike.refl s.vm) h.2.1, aoi_moved (hv ▸ Vm.Alike.refl s.vm) h.2.2⟩
theorem gtbl_good {M : MI} (h : mokD M) {big : List Cond} (hb : ∀ w ∈ gtbl, w ∈ big) : GoodIn big (.code M.yn M.cd M.ml M.rt :: gtbl) := by
  obtain ⟨i1, i2, i3, i4, h⟩ := h
  unfold mokB at h
  simp only [Bool.and_eq_true] at h
  have hc : Cond.code M.yn M.cd M.ml M.rt ∈ gtbl := gat_mem h.1.1.1.1.1.1.1.1.1.1.1.1.1
  intro w hw
  have hw2 : w ∈ gtbl := by
    rcases List.mem_cons.mp hw with rfl | q
    · exact hc
    · exact q
  exact ⟨hb w hw2, good_of_word (List.mem_filter.mp hw2).2⟩
theorem mok_facts {M : MI} (h : mokD M) : Cond.code M.yn M.cd M.ml M.rt ∈ gtbl ∧ Cond.initialized M.yn.cls ∈ gtbl ∧ ((inf M).2.2.2.1 = 0 → Cond.static M.yn ∈ gtbl) ∧ ((inf M).2.2.2.1 ≠ 0 → Cond.instanceMethod M.yn ∈ gtbl) ∧ ((inf M).2.2.2.1 = 1 → Cond.selects M.yn.cls M.yn M.yn ∈ gtbl) ∧ plainName M.yn.cls = true ∧ (M.yn.cls ≠ "java/lang/invoke/MethodHandle" ∧ M.yn.cls ≠ "java/lang/invoke/VarHandle" ∧ (parseMethodDescriptor M.yn.desc).map (fun d => d.parameters.length) = some ((inf M).2.2.1 - (if (inf M).2.2.2.1 = 0 then 0 else 1))) ∧ M.ml ≤ 40 ∧ cn M.1 = M.yn.cls ∧ ((inf M).2.2.2.1 = 2 → M.yn.name = "<init>") ∧ ((inf M).2.2.2.1 ≠ 0 → M.1 < 12 ∧ 1 ≤ (inf M).2.2.1) ∧ (inf M).2.1 = (match M.rt with | none => 0 | some .int => 1 | some .long => 2 | some .boolean => 3 | _ => 9) := by
  obtain ⟨i1, i2, i3, i4, h⟩ := h
  unfold mokB at h
  simp only [Bool.and_eq_true] at h
  obtain ⟨⟨⟨⟨⟨⟨⟨⟨⟨⟨⟨⟨⟨g1, g2⟩, g3⟩, g4⟩, g5⟩, g6⟩, g7⟩, g8⟩, g9⟩, g10⟩, g11⟩, g12⟩, g13⟩, g14⟩ := h
  refine ⟨gat_mem g1, gat_mem g2, fun e => ?_, fun e => ?_, fun e => ?_, g5, ⟨of_decide_eq_true g6, of_decide_eq_true g7, of_decide_eq_true g8⟩, of_decide_eq_true g9, of_decide_eq_true g10, of_decide_eq_true g11, of_decide_eq_true g13, of_decide_eq_true g14⟩
  · rw [if_pos e] at g3
    exact gat_mem g3
  · rw [if_neg e] at g3
    exact gat_mem g3
  · rw [if_pos e] at g4
    exact gat_mem g4
theorem mlk_facts {o n : Nat} {N : MI} (h : mlk o n = some N) : mokD N ∧ (Cond.methodLink (cn o) n N.yn ∈ gtbl ∨ Cond.methodLinkNest (cn o) n N.yn "BellRibbons" ∈ nestW) := by
  unfold mlk at h
  obtain ⟨q, hq, hqe⟩ := Option.map_eq_some_iff.mp h
  have h1 := List.find?_some hq
  simp only [Bool.and_eq_true, beq_iff_eq] at h1
  have hm := List.mem_of_find?_eq_some hq
  have h2 := List.all_eq_true.mp mTab_ok q hm
  have h3 := mTab_in q hm
  obtain ⟨a1, a2, a3, a4, a5⟩ := q
  dsimp only at h1 hqe h3
  obtain ⟨rfl, rfl⟩ := h1
  subst hqe
  refine ⟨h3, ?_⟩
  unfold mlkB at h2
  dsimp only at h2
  by_cases e : a4 = 0
  · rw [if_pos e] at h2
    exact Or.inl (gat_mem h2)
  · rw [if_neg e] at h2
    exact Or.inr (List.mem_of_getElem? (of_decide_eq_true h2))
theorem pargs_spec : ∀ (n : Nat) (acc st : List Value) (f : List Value → List Value → Prop), pargs n acc st f → ∃ as r, st = as ++ r ∧ as.length = n ∧ f (as.reverse ++ acc) r
  | 0, acc, st, f, h => ⟨[], st, rfl, rfl, h⟩
  | n + 1, acc, [], f, h => by simp [pargs] at h
  | n + 1, acc, v :: st, f, h => by
    obtain ⟨as, r, h1, h2, h3⟩ := pargs_spec n (v :: acc) st f h
    refine ⟨v :: as, r, by rw [h1]; rfl, by simp [h2], ?_⟩
    simpa using h3
section SND5
variable {G : Gx} {d : Nat} {M : MI} {MC MS : Nat} {p : Program} {e : Env} {R : Room} {s : State} {m : MethodId} {args : Array Value} {below : List Frame} {meth : Method} {c : Code} {Qs : State → Prop} {Qa : Option Value → List Sh → Mem → Prop} {pc : Nat} {loc : XV} {st : List Value} {lay : List Sh} {μ : Mem} {bc bs : Nat}
theorem rep_blind (av : List Value) : FrameBlind (va_Pc (av.map (cv G)) (Rep G lay μ)) := fun a U g mk h => ⟨h.1, h.2.1, h.2.2.1, va_K.moved (u := U) (U := U.calling g mk a) (Vm.Alike.refl U.vm) h.2.2.2.1, XW.same (s := U) (U := U.calling g mk a) rfl h.2.2.2.2⟩
theorem rep_pre {H : Heap} (hB : Bd G d M MC MS p R s m args meth c) (hP : va_P G.D vwCl (wl G lay μ) H) (hz : H.size = G.z + lay.length) (U : State) (hU : U.heap = H) (hW : s.WarmedH U.vm) : Rep G lay μ U := ⟨by rw [hU]; exact hP, by rw [hU]; exact hz, va_K.moved hW.alike hB.K, XW.warm hW hB.xw⟩
/-- behind a call: what came back -/
theorem s_back {N : MI} {as r : List Value} {H : Heap} {locs : List Loc} {cells slots cc ss : Nat} {ls : Array Slot} (hB : Bd G d M MC MS p R s m args meth c) {Q : Option Value → List Sh → Mem → Prop} {a : Array Value} (hrk : (inf N).2.1 = 0 ∨ (inf N).2.1 = 1 ∨ (inf N).2.1 = 2 ∨ (inf N).2.1 = 3)
    (hr : va_Run p G.1 e R s m args below meth c H locs cells slots cc ss (F0 m pc ls as) (r.map (cv G)) (KQ G (inf N).2.1 Q a) (fun q => G.z ≤ q)) (hS : va_S (fun q => G.z ≤ q) s.heap H locs)
    (kk : ∀ (v : Option Value) (lay' : List Sh) (μ' : Mem) (H1 : Heap) (locs1 : List Loc), Q v lay' μ' → va_P G.D vwCl (wl G lay' μ') H1 → H1.size = G.z + lay'.length → va_S (fun q => G.z ≤ q) s.heap H1 locs1 → W p G.1 e R s m args below meth c H1 locs1 (cells + cc) (slots + ss) Qs (F0 m (pc + 3) ls ((pushv v r).map (cv G)))) : W p G.1 e R s m args below meth c H locs cells slots Qs (F0 m pc ls as) := by
  rcases hrk with h | h | h | h
  · rw [h] at hr
    exact va_callv (a := a) hr hS (fun q _ hq => hq) (fun q hq => hq) (fun u t H1 locs1 ht _ hq hb _ _ hs1 => by
      have := kk none u.1 u.2 H1 locs1 hq (by rw [← ht]; exact hb.1) (by rw [← ht]; exact hb.2.1) hs1
      exact this)
  · rw [h] at hr
    exact va_calli (a := a) hr hS (fun q _ hq => hq) (fun q hq => hq) (fun v u t H1 locs1 ht _ hq hb _ _ hs1 => by
      have := kk (some (.int v)) u.1 u.2 H1 locs1 hq (by rw [← ht]; exact hb.1) (by rw [← ht]; exact hb.2.1) hs1
      exact this)
  · rw [h] at hr
    exact va_calll (a := a) hr hS (fun q _ hq => hq) (fun q hq => hq) (fun v u t H1 locs1 ht _ hq hb _ _ hs1 => by
      have := kk (some (.long v)) u.1 u.2 H1 locs1 hq (by rw [← ht]; exact hb.1) (by rw [← ht]; exact hb.2.1) hs1
      exact this)
  · rw [h] at hr
    exact va_calli (a := a) hr hS (fun q _ hq => hq) (fun q hq => hq) (fun v u t H1 locs1 ht _ hq hb _ _ hs1 => by
      have := kk (some (.int v)) u.1 u.2 H1 locs1 hq (by rw [← ht]; exact hb.1) (by rw [← ht]; exact hb.2.1) hs1
      exact this)
theorem rk_cases {N : MI} (h : (inf N).2.1 = (match N.rt with | none => 0 | some .int => 1 | some .long => 2 | some .boolean => 3 | _ => 9)) (h9 : (inf N).2.1 ≠ 9) : (inf N).2.1 = 0 ∨ (inf N).2.1 = 1 ∨ (inf N).2.1 = 2 ∨ (inf N).2.1 = 3 := by
  revert h
  split <;> intro h <;> omega
theorem mTab_rk : mTab.all (fun q => (inf q.2.2.1).2.1 != 9) = true := by decide +kernel
theorem mlk_rk {o n : Nat} {N : MI} (h : mlk o n = some N) : (inf N).2.1 ≠ 9 := by
  unfold mlk at h
  obtain ⟨q, hq, hqe⟩ := Option.map_eq_some_iff.mp h
  have h2 := List.all_eq_true.mp mTab_rk q (List.mem_of_find?_eq_some hq)
  rw [← hqe]
  simpa using h2
theorem s_vstatic (hB : Bd G d M MC MS p R s m args meth c) {n : Nat} (hd : decode M.cd pc = .ok (.invokestatic n, 3)) {N : MI} (hN : mlk M.1 n = some N) (h0 : (inf N).2.2.2.1 = 0) (hd0 : 0 < d) (h : pargs (inf N).2.2.1 [] st (fun av r => szs r ≤ 8 ∧ KC G (d - 1) N av lay μ bc bs (fun w lay' μ' bc' bs' => VZ G M MC MS p e R s m args below meth c Qs (pc + 3) loc (pushv w r) lay' μ' bc' bs'))) : VZ G M MC MS p e R s m args below meth c Qs pc loc st lay μ bc bs := by
  obtain ⟨as, r, rfl, hlen, hsz, cc, ss, hcc, hss, hK⟩ := pargs_spec _ _ _ _ h
  obtain ⟨hmok, hlink⟩ := mlk_facts hN
  obtain ⟨m1, m2, m3, m4, m5, m6, m7, m8, m9, m10, m11, m12⟩ := mok_facts hmok
  obtain ⟨hx, hb, hml, hown, hts, -, -, -, -, -, hfr, hlo, hRc, hRs, -⟩ := id hB
  intro H locs cells slots ls hl hP hz hS hc hs
  have hstk : ((as ++ r).map (cv G)) = ((as.reverse ++ []).map (cv G)).reverse ++ r.map (cv G) := by simp
  have hn : ((as.reverse ++ []).map (cv G)).length = (inf N).2.2.1 - (if (inf N).2.2.2.1 = 0 then 0 else 1) := by simp [hlen, h0]
  refine s_back (N := N) (a := ((as.reverse ++ []).map (cv G)).toArray) hB (rk_cases m12 (mlk_rk hN)) (Q := fun v lay' μ' => VZ G M MC MS p e R s m args below meth c Qs (pc + 3) loc (pushv v r) lay' μ' (bc - cc) (bs - ss)) ?_ hS (fun v lay' μ' H1 locs1 hv hP1 hz1 hS1 => hv H1 locs1 (cells + cc) (slots + ss) ls hl hP1 hz1 hS1 (by omega) (by omega))
  rcases hlink with hlink | hlink
  · exact va_runS (H := H) (locs := locs) (cells := cells) (slots := slots) (mc := cc) (ms := ss) (As := (as.reverse ++ []).map (cv G)) (Ts := gtbl) (own := cn M.1) (index := n) ⟨hx, hb, hml, hB.own, hts⟩ hK ⟨callB_of (R := R) _ hts (gtbl_good hmok (fun _ q => q)) rfl rfl rfl (hts _ m2) (hts _ hlink) m7 ⟨by show d - 1 + 1 ≤ _; omega, by show 8 + (N.ml + 11) + 64 * (d - 1) ≤ _; omega⟩, hts _ (m3 h0)⟩ ⟨rep_blind _, fun U hU hW => ⟨rfl, rep_pre hB hP hz U hU hW⟩⟩ rfl hn hl.1.1 hstk (lv_room (by rw [szs_cv]; exact hsz)) hd ⟨by omega, by omega⟩
  · exact va_runSN (H := H) (locs := locs) (cells := cells) (slots := slots) (mc := cc) (ms := ss) (As := (as.reverse ++ []).map (cv G)) (Ts := gtbl) (own := cn M.1) (index := n) ⟨hx, hb, hml, hB.own, hts⟩ hK ⟨va_cnB (R := R) _ hts (gtbl_good hmok (fun _ q => q)) rfl rfl rfl (hB.xw.1 _ hlink) (hts _ m2) m7 ⟨by show d - 1 + 1 ≤ _; omega, by show 8 + (N.ml + 11) + 64 * (d - 1) ≤ _; omega⟩, hts _ (m3 h0), trivial⟩ ⟨rep_blind _, fun U hU hW => ⟨rfl, rep_pre hB hP hz U hU hW⟩⟩ rfl hn hl.1.1 hstk (lv_room (by rw [szs_cv]; exact hsz)) hd ⟨by omega, by omega⟩
theorem rcv_spec {o : Nat} {av : List Value} (h : rcv lay o av) : ∃ a r sh, av = .ref a :: r ∧ lay[a]? = some sh ∧ sh.1 = o + 6 := by
  unfold rcv at h
  split at h
  · rename_i a r
    split at h
    · rename_i sh hsh
      exact ⟨a, r, sh, rfl, hsh, h⟩
    · exact h.elim
  · exact h.elim
theorem s_virtual (hB : Bd G d M MC MS p R s m args meth c) {n : Nat} (hd : decode M.cd pc = .ok (.invokevirtual n, 3)) {N : MI} (hN : mlk M.1 n = some N) (h0 : (inf N).2.2.2.1 = 1) (hd0 : 0 < d) (h : pargs (inf N).2.2.1 [] st (fun av r => szs r ≤ 8 ∧ rcv lay (inf N).1 av ∧ KC G (d - 1) N av lay μ bc bs (fun w lay' μ' bc' bs' => VZ G M MC MS p e R s m args below meth c Qs (pc + 3) loc (pushv w r) lay' μ' bc' bs'))) : VZ G M MC MS p e R s m args below meth c Qs pc loc st lay μ bc bs := by
  obtain ⟨as, r, rfl, hlen, hsz, hrc, cc, ss, hcc, hss, hK⟩ := pargs_spec _ _ _ _ h
  obtain ⟨a, av, sh, hav, hsh, hsk⟩ := rcv_spec hrc
  obtain ⟨hmok, hlink⟩ := mlk_facts hN
  obtain ⟨m1, m2, m3, m4, m5, m6, m7, m8, m9, m10, m11, m12⟩ := mok_facts hmok
  obtain ⟨hx, hb, hml, hown, hts, -, -, -, -, -, hfr, hlo, hRc, hRs, -⟩ := id hB
  intro H locs cells slots ls hl hP hz hS hc hs
  have has : as = av.reverse ++ [.ref a] := by
    have := congrArg List.reverse hav
    simpa using this
  have hstk : ((as ++ r).map (cv G)) = (av.map (cv G)).reverse ++ Value.ref (G.z + a) :: r.map (cv G) := by rw [has]; simp [cv]
  have hn : (av.map (cv G)).length = (inf N).2.2.1 - (if (inf N).2.2.2.1 = 0 then 0 else 1) := by
    have : as.length = av.length + 1 := by rw [has]; simp
    rw [List.length_map]
    split <;> omega
  rw [hav] at hK
  have hci := (m11 (by omega)).1
  have hcls : (cn (inf N).1) = N.yn.cls := m9
  have he := wl_get (G := G) (μ := μ) hsh
  rw [ent_obj hsk] at he
  have hrec := va_recv hB.K hP (vwCl_at (inf N).1 hci) he
  dsimp only at hrec
  rw [hcls] at hrec
  refine s_back (N := N) (a := (Value.ref (G.z + a) :: av.map (cv G)).toArray) hB (rk_cases m12 (mlk_rk hN)) (Q := fun v lay' μ' => VZ G M MC MS p e R s m args below meth c Qs (pc + 3) loc (pushv v r) lay' μ' (bc - cc) (bs - ss)) ?_ hS (fun v lay' μ' H1 locs1 hv hP1 hz1 hS1 => hv H1 locs1 (cells + cc) (slots + ss) ls hl hP1 hz1 hS1 (by omega) (by omega))
  rcases hlink with hlink | hlink
  · exact va_runV (As := av.map (cv G)) (b := G.z + a) (C := N.yn.cls) (Ts := gtbl) (own := cn M.1) (index := n) ⟨hx, hb, hml, hB.own, hts⟩ hK ⟨callB_of (R := R) _ hts (gtbl_good hmok (fun _ q => q)) rfl rfl rfl (hts _ m2) (hts _ hlink) m7 ⟨by show d - 1 + 1 ≤ _; omega, by show 8 + (N.ml + 11) + 64 * (d - 1) ≤ _; omega⟩, hts _ (m4 (by omega)), hts _ (m5 h0)⟩ ⟨rep_blind _, hrec, fun U hU hW => ⟨rfl, rep_pre hB hP hz U hU hW⟩⟩ rfl hn hl.1.1 hstk (lv_room (by rw [szs_cv]; exact hsz)) hd ⟨by omega, by omega⟩
  · exact va_runVN (As := av.map (cv G)) (b := G.z + a) (C := N.yn.cls) (Ts := gtbl) (own := cn M.1) (index := n) ⟨hx, hb, hml, hB.own, hts⟩ hK ⟨va_cnB (R := R) _ hts (gtbl_good hmok (fun _ q => q)) rfl rfl rfl (hB.xw.1 _ hlink) (hts _ m2) m7 ⟨by show d - 1 + 1 ≤ _; omega, by show 8 + (N.ml + 11) + 64 * (d - 1) ≤ _; omega⟩, hts _ (m4 (by omega)), hts _ (m5 h0)⟩ ⟨rep_blind _, hrec, fun U hU hW => ⟨rfl, rep_pre hB hP hz U hU hW⟩⟩ rfl hn hl.1.1 hstk (lv_room (by rw [szs_cv]; exact hsz)) hd ⟨by omega, by omega⟩
theorem mTab_init : mTab.all (fun q => (inf q.2.2.1).2.2.2.1 != 2 || q.2.2.1.rt == none) = true := by decide +kernel
theorem mlk_init {o n : Nat} {N : MI} (h : mlk o n = some N) (h2 : (inf N).2.2.2.1 = 2) : N.rt = none := by
  unfold mlk at h
  obtain ⟨q, hq, hqe⟩ := Option.map_eq_some_iff.mp h
  have h3 := List.all_eq_true.mp mTab_init q (List.mem_of_find?_eq_some hq)
  rw [hqe] at h3
  simpa [h2] using h3
theorem s_special (hB : Bd G d M MC MS p R s m args meth c) {n : Nat} (hd : decode M.cd pc = .ok (.invokespecial n, 3)) {N : MI} (hN : mlk M.1 n = some N) (h0 : (inf N).2.2.2.1 = 2) (hd0 : 0 < d) (h : pargs (inf N).2.2.1 [] st (fun av r => szs r ≤ 8 ∧ rcv lay (inf N).1 av ∧ KC G (d - 1) N av lay μ bc bs (fun w lay' μ' bc' bs' => VZ G M MC MS p e R s m args below meth c Qs (pc + 3) loc (pushv w r) lay' μ' bc' bs'))) : VZ G M MC MS p e R s m args below meth c Qs pc loc st lay μ bc bs := by
  obtain ⟨as, r, rfl, hlen, hsz, hrc, cc, ss, hcc, hss, hK⟩ := pargs_spec _ _ _ _ h
  obtain ⟨a, av, sh, hav, hsh, hsk⟩ := rcv_spec hrc
  obtain ⟨hmok, hlink⟩ := mlk_facts hN
  obtain ⟨m1, m2, m3, m4, m5, m6, m7, m8, m9, m10, m11, m12⟩ := mok_facts hmok
  obtain ⟨hx, hb, hml, hown, hts, -, -, -, -, -, hfr, hlo, hRc, hRs, -⟩ := id hB
  intro H locs cells slots ls hl hP hz hS hc hs
  have has : as = av.reverse ++ [.ref a] := by
    have := congrArg List.reverse hav
    simpa using this
  have hstk : ((as ++ r).map (cv G)) = (av.map (cv G)).reverse ++ Value.ref (G.z + a) :: r.map (cv G) := by rw [has]; simp [cv]
  have hn : (av.map (cv G)).length = (inf N).2.2.1 - (if (inf N).2.2.2.1 = 0 then 0 else 1) := by
    have : as.length = av.length + 1 := by rw [has]; simp
    rw [List.length_map]
    split <;> omega
  rw [hav] at hK
  have hrt := mlk_init hN h0
  unfold Kx at hK
  have hgood := gtbl_good hmok (big := gtbl) (fun _ q => q)
  rw [hrt] at hK hgood
  refine s_back (N := N) (a := (Value.ref (G.z + a) :: av.map (cv G)).toArray) hB (rk_cases m12 (mlk_rk hN)) (Q := fun v lay' μ' => VZ G M MC MS p e R s m args below meth c Qs (pc + 3) loc (pushv v r) lay' μ' (bc - cc) (bs - ss)) ?_ hS (fun v lay' μ' H1 locs1 hv hP1 hz1 hS1 => hv H1 locs1 (cells + cc) (slots + ss) ls hl hP1 hz1 hS1 (by omega) (by omega))
  rcases hlink with hlink | hlink
  · exact va_runI (As := av.map (cv G)) (b := G.z + a) (Ts := gtbl) (own := cn M.1) (index := n) ⟨hx, hb, hml, hB.own, hts⟩ hK ⟨callB_of (R := R) _ hts hgood rfl rfl rfl (hts _ m2) (hts _ hlink) m7 ⟨by show d - 1 + 1 ≤ _; omega, by show 8 + (N.ml + 11) + 64 * (d - 1) ≤ _; omega⟩, m10 h0, hts _ (m4 (by omega))⟩ ⟨rep_blind _, fun U hU hW => ⟨rfl, rep_pre hB hP hz U hU hW⟩⟩ rfl hn hl.1.1 hstk (lv_room (by rw [szs_cv]; exact hsz)) hd ⟨by omega, by omega⟩
  · exact va_runIN (As := av.map (cv G)) (b := G.z + a) (Ts := gtbl) (own := cn M.1) (index := n) ⟨hx, hb, hml, hB.own, hts⟩ hK ⟨va_cnB (R := R) _ hts hgood rfl rfl rfl (hB.xw.1 _ hlink) (hts _ m2) m7 ⟨by show d - 1 + 1 ≤ _; omega, by show 8 + (N.ml + 11) + 64 * (d - 1) ≤ _; omega⟩, m10 h0, hts _ (m4 (by omega))⟩ ⟨rep_blind _, fun U hU hW => ⟨rfl, rep_pre hB hP hz U hU hW⟩⟩ rfl hn hl.1.1 hstk (lv_room (by rw [szs_cv]; exact hsz)) hd ⟨by omega, by omega⟩
end SND5
