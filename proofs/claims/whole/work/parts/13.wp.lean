section SND7
variable {G : Gx} {d : Nat} {M : MI} {MC MS : Nat} {p : Program} {e : Env} {R : Room} {s : State} {m : MethodId} {args : Array Value} {below : List Frame} {meth : Method} {c : Code} {Qs : State → Prop} {Qa : Option Value → List Sh → Mem → Prop}
set_option maxHeartbeats 4000000 in
/-- AN INSTRUCTION IS SOUND -/
theorem ex_sound (hB : Bd G d M MC MS p R s m args meth c) (hR : RetOK G M MC MS p e R s m args below meth c Qs Qa) (hin2 : (inf M).2.2.2.1 = 2 → meth.name = "<init>") {pc : Nat} {loc : XV} {st : List Value} {lay : List Sh} {μ : Mem} {bc bs : Nat} {i : Instr} {len t : Nat} {v : Int32} (hdc : dcd M pc = some (i, len, t, v))
    (h : exec1 G d M Qa i len t v pc loc st lay μ bc bs (VZ G M MC MS p e R s m args below meth c Qs)) : VZ G M MC MS p e R s m args below meth c Qs pc loc st lay μ bc bs := by
  unfold dcd at hdc
  split at hdc
  · rename_i i0 len0 hd
    split at hdc
    · rename_i htok
      simp only [Option.some.injEq, Prod.mk.injEq] at hdc
      obtain ⟨rfl, rfl, rfl, rfl⟩ := hdc
      obtain ⟨htk, hl⟩ := (Bool.and_eq_true _ _).mp htok
      rw [Bool.or_eq_true, beq_iff_eq, beq_iff_eq] at hl
      cases i0 <;> simp only [nrm, exec1, tgo, cvl] at h <;> first
        | exact h.elim
        | skip
      all_goals first
        | (have hl2 := hl.resolve_left (Nat.succ_ne_zero _); have hl3 := hl2.symm; dsimp only [lenOf] at hl3; subst hl3)
        | skip
      all_goals first
        | exact s_iadd hB hd h | exact s_isub hB hd h | exact s_imul hB hd h | exact s_idiv hB hd h | exact s_irem hB hd h | exact s_ineg hB hd h | exact s_ishl hB hd h | exact s_ishr hB hd h | exact s_iushr hB hd h | exact s_iand hB hd h | exact s_ior hB hd h | exact s_ixor hB hd h
        | exact s_ladd hB hd h | exact s_lmul hB hd h | exact s_lor hB hd h | exact s_land hB hd h | exact s_lcmp hB hd h | exact s_lshl hB hd h | exact s_lshr hB hd h | exact s_i2l hB hd h | exact s_i2b hB hd h
        | exact s_iload hB hd h | exact s_iload_n hB hd h | exact s_lload hB hd h | exact s_lload_n hB hd h | exact s_aload hB hd h | exact s_aload_n hB hd h
        | exact s_istore hB hd h | exact s_istore_n hB hd h | exact s_lstore hB hd h | exact s_lstore_n hB hd h | exact s_astore hB hd h | exact s_astore_n hB hd h | exact s_iinc hB hd h
        | exact s_iconst hB hd h | exact s_bipush hB hd h | exact s_sipush hB hd h | exact s_lconst hB hd h | exact s_ldc hB hd h | exact s_ldc_w hB hd h | exact s_ldc2 hB hd h
        | exact s_dup hB hd h | exact s_dup2 hB hd h | exact s_pop hB hd h
        | exact s_goto hB (of_decide_eq_true htk) hd h | exact s_icmp hB (of_decide_eq_true htk) hd h | exact s_if hB (of_decide_eq_true htk) hd h | exact s_ifnull hB (of_decide_eq_true htk) hd h | exact s_ifnonnull hB (of_decide_eq_true htk) hd h
        | exact s_tsw hB htk hd h | exact s_lsw hB htk hd h
        | exact s_getfield hB hd h | exact s_putfield hB hd hin2 h
        | exact s_iaload hB hd h | exact s_baload hB hd h | exact s_laload hB hd h | exact s_aaload hB hd h | exact s_alen hB hd h
        | exact s_iastore hB hd h | exact s_bastore hB hd h | exact s_lastore hB hd h | exact s_aastore hB hd h
        | exact s_new hB hd h | exact s_newarray hB hd h | exact s_anewarray hB hd h | exact s_mna hB hd h
        | skip
      · -- invokespecial
        split at h
        · rename_i hj
          exact s_oinit hB hd hj h
        · exact h.elim
        · split at h
          · rename_i N hN
            exact s_special hB hd hN h.1 h.2.1 h.2.2
          · exact h.elim
      · -- invokestatic
        split at h
        · rename_i hj
          exact s_max hB hd hj h
        · rename_i hj
          exact s_min hB hd hj h
        · rename_i hj
          exact s_abs hB hd hj h
        · rename_i hj
          exact s_copy hB hd hj h
        · exact h.elim
        · split at h
          · rename_i N hN
            exact s_vstatic hB hd hN h.1 h.2.1 h.2.2
          · exact h.elim
      · -- invokevirtual
        split at h
        · rename_i N hN
          exact s_virtual hB hd hN h.1 h.2.1 h.2.2
        · exact h.elim
      · -- ireturn
        split at h
        · rename_i x
          intro H locs cells slots ls hl hP hz hS hc hs
          exact hR (some (.int x)) lay μ H locs cells slots ls pc h.2 ⟨hd, h.1⟩ hP hz hS (by omega) (by omega)
        · exact h.elim
      · -- lreturn
        split at h
        · rename_i x
          intro H locs cells slots ls hl hP hz hS hc hs
          exact hR (some (.long x)) lay μ H locs cells slots ls pc h.2 ⟨hd, h.1⟩ hP hz hS (by omega) (by omega)
        · exact h.elim
      · -- return
        split at h
        · intro H locs cells slots ls hl hP hz hS hc hs
          exact hR none lay μ H locs cells slots ls pc h.2 ⟨hd, h.1⟩ hP hz hS (by omega) (by omega)
        · exact h.elim
    · cases hdc
  · cases hdc
end SND7
