section STP2
variable {G : Gx} {d v : Nat} {μ : Mem} {bc bs : Nat} {LR : Mem → Prop}
theorem both_seen (hLR : ∀ μ μ', LawEq μ μ' → LR μ → LR μ') (hd : 3 ≤ d) {r n : Int32} (hn01 : n = 0 ∨ n = 1) (hI : Inv LR μ) : Both G d LR mX10_seen mX11_seen [.int r, .int n] v μ bc bs := by
  obtain ⟨i1, i2, i3, i4, i5⟩ := id hI
  obtain ⟨nr, nb, q1, q2, q3, q4, q5⟩ := id i1
  obtain ⟨⟨n1, n2, n3⟩, -⟩ := id q5
  have hsame : 0 ≤ r ∧ r < nI nr → gi μ 149 r.toNatClampNeg = gi μ 7 r.toNatClampNeg := fun c => by
    obtain ⟨k, hk, rfl⟩ := ofN c.1
    have hkn : k < nr := (nI_ltI (by omega) (by omega)).mp c.2
    rw [nI_clamp (by omega)]
    exact (q5.2.2.2.2.1 3 (by omega) k hkn).symm
  refine k_seen (by omega) hn01 q1 n2 (fun c c2 => k_mSeen (by omega) hn01 (by simp (disch := omega) only [gi_si_a]; exact q2) n1 n2 (fun _ _ => ⟨rfl, v, rfl, ?_, rfl, rfl⟩) (fun q => absurd ⟨c, by simp (disch := omega) only [gi_si_a]; rw [hsame c]; exact c2⟩ q)) (fun c => k_mSeen (by omega) hn01 q2 n1 n2 (fun a b => absurd ⟨a, by rw [← hsame a]; exact b⟩ c) (fun _ => ⟨rfl, v, rfl, hI, rfl, rfl⟩))
  obtain ⟨k, hk, rfl⟩ := ofN c.1
  have hkn : k < nr := (nI_ltI (by omega) (by omega)).mp c.2
  rw [nI_clamp (by omega)]
  refine ⟨⟨nr, nb, ?_, ?_, ?_, ?_, q5.rodU hkn (Or.inl rfl) (k := k) ?_ ?_ ?_ ?_ ?_⟩, i2.cong ?_ ?_ ?_ ?_, i3.cong ?_ ?_ ?_ ?_, i4.cong ?_ ?_ ?_ ?_ ?_, hLR _ _ ⟨?_, ?_, ?_, ?_, ?_⟩ i5⟩
  case refine_5 => intro f hf j h; rcases h with h | h <;> simp (disch := omega) only [gi_si_a, gi_si_k]
  case refine_6 => intro f hf j h; rcases h with h | h <;> simp (disch := omega) only [gi_si_a, gi_si_k]
  case refine_7 =>
    have h9 := q5.2.1 k hkn
    unfold RodOK at h9 ⊢
    simp (disch := omega) only [Nat.reduceAdd, gi_si, gi_si_a, gi_si_k] at h9 ⊢
    exact h9
  case refine_8 =>
    have h9 := q5.2.2.2.1.1 k (by omega)
    simp (disch := omega) only [Nat.reduceAdd, gi_si, gi_si_a, gi_si_k] at h9 ⊢
    exact ⟨hn01, h9.2⟩
  case refine_9 =>
    intro f hf
    have h9 := q5.2.2.2.2.1 f hf k hkn
    by_cases e : f = 3
    · subst e
      simp (disch := omega) only [Nat.reduceAdd, gi_si, gi_si_a, gi_si_k]
    · simp (disch := omega) only [gi_si, gi_si_a, gi_si_k]
      exact h9
  all_goals intros
  all_goals (simp (disch := omega) only [gi_si, gi_si_a, gi_si_k]; try assumption)
theorem both_wet (hLR : ∀ μ μ', LawEq μ μ' → LR μ → LR μ') (hd : 3 ≤ d) {r n : Int32} (hn01 : n = 0 ∨ n = 1) (hI : Inv LR μ) : Both G d LR mX10_wet mX11_wet [.int r, .int n] v μ bc bs := by
  obtain ⟨i1, i2, i3, i4, i5⟩ := id hI
  obtain ⟨nr, nb, q1, q2, q3, q4, q5⟩ := id i1
  obtain ⟨⟨n1, n2, n3⟩, -⟩ := id q5
  have hsame : 0 ≤ r ∧ r < nI nr → gi μ 150 r.toNatClampNeg = gi μ 8 r.toNatClampNeg := fun c => by
    obtain ⟨k, hk, rfl⟩ := ofN c.1
    have hkn : k < nr := (nI_ltI (by omega) (by omega)).mp c.2
    rw [nI_clamp (by omega)]
    exact (q5.2.2.2.2.1 4 (by omega) k hkn).symm
  refine k_wet (by omega) hn01 q1 n2 (fun c c2 => k_mWet (by omega) hn01 (by simp (disch := omega) only [gi_si_a]; exact q2) n1 n2 (fun _ _ => ⟨rfl, v, rfl, ?_, rfl, rfl⟩) (fun q => absurd ⟨c, by simp (disch := omega) only [gi_si_a]; rw [hsame c]; exact c2⟩ q)) (fun c => k_mWet (by omega) hn01 q2 n1 n2 (fun a b => absurd ⟨a, by rw [← hsame a]; exact b⟩ c) (fun _ => ⟨rfl, v, rfl, hI, rfl, rfl⟩))
  obtain ⟨k, hk, rfl⟩ := ofN c.1
  have hkn : k < nr := (nI_ltI (by omega) (by omega)).mp c.2
  rw [nI_clamp (by omega)]
  refine ⟨⟨nr, nb, ?_, ?_, ?_, ?_, q5.rodU hkn (Or.inl rfl) (k := k) ?_ ?_ ?_ ?_ ?_⟩, i2.cong ?_ ?_ ?_ ?_, i3.cong ?_ ?_ ?_ ?_, i4.cong ?_ ?_ ?_ ?_ ?_, hLR _ _ ⟨?_, ?_, ?_, ?_, ?_⟩ i5⟩
  case refine_5 => intro f hf j h; rcases h with h | h <;> simp (disch := omega) only [gi_si_a, gi_si_k]
  case refine_6 => intro f hf j h; rcases h with h | h <;> simp (disch := omega) only [gi_si_a, gi_si_k]
  case refine_7 =>
    have h9 := q5.2.1 k hkn
    unfold RodOK at h9 ⊢
    simp (disch := omega) only [Nat.reduceAdd, gi_si, gi_si_a, gi_si_k] at h9 ⊢
    exact h9
  case refine_8 =>
    have h9 := q5.2.2.2.1.1 k (by omega)
    simp (disch := omega) only [Nat.reduceAdd, gi_si, gi_si_a, gi_si_k] at h9 ⊢
    exact ⟨h9.1, hn01⟩
  case refine_9 =>
    intro f hf
    have h9 := q5.2.2.2.2.1 f hf k hkn
    by_cases e : f = 4
    · subst e
      simp (disch := omega) only [Nat.reduceAdd, gi_si, gi_si_a, gi_si_k]
    · simp (disch := omega) only [gi_si, gi_si_a, gi_si_k]
      exact h9
  all_goals intros
  all_goals (simp (disch := omega) only [gi_si, gi_si_a, gi_si_k]; try assumption)
theorem both_rod (hLR : ∀ μ μ', LawEq μ μ' → LR μ → LR μ') (hd : 3 ≤ d) {on arm : Int32} (hI : Inv LR μ) : Both G d LR mX10_rod mX11_rod [.int on, .int arm] v μ bc bs := by
  obtain ⟨i1, i2, i3, i4, i5⟩ := id hI
  obtain ⟨nr, nb, q1, q2, q3, q4, q5⟩ := id i1
  obtain ⟨⟨n1, n2, n3⟩, -⟩ := id q5
  refine k_rod (by omega) q1 n2 (fun c c2 c3 => k_mRod (by omega) (by unfold mAddRod; simp (disch := omega) only [gi_si_a]; exact q2) n1 n2 (fun _ _ _ => ⟨rfl, v, rfl, ?_, rfl, rfl⟩) (fun q => absurd ⟨c, c2, c3⟩ q)) (fun c => k_mRod (by omega) q2 n1 n2 (fun a b e => absurd ⟨a, b, e⟩ c) (fun _ => ⟨rfl, v, rfl, hI, rfl, rfl⟩))
  unfold nAddRod mAddRod
  refine ⟨⟨nr + 1, nb, ?_, ?_, ?_, ?_, q5.rodU (k := nr) (by omega) (Or.inr ⟨rfl, rfl, c3⟩) ?_ ?_ ?_ ?_ ?_⟩, i2.cong ?_ ?_ ?_ ?_, i3.cong ?_ ?_ ?_ ?_, i4.cong ?_ ?_ ?_ ?_ ?_, hLR _ _ ⟨?_, ?_, ?_, ?_, ?_⟩ i5⟩
  case refine_5 => intro f hf j h; rcases h with h | h <;> simp (disch := omega) only [gi_si_a, gi_si_k]
  case refine_6 => intro f hf j h; rcases h with h | h <;> simp (disch := omega) only [gi_si_a, gi_si_k]
  case refine_7 =>
    unfold RodOK
    simp (disch := omega) only [Nat.reduceAdd, gi_si, gi_si_a, gi_si_k]
    simp only [i_le] at c2
    obtain ⟨k, hk, rfl⟩ := ofN c.1
    exact ⟨fun q => absurd q (by omega), fun _ => ⟨k, (nI_ltI (by omega) (by omega)).mp c.2, rfl⟩, c2, by decide⟩
  case refine_8 =>
    simp (disch := omega) only [Nat.reduceAdd, gi_si, gi_si_a, gi_si_k]
    exact ⟨Or.inr trivial, Or.inl trivial⟩
  case refine_9 =>
    intro f hf
    obtain rfl | rfl | rfl | rfl | rfl : f = 0 ∨ f = 1 ∨ f = 2 ∨ f = 3 ∨ f = 4 := by omega
    all_goals simp (disch := omega) only [Nat.reduceAdd, gi_si, gi_si_a, gi_si_k]
  all_goals intros
  all_goals (simp (disch := omega) only [gi_si, gi_si_a, gi_si_k]; try assumption)
theorem both_white (hLR : ∀ μ μ', LawEq μ μ' → LR μ → LR μ') (hd : 4 ≤ d) {r a l o : Int32} (hI : Inv LR μ) : Both G d LR mX10_white mX11_white [.int r, .int a, .int l, .int o] v μ bc bs := by
  obtain ⟨i1, i2, i3, i4, i5⟩ := id hI
  obtain ⟨nr, nb, q1, q2, q3, q4, q5⟩ := id i1
  obtain ⟨⟨n1, n2, n3⟩, -⟩ := id q5
  refine k_white (by omega) q1 q3 n3 (fun c => k_mWhite (by omega) (by unfold mAddRib; simp (disch := omega) only [gi_si_a]; exact q2) n1 n2 (by unfold mAddRib; simp (disch := omega) only [gi_si_a]; exact q4) n3 (fun _ => ⟨rfl, v, rfl, ?_, rfl, rfl⟩) (fun q => absurd c q)) (fun c => k_mWhite (by omega) q2 n1 n2 q4 n3 (fun q => absurd q c) (fun _ => ⟨rfl, v, rfl, hI, rfl, rfl⟩))
  unfold nAddRib mAddRib
  refine ⟨⟨nr, nb + 1, ?_, ?_, ?_, ?_, q5.ribU (k := nb) (by omega) (Or.inr ⟨rfl, rfl, c.2.2.2.2⟩) ?_ ?_ ?_ ?_ ?_⟩, i2.cong ?_ ?_ ?_ ?_, i3.cong ?_ ?_ ?_ ?_, i4.cong ?_ ?_ ?_ ?_ ?_, hLR _ _ ⟨?_, ?_, ?_, ?_, ?_⟩ i5⟩
  case refine_5 => intro f hf j h; rcases h with h | h <;> simp (disch := omega) only [gi_si_a, gi_si_k]
  case refine_6 => intro f hf j h; rcases h with h | h <;> simp (disch := omega) only [gi_si_a, gi_si_k]
  case refine_7 =>
    unfold RibOK
    simp (disch := omega) only [Nat.reduceAdd, gi_si, gi_si_a, gi_si_k]
    obtain ⟨c1, c2, c3, c4, c5⟩ := c
    obtain ⟨k, hk, rfl⟩ := ofN c1.1
    obtain ⟨l', hl', rfl⟩ := ofN (r := l) (by simp only [i_le] at *; have e : (0 : Int32).toInt = 0 := rfl; have e1 : (1 : Int32).toInt = 1 := rfl; omega)
    obtain ⟨o', ho', rfl⟩ := ofN c4.1
    have hl1 : 1 ≤ l' := (nI_leI (a := 1) (by omega) (by omega)).mp c3.1
    have hl2 : l' ≤ 99 := (nI_leI (b := 99) (by omega) (by omega)).mp c3.2
    have ho1 : o' ≤ 7 := (nI_leI (b := 7) (by omega) (by omega)).mp c4.2
    simp only [i_le] at c2
    exact ⟨⟨k, (nI_ltI (by omega) (by omega)).mp c1.2, rfl⟩, c2, ⟨l', hl2, rfl, fun _ => hl1⟩, ⟨o', by omega, rfl⟩, Or.inl ⟨trivial, trivial⟩⟩
  case refine_8 =>
    simp (disch := omega) only [Nat.reduceAdd, gi_si, gi_si_a, gi_si_k]
    exact Or.inr trivial
  case refine_9 =>
    intro f h5 hf
    obtain rfl | rfl | rfl | rfl | rfl | rfl | rfl : f = 5 ∨ f = 6 ∨ f = 7 ∨ f = 8 ∨ f = 9 ∨ f = 10 ∨ f = 11 := by omega
    all_goals simp (disch := omega) only [Nat.reduceAdd, gi_si, gi_si_a, gi_si_k]
  all_goals intros
  all_goals (simp (disch := omega) only [gi_si, gi_si_a, gi_si_k]; try assumption)
theorem both_red (hLR : ∀ μ μ', LawEq μ μ' → LR μ → LR μ') (hd : 4 ≤ d) {r a l o t : Int32} (hI : Inv LR μ) : Both G d LR mX10_red mX11_red [.int r, .int a, .int l, .int o, .int t] v μ bc bs := by
  obtain ⟨i1, i2, i3, i4, i5⟩ := id hI
  obtain ⟨nr, nb, q1, q2, q3, q4, q5⟩ := id i1
  obtain ⟨⟨n1, n2, n3⟩, -⟩ := id q5
  refine k_red (by omega) q1 q3 n3 (fun c ct => k_mRed (by omega) (by unfold mAddRib; simp (disch := omega) only [gi_si_a]; exact q2) n1 n2 (by unfold mAddRib; simp (disch := omega) only [gi_si_a]; exact q4) n3 (fun _ _ => ⟨rfl, v, rfl, ?_, rfl, rfl⟩) (fun q => absurd ⟨ct.2, c⟩ q)) (fun c => k_mRed (by omega) q2 n1 n2 q4 n3 (fun q z => absurd ⟨z, z.2.2.2.1, q⟩ c) (fun _ => ⟨rfl, v, rfl, hI, rfl, rfl⟩))
  unfold nAddRib mAddRib
  refine ⟨⟨nr, nb + 1, ?_, ?_, ?_, ?_, q5.ribU (k := nb) (by omega) (Or.inr ⟨rfl, rfl, c.2.2.2.2⟩) ?_ ?_ ?_ ?_ ?_⟩, i2.cong ?_ ?_ ?_ ?_, i3.cong ?_ ?_ ?_ ?_, i4.cong ?_ ?_ ?_ ?_ ?_, hLR _ _ ⟨?_, ?_, ?_, ?_, ?_⟩ i5⟩
  case refine_5 => intro f hf j h; rcases h with h | h <;> simp (disch := omega) only [gi_si_a, gi_si_k]
  case refine_6 => intro f hf j h; rcases h with h | h <;> simp (disch := omega) only [gi_si_a, gi_si_k]
  case refine_7 =>
    unfold RibOK
    simp (disch := omega) only [Nat.reduceAdd, gi_si, gi_si_a, gi_si_k]
    obtain ⟨c1, c2, c3, c4, c5⟩ := c
    obtain ⟨k, hk, rfl⟩ := ofN c1.1
    obtain ⟨l', hl', rfl⟩ := ofN (r := l) (by simp only [i_le] at *; have e : (0 : Int32).toInt = 0 := rfl; have e1 : (1 : Int32).toInt = 1 := rfl; omega)
    obtain ⟨o', ho', rfl⟩ := ofN c4.1
    have hl1 : 1 ≤ l' := (nI_leI (a := 1) (by omega) (by omega)).mp c3.1
    have hl2 : l' ≤ 99 := (nI_leI (b := 99) (by omega) (by omega)).mp c3.2
    have ho1 : o' ≤ 7 := (nI_leI (b := 7) (by omega) (by omega)).mp c4.2
    simp only [i_le] at c2
    exact ⟨⟨k, (nI_ltI (by omega) (by omega)).mp c1.2, rfl⟩, c2, ⟨l', hl2, rfl, fun _ => hl1⟩, ⟨o', by omega, rfl⟩, Or.inr ⟨trivial, by
      obtain ⟨-, ct1, ct2⟩ := ct
      obtain ⟨t2, ht2, rfl⟩ := ofN ct1.1
      exact ⟨t2, by have := (nI_leI (b := 7) (by omega) (by omega)).mp ct1.2; omega, rfl, fun q => ct2 q.symm⟩⟩⟩
  case refine_8 =>
    simp (disch := omega) only [Nat.reduceAdd, gi_si, gi_si_a, gi_si_k]
    exact Or.inr trivial
  case refine_9 =>
    intro f h5 hf
    obtain rfl | rfl | rfl | rfl | rfl | rfl | rfl : f = 5 ∨ f = 6 ∨ f = 7 ∨ f = 8 ∨ f = 9 ∨ f = 10 ∨ f = 11 := by omega
    all_goals simp (disch := omega) only [Nat.reduceAdd, gi_si, gi_si_a, gi_si_k]
  all_goals intros
  all_goals (simp (disch := omega) only [gi_si, gi_si_a, gi_si_k]; try assumption)
theorem both_move (hLR : ∀ μ μ', LawEq μ μ' → LR μ → LR μ') (hd : 4 ≤ d) {i r a : Int32} (hI : Inv LR μ) : Both G d LR mX10_move mX11_move [.int i, .int r, .int a] v μ bc bs := by
  obtain ⟨i1, i2, i3, i4, i5⟩ := id hI
  obtain ⟨nr, nb, q1, q2, q3, q4, q5⟩ := id i1
  obtain ⟨⟨n1, n2, n3⟩, -⟩ := id q5
  have hsame : 0 ≤ i ∧ i < nI nb → gi μ 157 i.toNatClampNeg = gi μ 15 i.toNatClampNeg := fun c => by
    obtain ⟨k, hk, rfl⟩ := ofN c.1
    have hkn : k < nb := (nI_ltI (by omega) (by omega)).mp c.2
    rw [nI_clamp (by omega)]
    exact (q5.2.2.2.2.2 11 (by omega) (by omega) k hkn).symm
  refine k_move (by omega) q1 q3 n3 (fun c c2 c3 => k_mMove (by omega) (by simp (disch := omega) only [gi_si_a]; exact q2) n1 n2 (by simp (disch := omega) only [gi_si_a]; exact q4) n3 (fun _ _ _ => ⟨rfl, v, rfl, ?_, rfl, rfl⟩) (fun q => absurd ⟨⟨c.1, by simp (disch := omega) only [gi_si_a]; rw [hsame c.1]; exact c.2⟩, c2, c3⟩ q)) (fun c => k_mMove (by omega) q2 n1 n2 q4 n3 (fun x y z => absurd ⟨⟨x.1, by rw [← hsame x.1]; exact x.2⟩, y, z⟩ c) (fun _ => ⟨rfl, v, rfl, hI, rfl, rfl⟩))
  obtain ⟨c1, ch⟩ := c
  obtain ⟨k, hk, rfl⟩ := ofN c1.1
  have hkn : k < nb := (nI_ltI (by omega) (by omega)).mp c1.2
  rw [nI_clamp (by omega)] at *
  refine ⟨⟨nr, nb, ?_, ?_, ?_, ?_, q5.ribU (k := k) hkn (Or.inl rfl) ?_ ?_ ?_ ?_ ?_⟩, i2.cong ?_ ?_ ?_ ?_, i3.cong ?_ ?_ ?_ ?_, i4.cong ?_ ?_ ?_ ?_ ?_, hLR _ _ ⟨?_, ?_, ?_, ?_, ?_⟩ i5⟩
  case refine_5 => intro f hf j h; rcases h with h | h <;> simp (disch := omega) only [gi_si_a, gi_si_k]
  case refine_6 => intro f hf j h; rcases h with h | h <;> simp (disch := omega) only [gi_si_a, gi_si_k]
  case refine_7 =>
    have h9 := q5.2.2.1 k hkn
    unfold RibOK at h9 ⊢
    simp (disch := omega) only [Nat.reduceAdd, gi_si, gi_si_a, gi_si_k] at h9 ⊢
    simp only [i_le] at c3
    obtain ⟨r', hr', rfl⟩ := ofN c2.1
    exact ⟨⟨r', (nI_ltI (by omega) (by omega)).mp c2.2, rfl⟩, c3, h9.2.2⟩
  case refine_8 =>
    have h9 := q5.2.2.2.1.2 k (by omega)
    simp (disch := omega) only [Nat.reduceAdd, gi_si, gi_si_a, gi_si_k] at h9 ⊢
    exact h9
  case refine_9 =>
    intro f h5 hf
    have h9 := q5.2.2.2.2.2 f h5 hf k hkn
    obtain rfl | rfl | h7 : f = 5 ∨ f = 6 ∨ 7 ≤ f := by omega
    · simp (disch := omega) only [Nat.reduceAdd, gi_si, gi_si_a, gi_si_k]
    · simp (disch := omega) only [Nat.reduceAdd, gi_si, gi_si_a, gi_si_k]
    · simp (disch := omega) only [gi_si, gi_si_a, gi_si_k]
      exact h9
  all_goals intros
  all_goals (simp (disch := omega) only [gi_si, gi_si_a, gi_si_k]; try assumption)
theorem both_fall (hLR : ∀ μ μ', LawEq μ μ' → LR μ → LR μ') (hd : 4 ≤ d) {i : Int32} (hI : Inv LR μ) : Both G d LR mX10_fall mX11_fall [.int i] v μ bc bs := by
  obtain ⟨i1, i2, i3, i4, i5⟩ := id hI
  obtain ⟨nr, nb, q1, q2, q3, q4, q5⟩ := id i1
  obtain ⟨⟨n1, n2, n3⟩, -⟩ := id q5
  have hsame : 0 ≤ i ∧ i < nI nb → gi μ 157 i.toNatClampNeg = gi μ 15 i.toNatClampNeg := fun c => by
    obtain ⟨k, hk, rfl⟩ := ofN c.1
    have hkn : k < nb := (nI_ltI (by omega) (by omega)).mp c.2
    rw [nI_clamp (by omega)]
    exact (q5.2.2.2.2.2 11 (by omega) (by omega) k hkn).symm
  refine k_fall (by omega) q3 n3 (fun c => k_mFall (by omega) (by simp (disch := omega) only [gi_si_a]; exact q4) n3 (fun _ => ⟨rfl, v, rfl, ?_, rfl, rfl⟩) (fun q => absurd ⟨c.1, by simp (disch := omega) only [gi_si_a]; rw [hsame c.1]; exact c.2⟩ q)) (fun c => k_mFall (by omega) q4 n3 (fun x => absurd ⟨x.1, by rw [← hsame x.1]; exact x.2⟩ c) (fun _ => ⟨rfl, v, rfl, hI, rfl, rfl⟩))
  obtain ⟨c1, ch⟩ := c
  obtain ⟨k, hk, rfl⟩ := ofN c1.1
  have hkn : k < nb := (nI_ltI (by omega) (by omega)).mp c1.2
  rw [nI_clamp (by omega)] at *
  refine ⟨⟨nr, nb, ?_, ?_, ?_, ?_, q5.ribU (k := k) hkn (Or.inl rfl) ?_ ?_ ?_ ?_ ?_⟩, i2.cong ?_ ?_ ?_ ?_, i3.cong ?_ ?_ ?_ ?_, i4.cong ?_ ?_ ?_ ?_ ?_, hLR _ _ ⟨?_, ?_, ?_, ?_, ?_⟩ i5⟩
  case refine_5 => intro f hf j h; rcases h with h | h <;> simp (disch := omega) only [gi_si_a, gi_si_k]
  case refine_6 => intro f hf j h; rcases h with h | h <;> simp (disch := omega) only [gi_si_a, gi_si_k]
  case refine_7 =>
    have h9 := q5.2.2.1 k hkn
    unfold RibOK at h9 ⊢
    simp (disch := omega) only [Nat.reduceAdd, gi_si, gi_si_a, gi_si_k] at h9 ⊢
    obtain ⟨l', z1, z2, z3⟩ := h9.2.2.1
    exact ⟨h9.1, h9.2.1, ⟨l', z1, z2, fun q => absurd trivial q⟩, h9.2.2.2⟩
  case refine_8 =>
    simp (disch := omega) only [Nat.reduceAdd, gi_si, gi_si_a, gi_si_k]
    exact Or.inl trivial
  case refine_9 =>
    intro f h5 hf
    have h9 := q5.2.2.2.2.2 f h5 hf k hkn
    obtain rfl | h7 : f = 11 ∨ f < 11 := by omega
    · simp (disch := omega) only [Nat.reduceAdd, gi_si, gi_si_a, gi_si_k]
    · simp (disch := omega) only [gi_si, gi_si_a, gi_si_k]
      exact h9
  all_goals intros
  all_goals (simp (disch := omega) only [gi_si, gi_si_a, gi_si_k]; try assumption)
end STP2
