section STP
variable {G : Gx} {d v : Nat} {μ : Mem} {bc bs : Nat} {LR : Mem → Prop}
/-- a call on both objects: equal answers, and what holds between two calls holds again -/
def Both (G : Gx) (d : Nat) (LR : Mem → Prop) (N N' : MI) (as : List Value) (v : Nat) (μ : Mem) (bc bs : Nat) : Prop :=
  KC G d N (.ref 0 :: as) (LAY v) μ bc bs (fun r lay1 μ1 bc1 bs1 => KC G d N' (.ref 144 :: as) lay1 μ1 bc1 bs1 (fun r2 lay2 μ2 bc2 bs2 => r = r2 ∧ ∃ v2, (lay2, v2) = (LAY v2, v) ∧ Inv LR μ2 ∧ bc2 = bc ∧ bs2 = bs))
theorem both_wind (hLR : ∀ μ μ', LawEq μ μ' → LR μ → LR μ') (hd : 3 ≤ d) {a : Int32} (hI : Inv LR μ) : Both G d LR mX10_wind mX11_wind [.int a] v μ bc bs := by
  refine k_wind (by omega) (fun c => k_mWind (by omega) (fun _ => ⟨rfl, v, rfl, ?_, rfl, rfl⟩) (fun q => absurd c q)) (fun c => k_mWind (by omega) (fun q => absurd q c) (fun _ => ⟨rfl, v, rfl, hI, rfl, rfl⟩))
  obtain ⟨i1, i2, i3, i4, i5⟩ := hI
  refine ⟨i1.cong ?_ ?_ ?_ ?_ ?_ ?_, ?_, i3.cong ?_ ?_ ?_ ?_, i4.cong ?_ ?_ ?_ ?_ ?_, hLR _ _ ⟨?_, ?_, ?_, ?_, ?_⟩ i5⟩
  case refine_7 =>
    obtain ⟨⟨q1, q2, q3⟩, q4, q5, q6⟩ := i2
    unfold NumI
    simp (disch := omega) only [gi_si, gi_si_a, gi_si_k]
    exact ⟨⟨trivial, c⟩, q4, q5, q6⟩
  all_goals intros
  all_goals (simp (disch := omega) only [gi_si, gi_si_a, gi_si_k])
theorem both_seed (hLR : ∀ μ μ', LawEq μ μ' → LR μ → LR μ') (hd : 3 ≤ d) {a : Int32} (hI : Inv LR μ) : Both G d LR mX10_seed mX11_seed [.int a] v μ bc bs := by
  refine k_seed (by omega) (fun c => k_mSeed (by omega) (fun _ => ⟨rfl, v, rfl, ?_, rfl, rfl⟩) (fun q => absurd c q)) (fun c => k_mSeed (by omega) (fun q => absurd q c) (fun _ => ⟨rfl, v, rfl, hI, rfl, rfl⟩))
  obtain ⟨i1, i2, i3, i4, i5⟩ := hI
  refine ⟨i1.cong ?_ ?_ ?_ ?_ ?_ ?_, ?_, i3.cong ?_ ?_ ?_ ?_, i4.cong ?_ ?_ ?_ ?_ ?_, hLR _ _ ⟨?_, ?_, ?_, ?_, ?_⟩ i5⟩
  case refine_7 =>
    obtain ⟨⟨q1, q2, q3⟩, q4, q5, q6⟩ := i2
    unfold NumI
    simp (disch := omega) only [gi_si, gi_si_a, gi_si_k]
    exact ⟨⟨q1, q2, q3⟩, trivial, c⟩
  all_goals intros
  all_goals (simp (disch := omega) only [gi_si, gi_si_a, gi_si_k])
theorem both_stiff (hLR : ∀ μ μ', LawEq μ μ' → LR μ → LR μ') (hd : 3 ≤ d) {r n : Int32} (hI : Inv LR μ) : Both G d LR mX10_stiff mX11_stiff [.int r, .int n] v μ bc bs := by
  obtain ⟨i1, i2, i3, i4, i5⟩ := id hI
  obtain ⟨nr, nb, q1, q2, q3, q4, q5⟩ := id i1
  obtain ⟨⟨n1, n2, n3⟩, -⟩ := id q5
  refine k_stiff (by omega) q1 n2 (fun c c2 => k_mStiff (by omega) (by simp (disch := omega) only [gi_si_a]; exact q2) n1 n2 (fun _ _ => ⟨rfl, v, rfl, ?_, rfl, rfl⟩) (fun q => absurd ⟨c, c2⟩ q)) (fun c => k_mStiff (by omega) q2 n1 n2 (fun a b => absurd ⟨a, b⟩ c) (fun _ => ⟨rfl, v, rfl, hI, rfl, rfl⟩))
  obtain ⟨k, hk, rfl⟩ := ofN c.1
  have hkn : k < nr := (nI_ltI (by omega) (by omega)).mp c.2
  rw [nI_clamp (by omega)]
  refine ⟨⟨nr, nb, ?_, ?_, ?_, ?_, q5.rodU hkn (Or.inl rfl) (k := k) ?_ ?_ ?_ ?_ ?_⟩, i2.cong ?_ ?_ ?_ ?_, i3.cong ?_ ?_ ?_ ?_, i4.cong ?_ ?_ ?_ ?_ ?_, hLR _ _ ⟨?_, ?_, ?_, ?_, ?_⟩ i5⟩
  case refine_5 => intro f hf j h; rcases h with h | h <;> simp (disch := omega) only [gi_si_a, gi_si_k]
  case refine_6 => intro f hf j h; rcases h with h | h <;> simp (disch := omega) only [gi_si_a, gi_si_k]
  case refine_7 =>
    have h9 := q5.2.1 k hkn
    unfold RodOK at h9 ⊢
    simp (disch := omega) only [Nat.reduceAdd, gi_si, gi_si_a, gi_si_k] at h9 ⊢
    simp only [i_le] at c2
    exact ⟨h9.1, h9.2.1, h9.2.2.1, c2⟩
  case refine_8 =>
    have h9 := q5.2.2.2.1.1 k (by omega)
    simp (disch := omega) only [Nat.reduceAdd, gi_si, gi_si_a, gi_si_k] at h9 ⊢
    exact h9
  case refine_9 =>
    intro f hf
    have h9 := q5.2.2.2.2.1 f hf k hkn
    by_cases e : f = 2
    · subst e
      simp (disch := omega) only [Nat.reduceAdd, gi_si, gi_si_a, gi_si_k]
    · simp (disch := omega) only [gi_si, gi_si_a, gi_si_k]
      exact h9
  all_goals intros
  all_goals (simp (disch := omega) only [gi_si, gi_si_a, gi_si_k]; try assumption)
end STP
