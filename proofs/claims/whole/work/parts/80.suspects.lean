section SUS
variable {G : Gx} {d v : Nat} {μ : Mem} {bc bs : Nat}
theorem both_suspects (hd : 10 ≤ d) (hI : Inv LRel μ) : Both G d LRel mX10_suspects mX11_suspects [] v μ bc bs := by
  obtain ⟨i1, i2, i3, i4, i5⟩ := id hI
  obtain ⟨nr, nb, q1, q2, q3, q4, q5⟩ := id i1
  obtain ⟨⟨n1, n2, n3⟩, -, -, -, s⟩ := id q5
  obtain ⟨ts, t1, t2, t3, t4⟩ := id i3
  obtain ⟨sz, n, hC, hM⟩ := i5.both q1 q2 q3 q4 q5
  have hw := i2.1.1
  have tb : ∀ j, j < ts → ∃ b, b < 256 ∧ gi μ 2 j = nI b := fun j hj => by obtain ⟨b, h1, h2, -⟩ := t4 j hj; exact ⟨b, h1, h2⟩
  have t3' : ∀ {μ1}, Fi pWt μ μ1 → gi μ1 144 1 = nI ts := fun hF => (hF _ _ (by unfold pWt pS pL; omega)).trans t3
  have pl10 := plc_le (A := fun f => gi μ (4 + f)) (r := nr)
  have eP := plc_same s (Nat.le_refl nr)
  refine k_suspects (by omega) hC t2 t1 tb (fun c => ?_) (fun hp x μ1 hF z1 => ?_) (fun hp x μ1 hF z1 => ?_)
  · refine k_mSuspects (by omega) hM t3 t1 (hn0_of n2) (fun _ => ⟨rfl, v, rfl, hI, rfl, rfl⟩) (fun hp' => ?_) (fun hp' => ?_)
    · rw [← eP] at hp'; exact absurd ((nI_leI (by omega) (by omega)).mpr hp') c
    · rw [← eP] at hp'; exact absurd ((nI_leI (by omega) (by omega)).mpr hp') c
  · obtain ⟨p1, p2, p3, p4⟩ := wat_pre hF hM q5 hw t4 hp
    refine k_mSuspects (by omega) p1 (t3' hF) t1 (hn0_of n2) (fun z => ?_) (fun hp' x' μ2 hF2 z2 => ⟨rfl, v, rfl, wat_inv hI hF z1 hF2 z2, rfl, rfl⟩) (fun hp' x' => ?_)
    · rw [p2] at z; exact absurd ((nI_leI (by omega) (by omega)).mpr hp) z
    · rw [p2, p3, x] at x'; exact absurd x' (by decide)
  · obtain ⟨p1, p2, p3, p4⟩ := wat_pre hF hM q5 hw t4 hp
    refine k_mSuspects (by omega) p1 (t3' hF) t1 (hn0_of n2) (fun z => ?_) (fun hp' x' => ?_) (fun hp' x' μ2 hF2 z2 => ⟨?_, v, rfl, wat_inv hI hF z1 hF2 z2, rfl, rfl⟩)
    · rw [p2] at z; exact absurd ((nI_leI (by omega) (by omega)).mpr hp) z
    · rw [p2, p3, x] at x'; exact absurd x' (by decide)
    · refine congrArg (fun x => some (Value.long x)) ?_
      refine susF_cong (fun i hi => anB_cong (fun j hj => ?_))
      rw [p2, (p4 x).2 i (j + 1) hi (by omega) (by omega)]
end SUS
