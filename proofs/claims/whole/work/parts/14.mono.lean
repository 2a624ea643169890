theorem p1_m {st : List Value} {f g : Int32 → List Value → Prop} (h : ∀ x r, f x r → g x r) : p1 st f → p1 st g := by
  unfold p1; split <;> first | exact h _ _ | exact id
theorem p2_m {st : List Value} {f g : Int32 → Int32 → List Value → Prop} (h : ∀ x y r, f x y r → g x y r) : p2 st f → p2 st g := by
  unfold p2; split <;> first | exact h _ _ _ | exact id
theorem q1_m {st : List Value} {f g : Int64 → List Value → Prop} (h : ∀ x r, f x r → g x r) : q1 st f → q1 st g := by
  unfold q1; split <;> first | exact h _ _ | exact id
theorem q2_m {st : List Value} {f g : Int64 → Int64 → List Value → Prop} (h : ∀ x y r, f x y r → g x y r) : q2 st f → q2 st g := by
  unfold q2; split <;> first | exact h _ _ _ | exact id
theorem qi_m {st : List Value} {f g : Int64 → Int32 → List Value → Prop} (h : ∀ x y r, f x y r → g x y r) : qi st f → qi st g := by
  unfold qi; split <;> first | exact h _ _ _ | exact id
theorem pr_m {st : List Value} {f g : Nat → List Value → Prop} (h : ∀ x r, f x r → g x r) : pr st f → pr st g := by
  unfold pr; split <;> first | exact h _ _ | exact id
theorem pa_m {st : List Value} {f f' : Int32 → Nat → List Value → Prop} {g g' : Int32 → List Value → Prop} (h : ∀ i a r, f i a r → f' i a r) (h2 : ∀ i r, g i r → g' i r) : pa st f g → pa st f' g' := by
  unfold pa; split <;> first | exact h _ _ _ | exact h2 _ _ | exact id
theorem pst_m {st : List Value} {f g : Int32 → Int32 → Nat → List Value → Prop} (h : ∀ x i a r, f x i a r → g x i a r) : pst st f → pst st g := by
  unfold pst; split <;> first | exact h _ _ _ _ | exact id
theorem qst_m {st : List Value} {f g : Int64 → Int32 → Nat → List Value → Prop} (h : ∀ x i a r, f x i a r → g x i a r) : qst st f → qst st g := by
  unfold qst; split <;> first | exact h _ _ _ _ | exact id
theorem rst_m {st : List Value} {f g : Nat → Int32 → Nat → List Value → Prop} (h : ∀ x i a r, f x i a r → g x i a r) : rst st f → rst st g := by
  unfold rst; split <;> first | exact h _ _ _ _ | exact id
theorem pac_m {st : List Value} {f g : Int32 → Int32 → Nat → Int32 → Nat → List Value → Prop} (h : ∀ n dp a sp a0 r, f n dp a sp a0 r → g n dp a sp a0 r) : pac st f → pac st g := by
  unfold pac; split <;> first | exact h _ _ _ _ _ _ | exact id
theorem brI_m {c : ClassFile.Cond} {x y : Int32} {a b a' b' : Prop} (h : a → a') (h2 : b → b') : brI c x y a b → brI c x y a' b' := by
  unfold brI; split <;> exact fun q => ⟨fun z => h (q.1 z), fun z => h2 (q.2 z)⟩
theorem swt_m {x : Int32} {pc : Nat} {f g : Nat → Prop} (h : ∀ t, f t → g t) : ∀ (lo : Int) (os : List Int), swt x pc lo os f → swt x pc lo os g
  | _, [], _ => trivial
  | lo, o :: r, q => ⟨fun z => h _ (q.1 z), swt_m h (lo + 1) r q.2⟩
theorem swl_m {x : Int32} {pc : Nat} {df : Int} {f g : Nat → Prop} (h : ∀ t, f t → g t) : ∀ (os : List (Int × Int)), swl x pc df os f → swl x pc df os g
  | [], q => h _ q
  | o :: r, q => ⟨fun z => h _ (q.1 z), fun z => swl_m h r (q.2 z)⟩
theorem gfld_m {kd : Nat} {sh : Sh} {a : Nat} {μ : Mem} {k : Nat} {f g : Value → Prop} (h : ∀ v, f v → g v) : gfld kd sh a μ k f → gfld kd sh a μ k g := by
  unfold gfld; split <;> exact h _
theorem pfld_m {kd : Nat} {st : List Value} {f g : Value → Nat → List Value → Prop} (h : ∀ v a r, f v a r → g v a r) : pfld kd st f → pfld kd st g := by
  unfold pfld; split <;> first | exact fun q => ⟨q.1, h _ _ _ q.2⟩ | exact id
theorem sfld_m {lay : List Sh} {μ : Mem} {sh : Sh} {a k : Nat} {v : Value} {f g : List Sh → Mem → Prop} (h : ∀ l m, f l m → g l m) : sfld lay μ sh a k v f → sfld lay μ sh a k v g := by
  unfold sfld; split <;> first | exact h _ _ | exact fun q => ⟨q.1, h _ _ q.2⟩ | exact id
theorem pargs_m {f g : List Value → List Value → Prop} (h : ∀ a r, f a r → g a r) : ∀ (n : Nat) (acc st : List Value), pargs n acc st f → pargs n acc st g
  | 0, _, _ => h _ _
  | n + 1, acc, v :: st => pargs_m h n (v :: acc) st
  | _ + 1, _, [] => id
theorem KQ_m {G : Gx} {Q Q' : Option Value → List Sh → Mem → Prop} {a : Array Value} {st t : State} {o : Outcome} (h : ∀ v l m, Q v l m → Q' v l m) : ∀ rk, KQ G rk Q a st o t → KQ G rk Q' a st o t
  | 0, ⟨⟨u, g1, g2, g3⟩, g4⟩ => ⟨⟨u, g1, h _ _ _ g2, g3⟩, g4⟩
  | 1, ⟨⟨r, u, g1, g2, g3⟩, g4⟩ => ⟨⟨r, u, g1, h _ _ _ g2, g3⟩, g4⟩
  | 2, ⟨⟨r, u, g1, g2, g3⟩, g4⟩ => ⟨⟨r, u, g1, h _ _ _ g2, g3⟩, g4⟩
  | _ + 3, ⟨⟨r, u, g1, g2, g3⟩, g4⟩ => ⟨⟨r, u, g1, h _ _ _ g2, g3⟩, g4⟩
theorem KC_m {G : Gx} {d : Nat} {N : MI} {av : List Value} {lay : List Sh} {μ : Mem} {bc bs : Nat} {Q Q' : Option Value → List Sh → Mem → Nat → Nat → Prop} (h : ∀ v l m c s, Q v l m c s → Q' v l m c s) : KC G d N av lay μ bc bs Q → KC G d N av lay μ bc bs Q' := by
  rintro ⟨c, s, h1, h2, h3⟩
  refine ⟨c, s, h1, h2, ?_⟩
  unfold Kx Met MetFree at h3 ⊢
  intro p e a1 a2 a3 st m args below a4 a5 a6 a7
  obtain ⟨n, o, b1, b2, b3, b4, b5⟩ := h3 p e a1 a2 a3 st m args below a4 a5 a6 a7
  refine ⟨n, o, b1, b2, b3, ?_, b5⟩
  exact KQ_m (fun _ _ _ => h _ _ _ _ _) _ b4
set_option maxHeartbeats 4000000 in
theorem exec1_m {G : Gx} {d : Nat} {M : MI} {Qa : Option Value → List Sh → Mem → Prop} {i : Instr} {len t : Nat} {v : Int32} {pc : Nat} {loc : XV} {st : List Value} {lay : List Sh} {μ : Mem} {bc bs : Nat} {k k' : Kt} (hk : ∀ pc loc st lay μ bc bs, k pc loc st lay μ bc bs → k' pc loc st lay μ bc bs) :
    exec1 G d M Qa i len t v pc loc st lay μ bc bs k → exec1 G d M Qa i len t v pc loc st lay μ bc bs k' := by
  cases i <;> simp only [exec1] <;> first
    | exact id
    | exact hk _ _ _ _ _ _ _
    | exact p2_m (fun _ _ _ => hk _ _ _ _ _ _ _)
    | exact p2_m (fun _ _ _ q => ⟨q.1, hk _ _ _ _ _ _ _ q.2⟩)
    | exact p1_m (fun _ _ => hk _ _ _ _ _ _ _)
    | exact q2_m (fun _ _ _ => hk _ _ _ _ _ _ _)
    | exact qi_m (fun _ _ _ => hk _ _ _ _ _ _ _)
    | exact p2_m (fun _ _ _ => brI_m (hk _ _ _ _ _ _ _) (hk _ _ _ _ _ _ _))
    | exact p1_m (fun _ _ => brI_m (hk _ _ _ _ _ _ _) (hk _ _ _ _ _ _ _))
    | exact p1_m (fun _ _ q => ⟨fun z => hk _ _ _ _ _ _ _ (q.1 z), q.2.1, swt_m (fun _ => hk _ _ _ _ _ _ _) _ _ q.2.2⟩)
    | exact p1_m (fun _ _ => swl_m (fun _ => hk _ _ _ _ _ _ _) _)
    | (split <;> first | exact hk _ _ _ _ _ _ _ | exact id | exact fun q => ⟨q.1, hk _ _ _ _ _ _ _ q.2⟩ | exact fun q => ⟨q.1, q.2.1, hk _ _ _ _ _ _ _ q.2.2⟩)
    | (refine p1_m (fun _ _ => ?_); split <;> first | exact hk _ _ _ _ _ _ _ | exact id)
    | (refine q1_m (fun _ _ => ?_); split <;> first | exact hk _ _ _ _ _ _ _ | exact id)
    | (refine pr_m (fun _ _ => ?_); split <;> first | exact hk _ _ _ _ _ _ _ | exact id)
    | (split
       · split <;> first | exact hk _ _ _ _ _ _ _ | exact id
       · exact id)
    | (refine pa_m (fun _ _ _ => ?_) (fun _ _ => ?_)
       · split <;> first | exact fun q => ⟨q.1, q.2.1, hk _ _ _ _ _ _ _ q.2.2⟩ | exact id
       · first | exact id | exact fun q => ⟨q.1, q.2.1, hk _ _ _ _ _ _ _ q.2.2⟩)
    | (refine pst_m (fun _ _ _ _ => ?_); split <;> first | exact fun q => ⟨q.1, q.2.1, hk _ _ _ _ _ _ _ q.2.2⟩ | exact id)
    | (refine qst_m (fun _ _ _ _ => ?_); split <;> first | exact fun q => ⟨q.1, q.2.1, hk _ _ _ _ _ _ _ q.2.2⟩ | exact id)
    | (refine pst_m (fun _ _ _ _ => ?_); split <;> first | exact fun q => ⟨q.1, q.2.elim (fun z => Or.inl ⟨z.1, hk _ _ _ _ _ _ _ z.2⟩) (fun z => Or.inr ⟨z.1, hk _ _ _ _ _ _ _ z.2⟩)⟩ | exact id)
    | (refine pa_m (fun _ _ _ => ?_) (fun _ _ => id)
       · split
         · refine fun q => ⟨q.1, ?_⟩
           have q2 := q.2
           revert q2
           split <;> first | exact fun z => ⟨z.1, z.2.elim (fun z => Or.inl ⟨z.1, hk _ _ _ _ _ _ _ z.2⟩) (fun z => Or.inr ⟨z.1, hk _ _ _ _ _ _ _ z.2⟩)⟩ | exact id
         · exact id)
    | exact p1_m (fun _ _ q => ⟨q.1, q.2.1, q.2.2.1, q.2.2.2.1, q.2.2.2.2.1, hk _ _ _ _ _ _ _ q.2.2.2.2.2⟩)
    | exact p1_m (fun _ _ q => ⟨q.1, q.2.1, q.2.2.1, q.2.2.2.1, q.2.2.2.2.1, q.2.2.2.2.2.1, hk _ _ _ _ _ _ _ q.2.2.2.2.2.2⟩)
    | exact p2_m (fun _ _ _ q => ⟨q.1, q.2.1, q.2.2.1, q.2.2.2.1, q.2.2.2.2.1, q.2.2.2.2.2.1, q.2.2.2.2.2.2.1, q.2.2.2.2.2.2.2.1, hk _ _ _ _ _ _ _ q.2.2.2.2.2.2.2.2⟩)
    | (split
       · refine pr_m (fun _ _ => ?_); split <;> first | exact fun q => ⟨q.1, gfld_m (fun _ => hk _ _ _ _ _ _ _) q.2⟩ | exact id
       · exact id)
    | (split
       · refine pfld_m (fun _ _ _ => ?_); split <;> first | exact fun q => ⟨q.1, q.2.1, sfld_m (fun _ _ => hk _ _ _ _ _ _ _) q.2.2⟩ | exact id
       · exact id)
    | (refine rst_m (fun _ _ _ _ => ?_)
       split
       · refine fun q => ⟨q.1, q.2.1, q.2.2.1, ?_⟩
         have q2 := q.2.2.2
         revert q2
         split <;> exact fun z => ⟨z.1, z.2.1, hk _ _ _ _ _ _ _ z.2.2⟩
       · exact id)
    | (split
       · split <;> first | exact fun q => ⟨q.1, hk _ _ _ _ _ _ _ q.2⟩ | exact id
       · exact fun q => ⟨q.1, hk _ _ _ _ _ _ _ q.2⟩
       · exact id)
    | (split
       · exact fun q => ⟨q.1, q.2.1, pargs_m (fun _ _ z => ⟨z.1, z.2.1, KC_m (fun _ _ _ _ _ => hk _ _ _ _ _ _ _) z.2.2⟩) _ _ _ q.2.2⟩
       · exact id)
    | (split
       · exact pr_m (fun _ _ q => ⟨q.1, q.2.1, hk _ _ _ _ _ _ _ q.2.2⟩)
       · exact id
       · split
         · exact fun q => ⟨q.1, q.2.1, pargs_m (fun _ _ z => ⟨z.1, z.2.1, KC_m (fun _ _ _ _ _ => hk _ _ _ _ _ _ _) z.2.2⟩) _ _ _ q.2.2⟩
         · exact id)
    | (split
       · exact p2_m (fun _ _ _ q => ⟨q.1, q.2.1, hk _ _ _ _ _ _ _ q.2.2⟩)
       · exact p2_m (fun _ _ _ q => ⟨q.1, q.2.1, hk _ _ _ _ _ _ _ q.2.2⟩)
       · exact p1_m (fun _ _ q => ⟨q.1, q.2.1, hk _ _ _ _ _ _ _ q.2.2⟩)
       · refine pac_m (fun _ _ _ _ _ _ q => ⟨q.1, q.2.1, q.2.2.1, q.2.2.2.1, q.2.2.2.2.1, ?_⟩)
         have q2 := q.2.2.2.2.2
         revert q2
         split <;> first | exact fun z => ⟨z.1, z.2.1, z.2.2.1, z.2.2.2.1, hk _ _ _ _ _ _ _ z.2.2.2.2⟩ | exact id
       · exact id
       · split
         · exact fun q => ⟨q.1, q.2.1, pargs_m (fun _ _ z => ⟨z.1, KC_m (fun _ _ _ _ _ => hk _ _ _ _ _ _ _) z.2⟩) _ _ _ q.2.2⟩
         · exact id)
