/-- of the locals less is known -/
def wk : List PV → List PV → Prop
  | [], _ => True
  | none :: l, _ :: m => wk l m
  | none :: l, [] => wk l []
  | some v :: l, x :: m => x = some v ∧ wk l m
  | some _ :: _, [] => False
theorem wk_at : ∀ (l m : List PV) (i : Nat) (v : Int ⊕ (Int ⊕ Nat)), wk l m → l[i]? = some (some v) → m[i]? = some (some v)
  | [], m, i, v, _, h => by simp at h
  | none :: l, x :: m, i, v, hw, h => by
    cases i with
    | zero => simp at h
    | succ i => simp at h ⊢; exact wk_at l m i v hw h
  | none :: l, [], i, v, hw, h => by
    cases i with
    | zero => simp at h
    | succ i => simp at h; have := wk_at l [] i v hw h; simp at this
  | some w :: l, x :: m, i, v, hw, h => by
    cases i with
    | zero => simp at h ⊢; rw [hw.1, h]
    | succ i => simp at h ⊢; exact wk_at l m i v hw.2 h
theorem ev_weak {γ : Gh} {X : MX} {d mc ms pc : Nat} {ls ls' st : List PV} {K : Sk} {V : Mm} {Q : Option PV → Sk → Mm → Prop} (h : Ev γ X d mc ms pc ls' st K V Q) (hw : wk ls' ls) : Ev γ X d mc ms pc ls st K V Q := by
  intro p l e s m args below meth c H locs als cells slots TC TS hc hh hl hf h1 h2
  exact h p l e s m args below meth c H locs als cells slots TC TS hc hh ⟨hl.1, hl.2.1, fun i v hi => hl.2.2 i v (wk_at ls' ls i v hw hi)⟩ hf h1 h2
/-! a step of the search: what it leaves -/
theorem bStep_no {C : Int → Int} {F e : Int} {B : BS} (h : ¬ bc C F e B) : bStep C F e B = B := by
  unfold bStep
  rw [if_neg h]
theorem bStep_yes {C : Int → Int} {F e : Int} {B : BS} (h : bc C F e B) : bStep C F e B = (up B.1 (bv C F e B) (B.1 (B.2.1 (e / 6)) + 1), up B.2.1 B.2.2.1 (bv C F e B), B.2.2.1 + 1, up B.2.2.2 (bv C F e B) e) := by
  unfold bStep
  rw [if_pos h]
theorem bStep_n {C : Int → Int} {F e : Int} {B : BS} : B.2.2.1 ≤ (bStep C F e B).2.2.1 ∧ ∀ i, i < B.2.2.1 → (bStep C F e B).2.1 i = B.2.1 i := by
  unfold bStep
  split
  · refine ⟨by show B.2.2.1 ≤ B.2.2.1 + 1; omega, fun i hi => ?_⟩
    show up B.2.1 B.2.2.1 _ i = _
    rw [up_ne (by omega)]
  · exact ⟨Int.le_refl _, fun _ _ => rfl⟩
theorem bF_0 {C : Int → Int} {F s0 : Int} : bi C F s0 (6 * 0) = b0 s0 := rfl
/-- the reference's rows hold the search -/
def MF (W : Mm) (B : BS) : Prop := (∀ t, 0 ≤ t ∧ t < 2197 → W 162 t = if B.1 t = -1 then 1000000 else B.1 t) ∧ ∀ i, 0 ≤ i ∧ i < B.2.2.1 → W 163 i = B.2.1 i
theorem MF_step {W : Mm} {B : BS} {C : Int → Int} {F s0 e : Int} (hI : BI s0 B) (h : MF W B) (hc : bc C F e B) (hv : isSt (bv C F e B)) (he : 0 ≤ e) : MF (wr (wr W 162 (bv C F e B) (W 162 (W 163 (e / 6)) + 1)) 163 B.2.2.1 (bv C F e B)) (bStep C F e B) := by
  rw [bStep_yes hc]
  have hu : 0 ≤ e / 6 ∧ e / 6 < B.2.2.1 := ⟨by omega, hc.1⟩
  have hst := isSt_lt (hI.2.1 _ hu)
  refine ⟨fun t ht => ?_, fun i hi => ?_⟩
  · show wr _ 163 _ _ 162 t = if up B.1 _ _ t = -1 then 1000000 else up B.1 _ _ t
    rw [wr_off (by decide), wr_row]
    by_cases q : t = bv C F e B
    · subst q
      have := hI.2.2.1 _ hu
      rw [up_self, up_self, h.2 _ hu, h.1 _ hst, if_neg (by omega), if_neg (by omega)]
    · rw [up_ne q, up_ne q, h.1 t ht]
  · show wr _ 163 _ _ 163 i = up B.2.1 _ _ i
    have hi2 : i < B.2.2.1 + 1 := hi.2
    rw [wr_row]
    by_cases q : i = B.2.2.1
    · rw [q, up_self, up_self]
    · rw [up_ne q, up_ne q, wr_off (by decide), h.2 i ⟨hi.1, by omega⟩]
def fr2 (a b : Nat) (V W : Mm) : Prop := ∀ c, c ≠ a → c ≠ b → W c = V c
theorem fr2.wr {a b c : Nat} {V W : Mm} (h : fr2 a b V W) (hc : c = a ∨ c = b) (i x : Int) : fr2 a b V (wr W c i x) := fun q h1 h2 => by
  rw [wr_off (by rcases hc with rfl | rfl <;> assumption)]
  exact h q h1 h2
