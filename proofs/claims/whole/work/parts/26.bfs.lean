/-! ===== the search: states in the order in which they are found ===== -/
/-- how far (-1: not found), the line of those found, how many, by which step (6 times the place in the line, and the pair) -/
abbrev BS : Type := (Int → Int) × (Int → Int) × Int × (Int → Int)
def bv (C : Int → Int) (F e : Int) (B : BS) : Int := nx C F (B.2.1 (e / 6)) (e % 6)
abbrev bc (C : Int → Int) (F e : Int) (B : BS) : Prop := e / 6 < B.2.2.1 ∧ bv C F e B ≠ -1 ∧ B.1 (bv C F e B) = -1
def bStep (C : Int → Int) (F e : Int) (B : BS) : BS :=
  if bc C F e B then (up B.1 (bv C F e B) (B.1 (B.2.1 (e / 6)) + 1), up B.2.1 B.2.2.1 (bv C F e B), B.2.2.1 + 1, up B.2.2.2 (bv C F e B) e) else B
def b0 (s0 : Int) : BS := (fun t => if t = s0 then 0 else -1, fun _ => s0, 1, fun _ => -1)
def bf (C : Int → Int) (F s0 : Int) : Nat → BS
  | 0 => b0 s0
  | e + 1 => bStep C F e (bf C F s0 e)
def BI (s0 : Int) (B : BS) : Prop := 1 ≤ B.2.2.1 ∧ (∀ i, 0 ≤ i ∧ i < B.2.2.1 → isSt (B.2.1 i)) ∧ (∀ i, 0 ≤ i ∧ i < B.2.2.1 → 0 ≤ B.1 (B.2.1 i) ∧ B.1 (B.2.1 i) ≤ i) ∧ (∀ t, B.1 t ≠ -1 → ∃ i, (0 ≤ i ∧ i < B.2.2.1) ∧ B.2.1 i = t) ∧ (∀ i j, 0 ≤ i ∧ i < B.2.2.1 → 0 ≤ j ∧ j < B.2.2.1 → B.2.1 i = B.2.1 j → i = j) ∧ B.2.1 0 = s0 ∧ ∀ t, -1 ≤ B.1 t
theorem b0_I {s0 : Int} (h : isSt s0) : BI s0 (b0 s0) := by
  refine ⟨Int.le_refl _, fun i hi => h, fun i hi => ?_, fun t ht => ?_, fun i j hi hj _ => ?_, rfl, fun t => ?_⟩
  · show 0 ≤ (if s0 = s0 then (0 : Int) else -1) ∧ (if s0 = s0 then (0 : Int) else -1) ≤ i
    rw [if_pos rfl]
    have : 0 ≤ i := hi.1
    omega
  · refine ⟨0, ⟨Int.le_refl _, by show (0 : Int) < 1; decide⟩, ?_⟩
    show s0 = t
    have ht' : (if t = s0 then (0 : Int) else -1) ≠ -1 := ht
    split at ht'
    · next q => exact q.symm
    · exact absurd rfl ht'
  · have h1 : i < 1 := hi.2
    have h2 : j < 1 := hj.2
    omega
  · show -1 ≤ (if t = s0 then (0 : Int) else -1)
    split <;> omega
theorem bStep_I {C : Int → Int} {F s0 e : Int} {B : BS} (hC : wfC C) (he : 0 ≤ e) (h : BI s0 B) : BI s0 (bStep C F e B) := by
  unfold bStep
  split
  · next hc =>
    obtain ⟨h1, h2, h3, h4, h5, h6, h7⟩ := h
    obtain ⟨c1, c2, c3⟩ := hc
    have hr : 0 ≤ e / 6 ∧ e / 6 < B.2.2.1 := ⟨by omega, c1⟩
    have hv : isSt (bv C F e B) := nx_st hC (by omega) (h2 _ hr) c2
    have hnew : ∀ i, 0 ≤ i ∧ i < B.2.2.1 → B.2.1 i ≠ bv C F e B := fun i hi q => by
      have := (h3 i hi).1
      rw [q, c3] at this
      omega
    refine ⟨by show 1 ≤ B.2.2.1 + 1; omega, fun i hi => ?_, fun i hi => ?_, fun t ht => ?_, fun i j hi hj hij => ?_, ?_, fun t => ?_⟩
    · show isSt (up B.2.1 B.2.2.1 (bv C F e B) i)
      have hi2 : i < B.2.2.1 + 1 := hi.2
      by_cases q : i = B.2.2.1
      · rw [q, up_self]; exact hv
      · rw [up_ne q]; exact h2 i ⟨hi.1, by omega⟩
    · show 0 ≤ up B.1 (bv C F e B) _ (up B.2.1 B.2.2.1 (bv C F e B) i) ∧ up B.1 (bv C F e B) _ (up B.2.1 B.2.2.1 (bv C F e B) i) ≤ i
      have hi2 : i < B.2.2.1 + 1 := hi.2
      by_cases q : i = B.2.2.1
      · rw [q, up_self, up_self]
        have := h3 _ hr
        omega
      · rw [up_ne q, up_ne (hnew i ⟨hi.1, by omega⟩)]
        exact h3 i ⟨hi.1, by omega⟩
    · have ht' : up B.1 (bv C F e B) (B.1 (B.2.1 (e / 6)) + 1) t ≠ -1 := ht
      by_cases q : t = bv C F e B
      · exact ⟨B.2.2.1, ⟨by omega, by show B.2.2.1 < B.2.2.1 + 1; omega⟩, by show up B.2.1 B.2.2.1 (bv C F e B) B.2.2.1 = t; rw [up_self, q]⟩
      · rw [up_ne q] at ht'
        obtain ⟨i, hi, hit⟩ := h4 t ht'
        exact ⟨i, ⟨hi.1, by show i < B.2.2.1 + 1; omega⟩, by show up B.2.1 B.2.2.1 (bv C F e B) i = t; rw [up_ne (by omega)]; exact hit⟩
    · have hi2 : i < B.2.2.1 + 1 := hi.2
      have hj2 : j < B.2.2.1 + 1 := hj.2
      have hij' : up B.2.1 B.2.2.1 (bv C F e B) i = up B.2.1 B.2.2.1 (bv C F e B) j := hij
      by_cases q : i = B.2.2.1 <;> by_cases r : j = B.2.2.1
      · omega
      · rw [q, up_self, up_ne r] at hij'
        exact absurd hij'.symm (hnew j ⟨hj.1, by omega⟩)
      · rw [r, up_self, up_ne q] at hij'
        exact absurd hij' (hnew i ⟨hi.1, by omega⟩)
      · rw [up_ne q, up_ne r] at hij'
        exact h5 i j ⟨hi.1, by omega⟩ ⟨hj.1, by omega⟩ hij'
    · show up B.2.1 B.2.2.1 (bv C F e B) 0 = s0
      rw [up_ne (by omega)]
      exact h6
    · show -1 ≤ up B.1 (bv C F e B) _ t
      by_cases q : t = bv C F e B
      · rw [q, up_self]
        have := h3 _ hr
        omega
      · rw [up_ne q]; exact h7 t
  · exact h
theorem bf_I {C : Int → Int} {F s0 : Int} (hC : wfC C) (h : isSt s0) : ∀ e, BI s0 (bf C F s0 e)
  | 0 => b0_I h
  | e + 1 => bStep_I hC (by omega) (bf_I hC h e)
theorem BI.n_le {s0 : Int} {B : BS} (h : BI s0 B) : B.2.2.1 ≤ 455 := by
  have := pigeon 455 B.2.2.1.toNat (fun i => (pl (B.2.1 i)).toNat) (fun i hi => by
    obtain ⟨a, b, -⟩ := pl_st (h.2.1 i (by omega))
    omega) (fun i j hi hj e => by
    have hi' := h.2.1 i (by omega)
    have hj' := h.2.1 j (by omega)
    obtain ⟨a, -⟩ := pl_st hi'
    obtain ⟨b, -⟩ := pl_st hj'
    have q := pl_inj hi' hj' (by omega)
    have := h.2.2.2.2.1 i j (by omega) (by omega) q
    omega)
  omega
theorem bStep_stop {C : Int → Int} {F e : Int} {B : BS} (h : B.2.2.1 ≤ e / 6) : bStep C F e B = B := by
  unfold bStep
  rw [if_neg (fun q => by have := q.1; omega)]
theorem bf_stop {C : Int → Int} {F s0 : Int} {e : Nat} (h : 6 * (bf C F s0 e).2.2.1 ≤ e) : ∀ k, bf C F s0 (e + k) = bf C F s0 e
  | 0 => rfl
  | k + 1 => by
    have ih := bf_stop h k
    show bStep C F ((e + k : Nat) : Int) (bf C F s0 (e + k)) = _
    rw [ih]
    exact bStep_stop (by omega)
/-- all that can be found -/
def bF (C : Int → Int) (F s0 : Int) : BS := bf C F s0 2730
theorem bF_of {C : Int → Int} {F s0 : Int} {e : Nat} (h : 6 * (bf C F s0 e).2.2.1 ≤ e) (he : e ≤ 2730) : bf C F s0 e = bF C F s0 := by
  have := bf_stop h (2730 - e)
  rw [show e + (2730 - e) = 2730 by omega] at this
  exact this.symm
/-- by whole numbers -/
def bi (C : Int → Int) (F s0 e : Int) : BS := bf C F s0 e.toNat
theorem bi_0 {C : Int → Int} {F s0 : Int} : bi C F s0 0 = b0 s0 := rfl
theorem bi_s {C : Int → Int} {F s0 e : Int} (h : 0 ≤ e) : bi C F s0 (e + 1) = bStep C F e (bi C F s0 e) := by
  unfold bi
  rw [show (e + 1).toNat = e.toNat + 1 by omega]
  show bStep C F ((e.toNat : Nat) : Int) _ = _
  rw [Int.toNat_of_nonneg h]
theorem bi_I {C : Int → Int} {F s0 e : Int} (hC : wfC C) (h : isSt s0) : BI s0 (bi C F s0 e) := bf_I hC h _
theorem bi_end {C : Int → Int} {F s0 k : Int} (hk : 0 ≤ k ∧ k ≤ 455) (h : (bi C F s0 (6 * k)).2.2.1 ≤ k) : bi C F s0 (6 * k) = bF C F s0 := by
  unfold bi at h ⊢
  exact bF_of (by omega) (by omega)
theorem bF_I {C : Int → Int} {F s0 : Int} (hC : wfC C) (h : isSt s0) : BI s0 (bF C F s0) := bf_I hC h _
theorem BI.far_r {s0 : Int} {B : BS} (h : BI s0 B) (t : Int) : -1 ≤ B.1 t ∧ B.1 t ≤ 454 := by
  refine ⟨h.2.2.2.2.2.2 t, ?_⟩
  by_cases q : B.1 t = -1
  · omega
  · obtain ⟨i, hi, hit⟩ := h.2.2.2.1 t q
    have h1 := (h.2.2.1 i hi).2
    have h2 := h.n_le
    rw [hit] at h1
    omega
