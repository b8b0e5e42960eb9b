/-! ===== the first way as a row ===== -/
section WAY
variable {C : Int → Int} {F s0 e : Int} {B : BS}
theorem far_0 (hI : BI s0 B) : B.1 s0 = 0 := by
  have := hI.2.2.1 0 ⟨Int.le_refl _, by have := hI.1; omega⟩
  rw [hI.2.2.2.2.2.1] at this
  omega
theorem far_mono (hI : BI s0 B) (hO : BO C F s0 e B) : ∀ (n : Nat) (i j : Int), j.toNat ≤ n → 0 ≤ i → i ≤ j → j < B.2.2.1 → B.1 (B.2.1 i) ≤ B.1 (B.2.1 j) := by
  intro n
  induction n with
  | zero =>
    intro i j hn hi hij hj
    rw [show i = 0 by omega, show j = 0 by omega]
    exact Int.le_refl _
  | succ n ih =>
    intro i j hn hi hij hj
    by_cases h0 : i = 0
    · rw [h0, hI.2.2.2.2.2.1, far_0 hI]
      exact (hI.2.2.1 j ⟨by omega, hj⟩).1
    · by_cases hij' : i = j
      · rw [hij']
        exact Int.le_refl _
      · obtain ⟨a1, a2, a3, a4, a5⟩ := hO.1 i ⟨by omega, by omega⟩
        obtain ⟨b1, b2, b3, b4, b5⟩ := hO.1 j ⟨by omega, hj⟩
        have hlt := hO.2.1 i j (by omega) (by omega) hj
        rw [a5, b5]
        have := ih (B.2.2.2 (B.2.1 i) / 6) (B.2.2.2 (B.2.1 j) / 6) (by omega) (by omega) (by omega) (by omega)
        omega
def par (B : BS) (v : Int) : Int := B.2.1 (B.2.2.2 v / 6)
def anc (B : BS) (v : Int) : Nat → Int
  | 0 => v
  | j + 1 => par B (anc B v j)
/-- a way of so many steps to t, each one farther -/
def Ch (C : Int → Int) (F : Int) (B : BS) (t : Int) : Nat → Int → Prop
  | 0, w => w = t
  | m + 1, w => ∃ p, (0 ≤ p ∧ p < 6) ∧ nx C F w p ≠ -1 ∧ B.1 (nx C F w p) = B.1 w + 1 ∧ Ch C F B t m (nx C F w p)
theorem reached_i (hI : BI s0 B) {v : Int} (hv : B.1 v ≠ -1) (h1 : 1 ≤ B.1 v) : ∃ i, (1 ≤ i ∧ i < B.2.2.1) ∧ B.2.1 i = v := by
  obtain ⟨i, hi, hit⟩ := hI.2.2.2.1 v hv
  refine ⟨i, ⟨?_, hi.2⟩, hit⟩
  rcases (show i = 0 ∨ 1 ≤ i by omega) with q | q
  · rw [q, hI.2.2.2.2.2.1] at hit
    rw [← hit, far_0 hI] at h1
    omega
  · exact q
theorem par_ok (hI : BI s0 B) (hO : BO C F s0 e B) {v : Int} (h1 : 1 ≤ B.1 v) : B.1 (par B v) = B.1 v - 1 ∧ nx C F (par B v) (B.2.2.2 v % 6) = v ∧ 0 ≤ B.2.2.2 v ∧ ∃ k, (0 ≤ k ∧ k < B.2.2.1) ∧ B.2.1 k = par B v ∧ B.2.2.2 v / 6 = k := by
  obtain ⟨i, hi, rfl⟩ := reached_i hI (by omega) h1
  obtain ⟨a1, a2, a3, a4, a5⟩ := hO.1 i hi
  exact ⟨by unfold par; omega, a4, a1, _, ⟨by omega, by omega⟩, rfl, rfl⟩
theorem anc_far (hI : BI s0 B) (hO : BO C F s0 e B) {t : Int} (ht : B.1 t ≠ -1) : ∀ j : Nat, (j : Int) ≤ B.1 t → B.1 (anc B t j) = B.1 t - j
  | 0, _ => by show B.1 t = B.1 t - ((0 : Nat) : Int); omega
  | j + 1, h => by
    have ih := anc_far hI hO ht j (by omega)
    have := (par_ok hI hO (v := anc B t j) (by omega)).1
    show B.1 (par B (anc B t j)) = _
    rw [this, ih]
    omega
/-- an edge's end was found by then -/
theorem edge_by (hI : BI s0 B) (hO : BO C F s0 e B) (he : 6 * B.2.2.1 ≤ e) {k p : Int} (hk : 0 ≤ k ∧ k < B.2.2.1) (hp : 0 ≤ p ∧ p < 6) (hn : nx C F (B.2.1 k) p ≠ -1) : B.1 (nx C F (B.2.1 k) p) ≠ -1 ∧ (nx C F (B.2.1 k) p = s0 ∨ B.2.2.2 (nx C F (B.2.1 k) p) ≤ 6 * k + p) := by
  have := hO.2.2 (6 * k + p) (by omega) (by omega) (by omega) (by rw [show (6 * k + p) / 6 = k by omega, show (6 * k + p) % 6 = p by omega]; exact hn)
  rw [show (6 * k + p) / 6 = k by omega, show (6 * k + p) % 6 = p by omega] at this
  exact this
/-- none that was found earlier comes to t as fast -/
theorem no_chain (hI : BI s0 B) (hO : BO C F s0 e B) (he : 6 * B.2.2.1 ≤ e) {t : Int} (ht : B.1 t ≠ -1) : ∀ (m : Nat) (w : Int), (m : Int) < B.1 t → B.1 w = B.1 t - m → Ch C F B t m w → B.2.2.2 w < B.2.2.2 (anc B t m) → False
  | 0, w, hm, hw, hc, hlt => by
    have : w = t := hc
    rw [this] at hlt
    exact absurd hlt (by show ¬ B.2.2.2 t < B.2.2.2 t; omega)
  | m + 1, w, hm, hw, hc, hlt => by
    obtain ⟨p, hp, c1, c2, c3⟩ := hc
    have hu := anc_far hI hO ht m (by omega)
    have hu1 := anc_far hI hO ht (m + 1) (by omega)
    obtain ⟨-, -, q3, k, hk, hk2, hk3⟩ := par_ok hI hO (v := anc B t m) (by omega)
    obtain ⟨i, hi, hiw⟩ := reached_i hI (v := w) (by omega) (by omega)
    have hku : B.2.1 k = anc B t (m + 1) := hk2
    have hik : i < k := by
      rcases (show i < k ∨ i = k ∨ k < i by omega) with q | q | q
      · exact q
      · rw [← hiw, q, hku] at hlt; omega
      · have hk1 : 1 ≤ k := by
          rcases (show k = 0 ∨ 1 ≤ k by omega) with z | z
          · rw [z, hI.2.2.2.2.2.1] at hku
            rw [← hku, far_0 hI] at hu1
            omega
          · exact z
        have := hO.2.1 k i hk1 q hi.2
        rw [hku, hiw] at this
        omega
    rw [← hiw] at c1 c2 c3
    have hb := edge_by hI hO he (k := i) ⟨by omega, hi.2⟩ hp c1
    have hne : nx C F (B.2.1 i) p ≠ s0 := fun z => by
      rw [z, far_0 hI, hiw] at c2
      omega
    have hle := hb.2.resolve_left hne
    refine no_chain hI hO he ht m (nx C F (B.2.1 i) p) (by omega) ?_ c3 (by omega)
    rw [c2, hiw, hw]
    omega
/-- the pair by which the way goes on, and no lesser one -/
theorem way_pair (hI : BI s0 B) (hO : BO C F s0 e B) (he : 6 * B.2.2.1 ≤ e) {t : Int} (ht : B.1 t ≠ -1) {j : Nat} (hj : (j : Int) < B.1 t) :
    (nx C F (anc B t (j + 1)) (B.2.2.2 (anc B t j) % 6) = anc B t j ∧ B.1 (anc B t j) = B.1 (anc B t (j + 1)) + 1) ∧ ∀ p, 0 ≤ p → p < B.2.2.2 (anc B t j) % 6 → ¬ (nx C F (anc B t (j + 1)) p ≠ -1 ∧ B.1 (nx C F (anc B t (j + 1)) p) = B.1 (anc B t (j + 1)) + 1 ∧ Ch C F B t j (nx C F (anc B t (j + 1)) p)) := by
  have hu := anc_far hI hO ht j (by omega)
  have hu1 := anc_far hI hO ht (j + 1) (by omega)
  obtain ⟨q1, q2, q3, k, hk, hk2, hk3⟩ := par_ok hI hO (v := anc B t j) (by omega)
  have hpa : par B (anc B t j) = anc B t (j + 1) := rfl
  rw [hpa] at q1 q2 hk2
  refine ⟨⟨q2, by omega⟩, fun p hp0 hp1 hx => ?_⟩
  obtain ⟨x1, x2, x3⟩ := hx
  rw [← hk2] at x1 x2 x3
  have hb := edge_by hI hO he hk (p := p) (by omega) x1
  have hne : nx C F (B.2.1 k) p ≠ s0 := fun z => by
    rw [z, far_0 hI, hk2] at x2
    omega
  have hle := hb.2.resolve_left hne
  exact no_chain hI hO he ht j (nx C F (B.2.1 k) p) hj (by rw [x2, hk2]; omega) x3 (by omega)
/-- the way itself is such a chain -/
theorem anc_ch (hI : BI s0 B) (hO : BO C F s0 e B) {t : Int} (ht : B.1 t ≠ -1) : ∀ j : Nat, (j : Int) ≤ B.1 t → Ch C F B t j (anc B t j)
  | 0, _ => rfl
  | j + 1, h => by
    have ih := anc_ch hI hO ht j (by omega)
    have hu := anc_far hI hO ht j (by omega)
    obtain ⟨q1, q2, q3, -⟩ := par_ok hI hO (v := anc B t j) (by omega)
    refine ⟨B.2.2.2 (anc B t j) % 6, by omega, ?_, ?_, ?_⟩
    · show nx C F (par B (anc B t j)) _ ≠ -1
      rw [q2]
      intro z
      have h1 : B.1 (anc B t j) ≠ -1 := by omega
      obtain ⟨i, hi, hit⟩ := hI.2.2.2.1 _ h1
      have := (hI.2.1 i hi).1
      rw [hit, z] at this
      omega
    · show B.1 (nx C F (par B (anc B t j)) _) = B.1 (par B (anc B t j)) + 1
      rw [q2, q1]
      omega
    · show Ch C F B t j (nx C F (par B (anc B t j)) _)
      rw [q2]
      exact ih
theorem anc_end (hI : BI s0 B) (hO : BO C F s0 e B) {t : Int} (ht : B.1 t ≠ -1) {j : Nat} (hj : (j : Int) = B.1 t) : anc B t j = s0 := by
  have hu := anc_far hI hO ht j (by omega)
  obtain ⟨i, hi, hit⟩ := hI.2.2.2.1 (anc B t j) (by omega)
  rcases (show i = 0 ∨ 1 ≤ i by omega) with q | q
  · rw [← hit, q]
    exact hI.2.2.2.2.2.1
  · have := (hO.1 i ⟨q, hi.2⟩).2.2.2.2
    have h2 := (hO.1 i ⟨q, hi.2⟩).2.2.1
    have h3 := (hO.1 i ⟨q, hi.2⟩).1
    have h4 := (hI.2.2.1 (B.2.2.2 (B.2.1 i) / 6) ⟨by omega, by omega⟩).1
    rw [hit] at this
    rw [hit] at h4
    omega
end WAY
