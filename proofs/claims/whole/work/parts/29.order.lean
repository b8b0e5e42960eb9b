/-! ===== the search: by which step each was found, and in which order ===== -/
def BO (C : Int → Int) (F s0 e : Int) (B : BS) : Prop :=
  (∀ i, 1 ≤ i ∧ i < B.2.2.1 → 0 ≤ B.2.2.2 (B.2.1 i) ∧ B.2.2.2 (B.2.1 i) < e ∧ B.2.2.2 (B.2.1 i) / 6 < i ∧ nx C F (B.2.1 (B.2.2.2 (B.2.1 i) / 6)) (B.2.2.2 (B.2.1 i) % 6) = B.2.1 i ∧ B.1 (B.2.1 i) = B.1 (B.2.1 (B.2.2.2 (B.2.1 i) / 6)) + 1) ∧
  (∀ i j, 1 ≤ i → i < j → j < B.2.2.1 → B.2.2.2 (B.2.1 i) < B.2.2.2 (B.2.1 j)) ∧
  (∀ e', 0 ≤ e' → e' < e → e' / 6 < B.2.2.1 → nx C F (B.2.1 (e' / 6)) (e' % 6) ≠ -1 → B.1 (nx C F (B.2.1 (e' / 6)) (e' % 6)) ≠ -1 ∧ (nx C F (B.2.1 (e' / 6)) (e' % 6) = s0 ∨ B.2.2.2 (nx C F (B.2.1 (e' / 6)) (e' % 6)) ≤ e'))
theorem b0_O {C : Int → Int} {F s0 : Int} : BO C F s0 0 (b0 s0) := by
  refine ⟨fun i hi => ?_, fun i j h1 h2 h3 => ?_, fun e' h1 h2 => ?_⟩
  · have : i < 1 := hi.2
    omega
  · have : j < 1 := h3
    omega
  · omega
theorem bStep_O {C : Int → Int} {F s0 e : Int} {B : BS} (he : 0 ≤ e) (hI : BI s0 B) (h : BO C F s0 e B) : BO C F s0 (e + 1) (bStep C F e B) := by
  obtain ⟨o1, o2, o3⟩ := h
  obtain ⟨h1, h2, h3, h4, h5, h6, h7⟩ := hI
  by_cases hc : bc C F e B
  · rw [bStep_yes hc]
    obtain ⟨c1, c2, c3⟩ := hc
    generalize hvv : bv C F e B = v at *
    have hnv : ∀ i, 0 ≤ i ∧ i < B.2.2.1 → B.2.1 i ≠ v := fun i hi q => by
      have := (h3 i hi).1
      rw [q, c3] at this
      omega
    have hbv : nx C F (B.2.1 (e / 6)) (e % 6) = v := hvv
    have l1 : ∀ i, i < B.2.2.1 → up B.2.1 B.2.2.1 v i = B.2.1 i := fun i hi => up_ne (by omega)
    refine ⟨fun i hi => ?_, fun i j g1 g2 g3 => ?_, fun e' g1 g2 g3 g4 => ?_⟩
    · show 0 ≤ up B.2.2.2 v e (up B.2.1 B.2.2.1 v i) ∧ up B.2.2.2 v e (up B.2.1 B.2.2.1 v i) < e + 1 ∧ up B.2.2.2 v e (up B.2.1 B.2.2.1 v i) / 6 < i ∧ nx C F (up B.2.1 B.2.2.1 v (up B.2.2.2 v e (up B.2.1 B.2.2.1 v i) / 6)) (up B.2.2.2 v e (up B.2.1 B.2.2.1 v i) % 6) = up B.2.1 B.2.2.1 v i ∧ up B.1 v (B.1 (B.2.1 (e / 6)) + 1) (up B.2.1 B.2.2.1 v i) = up B.1 v (B.1 (B.2.1 (e / 6)) + 1) (up B.2.1 B.2.2.1 v (up B.2.2.2 v e (up B.2.1 B.2.2.1 v i) / 6)) + 1
      have hi2 : i < B.2.2.1 + 1 := hi.2
      by_cases q : i = B.2.2.1
      · rw [q, up_self, up_self, up_self, l1 _ c1, up_ne (hnv _ ⟨by omega, c1⟩)]
        exact ⟨he, by omega, by omega, hbv, rfl⟩
      · have hi3 : i < B.2.2.1 := by omega
        obtain ⟨p1, p2, p3, p4, p5⟩ := o1 i ⟨hi.1, hi3⟩
        rw [l1 i hi3, up_ne (hnv i ⟨by omega, hi3⟩), up_ne (hnv i ⟨by omega, hi3⟩), l1 _ (by omega), up_ne (hnv _ ⟨by omega, by omega⟩)]
        exact ⟨p1, by omega, p3, p4, p5⟩
    · show up B.2.2.2 v e (up B.2.1 B.2.2.1 v i) < up B.2.2.2 v e (up B.2.1 B.2.2.1 v j)
      have g3' : j < B.2.2.1 + 1 := g3
      rw [l1 i (by omega), up_ne (hnv i ⟨by omega, by omega⟩)]
      by_cases q : j = B.2.2.1
      · rw [q, up_self, up_self]
        exact (o1 i ⟨g1, by omega⟩).2.1
      · rw [l1 j (by omega), up_ne (hnv j ⟨by omega, by omega⟩)]
        exact o2 i j g1 g2 (by omega)
    · have g4' : nx C F (up B.2.1 B.2.2.1 v (e' / 6)) (e' % 6) ≠ -1 := g4
      have hle : e' / 6 ≤ e / 6 := by omega
      show up B.1 v (B.1 (B.2.1 (e / 6)) + 1) (nx C F (up B.2.1 B.2.2.1 v (e' / 6)) (e' % 6)) ≠ -1 ∧ (nx C F (up B.2.1 B.2.2.1 v (e' / 6)) (e' % 6) = s0 ∨ up B.2.2.2 v e (nx C F (up B.2.1 B.2.2.1 v (e' / 6)) (e' % 6)) ≤ e')
      rw [l1 _ (by omega)] at g4' ⊢
      have hu := (h3 (e / 6) ⟨by omega, c1⟩).1
      by_cases q : e' = e
      · rw [q, hbv, up_self, up_self]
        exact ⟨by omega, Or.inr (by omega)⟩
      · obtain ⟨r1, r2⟩ := o3 e' g1 (by omega) (by omega) g4'
        by_cases z : nx C F (B.2.1 (e' / 6)) (e' % 6) = v
        · rw [z] at r1
          exact absurd c3 r1
        · rw [up_ne z, up_ne z]
          exact ⟨r1, r2⟩
  · rw [bStep_no hc]
    refine ⟨fun i hi => ?_, o2, fun e' g1 g2 g3 g4 => ?_⟩
    · obtain ⟨p1, p2, p3⟩ := o1 i hi
      exact ⟨p1, by omega, p3⟩
    · by_cases q : e' = e
      · subst q
        have hf : B.1 (nx C F (B.2.1 (e' / 6)) (e' % 6)) ≠ -1 := fun z => hc ⟨g3, g4, z⟩
        refine ⟨hf, ?_⟩
        obtain ⟨i, hi, hit⟩ := h4 _ hf
        by_cases hi0 : i = 0
        · left
          rw [← hit, hi0]
          exact h6
        · right
          rw [← hit]
          have := (o1 i ⟨by omega, hi.2⟩).2.1
          omega
      · exact o3 e' g1 (by omega) g3 g4
theorem bf_O {C : Int → Int} {F s0 : Int} (hC : wfC C) (h : isSt s0) : ∀ e : Nat, BO C F s0 e (bf C F s0 e)
  | 0 => b0_O
  | e + 1 => bStep_O (by omega) (bf_I hC h e) (bf_O hC h e)
theorem bi_O {C : Int → Int} {F s0 e : Int} (hC : wfC C) (h : isSt s0) (he : 0 ≤ e) : BO C F s0 e (bi C F s0 e) := by
  have := bf_O hC h (F := F) e.toNat
  rw [Int.toNat_of_nonneg he] at this
  exact this
theorem bF_O {C : Int → Int} {F s0 : Int} (hC : wfC C) (h : isSt s0) : BO C F s0 2730 (bF C F s0) := bf_O hC h 2730
/-! tables of the class's search -/
def witF (i : Int) : Int := (([6148914691236517205, 3689348814741910323, 1085102592571150095, 71777214294589695, 281470681808895, 4294967295] : List Int)).getD i.toNat 0
def SV2 (V : Mm) : Prop := V 4 = aheF ∧ V 5 = witF
def ld (C : Int → Int) (F q p : Int) : Int := if nx C F (stF q) p = -1 then -1 else pl (nx C F (stF q) p)
/-- what is kept of where pairs lead is right, or unknown -/
def COk (C : Int → Int) (F : Int) (f : Int → Int) : Prop := ∀ q p, 0 ≤ q ∧ q < 455 → 0 ≤ p ∧ p < 6 → f (6 * q + p) = -2 ∨ f (6 * q + p) = ld C F q p
def SrP (K : Sk) (V : Mm) (C : Int → Int) (F : Int) : Prop := Lay K ∧ SV V ∧ SV2 V ∧ wfC C ∧ (0 ≤ F ∧ F < 64) ∧ IslD V C F ∧ (∀ q, 0 ≤ q ∧ q < 455 → V 118 q = stF q) ∧ COk C F (V 119)
theorem ld_r {C : Int → Int} {F q p : Int} (hC : wfC C) (hq : 0 ≤ q ∧ q < 455) (hp : 0 ≤ p ∧ p < 6) : -1 ≤ ld C F q p ∧ ld C F q p < 455 := by
  unfold ld
  split
  · omega
  · next h =>
    obtain ⟨a, b, -⟩ := pl_st (nx_st hC hp (stF_at hq).1 h)
    omega
theorem ahe_r : ∀ n, n < 13 → 0 ≤ aheF (n : Nat) ∧ aheF (n : Nat) ≤ 454 := by decide
