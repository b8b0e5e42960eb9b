/-! ===== in how many ways ===== -/
def cpl (s p : Int) : Int := if lesF p = greF p then cnt s (lesF p) * (cnt s (lesF p) - 1) / 2 else cnt s (lesF p) * cnt s (greF p)
def wyst (C : Int → Int) (F : Int) (U : Int → Int) (e : Int) (A : Int → Int) : Int → Int := if nx C F (stF (e / 6)) (e % 6) = -1 then A else up A (nx C F (stF (e / 6)) (e % 6)) (A (nx C F (stF (e / 6)) (e % 6)) + U (stF (e / 6)) * cpl (stF (e / 6)) (e % 6))
def wyf (C : Int → Int) (F : Int) (U : Int → Int) : Nat → Int → Int
  | 0 => fun _ => 0
  | e + 1 => wyst C F U e (wyf C F U e)
def wyI (C : Int → Int) (F : Int) (U : Int → Int) (e : Int) : Int → Int := wyf C F U e.toNat
theorem wyI_s {C : Int → Int} {F : Int} {U : Int → Int} {e : Int} (h : 0 ≤ e) : wyI C F U (e + 1) = wyst C F U e (wyI C F U e) := by
  unfold wyI
  rw [show (e + 1).toNat = e.toNat + 1 by omega]
  show wyst C F U (e.toNat : Int) _ = _
  rw [show ((e.toNat : Nat) : Int) = e by omega]
def wyK (C : Int → Int) (F s0 : Int) : Nat → Int → Int
  | 0 => fun t => if t = s0 then 1 else 0
  | k + 1 => wyI C F (wyK C F s0 k) 2730
theorem wyK_s {C : Int → Int} {F s0 : Int} {k : Nat} : wyK C F s0 (k + 1) = wyI C F (wyK C F s0 k) 2730 := rfl
/-- how far the reference's count of states has come among the places -/
def Rk (s q : Int) : Prop := (0 ≤ q ∧ q ≤ 455) ∧ (∀ j, 0 ≤ j → j < q → stF j < s) ∧ ∀ j, q ≤ j → j < 455 → s ≤ stF j
theorem Rk_0 : Rk 0 0 := ⟨by decide, fun j h0 h1 => by omega, fun j h0 h1 => (stF_at ⟨h0, h1⟩).1.1⟩
theorem Rk_st {s q : Int} (hs : isSt s) (h : Rk s q) : q = pl s ∧ stF q = s ∧ (0 ≤ q ∧ q < 455) ∧ Rk (s + 1) (q + 1) := by
  obtain ⟨⟨h0, h1⟩, h2, h3⟩ := h
  obtain ⟨p0, p1, p2⟩ := pl_st hs
  have e1 : ¬ pl s < q := fun z => by
    have := h2 (pl s) p0 z
    omega
  have e2 : ¬ q < pl s := fun z => by
    have := stF_lt h0 z p1
    have := h3 q (Int.le_refl _) (by omega)
    omega
  have e : q = pl s := by omega
  have e3 : stF q = s := by rw [e]; exact p2
  refine ⟨e, e3, by omega, by omega, fun j j0 j1 => ?_, fun j j0 j1 => ?_⟩
  · by_cases z : j = q
    · rw [z, e3]; omega
    · have := h2 j j0 (by omega); omega
  · have := stF_lt h0 (show q < j by omega) j1
    omega
theorem Rk_no {s q : Int} (hs : ¬ isSt s) (h : Rk s q) : Rk (s + 1) q := by
  obtain ⟨h0, h2, h3⟩ := h
  refine ⟨h0, fun j j0 j1 => ?_, fun j j0 j1 => ?_⟩
  · have := h2 j j0 j1; omega
  · have := h3 j j0 j1
    have hj := (stF_at (i := j) ⟨by omega, j1⟩).1
    have : stF j ≠ s := fun z => hs (by rw [← z]; exact hj)
    omega
theorem Rk_end {q : Int} (h : Rk 2197 q) : q = 455 := by
  obtain ⟨h0, h2, h3⟩ := h
  have : ¬ q < 455 := fun z => by
    have := h3 q (Int.le_refl _) z
    have hj := (stF_at (i := q) ⟨by omega, z⟩).1.2.1
    omega
  omega
/-- the sum over all places -/
def Sm (f : Int → Int) : Nat → Int
  | 0 => 0
  | n + 1 => Sm f n + f (stF n)
theorem stF_inj {i j : Int} (hi : 0 ≤ i ∧ i < 455) (hj : 0 ≤ j ∧ j < 455) (h : stF i = stF j) : i = j := by
  rcases (show i < j ∨ i = j ∨ j < i by omega) with z | z | z
  · have := stF_lt hi.1 z hj.2; omega
  · exact z
  · have := stF_lt hj.1 z hi.2; omega
theorem Sm_up {f : Int → Int} {j v : Int} (hj : 0 ≤ j ∧ j < 455) : ∀ n : Nat, n ≤ 455 → Sm (up f (stF j) v) n = Sm f n + (if j < n then v - f (stF j) else 0)
  | 0, _ => by
    rw [if_neg (by omega)]
    rfl
  | n + 1, hn => by
    show Sm (up f (stF j) v) n + up f (stF j) v (stF n) = Sm f n + f (stF n) + _
    rw [Sm_up hj n (by omega)]
    by_cases z : j = n
    · subst z
      rw [up_self, if_neg (by omega), if_pos (by omega)]
      omega
    · have hne : stF n ≠ stF j := fun q => z (stF_inj hj ⟨by omega, by omega⟩ q.symm)
      rw [up_ne hne]
      by_cases y : j < n
      · rw [if_pos y, if_pos (by omega)]; omega
      · rw [if_neg y, if_neg (by omega)]; omega
theorem Sm_nn {f : Int → Int} (h : ∀ t, 0 ≤ f t) : ∀ n : Nat, 0 ≤ Sm f n
  | 0 => Int.le_refl 0
  | n + 1 => by
    have := Sm_nn h n
    have := h (stF n)
    show 0 ≤ Sm f n + f (stF n)
    omega
theorem Sm_le {f : Int → Int} (h : ∀ t, 0 ≤ f t) : ∀ (n j : Nat), j < n → f (stF j) ≤ Sm f n
  | 0, j, hj => by omega
  | n + 1, j, hj => by
    show _ ≤ Sm f n + f (stF n)
    have h1 := Sm_nn h n
    have h2 := h (stF n)
    by_cases z : j = n
    · rw [z]; omega
    · have := Sm_le h n j (by omega); omega
theorem cpl_tab : ∀ a, a < 13 → ∀ b, b < 13 → ∀ c, c < 13 → a + b + c ≤ 12 → ((a : Nat) : Int) * (a - 1) / 2 + a * (b : Nat) + a * (c : Nat) + (b : Nat) * ((b : Nat) - 1) / 2 + (b : Nat) * (c : Nat) + (c : Nat) * ((c : Nat) - 1) / 2 ≤ 66 := by decide +kernel
theorem cpl_66 {s : Int} (hs : isSt s) : cpl s 0 + cpl s 1 + cpl s 2 + cpl s 3 + cpl s 4 + cpl s 5 ≤ 66 := by
  have h0 := cnt_r s 0
  have h1 := cnt_r s 1
  have h2 := cnt_r s 2
  have hb := bei_eq (isSt_lt hs)
  have hs3 := hs.2.2
  have e0 : cpl s 0 = cnt s 0 * (cnt s 0 - 1) / 2 := rfl
  have e1 : cpl s 1 = cnt s 0 * cnt s 1 := rfl
  have e2 : cpl s 2 = cnt s 0 * cnt s 2 := rfl
  have e3 : cpl s 3 = cnt s 1 * (cnt s 1 - 1) / 2 := rfl
  have e4 : cpl s 4 = cnt s 1 * cnt s 2 := rfl
  have e5 : cpl s 5 = cnt s 2 * (cnt s 2 - 1) / 2 := rfl
  rw [e0, e1, e2, e3, e4, e5]
  rw [hb] at hs3
  generalize cnt s 0 = a at *
  generalize cnt s 1 = b at *
  generalize cnt s 2 = c at *
  have := cpl_tab a.toNat (by omega) b.toNat (by omega) c.toNat (by omega) (by omega)
  rw [show ((a.toNat : Nat) : Int) = a by omega, show ((b.toNat : Nat) : Int) = b by omega, show ((c.toNat : Nat) : Int) = c by omega] at this
  exact this
theorem cpl_nn {s p : Int} : 0 ≤ cpl s p := by
  unfold cpl
  have h0 := cnt_r s (lesF p)
  have h1 := cnt_r s (greF p)
  generalize cnt s (lesF p) = a at *
  generalize cnt s (greF p) = b at *
  split
  · have : 0 ≤ a * (a - 1) := by
      rcases (show a = 0 ∨ 1 ≤ a by omega) with z | z
      · rw [z]; decide
      · exact Int.mul_nonneg (by omega) (by omega)
    exact Int.ediv_nonneg this (by decide)
  · exact Int.mul_nonneg h0.1 h1.1
theorem cpl_r {s p : Int} (hs : isSt s) (hp : 0 ≤ p ∧ p < 6) : 0 ≤ cpl s p ∧ cpl s p ≤ 66 := by
  have h := cpl_66 hs
  have h0 := cpl_nn (s := s) (p := 0)
  have h1 := cpl_nn (s := s) (p := 1)
  have h2 := cpl_nn (s := s) (p := 2)
  have h3 := cpl_nn (s := s) (p := 3)
  have h4 := cpl_nn (s := s) (p := 4)
  have h5 := cpl_nn (s := s) (p := 5)
  rcases (show p = 0 ∨ p = 1 ∨ p = 2 ∨ p = 3 ∨ p = 4 ∨ p = 5 by omega) with z | z | z | z | z | z <;> subst z <;> omega
section WYS
variable {C : Int → Int} {F : Int} {U : Int → Int}
theorem wyst_nn {e : Int} {A : Int → Int} (hU : ∀ t, 0 ≤ U t) (hA : ∀ t, 0 ≤ A t) (t : Int) : 0 ≤ wyst C F U e A t := by
  unfold wyst
  split
  · exact hA t
  · by_cases z : t = nx C F (stF (e / 6)) (e % 6)
    · rw [z, up_self]
      have := Int.mul_nonneg (hU (stF (e / 6))) (cpl_nn (s := stF (e / 6)) (p := e % 6))
      have := hA (nx C F (stF (e / 6)) (e % 6))
      omega
    · rw [up_ne z]
      exact hA t
theorem wyst_Sm (hC : wfC C) {q p : Int} {A : Int → Int} (hU : ∀ t, 0 ≤ U t) (hq : 0 ≤ q ∧ q < 455) (hp : 0 ≤ p ∧ p < 6) : Sm (wyst C F U (6 * q + p) A) 455 ≤ Sm A 455 + U (stF q) * cpl (stF q) p := by
  have hs := (stF_at hq).1
  have hmn := Int.mul_nonneg (hU (stF q)) (cpl_nn (s := stF q) (p := p))
  unfold wyst
  rw [show (6 * q + p) / 6 = q by omega, show (6 * q + p) % 6 = p by omega]
  by_cases z : nx C F (stF q) p = -1
  · rw [if_pos z]; omega
  · rw [if_neg z]
    obtain ⟨p0, p1, p2⟩ := pl_st (nx_st hC hp hs z)
    have := Sm_up (f := A) (j := pl (nx C F (stF q) p)) (v := A (nx C F (stF q) p) + U (stF q) * cpl (stF q) p) ⟨p0, p1⟩ 455 (by decide)
    have p1' : pl (nx C F (stF q) p) < ((455 : Nat) : Int) := p1
    rw [p2, if_pos p1'] at this
    rw [this]
    omega
theorem wyI_ok (hC : wfC C) (hU : ∀ t, 0 ≤ U t) : ∀ n : Nat, n ≤ 455 → (∀ t, 0 ≤ wyI C F U (6 * n) t) ∧ Sm (wyI C F U (6 * n)) 455 ≤ 66 * Sm U n
  | 0, _ => ⟨fun t => Int.le_refl 0, by
      have e : ∀ n, Sm (wyI C F U (6 * (0 : Nat))) n = 0 := fun n => by
        induction n with
        | zero => rfl
        | succ n ih =>
          show Sm _ n + 0 = 0
          rw [ih]; rfl
      rw [e]
      show (0 : Int) ≤ 66 * 0
      decide⟩
  | n + 1, hn => by
    obtain ⟨h1, h2⟩ := wyI_ok hC hU n (by omega)
    have hq : 0 ≤ (n : Int) ∧ (n : Int) < 455 := by omega
    have hs := (stF_at hq).1
    have st : ∀ p, 0 ≤ p → wyI C F U (6 * n + (p + 1)) = wyst C F U (6 * n + p) (wyI C F U (6 * n + p)) := fun p hp => by
      rw [show 6 * (n : Int) + (p + 1) = 6 * n + p + 1 by omega, wyI_s (by omega)]
    have s0 := st 0 (by decide)
    have s1 := st 1 (by decide)
    have s2 := st 2 (by decide)
    have s3 := st 3 (by decide)
    have s4 := st 4 (by decide)
    have s5 := st 5 (by decide)
    have e0 : 6 * (n : Int) + 0 = 6 * n := by omega
    rw [e0] at s0
    have n0 : ∀ t, 0 ≤ wyI C F U (6 * n + (0 + 1)) t := fun t => by rw [s0]; exact wyst_nn hU h1 t
    have n1 : ∀ t, 0 ≤ wyI C F U (6 * n + (1 + 1)) t := fun t => by rw [s1]; exact wyst_nn hU n0 t
    have n2 : ∀ t, 0 ≤ wyI C F U (6 * n + (2 + 1)) t := fun t => by rw [s2]; exact wyst_nn hU n1 t
    have n3 : ∀ t, 0 ≤ wyI C F U (6 * n + (3 + 1)) t := fun t => by rw [s3]; exact wyst_nn hU n2 t
    have n4 : ∀ t, 0 ≤ wyI C F U (6 * n + (4 + 1)) t := fun t => by rw [s4]; exact wyst_nn hU n3 t
    have n5 : ∀ t, 0 ≤ wyI C F U (6 * n + (5 + 1)) t := fun t => by rw [s5]; exact wyst_nn hU n4 t
    have m0 := wyst_Sm (F := F) (A := wyI C F U (6 * n)) hC hU hq (p := 0) (by decide)
    have m1 := wyst_Sm (F := F) (A := wyI C F U (6 * n + (0 + 1))) hC hU hq (p := 1) (by decide)
    have m2 := wyst_Sm (F := F) (A := wyI C F U (6 * n + (1 + 1))) hC hU hq (p := 2) (by decide)
    have m3 := wyst_Sm (F := F) (A := wyI C F U (6 * n + (2 + 1))) hC hU hq (p := 3) (by decide)
    have m4 := wyst_Sm (F := F) (A := wyI C F U (6 * n + (3 + 1))) hC hU hq (p := 4) (by decide)
    have m5 := wyst_Sm (F := F) (A := wyI C F U (6 * n + (4 + 1))) hC hU hq (p := 5) (by decide)
    rw [e0] at m0
    have f0 : wyst C F U (6 * n) (wyI C F U (6 * n)) = wyI C F U (6 * n + (0 + 1)) := s0.symm
    have f1 : wyst C F U (6 * n + 1) (wyI C F U (6 * n + (0 + 1))) = wyI C F U (6 * n + (1 + 1)) := s1.symm
    have f2 : wyst C F U (6 * n + 2) (wyI C F U (6 * n + (1 + 1))) = wyI C F U (6 * n + (2 + 1)) := s2.symm
    have f3 : wyst C F U (6 * n + 3) (wyI C F U (6 * n + (2 + 1))) = wyI C F U (6 * n + (3 + 1)) := s3.symm
    have f4 : wyst C F U (6 * n + 4) (wyI C F U (6 * n + (3 + 1))) = wyI C F U (6 * n + (4 + 1)) := s4.symm
    have f5 : wyst C F U (6 * n + 5) (wyI C F U (6 * n + (4 + 1))) = wyI C F U (6 * n + (5 + 1)) := s5.symm
    rw [f0] at m0
    rw [f1] at m1
    rw [f2] at m2
    rw [f3] at m3
    rw [f4] at m4
    rw [f5] at m5
    have hc := cpl_66 hs
    have hmul : U (stF n) * (cpl (stF n) 0 + cpl (stF n) 1 + cpl (stF n) 2 + cpl (stF n) 3 + cpl (stF n) 4 + cpl (stF n) 5) ≤ U (stF n) * 66 := Int.mul_le_mul_of_nonneg_left hc (hU _)
    rw [Int.mul_add, Int.mul_add, Int.mul_add, Int.mul_add, Int.mul_add] at hmul
    rw [show (6 * ((n + 1 : Nat) : Int)) = 6 * n + (5 + 1) by omega]
    refine ⟨n5, ?_⟩
    show _ ≤ 66 * (Sm U n + U (stF n))
    omega
end WYS
theorem wyK_ok {C : Int → Int} {F s0 : Int} (hC : wfC C) (hs : isSt s0) : ∀ k : Nat, (∀ t, 0 ≤ wyK C F s0 k t) ∧ Sm (wyK C F s0 k) 455 ≤ 66 ^ k
  | 0 => by
    obtain ⟨p0, p1, p2⟩ := pl_st hs
    refine ⟨fun t => by show 0 ≤ (if t = s0 then (1 : Int) else 0); split <;> decide, ?_⟩
    have e : wyK C F s0 0 = up (fun _ => 0) (stF (pl s0)) 1 := by
      funext t
      rw [p2]
      rfl
    have e0 : ∀ n, Sm (fun _ => 0) n = 0 := fun n => by
      induction n with
      | zero => rfl
      | succ n ih =>
        show Sm _ n + 0 = 0
        rw [ih]; rfl
    have p1' : pl s0 < ((455 : Nat) : Int) := p1
    rw [e, Sm_up ⟨p0, p1⟩ 455 (by decide), if_pos p1', e0]
    decide
  | k + 1 => by
    obtain ⟨h1, h2⟩ := wyK_ok (F := F) hC hs k
    obtain ⟨g1, g2⟩ := wyI_ok (F := F) hC h1 455 (by decide)
    refine ⟨g1, ?_⟩
    have g3 : Sm (wyK C F s0 (k + 1)) 455 ≤ 66 * Sm (wyK C F s0 k) 455 := g2
    rw [Int.pow_succ]
    generalize (66 : Int) ^ k = z at *
    omega
theorem wyI_off {C : Int → Int} {F : Int} {U : Int → Int} (hC : wfC C) {t : Int} (ht : ¬ isSt t) : ∀ n : Nat, n ≤ 2730 → wyf C F U n t = 0
  | 0, _ => rfl
  | n + 1, hn => by
    show wyst C F U n (wyf C F U n) t = 0
    unfold wyst
    split
    · exact wyI_off hC ht n (by omega)
    · next z =>
      have hs := (stF_at (i := (n : Int) / 6) ⟨by omega, by omega⟩).1
      have := nx_st hC (p := (n : Int) % 6) (by omega) hs z
      rw [up_ne (fun q => ht (by rw [q]; exact this))]
      exact wyI_off hC ht n (by omega)
theorem wyK_off {C : Int → Int} {F s0 : Int} (hC : wfC C) (hs : isSt s0) {t : Int} (ht : ¬ isSt t) : ∀ k : Nat, wyK C F s0 k t = 0
  | 0 => by
    show (if t = s0 then (1 : Int) else 0) = 0
    rw [if_neg (fun z => ht (by rw [z]; exact hs))]
  | k + 1 => by
    rw [wyK_s]
    unfold wyI
    exact wyI_off hC ht _ (by decide)
theorem wyK_r {C : Int → Int} {F s0 : Int} (hC : wfC C) (hs : isSt s0) {k : Nat} (hk : k ≤ 6) (t : Int) : 0 ≤ wyK C F s0 k t ∧ wyK C F s0 k t ≤ 82653950016 := by
  obtain ⟨h1, h2⟩ := wyK_ok (F := F) hC hs k
  refine ⟨h1 t, ?_⟩
  have h3 : (66 : Int) ^ k ≤ 82653950016 := by
    rcases (show k = 0 ∨ k = 1 ∨ k = 2 ∨ k = 3 ∨ k = 4 ∨ k = 5 ∨ k = 6 by omega) with z | z | z | z | z | z | z <;> subst z <;> decide
  by_cases ht : isSt t
  · obtain ⟨p0, p1, p2⟩ := pl_st ht
    have := Sm_le h1 455 (pl t).toNat (by omega)
    rw [show (((pl t).toNat : Nat) : Int) = pl t by omega, p2] at this
    omega
  · rw [wyK_off hC hs ht k]
    decide
theorem wyst_z {C : Int → Int} {F : Int} {U : Int → Int} {e : Int} {A : Int → Int} (h : U (stF (e / 6)) = 0) : wyst C F U e A = A := by
  unfold wyst
  split
  · rfl
  · rw [h, Int.zero_mul, Int.add_zero]
    funext t
    by_cases z : t = nx C F (stF (e / 6)) (e % 6)
    · rw [z, up_self]
    · rw [up_ne z]
theorem wyI_skip {C : Int → Int} {F : Int} {U : Int → Int} {q : Int} (hq : 0 ≤ q) (h : U (stF q) = 0) : wyI C F U (6 * q + 6) = wyI C F U (6 * q) := by
  have st : ∀ p, 0 ≤ p → p < 6 → wyI C F U (6 * q + (p + 1)) = wyI C F U (6 * q + p) := fun p hp hp6 => by
    rw [show 6 * q + (p + 1) = 6 * q + p + 1 by omega, wyI_s (by omega)]
    exact wyst_z (by rw [show (6 * q + p) / 6 = q by omega]; exact h)
  have s0 := st 0 (by decide) (by decide)
  have s1 := st 1 (by decide) (by decide)
  have s2 := st 2 (by decide) (by decide)
  have s3 := st 3 (by decide) (by decide)
  have s4 := st 4 (by decide) (by decide)
  have s5 := st 5 (by decide) (by decide)
  have e : 6 * q + 0 = 6 * q := by omega
  rw [e] at s0
  exact s5.trans (s4.trans (s3.trans (s2.trans (s1.trans s0))))
