/-! ===== sorts, pairs, what comes of a pair ===== -/
theorem les_r (p : Int) (h : 0 ≤ p ∧ p < 6) : 0 ≤ lesF p ∧ lesF p < 3 := by
  unfold lesF
  split
  · omega
  · split <;> omega
theorem gre_r (p : Int) (h : 0 ≤ p ∧ p < 6) : 0 ≤ greF p ∧ greF p < 3 := by
  unfold greF
  split
  · omega
  · split <;> omega
def one (s : Int) : Int := if s < 0 then 0 else if s = 0 then 169 else if s = 1 then 13 else 1
/-- 1 where they are the same -/
def ind (a b : Int) : Int := if a = b then 1 else 0
theorem ind_r (a b : Int) : 0 ≤ ind a b ∧ ind a b ≤ 1 := by
  unfold ind
  split <;> omega
def many (C : Int → Int) (p : Int) : Int := 1 + (if 0 ≤ C (3 * p + 1) then 1 else 0) + (if 0 ≤ C (3 * p + 2) then 1 else 0)
def aft (C : Int → Int) (s p : Int) : Int := s - one (lesF p) - one (greF p) + one (C (3 * p)) + one (C (3 * p + 1)) + one (C (3 * p + 2))
def bit (F p : Int) : Int := F / 2 ^ p.toNat % 2
abbrev may (C : Int → Int) (F s p : Int) : Prop := ((lesF p = greF p ∧ 2 ≤ cnt s (lesF p)) ∨ (lesF p ≠ greF p ∧ 0 < cnt s (lesF p) ∧ 0 < cnt s (greF p))) ∧ bit F p = 0 ∧ bei s - 2 + many C p ≤ 12
theorem many_r (C : Int → Int) (p : Int) : 1 ≤ many C p ∧ many C p ≤ 3 := by
  unfold many
  split <;> split <;> omega
def nd (p : Int) : Int := if lesF p = greF p then 2 else 1
theorem nd_r (p : Int) : 1 ≤ nd p ∧ nd p ≤ 2 := by
  unfold nd
  split <;> omega
theorem may_iff {C : Int → Int} {F s p : Int} : may C F s p ↔ nd p ≤ cnt s (lesF p) ∧ nd p ≤ cnt s (greF p) ∧ bit F p = 0 ∧ bei s - 2 + many C p ≤ 12 := by
  unfold may nd
  split
  · next h => rw [← h]; omega
  · next h => omega
/-- where a meeting leads; -1: it may not be -/
def nx (C : Int → Int) (F s p : Int) : Int := if may C F s p then aft C s p else -1
def wfC (C : Int → Int) : Prop := ∀ p, 0 ≤ p ∧ p < 6 → (0 ≤ C (3 * p) ∧ C (3 * p) ≤ 2) ∧ (-1 ≤ C (3 * p + 1) ∧ C (3 * p + 1) ≤ 2) ∧ (-1 ≤ C (3 * p + 2) ∧ C (3 * p + 2) ≤ 2)
theorem one_ind (s : Int) (h : -1 ≤ s ∧ s ≤ 2) : one s = 169 * ind s 0 + 13 * ind s 1 + ind s 2 := by
  rcases (show s = -1 ∨ s = 0 ∨ s = 1 ∨ s = 2 by omega) with rfl | rfl | rfl | rfl <;> decide
theorem one_r (s : Int) : 0 ≤ one s ∧ one s ≤ 169 := by
  unfold one
  split
  · omega
  · split
    · omega
    · split <;> omega
theorem ind_sum (s : Int) (h : -1 ≤ s ∧ s ≤ 2) : ind s 0 + ind s 1 + ind s 2 = if 0 ≤ s then 1 else 0 := by
  rcases (show s = -1 ∨ s = 0 ∨ s = 1 ∨ s = 2 by omega) with rfl | rfl | rfl | rfl <;> decide
theorem cnt0 (s : Int) : cnt s 0 = s / 169 % 13 := rfl
theorem cnt1 (s : Int) : cnt s 1 = s / 13 % 13 := rfl
theorem cnt2 (s : Int) : cnt s 2 = s % 13 := by
  show s / 1 % 13 = _
  rw [Int.ediv_one]
theorem st_eq {s : Int} (h : 0 ≤ s ∧ s < 2197) : s = 169 * cnt s 0 + 13 * cnt s 1 + cnt s 2 := by
  rw [cnt0, cnt1, cnt2]
  omega
theorem bei_eq {s : Int} (h : 0 ≤ s ∧ s < 2197) : bei s = cnt s 0 + cnt s 1 + cnt s 2 := by
  rw [cnt0, cnt1, cnt2]
  unfold bei
  omega
theorem cnt_r (s k : Int) : 0 ≤ cnt s k ∧ cnt s k < 13 := by
  unfold cnt
  omega
theorem st_mk {a b c : Int} (ha : 0 ≤ a) (hb : 0 ≤ b) (hc : 0 ≤ c) (h : a + b + c ≤ 12) : isSt (169 * a + 13 * b + c) ∧ cnt (169 * a + 13 * b + c) 0 = a ∧ cnt (169 * a + 13 * b + c) 1 = b ∧ cnt (169 * a + 13 * b + c) 2 = c ∧ bei (169 * a + 13 * b + c) = a + b + c := by
  have q1 : (169 * a + 13 * b + c) / 169 = a := by omega
  have q2 : (169 * a + 13 * b + c) / 13 = 13 * a + b := by omega
  have q3 : (169 * a + 13 * b + c) % 13 = c := by omega
  have q4 : (13 * a + b) % 13 = b := by omega
  rw [cnt0, cnt1, cnt2]
  unfold isSt bei
  rw [q1, q2, q3, q4]
  refine ⟨⟨?_, ?_, ?_⟩, ?_, ?_, ?_, ?_⟩ <;> omega
theorem isSt_lt {s : Int} (h : isSt s) : 0 ≤ s ∧ s < 2197 := ⟨h.1, by have := h.2.1; omega⟩
theorem cnt_les_ge {C : Int → Int} {F s p : Int} (hp : 0 ≤ p ∧ p < 6) (h : may C F s p) (k : Int) : ind (lesF p) k + ind (greF p) k ≤ cnt s k := by
  have h0 := cnt_r s k
  rcases h.1 with ⟨h1, h2⟩ | ⟨h1, h2, h3⟩
  · rw [← h1]
    unfold ind
    split
    · next e => subst e; omega
    · omega
  · unfold ind
    split
    · next e =>
      rw [if_neg (fun q => h1 (e.trans q.symm))]
      subst e
      omega
    · split
      · next e => subst e; omega
      · omega
/-- what comes of a meeting is a state; how many there are of each sort -/
theorem aft_st {C : Int → Int} {F s p : Int} (hC : wfC C) (hp : 0 ≤ p ∧ p < 6) (hs : isSt s) (h : may C F s p) : isSt (aft C s p) := by
  have g0 := cnt_les_ge hp h 0
  have g1 := cnt_les_ge hp h 1
  have g2 := cnt_les_ge hp h 2
  have hs' := isSt_lt hs
  have e1 := st_eq hs'
  have e2 := bei_eq hs'
  have l1 := les_r p hp
  have l2 := gre_r p hp
  obtain ⟨c0, c1, c2⟩ := hC p hp
  have o1 := one_ind (lesF p) (by omega)
  have o2 := one_ind (greF p) (by omega)
  have o3 := one_ind (C (3 * p)) (by omega)
  have o4 := one_ind (C (3 * p + 1)) c1
  have o5 := one_ind (C (3 * p + 2)) c2
  have i1 := ind_sum (lesF p) (by omega)
  have i2 := ind_sum (greF p) (by omega)
  have i3 := ind_sum (C (3 * p)) (by omega)
  have i4 := ind_sum (C (3 * p + 1)) c1
  have i5 := ind_sum (C (3 * p + 2)) c2
  rw [if_pos (by omega)] at i1 i2 i3
  have hm := h.2.2
  unfold many at hm
  have r3 := fun k => ind_r (C (3 * p)) k
  have r4 := fun k => ind_r (C (3 * p + 1)) k
  have r5 := fun k => ind_r (C (3 * p + 2)) k
  have a0 := r3 0; have a1 := r3 1; have a2 := r3 2
  have b0 := r4 0; have b1 := r4 1; have b2 := r4 2
  have d0 := r5 0; have d1 := r5 1; have d2 := r5 2
  generalize (if 0 ≤ C (3 * p + 1) then (1 : Int) else 0) = u at *
  generalize (if 0 ≤ C (3 * p + 2) then (1 : Int) else 0) = v at *
  have key := st_mk (a := cnt s 0 - ind (lesF p) 0 - ind (greF p) 0 + ind (C (3 * p)) 0 + ind (C (3 * p + 1)) 0 + ind (C (3 * p + 2)) 0) (b := cnt s 1 - ind (lesF p) 1 - ind (greF p) 1 + ind (C (3 * p)) 1 + ind (C (3 * p + 1)) 1 + ind (C (3 * p + 2)) 1) (c := cnt s 2 - ind (lesF p) 2 - ind (greF p) 2 + ind (C (3 * p)) 2 + ind (C (3 * p + 1)) 2 + ind (C (3 * p + 2)) 2) (by omega) (by omega) (by omega) (by omega)
  have e : aft C s p = 169 * (cnt s 0 - ind (lesF p) 0 - ind (greF p) 0 + ind (C (3 * p)) 0 + ind (C (3 * p + 1)) 0 + ind (C (3 * p + 2)) 0) + 13 * (cnt s 1 - ind (lesF p) 1 - ind (greF p) 1 + ind (C (3 * p)) 1 + ind (C (3 * p + 1)) 1 + ind (C (3 * p + 2)) 1) + (cnt s 2 - ind (lesF p) 2 - ind (greF p) 2 + ind (C (3 * p)) 2 + ind (C (3 * p + 1)) 2 + ind (C (3 * p + 2)) 2) := by
    unfold aft
    omega
  rw [e]
  exact key.1
theorem nx_st {C : Int → Int} {F s p : Int} (hC : wfC C) (hp : 0 ≤ p ∧ p < 6) (hs : isSt s) (h : nx C F s p ≠ -1) : isSt (nx C F s p) := by
  unfold nx at h ⊢
  split
  · next hm => exact aft_st hC hp hs hm
  · next hm => rw [if_neg hm] at h; exact absurd rfl h
theorem nx_ne {C : Int → Int} {F s p : Int} (hC : wfC C) (hp : 0 ≤ p ∧ p < 6) (hs : isSt s) : nx C F s p ≠ -1 ↔ may C F s p := by
  unfold nx
  constructor
  · intro h
    split at h
    · next hm => exact hm
    · exact absurd rfl h
  · intro h
    rw [if_pos h]
    have := (aft_st hC hp hs h).1
    omega
/-! bits of small numbers, as the machine works them out -/
theorem bit_tab : ∀ f, f < 64 → ∀ p, p < 6 → op_iand (op_ishr (f : Nat) (p : Nat)) 1 = bit (f : Nat) (p : Nat) := by decide +kernel
theorem bit_op {F p : Int} (hF : 0 ≤ F ∧ F < 64) (hp : 0 ≤ p ∧ p < 6) : op_iand (op_ishr F p) 1 = bit F p := by
  have := bit_tab F.toNat (by omega) p.toNat (by omega)
  rw [Int.toNat_of_nonneg hF.1, Int.toNat_of_nonneg hp.1] at this
  exact this
theorem bit_01 (F p : Int) : bit F p = 0 ∨ bit F p = 1 := by
  unfold bit
  omega
theorem or_tab : ∀ i, i < 6 → ∀ a, a < 2 ^ i → ∀ b, b < 2 → op_ior (a : Nat) (op_ishl (b : Nat) (i : Nat)) = (a : Nat) + (b : Nat) * 2 ^ i := by decide +kernel
