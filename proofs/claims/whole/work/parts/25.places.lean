/-! ===== places: the states in order ===== -/
def aheF (i : Int) : Int := (([0, 91, 169, 235, 290, 335, 371, 399, 420, 435, 445, 451, 454] : List Int)).getD i.toNat 0
def pl (s : Int) : Int := aheF (cnt s 0) + cnt s 1 * (13 - cnt s 0) - cnt s 1 * (cnt s 1 - 1) / 2 + cnt s 2
def stN : List Nat := (List.range 2029).filter (fun n => decide (bei (n : Int) ≤ 12))
theorem stN_chk : (stN.zipIdx.all fun q => decide (pl (q.1 : Int) = (q.2 : Int))) = true := by decide +kernel
theorem stN_len : stN.length = 455 := by decide +kernel
def stF (i : Int) : Int := ((stN.getD i.toNat 0 : Nat) : Int)
theorem stN_at {n : Nat} (h : n < 455) : ∃ m, stN[n]? = some m ∧ m < 2029 ∧ bei (m : Int) ≤ 12 ∧ pl (m : Int) = n := by
  have hl : n < stN.length := by rw [stN_len]; exact h
  refine ⟨stN[n], List.getElem?_eq_getElem hl, ?_, ?_, ?_⟩
  · have := (List.mem_filter.mp (List.getElem_mem hl)).1
    exact List.mem_range.mp this
  · have := (List.mem_filter.mp (List.getElem_mem hl)).2
    exact of_decide_eq_true this
  · have h1 := List.all_eq_true.mp stN_chk (stN[n], n) (by
      refine List.mem_of_getElem? (i := n) ?_
      rw [List.getElem?_zipIdx, List.getElem?_eq_getElem hl]
      simp)
    exact of_decide_eq_true h1
theorem stF_at {i : Int} (h : 0 ≤ i ∧ i < 455) : isSt (stF i) ∧ pl (stF i) = i := by
  obtain ⟨m, h1, h2, h3, h4⟩ := stN_at (n := i.toNat) (by omega)
  have e : stF i = (m : Int) := by
    unfold stF
    rw [List.getD_eq_getElem?_getD, h1]
    rfl
  rw [e]
  refine ⟨⟨by omega, by omega, h3⟩, ?_⟩
  rw [h4]
  omega
theorem pl_st {s : Int} (h : isSt s) : 0 ≤ pl s ∧ pl s < 455 ∧ stF (pl s) = s := by
  have hm : s.toNat ∈ stN := List.mem_filter.mpr ⟨List.mem_range.mpr (by have := h.1; have := h.2.1; omega), decide_eq_true (by rw [Int.toNat_of_nonneg h.1]; exact h.2.2)⟩
  obtain ⟨n, hn⟩ := List.getElem?_of_mem hm
  have hlt : n < 455 := by
    have := (List.getElem?_eq_some_iff.mp hn).1
    rw [stN_len] at this
    exact this
  obtain ⟨m, h1, h2, h3, h4⟩ := stN_at hlt
  have e : m = s.toNat := Option.some.inj (h1.symm.trans hn)
  rw [e, Int.toNat_of_nonneg h.1] at h4
  rw [h4]
  refine ⟨by omega, by omega, ?_⟩
  unfold stF
  rw [show ((n : Int)).toNat = n from rfl, List.getD_eq_getElem?_getD, hn]
  show ((s.toNat : Nat) : Int) = s
  exact Int.toNat_of_nonneg h.1
theorem stF_lt {i j : Int} (h1 : 0 ≤ i) (h2 : i < j) (h3 : j < 455) : stF i < stF j := by
  have hp : stN.Pairwise (· < ·) := List.Pairwise.filter _ List.pairwise_lt_range
  obtain ⟨m, a1, -⟩ := stN_at (n := i.toNat) (by omega)
  obtain ⟨k, b1, -⟩ := stN_at (n := j.toNat) (by omega)
  have ei : stF i = (m : Int) := by
    unfold stF
    rw [List.getD_eq_getElem?_getD, a1]
    rfl
  have ej : stF j = (k : Int) := by
    unfold stF
    rw [List.getD_eq_getElem?_getD, b1]
    rfl
  obtain ⟨ha, ha'⟩ := List.getElem?_eq_some_iff.mp a1
  obtain ⟨hb, hb'⟩ := List.getElem?_eq_some_iff.mp b1
  have := List.pairwise_iff_getElem.mp hp i.toNat j.toNat ha hb (by omega)
  rw [ha', hb'] at this
  rw [ei, ej]
  omega
theorem pl_inj {s t : Int} (hs : isSt s) (ht : isSt t) (h : pl s = pl t) : s = t := by
  have a := (pl_st hs).2.2
  have b := (pl_st ht).2.2
  rw [h] at a
  exact a.symm.trans b
theorem pl_lt {s t : Int} (hs : isSt s) (ht : isSt t) (h : s < t) : pl s < pl t := by
  obtain ⟨a1, a2, a3⟩ := pl_st hs
  obtain ⟨b1, b2, b3⟩ := pl_st ht
  rcases (show pl s < pl t ∨ pl s = pl t ∨ pl t < pl s by omega) with q | q | q
  · exact q
  · have := pl_inj hs ht q; omega
  · have := stF_lt b1 q a2
    rw [a3, b3] at this
    omega
/-! so many different ones of so many -/
theorem pigeon : ∀ (m n : Nat) (f : Nat → Nat), (∀ i, i < n → f i < m) → (∀ i j, i < n → j < n → f i = f j → i = j) → n ≤ m := by
  intro m
  induction m with
  | zero =>
    intro n f h1 _
    cases n with
    | zero => exact Nat.le_refl _
    | succ n => exact absurd (h1 0 (by omega)) (by omega)
  | succ m ih =>
    intro n f h1 h2
    by_cases hx : ∃ k, k < n ∧ f k = m
    · obtain ⟨k, hk, hkm⟩ := hx
      have key := ih (n - 1) (fun i => if i < k then f i else f (i + 1)) (fun i hi => by
        split
        · next h =>
          have := h1 i (by omega)
          have : f i ≠ m := fun q => by have := h2 i k (by omega) hk (q.trans hkm.symm); omega
          omega
        · next h =>
          have := h1 (i + 1) (by omega)
          have : f (i + 1) ≠ m := fun q => by have := h2 (i + 1) k (by omega) hk (q.trans hkm.symm); omega
          omega) (fun i j hi hj e => by
        split at e <;> split at e
        · exact h2 i j (by omega) (by omega) e
        · have := h2 i (j + 1) (by omega) (by omega) e; omega
        · have := h2 (i + 1) j (by omega) (by omega) e; omega
        · have := h2 (i + 1) (j + 1) (by omega) (by omega) e; omega)
      omega
    · have := ih n f (fun i hi => by
        have := h1 i hi
        have : f i ≠ m := fun q => hx ⟨i, hi, q⟩
        omega) h2
      omega
