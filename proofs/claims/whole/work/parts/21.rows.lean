section LP
variable {γ : Gh} {X : MX} {d mc ms pc : Nat} {st : List PV} {Q : Option PV → Sk → Mm → Prop}
/-- a loop: whatever state σ stands at its head, with an invariant and a measure that falls -/
theorem ev_while {σ : Type} (I : σ → Prop) (μ : σ → Nat) (ls : σ → List PV) (km : σ → Sk) (vm : σ → Mm) (step : ∀ s, I s → (∀ s', I s' → μ s' < μ s → Ev γ X d mc ms pc (ls s') st (km s') (vm s') Q) → Ev γ X d mc ms pc (ls s) st (km s) (vm s) Q) (s0 : σ) (h0 : I s0) : Ev γ X d mc ms pc (ls s0) st (km s0) (vm s0) Q := by
  have key : ∀ (n : Nat) (s : σ), μ s < n → I s → Ev γ X d mc ms pc (ls s) st (km s) (vm s) Q := by
    intro n
    induction n with
    | zero => intro s h; exact absurd h (Nat.not_lt_zero _)
    | succ n ih => intro s h hI; exact step s hI (fun s' hI' hm => ih s' (by omega) hI')
  exact key (μ s0 + 1) s0 (Nat.lt_succ_self _) h0
/-- a counting loop over int rows, K as it was -/
theorem ev_for (n i0 : Int) (I : Int → Mm → Prop) (ls : Int → List PV) {K : Sk} {V : Mm} (h0 : i0 ≤ n) (hI : I i0 V) (step : ∀ i W, i0 ≤ i → i ≤ n → I i W → (i < n → ∀ W', I (i + 1) W' → Ev γ X d mc ms pc (ls (i + 1)) st K W' Q) → Ev γ X d mc ms pc (ls i) st K W Q) : Ev γ X d mc ms pc (ls i0) st K V Q := by
  refine ev_while (σ := Int × Mm) (fun s => i0 ≤ s.1 ∧ s.1 ≤ n ∧ I s.1 s.2) (fun s => (n - s.1).toNat) (fun s => ls s.1) (fun _ => K) (fun s => s.2) ?_ (i0, V) ⟨Int.le_refl _, h0, hI⟩
  rintro ⟨i, W⟩ ⟨h1, h2, h3⟩ ih
  exact step i W h1 h2 h3 (fun hlt W' hW' => ih (i + 1, W') ⟨by show i0 ≤ i + 1; omega, by show i + 1 ≤ n; omega, hW'⟩ (by show (n - (i + 1)).toNat < (n - i).toNat; omega))
end LP
/-! rows -/
theorem setr_self {α : Type} {V : Nat → Int → α} {a : Nat} {f : Int → α} : setr V a f a = f := by simp [setr]
theorem setr_ne {α : Type} {V : Nat → Int → α} {a b : Nat} {f : Int → α} (h : b ≠ a) : setr V a f b = V b := by simp [setr, h]
theorem setr_set {α : Type} {V : Nat → Int → α} {a : Nat} {f g : Int → α} : setr (setr V a f) a g = setr V a g := by
  funext b
  by_cases h : b = a <;> simp [setr, h]
theorem setr_id {α : Type} {V : Nat → Int → α} {a : Nat} : setr V a (V a) = V := by
  funext b
  by_cases h : b = a
  · subst h; simp [setr]
  · simp [setr, h]
theorem wr_row {V : Mm} {a : Nat} {i x : Int} : wr V a i x a = up (V a) i x := by simp [wr, setr]
theorem wr_off {V : Mm} {a b : Nat} {i x : Int} (h : b ≠ a) : wr V a i x b = V b := by simp [wr, setr, h]
theorem up_self {α : Type} {f : Int → α} {i : Int} {x : α} : up f i x i = x := by simp [up]
theorem up_ne {α : Type} {f : Int → α} {i j : Int} {x : α} (h : j ≠ i) : up f i x j = f j := by simp [up, h]
/-- the first i places are x -/
def flr (f : Int → Int) (i x : Int) : Int → Int := fun j => if 0 ≤ j ∧ j < i then x else f j
theorem flr_0 {f : Int → Int} {x : Int} : flr f 0 x = f := by
  funext j
  simp only [flr]
  rw [if_neg (by omega)]
theorem flr_s {f : Int → Int} {i x : Int} (h : 0 ≤ i) : up (flr f i x) i x = flr f (i + 1) x := by
  funext j
  simp only [up, flr]
  by_cases h1 : j = i
  · rw [if_pos h1, if_pos (by omega)]
  · rw [if_neg h1]
    by_cases h2 : 0 ≤ j ∧ j < i
    · rw [if_pos h2, if_pos (by omega)]
    · rw [if_neg h2, if_neg (by omega)]
theorem wr_setr {V : Mm} {a : Nat} {f : Int → Int} {i x : Int} : wr (setr V a f) a i x = setr V a (up f i x) := by
  unfold wr
  rw [setr_set, setr_self]
theorem c_fillI {γ : Gh} {K : Sk} {V : Mm} {a n : Nat} {x : Int} (ha : 100 ≤ a) (hs : K.1 a = (1, n)) (hn : (n : Int) < 1000000) : Call γ M_J7_fill_53178 0 0 0 [vR a, vI x] K V (Rt none K (setr V a (flr (V a) n x))) := by
  refine call_of (by decide +kernel) (by intro v hv; simp only [List.mem_cons, List.not_mem_nil, or_false] at hv; rcases hv with rfl | rfl <;> exact fun q => by cases q) (Nat.le_of_ble_eq_true rfl) ?_
  refine ev_iconst (X := M_J7_fill_53178) (pc := 0) dJ7_fill_53178_0 ?_
  refine ev_istore_nL (X := M_J7_fill_53178) (pc := 1) (ls' := [_, _, _, _]) dJ7_fill_53178_1 (by decide) rfl ?_
  refine ev_aload_n (X := M_J7_fill_53178) (pc := 2) dJ7_fill_53178_2 rfl ?_
  refine ev_alen (X := M_J7_fill_53178) (pc := 3) dJ7_fill_53178_3 hs (by decide) (by decide) ?_
  refine ev_istore_nL (X := M_J7_fill_53178) (pc := 4) (ls' := [_, _, _, _]) dJ7_fill_53178_4 (by decide) rfl ?_
  refine ev_for n 0 (fun i W => W = setr V a (flr (V a) i x)) (fun i => [vR a, vI x, vI i, vI n]) (by omega) (by rw [flr_0, setr_id]) (fun i W hi hn2 hI ih => ?_)
  refine ev_iload_n (X := M_J7_fill_53178) (pc := 5) dJ7_fill_53178_5 rfl ?_
  refine ev_iload_n (X := M_J7_fill_53178) (pc := 6) dJ7_fill_53178_6 rfl ?_
  refine ev_icmp_ge (X := M_J7_fill_53178) (pc := 7) (tgt := 20) dJ7_fill_53178_7 (by decide) (by omega) (by omega) (fun h7 => ?_) (fun h7 => ?_)
  · refine ev_vret (X := M_J7_fill_53178) (pc := 20) dJ7_fill_53178_20 rfl ?_
    exact ⟨rfl, rfl, by rw [hI, show i = n by omega]⟩
  · refine ev_aload_n (X := M_J7_fill_53178) (pc := 10) dJ7_fill_53178_10 rfl ?_
    refine ev_iload_n (X := M_J7_fill_53178) (pc := 11) dJ7_fill_53178_11 rfl ?_
    refine ev_iload_n (X := M_J7_fill_53178) (pc := 12) dJ7_fill_53178_12 rfl ?_
    refine ev_iastore (X := M_J7_fill_53178) (pc := 13) dJ7_fill_53178_13 ha hs (by omega) ?_
    refine ev_iincL (X := M_J7_fill_53178) (pc := 14) (ls' := [_, _, _, _]) dJ7_fill_53178_14 rfl (by decide) rfl ?_
    refine ev_goto (X := M_J7_fill_53178) (pc := 17) (tgt := 5) dJ7_fill_53178_17 (by decide) ?_
    exact ih (by omega) _ (by rw [hI, wr_setr, flr_s hi])
theorem c_fillL {γ : Gh} {K : Sk} {V : Mm} {a n : Nat} {x : Int} (ha : 100 ≤ a) (hs : K.1 a = (2, n)) (hn : (n : Int) < 1000000) : Call γ M_J7_fill_d0a16 0 0 0 [vR a, vL x] K V (Rt none K (setr V a (flr (V a) n x))) := by
  refine call_of (by decide +kernel) (by intro v hv; simp only [List.mem_cons, List.not_mem_nil, or_false] at hv; rcases hv with rfl | rfl <;> exact fun q => by cases q) (Nat.le_of_ble_eq_true rfl) ?_
  refine ev_iconst (X := M_J7_fill_d0a16) (pc := 0) dJ7_fill_d0a16_0 ?_
  refine ev_istore_nL (X := M_J7_fill_d0a16) (pc := 1) (ls' := [_, _, _, _, _]) dJ7_fill_d0a16_1 (by decide) rfl ?_
  refine ev_aload_n (X := M_J7_fill_d0a16) (pc := 2) dJ7_fill_d0a16_2 rfl ?_
  refine ev_alen (X := M_J7_fill_d0a16) (pc := 3) dJ7_fill_d0a16_3 hs (by decide) (by decide) ?_
  refine ev_istoreL (X := M_J7_fill_d0a16) (pc := 4) (ls' := [_, _, _, _, _]) dJ7_fill_d0a16_4 (by decide) rfl ?_
  refine ev_for n 0 (fun i W => W = setr V a (flr (V a) i x)) (fun i => [vR a, vL x, vU, vI i, vI n]) (by omega) (by rw [flr_0, setr_id]) (fun i W hi hn2 hI ih => ?_)
  refine ev_iload_n (X := M_J7_fill_d0a16) (pc := 6) dJ7_fill_d0a16_6 rfl ?_
  refine ev_iload (X := M_J7_fill_d0a16) (pc := 7) dJ7_fill_d0a16_7 rfl ?_
  refine ev_icmp_ge (X := M_J7_fill_d0a16) (pc := 9) (tgt := 22) dJ7_fill_d0a16_9 (by decide) (by omega) (by omega) (fun h9 => ?_) (fun h9 => ?_)
  · refine ev_vret (X := M_J7_fill_d0a16) (pc := 22) dJ7_fill_d0a16_22 rfl ?_
    exact ⟨rfl, rfl, by rw [hI, show i = n by omega]⟩
  · refine ev_aload_n (X := M_J7_fill_d0a16) (pc := 12) dJ7_fill_d0a16_12 rfl ?_
    refine ev_iload_n (X := M_J7_fill_d0a16) (pc := 13) dJ7_fill_d0a16_13 rfl ?_
    refine ev_lload_n (X := M_J7_fill_d0a16) (pc := 14) dJ7_fill_d0a16_14 rfl ?_
    refine ev_lastore (X := M_J7_fill_d0a16) (pc := 15) dJ7_fill_d0a16_15 ha hs (by omega) ?_
    refine ev_iincL (X := M_J7_fill_d0a16) (pc := 16) (ls' := [_, _, _, _, _]) dJ7_fill_d0a16_16 rfl (by decide) rfl ?_
    refine ev_goto (X := M_J7_fill_d0a16) (pc := 19) (tgt := 6) dJ7_fill_d0a16_19 (by decide) ?_
    exact ih (by omega) _ (by rw [hI, wr_setr, flr_s hi])
/-- a row: its object, its cells, how many at most -/
def RowAt (K : Sk) (a c n : Nat) : Prop := (K.1 a).1 = 5 + 10 ∧ K.2.1 a 0 = c ∧ K.1 c = (1, n) ∧ 100 ≤ a ∧ 100 ≤ c ∧ a ≠ c ∧ (n : Int) < 1000000
def rAdd (V : Mm) (a c : Nat) (x : Int) : Mm := wr (wr V c (V a 1) x) a 1 (V a 1 + 1)
theorem c_Row_add {γ : Gh} {K : Sk} {V : Mm} {a c n : Nat} (hr : RowAt K a c n) (hz : 0 ≤ V a 1 ∧ V a 1 ≤ n) {x : Int} : Call γ M_X5_add 0 0 0 [vR a, vI x] K V (Rt (some (vI (if V a 1 < n then 1 else 0))) K (if V a 1 < n then rAdd V a c x else V)) := by
  refine call_of (by decide +kernel) (by intro v hv; simp only [List.mem_cons, List.not_mem_nil, or_false] at hv; rcases hv with rfl | rfl <;> exact fun q => by cases q) (Nat.le_of_ble_eq_true rfl) ?_
  refine ev_lsE (ls' := [_, _]) rfl ?_
  refine ev_aload_n (X := M_X5_add) (pc := 0) dX5_add_0 rfl ?_
  refine ev_getI (X := M_X5_add) (pc := 1) (ki := 1) dX5_add_1 fl_X5_19_5 hr.1 (by decide) rfl ?_
  refine ev_aload_n (X := M_X5_add) (pc := 4) dX5_add_4 rfl ?_
  refine ev_getRe (X := M_X5_add) (pc := 5) dX5_add_5 fl_X5_13_5 hr.1 rfl hr.2.1 ?_
  refine ev_alen (X := M_X5_add) (pc := 8) dX5_add_8 hr.2.2.1 (by decide) (by decide) ?_
  refine ev_icmp_lt (X := M_X5_add) (pc := 9) (tgt := 14) dX5_add_9 (by decide) (by have := hr.2.2.2.2.2.2; omega) (by have := hr.2.2.2.2.2.2; omega) (fun h9 => ?_) (fun h9 => ?_)
  · refine ev_aload_n (X := M_X5_add) (pc := 14) dX5_add_14 rfl ?_
    refine ev_getRe (X := M_X5_add) (pc := 15) dX5_add_15 fl_X5_13_5 hr.1 rfl hr.2.1 ?_
    refine ev_aload_n (X := M_X5_add) (pc := 18) dX5_add_18 rfl ?_
    refine ev_getI (X := M_X5_add) (pc := 19) (ki := 1) dX5_add_19 fl_X5_19_5 hr.1 (by decide) rfl ?_
    refine ev_iload_n (X := M_X5_add) (pc := 22) dX5_add_22 rfl ?_
    refine ev_iastore (X := M_X5_add) (pc := 23) dX5_add_23 hr.2.2.2.2.1 hr.2.2.1 (by omega) ?_
    refine ev_aload_n (X := M_X5_add) (pc := 24) dX5_add_24 rfl ?_
    refine ev_dup (X := M_X5_add) (pc := 25) dX5_add_25 (fun _ q => by cases q) ?_
    refine ev_getI (X := M_X5_add) (pc := 26) (ki := 1) dX5_add_26 fl_X5_19_5 hr.1 (by decide) rfl ?_
    refine ev_iconst (X := M_X5_add) (pc := 29) dX5_add_29 ?_
    refine ev_iadd (X := M_X5_add) (pc := 30) dX5_add_30 ?_
    refine ev_putI (X := M_X5_add) (pc := 31) (ki := 1) dX5_add_31 fl_X5_19_5 hr.2.2.2.1 hr.1 (fun _ h q => by cases h; cases q) (Or.inl rfl) rfl ?_
    refine ev_iconst (X := M_X5_add) (pc := 34) dX5_add_34 ?_
    refine ev_bret (X := M_X5_add) (pc := 35) dX5_add_35 rfl (by omega) ?_
    refine ⟨by rw [if_pos (by omega)], rfl, ?_⟩
    rw [if_pos (by omega)]
    unfold rAdd
    rw [wr_off (a := c) (b := a) hr.2.2.2.2.2.1]
  · refine ev_iconst (X := M_X5_add) (pc := 12) dX5_add_12 ?_
    refine ev_bret (X := M_X5_add) (pc := 13) dX5_add_13 rfl (by omega) ?_
    exact ⟨by rw [if_neg (by omega)], rfl, by rw [if_neg (by omega)]⟩
theorem c_Row_has {γ : Gh} {K : Sk} {V : Mm} {a c n : Nat} (hr : RowAt K a c n) (hz : 0 ≤ V a 1 ∧ V a 1 ≤ n) {i : Int} (hi : -2147483648 ≤ i ∧ i < 2147483648) : Call γ M_X5_has 0 0 0 [vR a, vI i] K V (Rt (some (vI (if 0 ≤ i ∧ i < V a 1 then 1 else 0))) K V) := by
  refine call_of (by decide +kernel) (by intro v hv; simp only [List.mem_cons, List.not_mem_nil, or_false] at hv; rcases hv with rfl | rfl <;> exact fun q => by cases q) (Nat.le_of_ble_eq_true rfl) ?_
  refine ev_lsE (ls' := [_, _]) rfl ?_
  refine ev_iload_n (X := M_X5_has) (pc := 0) dX5_has_0 rfl ?_
  refine ev_if_lt (X := M_X5_has) (pc := 1) (tgt := 16) dX5_has_1 (by decide) (by have := hr.2.2.2.2.2.2; omega) (fun h1 => ?_) (fun h1 => ?_)
  · refine ev_iconst (X := M_X5_has) (pc := 16) dX5_has_16 ?_
    refine ev_bret (X := M_X5_has) (pc := 17) dX5_has_17 rfl (by have := hr.2.2.2.2.2.2; omega) ?_
    exact ⟨by first | rw [if_pos (by omega)] | rw [if_neg (by omega)], rfl, rfl⟩
  · refine ev_iload_n (X := M_X5_has) (pc := 4) dX5_has_4 rfl ?_
    refine ev_aload_n (X := M_X5_has) (pc := 5) dX5_has_5 rfl ?_
    refine ev_getI (X := M_X5_has) (pc := 6) (ki := 1) dX5_has_6 fl_X5_19_5 hr.1 (by decide) rfl ?_
    refine ev_icmp_ge (X := M_X5_has) (pc := 9) (tgt := 16) dX5_has_9 (by decide) (by have := hr.2.2.2.2.2.2; omega) (by have := hr.2.2.2.2.2.2; omega) (fun h9 => ?_) (fun h9 => ?_)
    · refine ev_iconst (X := M_X5_has) (pc := 16) dX5_has_16 ?_
      refine ev_bret (X := M_X5_has) (pc := 17) dX5_has_17 rfl (by have := hr.2.2.2.2.2.2; omega) ?_
      exact ⟨by first | rw [if_pos (by omega)] | rw [if_neg (by omega)], rfl, rfl⟩
    · refine ev_iconst (X := M_X5_has) (pc := 12) dX5_has_12 ?_
      refine ev_goto (X := M_X5_has) (pc := 13) (tgt := 17) dX5_has_13 (by decide) ?_
      refine ev_bret (X := M_X5_has) (pc := 17) dX5_has_17 rfl (by have := hr.2.2.2.2.2.2; omega) ?_
      exact ⟨by first | rw [if_pos (by omega)] | rw [if_neg (by omega)], rfl, rfl⟩
theorem c_Row_hasRange {γ : Gh} {K : Sk} {V : Mm} {a c n : Nat} (hr : RowAt K a c n) (hz : 0 ≤ V a 1 ∧ V a 1 ≤ n) {i m : Int} (hi : -2147483648 ≤ i ∧ i < 2147483648) (hm : -2147483648 ≤ m ∧ m < 2147483648) : Call γ M_X5_hasRange 0 0 0 [vR a, vI i, vI m] K V (Rt (some (vI (if 0 ≤ i ∧ 0 ≤ m ∧ m ≤ V a 1 ∧ i ≤ V a 1 - m then 1 else 0))) K V) := by
  refine call_of (by decide +kernel) (by intro v hv; simp only [List.mem_cons, List.not_mem_nil, or_false] at hv; rcases hv with rfl | rfl | rfl <;> exact fun q => by cases q) (Nat.le_of_ble_eq_true rfl) ?_
  refine ev_lsE (ls' := [_, _, _]) rfl ?_
  refine ev_iload_n (X := M_X5_hasRange) (pc := 0) dX5_hasRange_0 rfl ?_
  refine ev_if_lt (X := M_X5_hasRange) (pc := 1) (tgt := 30) dX5_hasRange_1 (by decide) (by have := hr.2.2.2.2.2.2; omega) (fun h1 => ?_) (fun h1 => ?_)
  · refine ev_iconst (X := M_X5_hasRange) (pc := 30) dX5_hasRange_30 ?_
    refine ev_bret (X := M_X5_hasRange) (pc := 31) dX5_hasRange_31 rfl (by have := hr.2.2.2.2.2.2; omega) ?_
    exact ⟨by first | rw [if_pos (by omega)] | rw [if_neg (by omega)], rfl, rfl⟩
  · refine ev_iload_n (X := M_X5_hasRange) (pc := 4) dX5_hasRange_4 rfl ?_
    refine ev_if_lt (X := M_X5_hasRange) (pc := 5) (tgt := 30) dX5_hasRange_5 (by decide) (by have := hr.2.2.2.2.2.2; omega) (fun h5 => ?_) (fun h5 => ?_)
    · refine ev_iconst (X := M_X5_hasRange) (pc := 30) dX5_hasRange_30 ?_
      refine ev_bret (X := M_X5_hasRange) (pc := 31) dX5_hasRange_31 rfl (by have := hr.2.2.2.2.2.2; omega) ?_
      exact ⟨by first | rw [if_pos (by omega)] | rw [if_neg (by omega)], rfl, rfl⟩
    · refine ev_iload_n (X := M_X5_hasRange) (pc := 8) dX5_hasRange_8 rfl ?_
      refine ev_aload_n (X := M_X5_hasRange) (pc := 9) dX5_hasRange_9 rfl ?_
      refine ev_getI (X := M_X5_hasRange) (pc := 10) (ki := 1) dX5_hasRange_10 fl_X5_19_5 hr.1 (by decide) rfl ?_
      refine ev_icmp_gt (X := M_X5_hasRange) (pc := 13) (tgt := 30) dX5_hasRange_13 (by decide) (by have := hr.2.2.2.2.2.2; omega) (by have := hr.2.2.2.2.2.2; omega) (fun h13 => ?_) (fun h13 => ?_)
      · refine ev_iconst (X := M_X5_hasRange) (pc := 30) dX5_hasRange_30 ?_
        refine ev_bret (X := M_X5_hasRange) (pc := 31) dX5_hasRange_31 rfl (by have := hr.2.2.2.2.2.2; omega) ?_
        exact ⟨by first | rw [if_pos (by omega)] | rw [if_neg (by omega)], rfl, rfl⟩
      · refine ev_iload_n (X := M_X5_hasRange) (pc := 16) dX5_hasRange_16 rfl ?_
        refine ev_aload_n (X := M_X5_hasRange) (pc := 17) dX5_hasRange_17 rfl ?_
        refine ev_getI (X := M_X5_hasRange) (pc := 18) (ki := 1) dX5_hasRange_18 fl_X5_19_5 hr.1 (by decide) rfl ?_
        refine ev_iload_n (X := M_X5_hasRange) (pc := 21) dX5_hasRange_21 rfl ?_
        refine ev_isub (X := M_X5_hasRange) (pc := 22) dX5_hasRange_22 ?_
        refine ev_icmp_gt (X := M_X5_hasRange) (pc := 23) (tgt := 30) dX5_hasRange_23 (by decide) (by have := hr.2.2.2.2.2.2; omega) (by have := hr.2.2.2.2.2.2; omega) (fun h23 => ?_) (fun h23 => ?_)
        · refine ev_iconst (X := M_X5_hasRange) (pc := 30) dX5_hasRange_30 ?_
          refine ev_bret (X := M_X5_hasRange) (pc := 31) dX5_hasRange_31 rfl (by have := hr.2.2.2.2.2.2; omega) ?_
          exact ⟨by first | rw [if_pos (by omega)] | rw [if_neg (by omega)], rfl, rfl⟩
        · refine ev_iconst (X := M_X5_hasRange) (pc := 26) dX5_hasRange_26 ?_
          refine ev_goto (X := M_X5_hasRange) (pc := 27) (tgt := 31) dX5_hasRange_27 (by decide) ?_
          refine ev_bret (X := M_X5_hasRange) (pc := 31) dX5_hasRange_31 rfl (by have := hr.2.2.2.2.2.2; omega) ?_
          exact ⟨by first | rw [if_pos (by omega)] | rw [if_neg (by omega)], rfl, rfl⟩
theorem c_Row_zeros {γ : Gh} {K : Sk} {V : Mm} {a c n : Nat} (hr : RowAt K a c n) (hz : 0 ≤ V a 1 ∧ V a 1 ≤ n) {m : Int} (hm : 0 ≤ m ∧ m ≤ n) : Call γ M_X5_zeros 1 0 0 [vR a, vI m] K V (Rt none K (wr (setr V c (flr (V c) n 0)) a 1 m)) := by
  refine call_of (by decide +kernel) (by intro v hv; simp only [List.mem_cons, List.not_mem_nil, or_false] at hv; rcases hv with rfl | rfl <;> exact fun q => by cases q) (Nat.le_of_ble_eq_true rfl) ?_
  refine ev_lsE (ls' := [_, _]) rfl ?_
  refine ev_aload_n (X := M_X5_zeros) (pc := 0) dX5_zeros_0 rfl ?_
  refine ev_getRe (X := M_X5_zeros) (pc := 1) dX5_zeros_1 fl_X5_13_5 hr.1 rfl hr.2.1 ?_
  refine ev_iconst (X := M_X5_zeros) (pc := 4) dX5_zeros_4 ?_
  refine ev_staticV (X := M_X5_zeros) (Y := M_J7_fill_53178) (pc := 5) dX5_zeros_5 mk_J7_fill_53178 kw_928 kw_185 (c_fillI hr.2.2.2.2.1 hr.2.2.1 hr.2.2.2.2.2.2) rfl (by decide) rfl (Nat.le_of_ble_eq_true rfl) (Nat.zero_add _) (Nat.zero_add _) ?_
  refine ev_aload_n (X := M_X5_zeros) (pc := 8) dX5_zeros_8 rfl ?_
  refine ev_iconst (X := M_X5_zeros) (pc := 9) dX5_zeros_9 ?_
  refine ev_iload_n (X := M_X5_zeros) (pc := 10) dX5_zeros_10 rfl ?_
  refine ev_aload_n (X := M_X5_zeros) (pc := 11) dX5_zeros_11 rfl ?_
  refine ev_getRe (X := M_X5_zeros) (pc := 12) dX5_zeros_12 fl_X5_13_5 hr.1 rfl hr.2.1 ?_
  refine ev_alen (X := M_X5_zeros) (pc := 15) dX5_zeros_15 hr.2.2.1 (by decide) (by decide) ?_
  refine ev_mmin (X := M_X5_zeros) (pc := 16) dX5_zeros_16 kw_929 kw_544 kw_5 kw_545 (by decide) (Nat.le_of_ble_eq_true rfl) (by have := hr.2.2.2.2.2.2; first | omega | (split <;> omega)) (by have := hr.2.2.2.2.2.2; first | omega | (split <;> omega)) ?_
  refine ev_mmax (X := M_X5_zeros) (pc := 19) dX5_zeros_19 kw_53 kw_54 kw_5 kw_55 (by decide) (Nat.le_of_ble_eq_true rfl) (by have := hr.2.2.2.2.2.2; first | omega | (split <;> omega)) (by have := hr.2.2.2.2.2.2; first | omega | (split <;> omega)) ?_
  refine ev_putI (X := M_X5_zeros) (pc := 22) (ki := 1) dX5_zeros_22 fl_X5_19_5 hr.2.2.2.1 hr.1 (fun _ h q => by cases h; cases q) (Or.inl rfl) rfl ?_
  refine ev_vret (X := M_X5_zeros) (pc := 25) dX5_zeros_25 rfl ?_
  refine ⟨rfl, rfl, ?_⟩
  congr 1
  have := hr.2.2.2.2.2.2
  split <;> split <;> omega
theorem c_Row_takeFrom {γ : Gh} {K : Sk} {V : Mm} {a c n b e : Nat} (hr : RowAt K a c n) (hq : RowAt K b e n) (hz : 0 ≤ V b 1 ∧ V b 1 ≤ n) : Call γ M_X5_takeFrom 2 0 0 [vR a, vR b] K V (Rt none K (wr (setr V c (cpy (V e) (V c) 0 0 (V b 1))) a 1 (V b 1))) := by
  refine call_of (by decide +kernel) (by intro v hv; simp only [List.mem_cons, List.not_mem_nil, or_false] at hv; rcases hv with rfl | rfl <;> exact fun q => by cases q) (Nat.le_of_ble_eq_true rfl) ?_
  refine ev_lsE (ls' := [_, _, _]) rfl ?_
  refine ev_aload_n (X := M_X5_takeFrom) (pc := 0) dX5_takeFrom_0 rfl ?_
  refine ev_getI (X := M_X5_takeFrom) (pc := 1) (ki := 1) dX5_takeFrom_1 fl_X5_19_5 hq.1 (by decide) rfl ?_
  refine ev_aload_n (X := M_X5_takeFrom) (pc := 4) dX5_takeFrom_4 rfl ?_
  refine ev_getRe (X := M_X5_takeFrom) (pc := 5) dX5_takeFrom_5 fl_X5_13_5 hr.1 rfl hr.2.1 ?_
  refine ev_alen (X := M_X5_takeFrom) (pc := 8) dX5_takeFrom_8 hr.2.2.1 (by decide) (by decide) ?_
  refine ev_mmin (X := M_X5_takeFrom) (pc := 9) dX5_takeFrom_9 kw_929 kw_544 kw_5 kw_545 (by decide) (Nat.le_of_ble_eq_true rfl) (by have := hr.2.2.2.2.2.2; omega) (by have := hr.2.2.2.2.2.2; omega) ?_
  rw [if_neg (show ¬ ((n : Int) < V b 1) by omega)]
  refine ev_istore_nL (X := M_X5_takeFrom) (pc := 12) (ls' := [_, _, _]) dX5_takeFrom_12 (by decide) rfl ?_
  refine ev_aload_n (X := M_X5_takeFrom) (pc := 13) dX5_takeFrom_13 rfl ?_
  refine ev_getRe (X := M_X5_takeFrom) (pc := 14) dX5_takeFrom_14 fl_X5_13_5 hq.1 rfl hq.2.1 ?_
  refine ev_iconst (X := M_X5_takeFrom) (pc := 17) dX5_takeFrom_17 ?_
  refine ev_aload_n (X := M_X5_takeFrom) (pc := 18) dX5_takeFrom_18 rfl ?_
  refine ev_getRe (X := M_X5_takeFrom) (pc := 19) dX5_takeFrom_19 fl_X5_13_5 hr.1 rfl hr.2.1 ?_
  refine ev_iconst (X := M_X5_takeFrom) (pc := 22) dX5_takeFrom_22 ?_
  refine ev_iload_n (X := M_X5_takeFrom) (pc := 23) dX5_takeFrom_23 rfl ?_
  refine ev_arraycopy (X := M_X5_takeFrom) (pc := 24) dX5_takeFrom_24 kw_961 kw_944 kw_943 kw_22 hq.2.2.2.2.1 hr.2.2.2.2.1 hq.2.2.1 hr.2.2.1 (by omega) (by omega) (by omega) (by omega) (by omega) (by decide) (Nat.le_of_ble_eq_true rfl) ?_
  refine ev_aload_n (X := M_X5_takeFrom) (pc := 27) dX5_takeFrom_27 rfl ?_
  refine ev_iload_n (X := M_X5_takeFrom) (pc := 28) dX5_takeFrom_28 rfl ?_
  refine ev_putI (X := M_X5_takeFrom) (pc := 29) (ki := 1) dX5_takeFrom_29 fl_X5_19_5 hr.2.2.2.1 hr.1 (fun _ h q => by cases h; cases q) (Or.inl rfl) rfl ?_
  refine ev_vret (X := M_X5_takeFrom) (pc := 32) dX5_takeFrom_32 rfl ?_
  exact ⟨rfl, rfl, rfl⟩
