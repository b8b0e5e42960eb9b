/-- a counting loop that leaves the heap as it is -/
theorem ev_count {γ : Gh} {X : MX} {d mc ms pc : Nat} {st : List PV} {Q : Option PV → Sk → Mm → Prop} (n i0 : Int) (ls : Int → List PV) {K : Sk} {V : Mm} (h0 : i0 ≤ n) (step : ∀ i, i0 ≤ i → i ≤ n → (i < n → Ev γ X d mc ms pc (ls (i + 1)) st K V Q) → Ev γ X d mc ms pc (ls i) st K V Q) : Ev γ X d mc ms pc (ls i0) st K V Q :=
  ev_for n i0 (fun _ W => W = V) ls h0 rfl (fun i W h1 h2 hW ih => by subst hW; exact step i h1 h2 (fun hlt => ih hlt _ rfl))
theorem m_in {γ : Gh} {K : Sk} {V : Mm} {x lo hi : Int} (hx : -4611686018427387904 ≤ x ∧ x < 4611686018427387904) (hlo : -4611686018427387904 ≤ lo ∧ lo < 4611686018427387904) (hhi : -4611686018427387904 ≤ hi ∧ hi < 4611686018427387904) : Call γ M_X12_in 0 0 0 [vL x, vL lo, vL hi] K V (Rt (some (vI (if lo ≤ x ∧ x ≤ hi then 1 else 0))) K V) := by
  refine call_of (by decide +kernel) (by intro v hv; simp only [List.mem_cons, List.not_mem_nil, or_false] at hv; rcases hv with rfl | rfl | rfl <;> exact fun q => by cases q) (Nat.le_of_ble_eq_true rfl) ?_
  refine ev_lsE (ls' := [_, _, _, _, _, _]) rfl ?_
  refine ev_lload_n (X := M_X12_in) (pc := 0) dX12_in_0 rfl ?_
  refine ev_lload_n (X := M_X12_in) (pc := 1) dX12_in_1 rfl ?_
  refine ev_lcmpN (X := M_X12_in) (pc := 2) dX12_in_2 (by omega) (by omega) (fun c2 hc2 => ?_)
  refine ev_if_lt (X := M_X12_in) (pc := 3) (tgt := 17) dX12_in_3 (by decide) (by omega) (fun h3 => ?_) (fun h3 => ?_)
  · refine ev_iconst (X := M_X12_in) (pc := 17) dX12_in_17 ?_
    refine ev_bret (X := M_X12_in) (pc := 18) dX12_in_18 rfl (by omega) ?_
    exact ⟨by first | rw [if_pos (by omega)] | rw [if_neg (by omega)], rfl, rfl⟩
  · refine ev_lload_n (X := M_X12_in) (pc := 6) dX12_in_6 rfl ?_
    refine ev_lload (X := M_X12_in) (pc := 7) dX12_in_7 rfl ?_
    refine ev_lcmpN (X := M_X12_in) (pc := 9) dX12_in_9 (by omega) (by omega) (fun c9 hc9 => ?_)
    refine ev_if_gt (X := M_X12_in) (pc := 10) (tgt := 17) dX12_in_10 (by decide) (by omega) (fun h10 => ?_) (fun h10 => ?_)
    · refine ev_iconst (X := M_X12_in) (pc := 17) dX12_in_17 ?_
      refine ev_bret (X := M_X12_in) (pc := 18) dX12_in_18 rfl (by omega) ?_
      exact ⟨by first | rw [if_pos (by omega)] | rw [if_neg (by omega)], rfl, rfl⟩
    · refine ev_iconst (X := M_X12_in) (pc := 13) dX12_in_13 ?_
      refine ev_goto (X := M_X12_in) (pc := 14) (tgt := 18) dX12_in_14 (by decide) ?_
      refine ev_bret (X := M_X12_in) (pc := 18) dX12_in_18 rfl (by omega) ?_
      exact ⟨by first | rw [if_pos (by omega)] | rw [if_neg (by omega)], rfl, rfl⟩
theorem m_finds {γ : Gh} {K : Sk} {V : Mm} (hL : Lay K) {k : Int} (hk : 0 ≤ k ∧ k < 6) : Call γ M_X12_finds 0 0 0 [vR 156, vI k] K V (Rt (some (vI (-1000000000 - k))) K (wr V 159 k (V 159 k + 1))) := by
  refine call_of (by decide +kernel) (by intro v hv; simp only [List.mem_cons, List.not_mem_nil, or_false] at hv; rcases hv with rfl | rfl <;> exact fun q => by cases q) (Nat.le_of_ble_eq_true rfl) ?_
  refine ev_lsE (ls' := [_, _]) rfl ?_
  refine ev_aload_n (X := M_X12_finds) (pc := 0) dX12_finds_0 rfl ?_
  refine ev_getRe (X := M_X12_finds) (pc := 1) dX12_finds_1 fl_X12_16_12 (lO_156 hL) rfl (lR_156_3 hL) ?_
  refine ev_iload_n (X := M_X12_finds) (pc := 4) dX12_finds_4 rfl ?_
  refine ev_dup2 (X := M_X12_finds) (pc := 5) dX12_finds_5 (fun _ q => by cases q) (fun _ q => by cases q) ?_
  refine ev_iaload (X := M_X12_finds) (pc := 6) dX12_finds_6 (lS_159 hL) (by omega) ?_
  refine ev_iconst (X := M_X12_finds) (pc := 7) dX12_finds_7 ?_
  refine ev_iadd (X := M_X12_finds) (pc := 8) dX12_finds_8 ?_
  refine ev_iastore (X := M_X12_finds) (pc := 9) dX12_finds_9 (by decide) (lS_159 hL) (by omega) ?_
  refine ev_ldc (X := M_X12_finds) (pc := 10) (v := -1000000000) dX12_finds_10 kw_1096 (by decide) ?_
  refine ev_iload_n (X := M_X12_finds) (pc := 12) dX12_finds_12 rfl ?_
  refine ev_isub (X := M_X12_finds) (pc := 13) dX12_finds_13 ?_
  refine ev_iret (X := M_X12_finds) (pc := 14) dX12_finds_14 rfl ?_
  exact ⟨rfl, rfl, rfl⟩
def heldF (v lo hi : Int) : Int := if v < lo then lo else if hi < v then hi else v
theorem m_held {γ : Gh} {K : Sk} {V : Mm} {v lo hi : Int} (hv : -2147483648 ≤ v ∧ v < 2147483648) (hlo : -2147483648 ≤ lo ∧ lo < 2147483648) (hhi : -2147483648 ≤ hi ∧ hi < 2147483648) : Call γ M_X12_held 0 0 0 [vI v, vI lo, vI hi] K V (Rt (some (vI (heldF v lo hi))) K V) := by
  refine call_of (by decide +kernel) (by intro v hv; simp only [List.mem_cons, List.not_mem_nil, or_false] at hv; rcases hv with rfl | rfl | rfl <;> exact fun q => by cases q) (Nat.le_of_ble_eq_true rfl) ?_
  refine ev_lsE (ls' := [_, _, _]) rfl ?_
  refine ev_iload_n (X := M_X12_held) (pc := 0) dX12_held_0 rfl ?_
  refine ev_iload_n (X := M_X12_held) (pc := 1) dX12_held_1 rfl ?_
  refine ev_icmp_ge (X := M_X12_held) (pc := 2) (tgt := 9) dX12_held_2 (by decide) (by omega) (by omega) (fun h2 => ?_) (fun h2 => ?_)
  · refine ev_iload_n (X := M_X12_held) (pc := 9) dX12_held_9 rfl ?_
    refine ev_iload_n (X := M_X12_held) (pc := 10) dX12_held_10 rfl ?_
    refine ev_icmp_le (X := M_X12_held) (pc := 11) (tgt := 18) dX12_held_11 (by decide) (by omega) (by omega) (fun h11 => ?_) (fun h11 => ?_)
    · refine ev_iload_n (X := M_X12_held) (pc := 18) dX12_held_18 rfl ?_
      refine ev_iret (X := M_X12_held) (pc := 19) dX12_held_19 rfl ?_
      exact ⟨by unfold heldF; first | rw [if_pos (by omega)] | rw [if_neg (by omega), if_pos (by omega)] | rw [if_neg (by omega), if_neg (by omega)], rfl, rfl⟩
    · refine ev_iload_n (X := M_X12_held) (pc := 14) dX12_held_14 rfl ?_
      refine ev_goto (X := M_X12_held) (pc := 15) (tgt := 19) dX12_held_15 (by decide) ?_
      refine ev_iret (X := M_X12_held) (pc := 19) dX12_held_19 rfl ?_
      exact ⟨by unfold heldF; first | rw [if_pos (by omega)] | rw [if_neg (by omega), if_pos (by omega)] | rw [if_neg (by omega), if_neg (by omega)], rfl, rfl⟩
  · refine ev_iload_n (X := M_X12_held) (pc := 5) dX12_held_5 rfl ?_
    refine ev_goto (X := M_X12_held) (pc := 6) (tgt := 19) dX12_held_6 (by decide) ?_
    refine ev_iret (X := M_X12_held) (pc := 19) dX12_held_19 rfl ?_
    exact ⟨by unfold heldF; first | rw [if_pos (by omega)] | rw [if_neg (by omega), if_pos (by omega)] | rw [if_neg (by omega), if_neg (by omega)], rfl, rfl⟩
theorem m_isSort {γ : Gh} {K : Sk} {V : Mm} {x : Int} (hx : -2147483648 ≤ x ∧ x < 2147483648) : Call γ M_X12_isSort 1 0 0 [vI x] K V (Rt (some (vI (if 0 ≤ x ∧ x ≤ 2 then 1 else 0))) K V) := by
  refine call_of (by decide +kernel) (by intro v hv; simp only [List.mem_cons, List.not_mem_nil, or_false] at hv; rcases hv with rfl <;> exact fun q => by cases q) (Nat.le_of_ble_eq_true rfl) ?_
  refine ev_lsE (ls' := [_]) rfl ?_
  refine ev_iload_n (X := M_X12_isSort) (pc := 0) dX12_isSort_0 rfl ?_
  refine ev_i2l (X := M_X12_isSort) (pc := 1) dX12_isSort_1 (by first | omega | (split <;> omega)) ?_
  refine ev_lconst (X := M_X12_isSort) (pc := 2) (v := 0) dX12_isSort_2 (by decide) ?_
  refine ev_ldc2 (X := M_X12_isSort) (pc := 3) (v := 2) dX12_isSort_3 kw_1166 (by decide) ?_
  refine ev_staticR (X := M_X12_isSort) (Y := M_X12_in) (pc := 6) dX12_isSort_6 mk_X12_in kw_1089 kw_1090 (m_in (by omega) (by omega) (by omega)) rfl (by decide) rfl (Nat.le_of_ble_eq_true rfl) (Nat.zero_add _) (Nat.zero_add _) ?_
  refine ev_bret (X := M_X12_isSort) (pc := 9) dX12_isSort_9 rfl (by first | omega | (split <;> omega)) ?_
  exact ⟨rfl, rfl, rfl⟩
theorem m_isPair {γ : Gh} {K : Sk} {V : Mm} {x : Int} (hx : -2147483648 ≤ x ∧ x < 2147483648) : Call γ M_X12_isPair 1 0 0 [vI x] K V (Rt (some (vI (if 0 ≤ x ∧ x ≤ 5 then 1 else 0))) K V) := by
  refine call_of (by decide +kernel) (by intro v hv; simp only [List.mem_cons, List.not_mem_nil, or_false] at hv; rcases hv with rfl <;> exact fun q => by cases q) (Nat.le_of_ble_eq_true rfl) ?_
  refine ev_lsE (ls' := [_]) rfl ?_
  refine ev_iload_n (X := M_X12_isPair) (pc := 0) dX12_isPair_0 rfl ?_
  refine ev_i2l (X := M_X12_isPair) (pc := 1) dX12_isPair_1 (by first | omega | (split <;> omega)) ?_
  refine ev_lconst (X := M_X12_isPair) (pc := 2) (v := 0) dX12_isPair_2 (by decide) ?_
  refine ev_ldc2 (X := M_X12_isPair) (pc := 3) (v := 5) dX12_isPair_3 kw_1186 (by decide) ?_
  refine ev_staticR (X := M_X12_isPair) (Y := M_X12_in) (pc := 6) dX12_isPair_6 mk_X12_in kw_1089 kw_1090 (m_in (by omega) (by omega) (by omega)) rfl (by decide) rfl (Nat.le_of_ble_eq_true rfl) (Nat.zero_add _) (Nat.zero_add _) ?_
  refine ev_bret (X := M_X12_isPair) (pc := 9) dX12_isPair_9 rfl (by first | omega | (split <;> omega)) ?_
  exact ⟨rfl, rfl, rfl⟩
theorem m_isSheet {γ : Gh} {K : Sk} {V : Mm} {x : Int} (hx : -2147483648 ≤ x ∧ x < 2147483648) : Call γ M_X12_isSheet 1 0 0 [vI x] K V (Rt (some (vI (if 0 ≤ x ∧ x ≤ 3 then 1 else 0))) K V) := by
  refine call_of (by decide +kernel) (by intro v hv; simp only [List.mem_cons, List.not_mem_nil, or_false] at hv; rcases hv with rfl <;> exact fun q => by cases q) (Nat.le_of_ble_eq_true rfl) ?_
  refine ev_lsE (ls' := [_]) rfl ?_
  refine ev_iload_n (X := M_X12_isSheet) (pc := 0) dX12_isSheet_0 rfl ?_
  refine ev_i2l (X := M_X12_isSheet) (pc := 1) dX12_isSheet_1 (by first | omega | (split <;> omega)) ?_
  refine ev_lconst (X := M_X12_isSheet) (pc := 2) (v := 0) dX12_isSheet_2 (by decide) ?_
  refine ev_ldc2 (X := M_X12_isSheet) (pc := 3) (v := 3) dX12_isSheet_3 kw_1367 (by decide) ?_
  refine ev_staticR (X := M_X12_isSheet) (Y := M_X12_in) (pc := 6) dX12_isSheet_6 mk_X12_in kw_1089 kw_1090 (m_in (by omega) (by omega) (by omega)) rfl (by decide) rfl (Nat.le_of_ble_eq_true rfl) (Nat.zero_add _) (Nat.zero_add _) ?_
  refine ev_bret (X := M_X12_isSheet) (pc := 9) dX12_isSheet_9 rfl (by first | omega | (split <;> omega)) ?_
  exact ⟨rfl, rfl, rfl⟩
theorem m_first {γ : Gh} {K : Sk} {V : Mm} {x : Int} (hx : -2147483648 ≤ x ∧ x < 2147483648) : Call γ M_X12_first 0 0 0 [vI x] K V (Rt (some (vI (lesF x))) K V) := by
  refine call_of (by decide +kernel) (by intro v hv; simp only [List.mem_cons, List.not_mem_nil, or_false] at hv; rcases hv with rfl <;> exact fun q => by cases q) (Nat.le_of_ble_eq_true rfl) ?_
  refine ev_lsE (ls' := [_]) rfl ?_
  refine ev_iload_n (X := M_X12_first) (pc := 0) dX12_first_0 rfl ?_
  refine ev_iconst (X := M_X12_first) (pc := 1) dX12_first_1 ?_
  refine ev_icmp_ge (X := M_X12_first) (pc := 2) (tgt := 9) dX12_first_2 (by decide) (by omega) (by omega) (fun h2 => ?_) (fun h2 => ?_)
  · refine ev_iload_n (X := M_X12_first) (pc := 9) dX12_first_9 rfl ?_
    refine ev_iconst (X := M_X12_first) (pc := 10) dX12_first_10 ?_
    refine ev_icmp_ge (X := M_X12_first) (pc := 11) (tgt := 18) dX12_first_11 (by decide) (by omega) (by omega) (fun h11 => ?_) (fun h11 => ?_)
    · refine ev_iconst (X := M_X12_first) (pc := 18) dX12_first_18 ?_
      refine ev_iret (X := M_X12_first) (pc := 19) dX12_first_19 rfl ?_
      exact ⟨by unfold lesF; first | rw [if_pos (by omega)] | rw [if_neg (by omega), if_pos (by omega)] | rw [if_neg (by omega), if_neg (by omega)], rfl, rfl⟩
    · refine ev_iconst (X := M_X12_first) (pc := 14) dX12_first_14 ?_
      refine ev_goto (X := M_X12_first) (pc := 15) (tgt := 19) dX12_first_15 (by decide) ?_
      refine ev_iret (X := M_X12_first) (pc := 19) dX12_first_19 rfl ?_
      exact ⟨by unfold lesF; first | rw [if_pos (by omega)] | rw [if_neg (by omega), if_pos (by omega)] | rw [if_neg (by omega), if_neg (by omega)], rfl, rfl⟩
  · refine ev_iconst (X := M_X12_first) (pc := 5) dX12_first_5 ?_
    refine ev_goto (X := M_X12_first) (pc := 6) (tgt := 19) dX12_first_6 (by decide) ?_
    refine ev_iret (X := M_X12_first) (pc := 19) dX12_first_19 rfl ?_
    exact ⟨by unfold lesF; first | rw [if_pos (by omega)] | rw [if_neg (by omega), if_pos (by omega)] | rw [if_neg (by omega), if_neg (by omega)], rfl, rfl⟩
theorem m_second {γ : Gh} {K : Sk} {V : Mm} {x : Int} (hx : -2147483648 ≤ x ∧ x < 2147483648) : Call γ M_X12_second 0 0 0 [vI x] K V (Rt (some (vI (greF x))) K V) := by
  refine call_of (by decide +kernel) (by intro v hv; simp only [List.mem_cons, List.not_mem_nil, or_false] at hv; rcases hv with rfl <;> exact fun q => by cases q) (Nat.le_of_ble_eq_true rfl) ?_
  refine ev_lsE (ls' := [_]) rfl ?_
  refine ev_iload_n (X := M_X12_second) (pc := 0) dX12_second_0 rfl ?_
  refine ev_iconst (X := M_X12_second) (pc := 1) dX12_second_1 ?_
  refine ev_icmp_ge (X := M_X12_second) (pc := 2) (tgt := 9) dX12_second_2 (by decide) (by omega) (by omega) (fun h2 => ?_) (fun h2 => ?_)
  · refine ev_iload_n (X := M_X12_second) (pc := 9) dX12_second_9 rfl ?_
    refine ev_iconst (X := M_X12_second) (pc := 10) dX12_second_10 ?_
    refine ev_icmp_ge (X := M_X12_second) (pc := 11) (tgt := 20) dX12_second_11 (by decide) (by omega) (by omega) (fun h11 => ?_) (fun h11 => ?_)
    · refine ev_iconst (X := M_X12_second) (pc := 20) dX12_second_20 ?_
      refine ev_iret (X := M_X12_second) (pc := 21) dX12_second_21 rfl ?_
      exact ⟨by unfold greF; first | rw [if_pos (by omega)] | rw [if_neg (by omega), if_pos (by omega)] | rw [if_neg (by omega), if_neg (by omega)], rfl, rfl⟩
    · refine ev_iload_n (X := M_X12_second) (pc := 14) dX12_second_14 rfl ?_
      refine ev_iconst (X := M_X12_second) (pc := 15) dX12_second_15 ?_
      refine ev_isub (X := M_X12_second) (pc := 16) dX12_second_16 ?_
      refine ev_goto (X := M_X12_second) (pc := 17) (tgt := 21) dX12_second_17 (by decide) ?_
      refine ev_iret (X := M_X12_second) (pc := 21) dX12_second_21 rfl ?_
      exact ⟨by unfold greF; first | rw [if_pos (by omega)] | rw [if_neg (by omega), if_pos (by omega)] | rw [if_neg (by omega), if_neg (by omega)], rfl, rfl⟩
  · refine ev_iload_n (X := M_X12_second) (pc := 5) dX12_second_5 rfl ?_
    refine ev_goto (X := M_X12_second) (pc := 6) (tgt := 21) dX12_second_6 (by decide) ?_
    refine ev_iret (X := M_X12_second) (pc := 21) dX12_second_21 rfl ?_
    exact ⟨by unfold greF; first | rw [if_pos (by omega)] | rw [if_neg (by omega), if_pos (by omega)] | rw [if_neg (by omega), if_neg (by omega)], rfl, rfl⟩
theorem m_countIn {γ : Gh} {K : Sk} {V : Mm} {s k : Int} (hs : 0 ≤ s ∧ s < 2197) (hk : 0 ≤ k ∧ k < 3) : Call γ M_X12_countIn 0 0 0 [vI s, vI k] K V (Rt (some (vI (cnt s k))) K V) := by
  refine call_of (by decide +kernel) (by intro v hv; simp only [List.mem_cons, List.not_mem_nil, or_false] at hv; rcases hv with rfl | rfl <;> exact fun q => by cases q) (Nat.le_of_ble_eq_true rfl) ?_
  refine ev_lsE (ls' := [_, _]) rfl ?_
  refine ev_iload_n (X := M_X12_countIn) (pc := 0) dX12_countIn_0 rfl ?_
  refine ev_if_ne (X := M_X12_countIn) (pc := 1) (tgt := 12) dX12_countIn_1 (by decide) (by omega) (fun h1 => ?_) (fun h1 => ?_)
  · refine ev_iload_n (X := M_X12_countIn) (pc := 12) dX12_countIn_12 rfl ?_
    refine ev_iconst (X := M_X12_countIn) (pc := 13) dX12_countIn_13 ?_
    refine ev_icmp_ne (X := M_X12_countIn) (pc := 14) (tgt := 27) dX12_countIn_14 (by decide) (by omega) (by omega) (fun h14 => ?_) (fun h14 => ?_)
    · refine ev_iload_n (X := M_X12_countIn) (pc := 27) dX12_countIn_27 rfl ?_
      refine ev_bipush (X := M_X12_countIn) (pc := 28) dX12_countIn_28 (by decide) ?_
      refine ev_irem (X := M_X12_countIn) (pc := 30) dX12_countIn_30 (by omega) (by omega) ?_
      refine ev_iret (X := M_X12_countIn) (pc := 31) dX12_countIn_31 rfl ?_
      refine ⟨?_, rfl, rfl⟩
      rcases (show k = 0 ∨ k = 1 ∨ k = 2 by omega) with rfl | rfl | rfl <;> first | (exfalso; omega) | rw [cnt2] | rw [cnt1] | (rw [cnt0]; congr 2; omega)
    · refine ev_iload_n (X := M_X12_countIn) (pc := 17) dX12_countIn_17 rfl ?_
      refine ev_bipush (X := M_X12_countIn) (pc := 18) dX12_countIn_18 (by decide) ?_
      refine ev_idiv (X := M_X12_countIn) (pc := 20) dX12_countIn_20 (by omega) (by omega) ?_
      refine ev_bipush (X := M_X12_countIn) (pc := 21) dX12_countIn_21 (by decide) ?_
      refine ev_irem (X := M_X12_countIn) (pc := 23) dX12_countIn_23 (by omega) (by omega) ?_
      refine ev_goto (X := M_X12_countIn) (pc := 24) (tgt := 31) dX12_countIn_24 (by decide) ?_
      refine ev_iret (X := M_X12_countIn) (pc := 31) dX12_countIn_31 rfl ?_
      refine ⟨?_, rfl, rfl⟩
      rcases (show k = 0 ∨ k = 1 ∨ k = 2 by omega) with rfl | rfl | rfl <;> first | (exfalso; omega) | rw [cnt2] | rw [cnt1] | (rw [cnt0]; congr 2; omega)
  · refine ev_iload_n (X := M_X12_countIn) (pc := 4) dX12_countIn_4 rfl ?_
    refine ev_sipush (X := M_X12_countIn) (pc := 5) dX12_countIn_5 (by decide) ?_
    refine ev_idiv (X := M_X12_countIn) (pc := 8) dX12_countIn_8 (by omega) (by omega) ?_
    refine ev_goto (X := M_X12_countIn) (pc := 9) (tgt := 31) dX12_countIn_9 (by decide) ?_
    refine ev_iret (X := M_X12_countIn) (pc := 31) dX12_countIn_31 rfl ?_
    refine ⟨?_, rfl, rfl⟩
    rcases (show k = 0 ∨ k = 1 ∨ k = 2 by omega) with rfl | rfl | rfl <;> first | (exfalso; omega) | rw [cnt2] | rw [cnt1] | (rw [cnt0]; congr 2; omega)
theorem m_allIn {γ : Gh} {K : Sk} {V : Mm} {s : Int} (hs : 0 ≤ s ∧ s < 2147483648) : Call γ M_X12_allIn 0 0 0 [vI s] K V (Rt (some (vI (bei s))) K V) := by
  refine call_of (by decide +kernel) (by intro v hv; simp only [List.mem_cons, List.not_mem_nil, or_false] at hv; rcases hv with rfl <;> exact fun q => by cases q) (Nat.le_of_ble_eq_true rfl) ?_
  refine ev_lsE (ls' := [_]) rfl ?_
  refine ev_iload_n (X := M_X12_allIn) (pc := 0) dX12_allIn_0 rfl ?_
  refine ev_sipush (X := M_X12_allIn) (pc := 1) dX12_allIn_1 (by decide) ?_
  refine ev_idiv (X := M_X12_allIn) (pc := 4) dX12_allIn_4 (by omega) (by omega) ?_
  refine ev_iload_n (X := M_X12_allIn) (pc := 5) dX12_allIn_5 rfl ?_
  refine ev_bipush (X := M_X12_allIn) (pc := 6) dX12_allIn_6 (by decide) ?_
  refine ev_idiv (X := M_X12_allIn) (pc := 8) dX12_allIn_8 (by omega) (by omega) ?_
  refine ev_bipush (X := M_X12_allIn) (pc := 9) dX12_allIn_9 (by decide) ?_
  refine ev_irem (X := M_X12_allIn) (pc := 11) dX12_allIn_11 (by omega) (by omega) ?_
  refine ev_iadd (X := M_X12_allIn) (pc := 12) dX12_allIn_12 ?_
  refine ev_iload_n (X := M_X12_allIn) (pc := 13) dX12_allIn_13 rfl ?_
  refine ev_bipush (X := M_X12_allIn) (pc := 14) dX12_allIn_14 (by decide) ?_
  refine ev_irem (X := M_X12_allIn) (pc := 16) dX12_allIn_16 (by omega) (by omega) ?_
  refine ev_iadd (X := M_X12_allIn) (pc := 17) dX12_allIn_17 ?_
  refine ev_iret (X := M_X12_allIn) (pc := 18) dX12_allIn_18 rfl ?_
  exact ⟨rfl, rfl, rfl⟩
theorem m_isState {γ : Gh} {K : Sk} {V : Mm} {x : Int} (hx : -2147483648 ≤ x ∧ x < 2147483648) : Call γ M_X12_isState 1 0 0 [vI x] K V (Rt (some (vI (if isSt x then 1 else 0))) K V) := by
  refine call_of (by decide +kernel) (by intro v hv; simp only [List.mem_cons, List.not_mem_nil, or_false] at hv; rcases hv with rfl <;> exact fun q => by cases q) (Nat.le_of_ble_eq_true rfl) ?_
  refine ev_lsE (ls' := [_]) rfl ?_
  refine ev_iload_n (X := M_X12_isState) (pc := 0) dX12_isState_0 rfl ?_
  refine ev_i2l (X := M_X12_isState) (pc := 1) dX12_isState_1 (by omega) ?_
  refine ev_lconst (X := M_X12_isState) (pc := 2) (v := 0) dX12_isState_2 (by decide) ?_
  refine ev_ldc2 (X := M_X12_isState) (pc := 3) (v := 2196) dX12_isState_3 kw_1287 (by decide) ?_
  refine ev_staticR (X := M_X12_isState) (Y := M_X12_in) (pc := 6) dX12_isState_6 mk_X12_in kw_1089 kw_1090 (m_in (by omega) (by omega) (by omega)) rfl (by decide) rfl (Nat.le_of_ble_eq_true rfl) (Nat.zero_add _) (Nat.zero_add _) ?_
  refine ev_if_eq (X := M_X12_isState) (pc := 9) (tgt := 25) dX12_isState_9 (by decide) (by split <;> omega) (fun h9 => ?_) (fun h9 => ?_)
  · refine ev_iconst (X := M_X12_isState) (pc := 25) dX12_isState_25 ?_
    refine ev_bret (X := M_X12_isState) (pc := 26) dX12_isState_26 rfl (by omega) ?_
    refine ⟨?_, rfl, rfl⟩
    unfold isSt
    have hb : x < 2197 → 0 ≤ x → bei x ≤ 12 → x ≤ 2028 := by
      intro a b c
      unfold bei at c
      omega
    split at h9 <;> split <;> first | rfl | (exfalso; omega)
  · refine ev_iload_n (X := M_X12_isState) (pc := 12) dX12_isState_12 rfl ?_
    refine ev_staticR (X := M_X12_isState) (Y := M_X12_allIn) (pc := 13) dX12_isState_13 mk_X12_allIn kw_1172 kw_1173 (m_allIn (by split at h9 <;> omega)) rfl (by decide) rfl (Nat.le_of_ble_eq_true rfl) (Nat.zero_add _) (Nat.zero_add _) ?_
    refine ev_bipush (X := M_X12_isState) (pc := 16) dX12_isState_16 (by decide) ?_
    refine ev_icmp_gt (X := M_X12_isState) (pc := 18) (tgt := 25) dX12_isState_18 (by decide) (by have := bei_r (s := x) (by split at h9 <;> omega); omega) (by have := bei_r (s := x) (by split at h9 <;> omega); omega) (fun h18 => ?_) (fun h18 => ?_)
    · refine ev_iconst (X := M_X12_isState) (pc := 25) dX12_isState_25 ?_
      refine ev_bret (X := M_X12_isState) (pc := 26) dX12_isState_26 rfl (by omega) ?_
      refine ⟨?_, rfl, rfl⟩
      unfold isSt
      have hb : x < 2197 → 0 ≤ x → bei x ≤ 12 → x ≤ 2028 := by
        intro a b c
        unfold bei at c
        omega
      split at h9 <;> split <;> first | rfl | (exfalso; omega)
    · refine ev_iconst (X := M_X12_isState) (pc := 21) dX12_isState_21 ?_
      refine ev_goto (X := M_X12_isState) (pc := 22) (tgt := 26) dX12_isState_22 (by decide) ?_
      refine ev_bret (X := M_X12_isState) (pc := 26) dX12_isState_26 rfl (by omega) ?_
      refine ⟨?_, rfl, rfl⟩
      unfold isSt
      have hb : x < 2197 → 0 ≤ x → bei x ≤ 12 → x ≤ 2028 := by
        intro a b c
        unfold bei at c
        omega
      split at h9 <;> split <;> first | rfl | (exfalso; omega)
def nowS (D : Int → Int) : Int := 169 * D 0 + 13 * D 1 + D 2
theorem m_now {γ : Gh} {K : Sk} {V : Mm} (hL : Lay K) : Call γ M_X12_now 0 0 0 [vR 156] K V (Rt (some (vI (nowS (V 157)))) K V) := by
  refine call_of (by decide +kernel) (by intro v hv; simp only [List.mem_cons, List.not_mem_nil, or_false] at hv; rcases hv with rfl <;> exact fun q => by cases q) (Nat.le_of_ble_eq_true rfl) ?_
  refine ev_lsE (ls' := [_]) rfl ?_
  refine ev_sipush (X := M_X12_now) (pc := 0) dX12_now_0 (by decide) ?_
  refine ev_aload_n (X := M_X12_now) (pc := 3) dX12_now_3 rfl ?_
  refine ev_getRe (X := M_X12_now) (pc := 4) dX12_now_4 fl_X12_7_12 (lO_156 hL) rfl (lR_156_0 hL) ?_
  refine ev_iconst (X := M_X12_now) (pc := 7) dX12_now_7 ?_
  refine ev_iaload (X := M_X12_now) (pc := 8) dX12_now_8 (lS_157 hL) (by omega) ?_
  refine ev_imul (X := M_X12_now) (pc := 9) dX12_now_9 ?_
  refine ev_bipush (X := M_X12_now) (pc := 10) dX12_now_10 (by decide) ?_
  refine ev_aload_n (X := M_X12_now) (pc := 12) dX12_now_12 rfl ?_
  refine ev_getRe (X := M_X12_now) (pc := 13) dX12_now_13 fl_X12_7_12 (lO_156 hL) rfl (lR_156_0 hL) ?_
  refine ev_iconst (X := M_X12_now) (pc := 16) dX12_now_16 ?_
  refine ev_iaload (X := M_X12_now) (pc := 17) dX12_now_17 (lS_157 hL) (by omega) ?_
  refine ev_imul (X := M_X12_now) (pc := 18) dX12_now_18 ?_
  refine ev_iadd (X := M_X12_now) (pc := 19) dX12_now_19 ?_
  refine ev_aload_n (X := M_X12_now) (pc := 20) dX12_now_20 rfl ?_
  refine ev_getRe (X := M_X12_now) (pc := 21) dX12_now_21 fl_X12_7_12 (lO_156 hL) rfl (lR_156_0 hL) ?_
  refine ev_iconst (X := M_X12_now) (pc := 24) dX12_now_24 ?_
  refine ev_iaload (X := M_X12_now) (pc := 25) dX12_now_25 (lS_157 hL) (by omega) ?_
  refine ev_iadd (X := M_X12_now) (pc := 26) dX12_now_26 ?_
  refine ev_iret (X := M_X12_now) (pc := 27) dX12_now_27 rfl ?_
  exact ⟨rfl, rfl, rfl⟩
theorem m_one {γ : Gh} {K : Sk} {V : Mm} {x : Int} (hx : -2147483648 ≤ x ∧ x < 2147483648) : Call γ M_X12_one 0 0 0 [vI x] K V (Rt (some (vI (one x))) K V) := by
  refine call_of (by decide +kernel) (by intro v hv; simp only [List.mem_cons, List.not_mem_nil, or_false] at hv; rcases hv with rfl <;> exact fun q => by cases q) (Nat.le_of_ble_eq_true rfl) ?_
  refine ev_lsE (ls' := [_]) rfl ?_
  refine ev_iload_n (X := M_X12_one) (pc := 0) dX12_one_0 rfl ?_
  refine ev_if_ge (X := M_X12_one) (pc := 1) (tgt := 8) dX12_one_1 (by decide) (by omega) (fun h1 => ?_) (fun h1 => ?_)
  · refine ev_iload_n (X := M_X12_one) (pc := 8) dX12_one_8 rfl ?_
    refine ev_if_ne (X := M_X12_one) (pc := 9) (tgt := 18) dX12_one_9 (by decide) (by omega) (fun h9 => ?_) (fun h9 => ?_)
    · refine ev_iload_n (X := M_X12_one) (pc := 18) dX12_one_18 rfl ?_
      refine ev_iconst (X := M_X12_one) (pc := 19) dX12_one_19 ?_
      refine ev_icmp_ne (X := M_X12_one) (pc := 20) (tgt := 28) dX12_one_20 (by decide) (by omega) (by omega) (fun h20 => ?_) (fun h20 => ?_)
      · refine ev_iconst (X := M_X12_one) (pc := 28) dX12_one_28 ?_
        refine ev_iret (X := M_X12_one) (pc := 29) dX12_one_29 rfl ?_
        exact ⟨by unfold one; first | rw [if_pos (by omega)] | rw [if_neg (by omega), if_pos (by omega)] | rw [if_neg (by omega), if_neg (by omega), if_pos (by omega)] | rw [if_neg (by omega), if_neg (by omega), if_neg (by omega)], rfl, rfl⟩
      · refine ev_bipush (X := M_X12_one) (pc := 23) dX12_one_23 (by decide) ?_
        refine ev_goto (X := M_X12_one) (pc := 25) (tgt := 29) dX12_one_25 (by decide) ?_
        refine ev_iret (X := M_X12_one) (pc := 29) dX12_one_29 rfl ?_
        exact ⟨by unfold one; first | rw [if_pos (by omega)] | rw [if_neg (by omega), if_pos (by omega)] | rw [if_neg (by omega), if_neg (by omega), if_pos (by omega)] | rw [if_neg (by omega), if_neg (by omega), if_neg (by omega)], rfl, rfl⟩
    · refine ev_sipush (X := M_X12_one) (pc := 12) dX12_one_12 (by decide) ?_
      refine ev_goto (X := M_X12_one) (pc := 15) (tgt := 29) dX12_one_15 (by decide) ?_
      refine ev_iret (X := M_X12_one) (pc := 29) dX12_one_29 rfl ?_
      exact ⟨by unfold one; first | rw [if_pos (by omega)] | rw [if_neg (by omega), if_pos (by omega)] | rw [if_neg (by omega), if_neg (by omega), if_pos (by omega)] | rw [if_neg (by omega), if_neg (by omega), if_neg (by omega)], rfl, rfl⟩
  · refine ev_iconst (X := M_X12_one) (pc := 4) dX12_one_4 ?_
    refine ev_goto (X := M_X12_one) (pc := 5) (tgt := 29) dX12_one_5 (by decide) ?_
    refine ev_iret (X := M_X12_one) (pc := 29) dX12_one_29 rfl ?_
    exact ⟨by unfold one; first | rw [if_pos (by omega)] | rw [if_neg (by omega), if_pos (by omega)] | rw [if_neg (by omega), if_neg (by omega), if_pos (by omega)] | rw [if_neg (by omega), if_neg (by omega), if_neg (by omega)], rfl, rfl⟩
theorem m_manyOf {γ : Gh} {K : Sk} {V : Mm} (hL : Lay K) {C : Int → Int} (hC : wfC C) (hV : V 161 = C) {p : Int} (hp : 0 ≤ p ∧ p < 6) : Call γ M_X12_manyOf 0 0 0 [vR 156, vI p] K V (Rt (some (vI (many C p))) K V) := by
  refine call_of (by decide +kernel) (by intro v hv; simp only [List.mem_cons, List.not_mem_nil, or_false] at hv; rcases hv with rfl | rfl <;> exact fun q => by cases q) (Nat.le_of_ble_eq_true rfl) ?_
  refine ev_lsE (ls' := [_, _]) rfl ?_
  obtain ⟨g0, g1, g2⟩ := hC p hp
  refine ev_iconst (X := M_X12_manyOf) (pc := 0) dX12_manyOf_0 ?_
  refine ev_aload_n (X := M_X12_manyOf) (pc := 1) dX12_manyOf_1 rfl ?_
  refine ev_getRe (X := M_X12_manyOf) (pc := 2) dX12_manyOf_2 fl_X12_22_12 (lO_156 hL) rfl (lR_156_11 hL) ?_
  refine ev_iconst (X := M_X12_manyOf) (pc := 5) dX12_manyOf_5 ?_
  refine ev_iload_n (X := M_X12_manyOf) (pc := 6) dX12_manyOf_6 rfl ?_
  refine ev_imul (X := M_X12_manyOf) (pc := 7) dX12_manyOf_7 ?_
  refine ev_iconst (X := M_X12_manyOf) (pc := 8) dX12_manyOf_8 ?_
  refine ev_iadd (X := M_X12_manyOf) (pc := 9) dX12_manyOf_9 ?_
  refine ev_ialoadE (X := M_X12_manyOf) (pc := 10) dX12_manyOf_10 (lS_161 hL) (by omega) (congrFun hV _) ?_
  refine ev_if_lt (X := M_X12_manyOf) (pc := 11) (tgt := 18) dX12_manyOf_11 (by decide) (by omega) (fun h11 => ?_) (fun h11 => ?_)
  · refine ev_iconst (X := M_X12_manyOf) (pc := 18) dX12_manyOf_18 ?_
    refine ev_iadd (X := M_X12_manyOf) (pc := 19) dX12_manyOf_19 ?_
    refine ev_aload_n (X := M_X12_manyOf) (pc := 20) dX12_manyOf_20 rfl ?_
    refine ev_getRe (X := M_X12_manyOf) (pc := 21) dX12_manyOf_21 fl_X12_22_12 (lO_156 hL) rfl (lR_156_11 hL) ?_
    refine ev_iconst (X := M_X12_manyOf) (pc := 24) dX12_manyOf_24 ?_
    refine ev_iload_n (X := M_X12_manyOf) (pc := 25) dX12_manyOf_25 rfl ?_
    refine ev_imul (X := M_X12_manyOf) (pc := 26) dX12_manyOf_26 ?_
    refine ev_iconst (X := M_X12_manyOf) (pc := 27) dX12_manyOf_27 ?_
    refine ev_iadd (X := M_X12_manyOf) (pc := 28) dX12_manyOf_28 ?_
    refine ev_ialoadE (X := M_X12_manyOf) (pc := 29) dX12_manyOf_29 (lS_161 hL) (by omega) (congrFun hV _) ?_
    refine ev_if_lt (X := M_X12_manyOf) (pc := 30) (tgt := 37) dX12_manyOf_30 (by decide) (by omega) (fun h30 => ?_) (fun h30 => ?_)
    · refine ev_iconst (X := M_X12_manyOf) (pc := 37) dX12_manyOf_37 ?_
      refine ev_iadd (X := M_X12_manyOf) (pc := 38) dX12_manyOf_38 ?_
      refine ev_iret (X := M_X12_manyOf) (pc := 39) dX12_manyOf_39 rfl ?_
      exact ⟨by unfold many; first | (rw [if_pos (by omega), if_pos (by omega)]; done) | (rw [if_pos (by omega), if_neg (by omega)]; done) | (rw [if_neg (by omega), if_pos (by omega)]; done) | (rw [if_neg (by omega), if_neg (by omega)]; done), rfl, rfl⟩
    · refine ev_iconst (X := M_X12_manyOf) (pc := 33) dX12_manyOf_33 ?_
      refine ev_goto (X := M_X12_manyOf) (pc := 34) (tgt := 38) dX12_manyOf_34 (by decide) ?_
      refine ev_iadd (X := M_X12_manyOf) (pc := 38) dX12_manyOf_38 ?_
      refine ev_iret (X := M_X12_manyOf) (pc := 39) dX12_manyOf_39 rfl ?_
      exact ⟨by unfold many; first | (rw [if_pos (by omega), if_pos (by omega)]; done) | (rw [if_pos (by omega), if_neg (by omega)]; done) | (rw [if_neg (by omega), if_pos (by omega)]; done) | (rw [if_neg (by omega), if_neg (by omega)]; done), rfl, rfl⟩
  · refine ev_iconst (X := M_X12_manyOf) (pc := 14) dX12_manyOf_14 ?_
    refine ev_goto (X := M_X12_manyOf) (pc := 15) (tgt := 19) dX12_manyOf_15 (by decide) ?_
    refine ev_iadd (X := M_X12_manyOf) (pc := 19) dX12_manyOf_19 ?_
    refine ev_aload_n (X := M_X12_manyOf) (pc := 20) dX12_manyOf_20 rfl ?_
    refine ev_getRe (X := M_X12_manyOf) (pc := 21) dX12_manyOf_21 fl_X12_22_12 (lO_156 hL) rfl (lR_156_11 hL) ?_
    refine ev_iconst (X := M_X12_manyOf) (pc := 24) dX12_manyOf_24 ?_
    refine ev_iload_n (X := M_X12_manyOf) (pc := 25) dX12_manyOf_25 rfl ?_
    refine ev_imul (X := M_X12_manyOf) (pc := 26) dX12_manyOf_26 ?_
    refine ev_iconst (X := M_X12_manyOf) (pc := 27) dX12_manyOf_27 ?_
    refine ev_iadd (X := M_X12_manyOf) (pc := 28) dX12_manyOf_28 ?_
    refine ev_ialoadE (X := M_X12_manyOf) (pc := 29) dX12_manyOf_29 (lS_161 hL) (by omega) (congrFun hV _) ?_
    refine ev_if_lt (X := M_X12_manyOf) (pc := 30) (tgt := 37) dX12_manyOf_30 (by decide) (by omega) (fun h30 => ?_) (fun h30 => ?_)
    · refine ev_iconst (X := M_X12_manyOf) (pc := 37) dX12_manyOf_37 ?_
      refine ev_iadd (X := M_X12_manyOf) (pc := 38) dX12_manyOf_38 ?_
      refine ev_iret (X := M_X12_manyOf) (pc := 39) dX12_manyOf_39 rfl ?_
      exact ⟨by unfold many; first | (rw [if_pos (by omega), if_pos (by omega)]; done) | (rw [if_pos (by omega), if_neg (by omega)]; done) | (rw [if_neg (by omega), if_pos (by omega)]; done) | (rw [if_neg (by omega), if_neg (by omega)]; done), rfl, rfl⟩
    · refine ev_iconst (X := M_X12_manyOf) (pc := 33) dX12_manyOf_33 ?_
      refine ev_goto (X := M_X12_manyOf) (pc := 34) (tgt := 38) dX12_manyOf_34 (by decide) ?_
      refine ev_iadd (X := M_X12_manyOf) (pc := 38) dX12_manyOf_38 ?_
      refine ev_iret (X := M_X12_manyOf) (pc := 39) dX12_manyOf_39 rfl ?_
      exact ⟨by unfold many; first | (rw [if_pos (by omega), if_pos (by omega)]; done) | (rw [if_pos (by omega), if_neg (by omega)]; done) | (rw [if_neg (by omega), if_pos (by omega)]; done) | (rw [if_neg (by omega), if_neg (by omega)]; done), rfl, rfl⟩
theorem m_after {γ : Gh} {K : Sk} {V : Mm} (hL : Lay K) {C : Int → Int} (hC : wfC C) (hV : V 161 = C) {p : Int} (hp : 0 ≤ p ∧ p < 6) {s : Int} : Call γ M_X12_after 1 0 0 [vR 156, vI s, vI p] K V (Rt (some (vI (aft C s p))) K V) := by
  refine call_of (by decide +kernel) (by intro v hv; simp only [List.mem_cons, List.not_mem_nil, or_false] at hv; rcases hv with rfl | rfl | rfl <;> exact fun q => by cases q) (Nat.le_of_ble_eq_true rfl) ?_
  refine ev_lsE (ls' := [_, _, _]) rfl ?_
  obtain ⟨g0, g1, g2⟩ := hC p hp
  have l1 := les_r p hp
  have l2 := gre_r p hp
  refine ev_iload_n (X := M_X12_after) (pc := 0) dX12_after_0 rfl ?_
  refine ev_iload_n (X := M_X12_after) (pc := 1) dX12_after_1 rfl ?_
  refine ev_staticR (X := M_X12_after) (Y := M_X12_first) (pc := 2) dX12_after_2 mk_X12_first kw_1205 kw_1206 (m_first (by omega)) rfl (by decide) rfl (Nat.le_of_ble_eq_true rfl) (Nat.zero_add _) (Nat.zero_add _) ?_
  refine ev_staticR (X := M_X12_after) (Y := M_X12_one) (pc := 5) dX12_after_5 mk_X12_one kw_1252 kw_1253 (m_one (by omega)) rfl (by decide) rfl (Nat.le_of_ble_eq_true rfl) (Nat.zero_add _) (Nat.zero_add _) ?_
  refine ev_isub (X := M_X12_after) (pc := 8) dX12_after_8 ?_
  refine ev_iload_n (X := M_X12_after) (pc := 9) dX12_after_9 rfl ?_
  refine ev_staticR (X := M_X12_after) (Y := M_X12_second) (pc := 10) dX12_after_10 mk_X12_second kw_1208 kw_1209 (m_second (by omega)) rfl (by decide) rfl (Nat.le_of_ble_eq_true rfl) (Nat.zero_add _) (Nat.zero_add _) ?_
  refine ev_staticR (X := M_X12_after) (Y := M_X12_one) (pc := 13) dX12_after_13 mk_X12_one kw_1252 kw_1253 (m_one (by omega)) rfl (by decide) rfl (Nat.le_of_ble_eq_true rfl) (Nat.zero_add _) (Nat.zero_add _) ?_
  refine ev_isub (X := M_X12_after) (pc := 16) dX12_after_16 ?_
  refine ev_aload_n (X := M_X12_after) (pc := 17) dX12_after_17 rfl ?_
  refine ev_getRe (X := M_X12_after) (pc := 18) dX12_after_18 fl_X12_22_12 (lO_156 hL) rfl (lR_156_11 hL) ?_
  refine ev_iconst (X := M_X12_after) (pc := 21) dX12_after_21 ?_
  refine ev_iload_n (X := M_X12_after) (pc := 22) dX12_after_22 rfl ?_
  refine ev_imul (X := M_X12_after) (pc := 23) dX12_after_23 ?_
  refine ev_ialoadE (X := M_X12_after) (pc := 24) dX12_after_24 (lS_161 hL) (by omega) (congrFun hV _) ?_
  refine ev_staticR (X := M_X12_after) (Y := M_X12_one) (pc := 25) dX12_after_25 mk_X12_one kw_1252 kw_1253 (m_one (by omega)) rfl (by decide) rfl (Nat.le_of_ble_eq_true rfl) (Nat.zero_add _) (Nat.zero_add _) ?_
  refine ev_iadd (X := M_X12_after) (pc := 28) dX12_after_28 ?_
  refine ev_aload_n (X := M_X12_after) (pc := 29) dX12_after_29 rfl ?_
  refine ev_getRe (X := M_X12_after) (pc := 30) dX12_after_30 fl_X12_22_12 (lO_156 hL) rfl (lR_156_11 hL) ?_
  refine ev_iconst (X := M_X12_after) (pc := 33) dX12_after_33 ?_
  refine ev_iload_n (X := M_X12_after) (pc := 34) dX12_after_34 rfl ?_
  refine ev_imul (X := M_X12_after) (pc := 35) dX12_after_35 ?_
  refine ev_iconst (X := M_X12_after) (pc := 36) dX12_after_36 ?_
  refine ev_iadd (X := M_X12_after) (pc := 37) dX12_after_37 ?_
  refine ev_ialoadE (X := M_X12_after) (pc := 38) dX12_after_38 (lS_161 hL) (by omega) (congrFun hV _) ?_
  refine ev_staticR (X := M_X12_after) (Y := M_X12_one) (pc := 39) dX12_after_39 mk_X12_one kw_1252 kw_1253 (m_one (by omega)) rfl (by decide) rfl (Nat.le_of_ble_eq_true rfl) (Nat.zero_add _) (Nat.zero_add _) ?_
  refine ev_iadd (X := M_X12_after) (pc := 42) dX12_after_42 ?_
  refine ev_aload_n (X := M_X12_after) (pc := 43) dX12_after_43 rfl ?_
  refine ev_getRe (X := M_X12_after) (pc := 44) dX12_after_44 fl_X12_22_12 (lO_156 hL) rfl (lR_156_11 hL) ?_
  refine ev_iconst (X := M_X12_after) (pc := 47) dX12_after_47 ?_
  refine ev_iload_n (X := M_X12_after) (pc := 48) dX12_after_48 rfl ?_
  refine ev_imul (X := M_X12_after) (pc := 49) dX12_after_49 ?_
  refine ev_iconst (X := M_X12_after) (pc := 50) dX12_after_50 ?_
  refine ev_iadd (X := M_X12_after) (pc := 51) dX12_after_51 ?_
  refine ev_ialoadE (X := M_X12_after) (pc := 52) dX12_after_52 (lS_161 hL) (by omega) (congrFun hV _) ?_
  refine ev_staticR (X := M_X12_after) (Y := M_X12_one) (pc := 53) dX12_after_53 mk_X12_one kw_1252 kw_1253 (m_one (by omega)) rfl (by decide) rfl (Nat.le_of_ble_eq_true rfl) (Nat.zero_add _) (Nat.zero_add _) ?_
  refine ev_iadd (X := M_X12_after) (pc := 56) dX12_after_56 ?_
  refine ev_iret (X := M_X12_after) (pc := 57) dX12_after_57 rfl ?_
  exact ⟨rfl, rfl, rfl⟩
/-- the fences as one number -/
def fS (D : Int → Int) : Int := D 15 + 2 * D 16 + 4 * D 17 + 8 * D 18 + 16 * D 19 + 32 * D 20
def fSi (D : Int → Int) (i : Int) : Int := (if 0 < i then D 15 else 0) + (if 1 < i then 2 * D 16 else 0) + (if 2 < i then 4 * D 17 else 0) + (if 3 < i then 8 * D 18 else 0) + (if 4 < i then 16 * D 19 else 0) + (if 5 < i then 32 * D 20 else 0)
def wfF (D : Int → Int) : Prop := ∀ p, 0 ≤ p ∧ p < 6 → D (15 + p) = 0 ∨ D (15 + p) = 1
theorem wfF.all {D : Int → Int} (h : wfF D) : (0 ≤ D 15 ∧ D 15 ≤ 1) ∧ (0 ≤ D 16 ∧ D 16 ≤ 1) ∧ (0 ≤ D 17 ∧ D 17 ≤ 1) ∧ (0 ≤ D 18 ∧ D 18 ≤ 1) ∧ (0 ≤ D 19 ∧ D 19 ≤ 1) ∧ (0 ≤ D 20 ∧ D 20 ≤ 1) := by
  have k : ∀ x : Int, x = 0 ∨ x = 1 → 0 ≤ x ∧ x ≤ 1 := fun x hx => by omega
  exact ⟨k _ (h 0 (by decide)), k _ (h 1 (by decide)), k _ (h 2 (by decide)), k _ (h 3 (by decide)), k _ (h 4 (by decide)), k _ (h 5 (by decide))⟩
theorem fS_r {D : Int → Int} (h : wfF D) : 0 ≤ fS D ∧ fS D < 64 := by
  obtain ⟨h0, h1, h2, h3, h4, h5⟩ := h.all
  unfold fS
  omega
theorem fS_bit {D : Int → Int} (h : wfF D) {p : Int} (hp : 0 ≤ p ∧ p < 6) : bit (fS D) p = D (15 + p) := by
  obtain ⟨h0, h1, h2, h3, h4, h5⟩ := h.all
  unfold bit fS
  rcases (show p = 0 ∨ p = 1 ∨ p = 2 ∨ p = 3 ∨ p = 4 ∨ p = 5 by omega) with rfl | rfl | rfl | rfl | rfl | rfl
  · show _ / 1 % 2 = D 15; omega
  · show _ / 2 % 2 = D 16; omega
  · show _ / 4 % 2 = D 17; omega
  · show _ / 8 % 2 = D 18; omega
  · show _ / 16 % 2 = D 19; omega
  · show _ / 32 % 2 = D 20; omega
theorem fSi_s {D : Int → Int} (h : wfF D) {i : Int} (hi : 0 ≤ i ∧ i < 6) : op_ior (fSi D i) (op_ishl (D (15 + i)) i) = fSi D (i + 1) := by
  obtain ⟨h0, h1, h2, h3, h4, h5⟩ := h.all
  have hD := h i hi
  have key : ∀ a b : Int, 0 ≤ a → a < 2 ^ i.toNat → (b = 0 ∨ b = 1) → op_ior a (op_ishl b i) = a + b * 2 ^ i.toNat := by
    intro a b ha1 ha2 hb
    have hlt : a.toNat < 2 ^ i.toNat := by
      have : ((2 ^ i.toNat : Nat) : Int) = 2 ^ i.toNat := by simp
      omega
    have := or_tab i.toNat (by omega) a.toNat hlt b.toNat (by omega)
    rw [Int.toNat_of_nonneg ha1, Int.toNat_of_nonneg hi.1, Int.toNat_of_nonneg (by omega)] at this
    exact this
  rcases (show i = 0 ∨ i = 1 ∨ i = 2 ∨ i = 3 ∨ i = 4 ∨ i = 5 by omega) with rfl | rfl | rfl | rfl | rfl | rfl
  all_goals
    rw [key _ _ ?_ ?_ hD]
    all_goals simp only [fSi]
    all_goals simp
    all_goals omega
theorem m_fencedNow {γ : Gh} {K : Sk} {V : Mm} (hL : Lay K) (hF : wfF (V 157)) : Call γ M_X12_fencedNow 0 0 0 [vR 156] K V (Rt (some (vI (fS (V 157)))) K V) := by
  refine call_of (by decide +kernel) (by intro v hv; simp only [List.mem_cons, List.not_mem_nil, or_false] at hv; rcases hv with rfl; exact fun q => by cases q) (Nat.le_of_ble_eq_true rfl) ?_
  refine ev_iconst (X := M_X12_fencedNow) (pc := 0) dX12_fencedNow_0 ?_
  refine ev_istore_nL (X := M_X12_fencedNow) (pc := 1) (ls' := [_, _, _]) dX12_fencedNow_1 (by decide) rfl ?_
  refine ev_iconst (X := M_X12_fencedNow) (pc := 2) dX12_fencedNow_2 ?_
  refine ev_istore_nL (X := M_X12_fencedNow) (pc := 3) (ls' := [_, _, _]) dX12_fencedNow_3 (by decide) rfl ?_
  refine ev_count 6 0 (fun i => [vR 156, vI (fSi (V 157) i), vI i]) (by decide) (fun i hi hn ih => ?_)
  refine ev_iload_n (X := M_X12_fencedNow) (pc := 4) dX12_fencedNow_4 rfl ?_
  refine ev_bipush (X := M_X12_fencedNow) (pc := 5) dX12_fencedNow_5 (by decide) ?_
  refine ev_icmp_ge (X := M_X12_fencedNow) (pc := 7) (tgt := 30) dX12_fencedNow_7 (by decide) (by omega) (by omega) (fun h7 => ?_) (fun h7 => ?_)
  · refine ev_iload_n (X := M_X12_fencedNow) (pc := 30) dX12_fencedNow_30 rfl ?_
    refine ev_iret (X := M_X12_fencedNow) (pc := 31) dX12_fencedNow_31 rfl ?_
    exact ⟨by rw [show i = 6 by omega]; rfl, rfl, rfl⟩
  · refine ev_iload_n (X := M_X12_fencedNow) (pc := 10) dX12_fencedNow_10 rfl ?_
    refine ev_aload_n (X := M_X12_fencedNow) (pc := 11) dX12_fencedNow_11 rfl ?_
    refine ev_getRe (X := M_X12_fencedNow) (pc := 12) dX12_fencedNow_12 fl_X12_7_12 (lO_156 hL) rfl (lR_156_0 hL) ?_
    refine ev_bipush (X := M_X12_fencedNow) (pc := 15) dX12_fencedNow_15 (by decide) ?_
    refine ev_iload_n (X := M_X12_fencedNow) (pc := 17) dX12_fencedNow_17 rfl ?_
    refine ev_iadd (X := M_X12_fencedNow) (pc := 18) dX12_fencedNow_18 ?_
    refine ev_iaload (X := M_X12_fencedNow) (pc := 19) dX12_fencedNow_19 (lS_157 hL) (by omega) ?_
    refine ev_iload_n (X := M_X12_fencedNow) (pc := 20) dX12_fencedNow_20 rfl ?_
    refine ev_ishl (X := M_X12_fencedNow) (pc := 21) dX12_fencedNow_21 ?_
    refine ev_ior (X := M_X12_fencedNow) (pc := 22) dX12_fencedNow_22 ?_
    refine ev_istore_nL (X := M_X12_fencedNow) (pc := 23) (ls' := [_, _, _]) dX12_fencedNow_23 (by decide) rfl ?_
    refine ev_iincL (X := M_X12_fencedNow) (pc := 24) (ls' := [_, _, _]) dX12_fencedNow_24 rfl (by decide) rfl ?_
    refine ev_goto (X := M_X12_fencedNow) (pc := 27) (tgt := 4) dX12_fencedNow_27 (by decide) ?_
    refine ev_eq (ih (by omega)) (e1 := ?_)
    rw [fSi_s hF (by omega)]
def th (s p : Int) : Int := if nd p ≤ cnt s (lesF p) ∧ nd p ≤ cnt s (greF p) then 1 else 0
theorem th_r (s p : Int) : th s p = 0 ∨ th s p = 1 := by
  unfold th
  split <;> omega
theorem m_mayMeet {γ : Gh} {K : Sk} {V : Mm} (hL : Lay K) {C : Int → Int} (hC : wfC C) (hV : V 161 = C) {p : Int} (hp : 0 ≤ p ∧ p < 6) {s F : Int} (hs : 0 ≤ s ∧ s < 2197) (hF : 0 ≤ F ∧ F < 64) : Call γ M_X12_mayMeet 1 0 0 [vR 156, vI s, vI p, vI F] K V (Rt (some (vI (if may C F s p then 1 else 0))) K V) := by
  refine call_of (by decide +kernel) (by intro v hv; simp only [List.mem_cons, List.not_mem_nil, or_false] at hv; rcases hv with rfl | rfl | rfl | rfl <;> exact fun q => by cases q) (Nat.le_of_ble_eq_true rfl) ?_
  refine ev_lsE (ls' := [_, _, _, _, _, _, _]) rfl ?_
  have q1 := les_r p hp
  have q2 := gre_r p hp
  have q3 := cnt_r s (lesF p)
  have q4 := cnt_r s (greF p)
  have q5 := bit_01 F p
  have q6 : 0 ≤ bei s ∧ bei s ≤ 36 := by unfold bei; omega
  have q7 := many_r C p
  have e0 : lesF p = greF p → cnt s (lesF p) = cnt s (greF p) := fun q => by rw [q]
  have key : ∀ t, t = th s p → Ev γ M_X12_mayMeet 1 0 0 62 [vR 156, vI s, vI p, vI F, vI (lesF p), vI (greF p), vI t] [] K V (Rt (some (vI (if may C F s p then 1 else 0))) K V) := by
    intro t ht
    have q8 := th_r s p
    have q9 : th s p = if nd p ≤ cnt s (lesF p) ∧ nd p ≤ cnt s (greF p) then 1 else 0 := rfl
    refine ev_iload (X := M_X12_mayMeet) (pc := 62) dX12_mayMeet_62 rfl ?_
    refine ev_if_eq (X := M_X12_mayMeet) (pc := 64) (tgt := 96) dX12_mayMeet_64 (by decide) (by omega) (fun h64 => ?_) (fun h64 => ?_)
    · refine ev_iconst (X := M_X12_mayMeet) (pc := 96) dX12_mayMeet_96 ?_
      refine ev_bret (X := M_X12_mayMeet) (pc := 97) dX12_mayMeet_97 rfl (by omega) ?_
      refine ⟨?_, rfl, rfl⟩
      have e := @may_iff C F s p
      unfold th at *
      split at q9 <;> split <;> first | rfl | (exfalso; omega)
    · refine ev_iload_n (X := M_X12_mayMeet) (pc := 67) dX12_mayMeet_67 rfl ?_
      refine ev_iload_n (X := M_X12_mayMeet) (pc := 68) dX12_mayMeet_68 rfl ?_
      refine ev_ishr (X := M_X12_mayMeet) (pc := 69) dX12_mayMeet_69 ?_
      refine ev_iconst (X := M_X12_mayMeet) (pc := 70) dX12_mayMeet_70 ?_
      refine ev_iand (X := M_X12_mayMeet) (pc := 71) dX12_mayMeet_71 ?_
      rw [bit_op hF hp]
      refine ev_if_ne (X := M_X12_mayMeet) (pc := 72) (tgt := 96) dX12_mayMeet_72 (by decide) (by omega) (fun h72 => ?_) (fun h72 => ?_)
      · refine ev_iconst (X := M_X12_mayMeet) (pc := 96) dX12_mayMeet_96 ?_
        refine ev_bret (X := M_X12_mayMeet) (pc := 97) dX12_mayMeet_97 rfl (by omega) ?_
        refine ⟨?_, rfl, rfl⟩
        have e := @may_iff C F s p
        unfold th at *
        split at q9 <;> split <;> first | rfl | (exfalso; omega)
      · refine ev_iload_n (X := M_X12_mayMeet) (pc := 75) dX12_mayMeet_75 rfl ?_
        refine ev_staticR (X := M_X12_mayMeet) (Y := M_X12_allIn) (pc := 76) dX12_mayMeet_76 mk_X12_allIn kw_1172 kw_1173 (m_allIn (by omega)) rfl (by decide) rfl (Nat.le_of_ble_eq_true rfl) (Nat.zero_add _) (Nat.zero_add _) ?_
        refine ev_iconst (X := M_X12_mayMeet) (pc := 79) dX12_mayMeet_79 ?_
        refine ev_isub (X := M_X12_mayMeet) (pc := 80) dX12_mayMeet_80 ?_
        refine ev_aload_n (X := M_X12_mayMeet) (pc := 81) dX12_mayMeet_81 rfl ?_
        refine ev_iload_n (X := M_X12_mayMeet) (pc := 82) dX12_mayMeet_82 rfl ?_
        refine ev_virtR (X := M_X12_mayMeet) (Y := M_X12_manyOf) (pc := 83) (ci := 12) dX12_mayMeet_83 mk_X12_manyOf rfl kw_1226 kw_1228 kp_24 (lO_156 hL) (m_manyOf hL hC hV hp) rfl (by decide) rfl (Nat.le_of_ble_eq_true rfl) (Nat.zero_add _) (Nat.zero_add _) ?_
        refine ev_iadd (X := M_X12_mayMeet) (pc := 86) dX12_mayMeet_86 ?_
        refine ev_bipush (X := M_X12_mayMeet) (pc := 87) dX12_mayMeet_87 (by decide) ?_
        refine ev_icmp_gt (X := M_X12_mayMeet) (pc := 89) (tgt := 96) dX12_mayMeet_89 (by decide) (by omega) (by omega) (fun h89 => ?_) (fun h89 => ?_)
        · refine ev_iconst (X := M_X12_mayMeet) (pc := 96) dX12_mayMeet_96 ?_
          refine ev_bret (X := M_X12_mayMeet) (pc := 97) dX12_mayMeet_97 rfl (by omega) ?_
          refine ⟨?_, rfl, rfl⟩
          have e := @may_iff C F s p
          unfold th at *
          split at q9 <;> split <;> first | rfl | (exfalso; omega)
        · refine ev_iconst (X := M_X12_mayMeet) (pc := 92) dX12_mayMeet_92 ?_
          refine ev_goto (X := M_X12_mayMeet) (pc := 93) (tgt := 97) dX12_mayMeet_93 (by decide) ?_
          refine ev_bret (X := M_X12_mayMeet) (pc := 97) dX12_mayMeet_97 rfl (by omega) ?_
          refine ⟨?_, rfl, rfl⟩
          have e := @may_iff C F s p
          unfold th at *
          split at q9 <;> split <;> first | rfl | (exfalso; omega)
  refine ev_iload_n (X := M_X12_mayMeet) (pc := 0) dX12_mayMeet_0 rfl ?_
  refine ev_staticR (X := M_X12_mayMeet) (Y := M_X12_first) (pc := 1) dX12_mayMeet_1 mk_X12_first kw_1205 kw_1206 (m_first (by omega)) rfl (by decide) rfl (Nat.le_of_ble_eq_true rfl) (Nat.zero_add _) (Nat.zero_add _) ?_
  refine ev_istoreL (X := M_X12_mayMeet) (pc := 4) (ls' := [_, _, _, _, _, _, _]) dX12_mayMeet_4 (by decide) rfl ?_
  refine ev_iload_n (X := M_X12_mayMeet) (pc := 6) dX12_mayMeet_6 rfl ?_
  refine ev_staticR (X := M_X12_mayMeet) (Y := M_X12_second) (pc := 7) dX12_mayMeet_7 mk_X12_second kw_1208 kw_1209 (m_second (by omega)) rfl (by decide) rfl (Nat.le_of_ble_eq_true rfl) (Nat.zero_add _) (Nat.zero_add _) ?_
  refine ev_istoreL (X := M_X12_mayMeet) (pc := 10) (ls' := [_, _, _, _, _, _, _]) dX12_mayMeet_10 (by decide) rfl ?_
  refine ev_iload (X := M_X12_mayMeet) (pc := 12) dX12_mayMeet_12 rfl ?_
  refine ev_iload (X := M_X12_mayMeet) (pc := 14) dX12_mayMeet_14 rfl ?_
  refine ev_icmp_ne (X := M_X12_mayMeet) (pc := 16) (tgt := 37) dX12_mayMeet_16 (by decide) (by omega) (by omega) (fun h16 => ?_) (fun h16 => ?_)
  · refine ev_iload_n (X := M_X12_mayMeet) (pc := 37) dX12_mayMeet_37 rfl ?_
    refine ev_iload (X := M_X12_mayMeet) (pc := 38) dX12_mayMeet_38 rfl ?_
    refine ev_staticR (X := M_X12_mayMeet) (Y := M_X12_countIn) (pc := 40) dX12_mayMeet_40 mk_X12_countIn kw_1223 kw_1224 (m_countIn hs (by first | exact les_r p hp | exact gre_r p hp)) rfl (by decide) rfl (Nat.le_of_ble_eq_true rfl) (Nat.zero_add _) (Nat.zero_add _) ?_
    refine ev_if_le (X := M_X12_mayMeet) (pc := 43) (tgt := 59) dX12_mayMeet_43 (by decide) (by omega) (fun h43 => ?_) (fun h43 => ?_)
    · refine ev_iconst (X := M_X12_mayMeet) (pc := 59) dX12_mayMeet_59 ?_
      refine ev_istoreL (X := M_X12_mayMeet) (pc := 60) (ls' := [_, _, _, _, _, _, _]) dX12_mayMeet_60 (by decide) rfl ?_
      refine ev_eq (key _ ?_) (e1 := rfl)
      unfold th nd
      split <;> split <;> first | rfl | (exfalso; omega)
    · refine ev_iload_n (X := M_X12_mayMeet) (pc := 46) dX12_mayMeet_46 rfl ?_
      refine ev_iload (X := M_X12_mayMeet) (pc := 47) dX12_mayMeet_47 rfl ?_
      refine ev_staticR (X := M_X12_mayMeet) (Y := M_X12_countIn) (pc := 49) dX12_mayMeet_49 mk_X12_countIn kw_1223 kw_1224 (m_countIn hs (by first | exact les_r p hp | exact gre_r p hp)) rfl (by decide) rfl (Nat.le_of_ble_eq_true rfl) (Nat.zero_add _) (Nat.zero_add _) ?_
      refine ev_if_le (X := M_X12_mayMeet) (pc := 52) (tgt := 59) dX12_mayMeet_52 (by decide) (by omega) (fun h52 => ?_) (fun h52 => ?_)
      · refine ev_iconst (X := M_X12_mayMeet) (pc := 59) dX12_mayMeet_59 ?_
        refine ev_istoreL (X := M_X12_mayMeet) (pc := 60) (ls' := [_, _, _, _, _, _, _]) dX12_mayMeet_60 (by decide) rfl ?_
        refine ev_eq (key _ ?_) (e1 := rfl)
        unfold th nd
        split <;> split <;> first | rfl | (exfalso; omega)
      · refine ev_iconst (X := M_X12_mayMeet) (pc := 55) dX12_mayMeet_55 ?_
        refine ev_goto (X := M_X12_mayMeet) (pc := 56) (tgt := 60) dX12_mayMeet_56 (by decide) ?_
        refine ev_istoreL (X := M_X12_mayMeet) (pc := 60) (ls' := [_, _, _, _, _, _, _]) dX12_mayMeet_60 (by decide) rfl ?_
        refine ev_eq (key _ ?_) (e1 := rfl)
        unfold th nd
        split <;> split <;> first | rfl | (exfalso; omega)
  · refine ev_iload_n (X := M_X12_mayMeet) (pc := 19) dX12_mayMeet_19 rfl ?_
    refine ev_iload (X := M_X12_mayMeet) (pc := 20) dX12_mayMeet_20 rfl ?_
    refine ev_staticR (X := M_X12_mayMeet) (Y := M_X12_countIn) (pc := 22) dX12_mayMeet_22 mk_X12_countIn kw_1223 kw_1224 (m_countIn hs (by first | exact les_r p hp | exact gre_r p hp)) rfl (by decide) rfl (Nat.le_of_ble_eq_true rfl) (Nat.zero_add _) (Nat.zero_add _) ?_
    refine ev_iconst (X := M_X12_mayMeet) (pc := 25) dX12_mayMeet_25 ?_
    refine ev_icmp_lt (X := M_X12_mayMeet) (pc := 26) (tgt := 33) dX12_mayMeet_26 (by decide) (by omega) (by omega) (fun h26 => ?_) (fun h26 => ?_)
    · refine ev_iconst (X := M_X12_mayMeet) (pc := 33) dX12_mayMeet_33 ?_
      refine ev_goto (X := M_X12_mayMeet) (pc := 34) (tgt := 60) dX12_mayMeet_34 (by decide) ?_
      refine ev_istoreL (X := M_X12_mayMeet) (pc := 60) (ls' := [_, _, _, _, _, _, _]) dX12_mayMeet_60 (by decide) rfl ?_
      refine ev_eq (key _ ?_) (e1 := rfl)
      unfold th nd
      split <;> split <;> first | rfl | (exfalso; omega)
    · refine ev_iconst (X := M_X12_mayMeet) (pc := 29) dX12_mayMeet_29 ?_
      refine ev_goto (X := M_X12_mayMeet) (pc := 30) (tgt := 60) dX12_mayMeet_30 (by decide) ?_
      refine ev_istoreL (X := M_X12_mayMeet) (pc := 60) (ls' := [_, _, _, _, _, _, _]) dX12_mayMeet_60 (by decide) rfl ?_
      refine ev_eq (key _ ?_) (e1 := rfl)
      unfold th nd
      split <;> split <;> first | rfl | (exfalso; omega)
