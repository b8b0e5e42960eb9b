def cnt (s k : Int) : Int := s / wgtF k % 13
def bei (s : Int) : Int := s / 169 + s / 13 % 13 + s % 13
theorem wgt_pos (k : Int) : 0 < wgtF k ∧ wgtF k < 2147483648 := by
  unfold wgtF
  split
  · decide
  · split <;> decide
theorem cd_nn {s w : Int} (h : 0 ≤ s) (hw : 0 < w) : 0 ≤ s / w := Int.ediv_nonneg h (by omega)
theorem cd_le {s w : Int} (h : 0 ≤ s) (hw : 0 < w) : s / w ≤ s := Int.ediv_le_self _ h
theorem c_countOf {γ : Gh} {K : Sk} {V : Mm} (hL : Lay K) (hV : SV V) {s k : Int} (hs : 0 ≤ s ∧ s < 2147483648) (hk : 0 ≤ k ∧ k < 3) : Call γ M_X11_countOf 0 0 0 [vI s, vI k] K V (Rt (some (vI (cnt s k))) K V) := by
  refine call_of (by decide +kernel) (by intro v hv; simp only [List.mem_cons, List.not_mem_nil, or_false] at hv; rcases hv with rfl | rfl <;> exact fun q => by cases q) (Nat.le_of_ble_eq_true rfl) ?_
  refine ev_lsE (ls' := [_, _]) rfl ?_
  refine ev_iload_n (X := M_X11_countOf) (pc := 0) dX11_countOf_0 rfl ?_
  refine ev_gets (X := M_X11_countOf) (pc := 1) (q := ("GreenPath", "WEIGHT", "[I", vR 3)) dX11_countOf_1 st_3 kw_180 ?_
  refine ev_iload_n (X := M_X11_countOf) (pc := 4) dX11_countOf_4 rfl ?_
  refine ev_ialoadE (X := M_X11_countOf) (pc := 5) dX11_countOf_5 (lS_3 hL) (by first | omega | exact wgt_pos k | exact ⟨cd_nn hs.1 (wgt_pos k).1, Int.lt_of_le_of_lt (cd_le hs.1 (wgt_pos k).1) hs.2⟩) (congrFun hV.2.2 _) ?_
  refine ev_idiv (X := M_X11_countOf) (pc := 6) dX11_countOf_6 (by first | omega | exact wgt_pos k | exact ⟨cd_nn hs.1 (wgt_pos k).1, Int.lt_of_le_of_lt (cd_le hs.1 (wgt_pos k).1) hs.2⟩) (by first | omega | exact wgt_pos k | exact ⟨cd_nn hs.1 (wgt_pos k).1, Int.lt_of_le_of_lt (cd_le hs.1 (wgt_pos k).1) hs.2⟩) ?_
  refine ev_bipush (X := M_X11_countOf) (pc := 7) dX11_countOf_7 (by decide) ?_
  refine ev_irem (X := M_X11_countOf) (pc := 9) dX11_countOf_9 (by first | omega | exact wgt_pos k | exact ⟨cd_nn hs.1 (wgt_pos k).1, Int.lt_of_le_of_lt (cd_le hs.1 (wgt_pos k).1) hs.2⟩) (by first | omega | exact wgt_pos k | exact ⟨cd_nn hs.1 (wgt_pos k).1, Int.lt_of_le_of_lt (cd_le hs.1 (wgt_pos k).1) hs.2⟩) ?_
  refine ev_iret (X := M_X11_countOf) (pc := 10) dX11_countOf_10 rfl ?_
  exact ⟨rfl, rfl, rfl⟩
theorem c_beingsOf {γ : Gh} {K : Sk} {V : Mm} {s : Int} (hs : 0 ≤ s ∧ s < 2147483648) : Call γ M_X11_beingsOf 0 0 0 [vI s] K V (Rt (some (vI (bei s))) K V) := by
  refine call_of (by decide +kernel) (by intro v hv; simp only [List.mem_cons, List.not_mem_nil, or_false] at hv; rcases hv with rfl <;> exact fun q => by cases q) (Nat.le_of_ble_eq_true rfl) ?_
  refine ev_lsE (ls' := [_]) rfl ?_
  refine ev_iload_n (X := M_X11_beingsOf) (pc := 0) dX11_beingsOf_0 rfl ?_
  refine ev_sipush (X := M_X11_beingsOf) (pc := 1) dX11_beingsOf_1 (by decide) ?_
  refine ev_idiv (X := M_X11_beingsOf) (pc := 4) dX11_beingsOf_4 (by omega) (by omega) ?_
  refine ev_iload_n (X := M_X11_beingsOf) (pc := 5) dX11_beingsOf_5 rfl ?_
  refine ev_bipush (X := M_X11_beingsOf) (pc := 6) dX11_beingsOf_6 (by decide) ?_
  refine ev_idiv (X := M_X11_beingsOf) (pc := 8) dX11_beingsOf_8 (by omega) (by omega) ?_
  refine ev_bipush (X := M_X11_beingsOf) (pc := 9) dX11_beingsOf_9 (by decide) ?_
  refine ev_irem (X := M_X11_beingsOf) (pc := 11) dX11_beingsOf_11 (by omega) (by omega) ?_
  refine ev_iadd (X := M_X11_beingsOf) (pc := 12) dX11_beingsOf_12 ?_
  refine ev_iload_n (X := M_X11_beingsOf) (pc := 13) dX11_beingsOf_13 rfl ?_
  refine ev_bipush (X := M_X11_beingsOf) (pc := 14) dX11_beingsOf_14 (by decide) ?_
  refine ev_irem (X := M_X11_beingsOf) (pc := 16) dX11_beingsOf_16 (by omega) (by omega) ?_
  refine ev_iadd (X := M_X11_beingsOf) (pc := 17) dX11_beingsOf_17 ?_
  refine ev_iret (X := M_X11_beingsOf) (pc := 18) dX11_beingsOf_18 rfl ?_
  exact ⟨rfl, rfl, rfl⟩
theorem c_isSort {γ : Gh} {K : Sk} {V : Mm} {x : Int} (hx : -2147483648 ≤ x ∧ x < 2147483648) : Call γ M_X11_isSort 0 0 0 [vI x] K V (Rt (some (vI (if 0 ≤ x ∧ x < 3 then 1 else 0))) K V) := by
  refine call_of (by decide +kernel) (by intro v hv; simp only [List.mem_cons, List.not_mem_nil, or_false] at hv; rcases hv with rfl <;> exact fun q => by cases q) (Nat.le_of_ble_eq_true rfl) ?_
  refine ev_lsE (ls' := [_]) rfl ?_
  refine ev_iload_n (X := M_X11_isSort) (pc := 0) dX11_isSort_0 rfl ?_
  refine ev_if_lt (X := M_X11_isSort) (pc := 1) (tgt := 13) dX11_isSort_1 (by decide) (by omega) (fun h1 => ?_) (fun h1 => ?_)
  · refine ev_iconst (X := M_X11_isSort) (pc := 13) dX11_isSort_13 ?_
    refine ev_bret (X := M_X11_isSort) (pc := 14) dX11_isSort_14 rfl (by omega) ?_
    exact ⟨by first | rw [if_pos (by omega)] | rw [if_neg (by omega)], rfl, rfl⟩
  · refine ev_iload_n (X := M_X11_isSort) (pc := 4) dX11_isSort_4 rfl ?_
    refine ev_iconst (X := M_X11_isSort) (pc := 5) dX11_isSort_5 ?_
    refine ev_icmp_ge (X := M_X11_isSort) (pc := 6) (tgt := 13) dX11_isSort_6 (by decide) (by omega) (by omega) (fun h6 => ?_) (fun h6 => ?_)
    · refine ev_iconst (X := M_X11_isSort) (pc := 13) dX11_isSort_13 ?_
      refine ev_bret (X := M_X11_isSort) (pc := 14) dX11_isSort_14 rfl (by omega) ?_
      exact ⟨by first | rw [if_pos (by omega)] | rw [if_neg (by omega)], rfl, rfl⟩
    · refine ev_iconst (X := M_X11_isSort) (pc := 9) dX11_isSort_9 ?_
      refine ev_goto (X := M_X11_isSort) (pc := 10) (tgt := 14) dX11_isSort_10 (by decide) ?_
      refine ev_bret (X := M_X11_isSort) (pc := 14) dX11_isSort_14 rfl (by omega) ?_
      exact ⟨by first | rw [if_pos (by omega)] | rw [if_neg (by omega)], rfl, rfl⟩
theorem c_isPair {γ : Gh} {K : Sk} {V : Mm} {x : Int} (hx : -2147483648 ≤ x ∧ x < 2147483648) : Call γ M_X11_isPair 0 0 0 [vI x] K V (Rt (some (vI (if 0 ≤ x ∧ x < 6 then 1 else 0))) K V) := by
  refine call_of (by decide +kernel) (by intro v hv; simp only [List.mem_cons, List.not_mem_nil, or_false] at hv; rcases hv with rfl <;> exact fun q => by cases q) (Nat.le_of_ble_eq_true rfl) ?_
  refine ev_lsE (ls' := [_]) rfl ?_
  refine ev_iload_n (X := M_X11_isPair) (pc := 0) dX11_isPair_0 rfl ?_
  refine ev_if_lt (X := M_X11_isPair) (pc := 1) (tgt := 14) dX11_isPair_1 (by decide) (by omega) (fun h1 => ?_) (fun h1 => ?_)
  · refine ev_iconst (X := M_X11_isPair) (pc := 14) dX11_isPair_14 ?_
    refine ev_bret (X := M_X11_isPair) (pc := 15) dX11_isPair_15 rfl (by omega) ?_
    exact ⟨by first | rw [if_pos (by omega)] | rw [if_neg (by omega)], rfl, rfl⟩
  · refine ev_iload_n (X := M_X11_isPair) (pc := 4) dX11_isPair_4 rfl ?_
    refine ev_bipush (X := M_X11_isPair) (pc := 5) dX11_isPair_5 (by decide) ?_
    refine ev_icmp_ge (X := M_X11_isPair) (pc := 7) (tgt := 14) dX11_isPair_7 (by decide) (by omega) (by omega) (fun h7 => ?_) (fun h7 => ?_)
    · refine ev_iconst (X := M_X11_isPair) (pc := 14) dX11_isPair_14 ?_
      refine ev_bret (X := M_X11_isPair) (pc := 15) dX11_isPair_15 rfl (by omega) ?_
      exact ⟨by first | rw [if_pos (by omega)] | rw [if_neg (by omega)], rfl, rfl⟩
    · refine ev_iconst (X := M_X11_isPair) (pc := 10) dX11_isPair_10 ?_
      refine ev_goto (X := M_X11_isPair) (pc := 11) (tgt := 15) dX11_isPair_11 (by decide) ?_
      refine ev_bret (X := M_X11_isPair) (pc := 15) dX11_isPair_15 rfl (by omega) ?_
      exact ⟨by first | rw [if_pos (by omega)] | rw [if_neg (by omega)], rfl, rfl⟩
theorem c_isUse {γ : Gh} {K : Sk} {V : Mm} {x : Int} (hx : -2147483648 ≤ x ∧ x < 2147483648) : Call γ M_X11_isUse 0 0 0 [vI x] K V (Rt (some (vI (if 0 ≤ x ∧ x < 2 then 1 else 0))) K V) := by
  refine call_of (by decide +kernel) (by intro v hv; simp only [List.mem_cons, List.not_mem_nil, or_false] at hv; rcases hv with rfl <;> exact fun q => by cases q) (Nat.le_of_ble_eq_true rfl) ?_
  refine ev_lsE (ls' := [_]) rfl ?_
  refine ev_iload_n (X := M_X11_isUse) (pc := 0) dX11_isUse_0 rfl ?_
  refine ev_if_lt (X := M_X11_isUse) (pc := 1) (tgt := 13) dX11_isUse_1 (by decide) (by omega) (fun h1 => ?_) (fun h1 => ?_)
  · refine ev_iconst (X := M_X11_isUse) (pc := 13) dX11_isUse_13 ?_
    refine ev_bret (X := M_X11_isUse) (pc := 14) dX11_isUse_14 rfl (by omega) ?_
    exact ⟨by first | rw [if_pos (by omega)] | rw [if_neg (by omega)], rfl, rfl⟩
  · refine ev_iload_n (X := M_X11_isUse) (pc := 4) dX11_isUse_4 rfl ?_
    refine ev_iconst (X := M_X11_isUse) (pc := 5) dX11_isUse_5 ?_
    refine ev_icmp_ge (X := M_X11_isUse) (pc := 6) (tgt := 13) dX11_isUse_6 (by decide) (by omega) (by omega) (fun h6 => ?_) (fun h6 => ?_)
    · refine ev_iconst (X := M_X11_isUse) (pc := 13) dX11_isUse_13 ?_
      refine ev_bret (X := M_X11_isUse) (pc := 14) dX11_isUse_14 rfl (by omega) ?_
      exact ⟨by first | rw [if_pos (by omega)] | rw [if_neg (by omega)], rfl, rfl⟩
    · refine ev_iconst (X := M_X11_isUse) (pc := 9) dX11_isUse_9 ?_
      refine ev_goto (X := M_X11_isUse) (pc := 10) (tgt := 14) dX11_isUse_10 (by decide) ?_
      refine ev_bret (X := M_X11_isUse) (pc := 14) dX11_isUse_14 rfl (by omega) ?_
      exact ⟨by first | rw [if_pos (by omega)] | rw [if_neg (by omega)], rfl, rfl⟩
theorem c_isSheet {γ : Gh} {K : Sk} {V : Mm} {x : Int} (hx : -2147483648 ≤ x ∧ x < 2147483648) : Call γ M_X11_isSheet 0 0 0 [vI x] K V (Rt (some (vI (if 0 ≤ x ∧ x < 4 then 1 else 0))) K V) := by
  refine call_of (by decide +kernel) (by intro v hv; simp only [List.mem_cons, List.not_mem_nil, or_false] at hv; rcases hv with rfl <;> exact fun q => by cases q) (Nat.le_of_ble_eq_true rfl) ?_
  refine ev_lsE (ls' := [_]) rfl ?_
  refine ev_iload_n (X := M_X11_isSheet) (pc := 0) dX11_isSheet_0 rfl ?_
  refine ev_if_lt (X := M_X11_isSheet) (pc := 1) (tgt := 13) dX11_isSheet_1 (by decide) (by omega) (fun h1 => ?_) (fun h1 => ?_)
  · refine ev_iconst (X := M_X11_isSheet) (pc := 13) dX11_isSheet_13 ?_
    refine ev_bret (X := M_X11_isSheet) (pc := 14) dX11_isSheet_14 rfl (by omega) ?_
    exact ⟨by first | rw [if_pos (by omega)] | rw [if_neg (by omega)], rfl, rfl⟩
  · refine ev_iload_n (X := M_X11_isSheet) (pc := 4) dX11_isSheet_4 rfl ?_
    refine ev_iconst (X := M_X11_isSheet) (pc := 5) dX11_isSheet_5 ?_
    refine ev_icmp_ge (X := M_X11_isSheet) (pc := 6) (tgt := 13) dX11_isSheet_6 (by decide) (by omega) (by omega) (fun h6 => ?_) (fun h6 => ?_)
    · refine ev_iconst (X := M_X11_isSheet) (pc := 13) dX11_isSheet_13 ?_
      refine ev_bret (X := M_X11_isSheet) (pc := 14) dX11_isSheet_14 rfl (by omega) ?_
      exact ⟨by first | rw [if_pos (by omega)] | rw [if_neg (by omega)], rfl, rfl⟩
    · refine ev_iconst (X := M_X11_isSheet) (pc := 9) dX11_isSheet_9 ?_
      refine ev_goto (X := M_X11_isSheet) (pc := 10) (tgt := 14) dX11_isSheet_10 (by decide) ?_
      refine ev_bret (X := M_X11_isSheet) (pc := 14) dX11_isSheet_14 rfl (by omega) ?_
      exact ⟨by first | rw [if_pos (by omega)] | rw [if_neg (by omega)], rfl, rfl⟩
theorem c_isRest {γ : Gh} {K : Sk} {V : Mm} {x : Int} (hx : -2147483648 ≤ x ∧ x < 2147483648) : Call γ M_X11_isRest 0 0 0 [vI x] K V (Rt (some (vI (if 2 ≤ x ∧ x ≤ 5 then 1 else 0))) K V) := by
  refine call_of (by decide +kernel) (by intro v hv; simp only [List.mem_cons, List.not_mem_nil, or_false] at hv; rcases hv with rfl <;> exact fun q => by cases q) (Nat.le_of_ble_eq_true rfl) ?_
  refine ev_lsE (ls' := [_]) rfl ?_
  refine ev_iload_n (X := M_X11_isRest) (pc := 0) dX11_isRest_0 rfl ?_
  refine ev_iconst (X := M_X11_isRest) (pc := 1) dX11_isRest_1 ?_
  refine ev_icmp_lt (X := M_X11_isRest) (pc := 2) (tgt := 14) dX11_isRest_2 (by decide) (by omega) (by omega) (fun h2 => ?_) (fun h2 => ?_)
  · refine ev_iconst (X := M_X11_isRest) (pc := 14) dX11_isRest_14 ?_
    refine ev_bret (X := M_X11_isRest) (pc := 15) dX11_isRest_15 rfl (by omega) ?_
    exact ⟨by first | rw [if_pos (by omega)] | rw [if_neg (by omega)], rfl, rfl⟩
  · refine ev_iload_n (X := M_X11_isRest) (pc := 5) dX11_isRest_5 rfl ?_
    refine ev_iconst (X := M_X11_isRest) (pc := 6) dX11_isRest_6 ?_
    refine ev_icmp_gt (X := M_X11_isRest) (pc := 7) (tgt := 14) dX11_isRest_7 (by decide) (by omega) (by omega) (fun h7 => ?_) (fun h7 => ?_)
    · refine ev_iconst (X := M_X11_isRest) (pc := 14) dX11_isRest_14 ?_
      refine ev_bret (X := M_X11_isRest) (pc := 15) dX11_isRest_15 rfl (by omega) ?_
      exact ⟨by first | rw [if_pos (by omega)] | rw [if_neg (by omega)], rfl, rfl⟩
    · refine ev_iconst (X := M_X11_isRest) (pc := 10) dX11_isRest_10 ?_
      refine ev_goto (X := M_X11_isRest) (pc := 11) (tgt := 15) dX11_isRest_11 (by decide) ?_
      refine ev_bret (X := M_X11_isRest) (pc := 15) dX11_isRest_15 rfl (by omega) ?_
      exact ⟨by first | rw [if_pos (by omega)] | rw [if_neg (by omega)], rfl, rfl⟩
/-- a state of at most 12 beings -/
abbrev isSt (x : Int) : Prop := 0 ≤ x ∧ x ≤ 2028 ∧ bei x ≤ 12
theorem bei_r {s : Int} (h : 0 ≤ s ∧ s < 2147483648) : 0 ≤ bei s ∧ bei s < 2147483648 := by
  unfold bei
  omega
theorem c_isState {γ : Gh} {K : Sk} {V : Mm} (hV : SV V) (hL : Lay K) {x : Int} (hx : -2147483648 ≤ x ∧ x < 2147483648) : Call γ M_X11_isState 1 0 0 [vI x] K V (Rt (some (vI (if isSt x then 1 else 0))) K V) := by
  refine call_of (by decide +kernel) (by intro v hv; simp only [List.mem_cons, List.not_mem_nil, or_false] at hv; rcases hv with rfl <;> exact fun q => by cases q) (Nat.le_of_ble_eq_true rfl) ?_
  refine ev_lsE (ls' := [_]) rfl ?_
  refine ev_iload_n (X := M_X11_isState) (pc := 0) dX11_isState_0 rfl ?_
  refine ev_if_lt (X := M_X11_isState) (pc := 1) (tgt := 29) dX11_isState_1 (by decide) (by omega) (fun h1 => ?_) (fun h1 => ?_)
  · refine ev_iconst (X := M_X11_isState) (pc := 29) dX11_isState_29 ?_
    refine ev_bret (X := M_X11_isState) (pc := 30) dX11_isState_30 rfl (by omega) ?_
    exact ⟨by unfold isSt; first | rw [if_pos (by first | omega | exact ⟨by omega, by omega, by assumption⟩)] | rw [if_neg (by first | omega | exact fun q => absurd q.2.2 (by assumption))], rfl, rfl⟩
  · refine ev_iload_n (X := M_X11_isState) (pc := 4) dX11_isState_4 rfl ?_
    refine ev_bipush (X := M_X11_isState) (pc := 5) dX11_isState_5 (by decide) ?_
    refine ev_gets (X := M_X11_isState) (pc := 7) (q := ("GreenPath", "WEIGHT", "[I", vR 3)) dX11_isState_7 st_3 kw_180 ?_
    refine ev_iconst (X := M_X11_isState) (pc := 10) dX11_isState_10 ?_
    refine ev_ialoadE (X := M_X11_isState) (pc := 11) dX11_isState_11 (lS_3 hL) (by omega) (show V 3 0 = 169 by rw [hV.2.2]; rfl) ?_
    refine ev_imul (X := M_X11_isState) (pc := 12) dX11_isState_12 ?_
    refine ev_icmp_gt (X := M_X11_isState) (pc := 13) (tgt := 29) dX11_isState_13 (by decide) (by omega) (by omega) (fun h13 => ?_) (fun h13 => ?_)
    · refine ev_iconst (X := M_X11_isState) (pc := 29) dX11_isState_29 ?_
      refine ev_bret (X := M_X11_isState) (pc := 30) dX11_isState_30 rfl (by omega) ?_
      exact ⟨by unfold isSt; first | rw [if_pos (by first | omega | exact ⟨by omega, by omega, by assumption⟩)] | rw [if_neg (by first | omega | exact fun q => absurd q.2.2 (by assumption))], rfl, rfl⟩
    · refine ev_iload_n (X := M_X11_isState) (pc := 16) dX11_isState_16 rfl ?_
      refine ev_staticR (X := M_X11_isState) (Y := M_X11_beingsOf) (pc := 17) dX11_isState_17 mk_X11_beingsOf kw_181 kw_182 (c_beingsOf (by omega)) rfl (by decide) rfl (Nat.le_of_ble_eq_true rfl) (Nat.zero_add _) (Nat.zero_add _) ?_
      refine ev_bipush (X := M_X11_isState) (pc := 20) dX11_isState_20 (by decide) ?_
      refine ev_icmp_gt (X := M_X11_isState) (pc := 22) (tgt := 29) dX11_isState_22 (by decide) (by have := bei_r (s := x) (by omega); omega) (by have := bei_r (s := x) (by omega); omega) (fun h22 => ?_) (fun h22 => ?_)
      · refine ev_iconst (X := M_X11_isState) (pc := 29) dX11_isState_29 ?_
        refine ev_bret (X := M_X11_isState) (pc := 30) dX11_isState_30 rfl (by omega) ?_
        exact ⟨by unfold isSt; first | rw [if_pos (by first | omega | exact ⟨by omega, by omega, by assumption⟩)] | rw [if_neg (by first | omega | exact fun q => absurd q.2.2 (by assumption))], rfl, rfl⟩
      · refine ev_iconst (X := M_X11_isState) (pc := 25) dX11_isState_25 ?_
        refine ev_goto (X := M_X11_isState) (pc := 26) (tgt := 30) dX11_isState_26 (by decide) ?_
        refine ev_bret (X := M_X11_isState) (pc := 30) dX11_isState_30 rfl (by omega) ?_
        exact ⟨by unfold isSt; first | rw [if_pos (by first | omega | exact ⟨by omega, by omega, by assumption⟩)] | rw [if_neg (by first | omega | exact fun q => absurd q.2.2 (by assumption))], rfl, rfl⟩
