def wsR (C : Int → Int) (F s0 n t : Int) : Int := if (0 ≤ n ∧ n ≤ 6) ∧ isSt t then wyK C F s0 n.toNat t else -1000000001
def wsE (n t : Int) (er : Int → Int) : Int → Int := if (0 ≤ n ∧ n ≤ 6) ∧ isSt t then er else up er 1 (er 1 + 1)
def awR (C : Int → Int) (F s0 n : Int) : Int := if 0 ≤ n ∧ n ≤ 6 then Sm (wyK C F s0 n.toNat) 455 else -1000000001
def awE (n : Int) (er : Int → Int) : Int → Int := if 0 ≤ n ∧ n ≤ 6 then er else up er 1 (er 1 + 1)
theorem c_waysTo {γ : Gh} {K : Sk} {V : Mm} (hL : Lay K) (hV : SV V) (hV2 : SV2 V) {sa sb : Nat} (hM : SM K sa sb) {U : Int → Int} (hU : ∀ j, 0 ≤ j ∧ j < 455 → V sa j = U (stF j)) {t : Int} (ht : isSt t) : Call γ M_X6_waysTo 2 0 0 [vR 101, vI t] K V (Rt (some (vL (U t))) K V) := by
  refine call_of (by decide +kernel) (by intro v hv; simp only [List.mem_cons, List.not_mem_nil, or_false] at hv; rcases hv with rfl | rfl <;> exact fun q => by cases q) (Nat.le_of_ble_eq_true rfl) ?_
  refine ev_lsE (ls' := [_, _]) rfl ?_
  obtain ⟨z1, z2, z3, z4⟩ := hM.sh hL
  obtain ⟨p0, p1, p2⟩ := pl_st ht
  refine ev_aload_n (X := M_X6_waysTo) (pc := 0) dX6_waysTo_0 rfl ?_
  refine ev_getRe (X := M_X6_waysTo) (pc := 1) dX6_waysTo_1 fl_X6_40_6 (lO_101 hL) rfl hM.1 ?_
  refine ev_iload_n (X := M_X6_waysTo) (pc := 4) dX6_waysTo_4 rfl ?_
  refine ev_staticR (X := M_X6_waysTo) (Y := M_X6_placeOf) (pc := 5) dX6_waysTo_5 mk_X6_placeOf kw_659 kw_660 (c_placeOf hL hV hV2 (isSt_lt ht)) rfl (by decide) rfl (Nat.le_of_ble_eq_true rfl) (Nat.zero_add _) (Nat.zero_add _) ?_
  refine ev_laloadE (X := M_X6_waysTo) (pc := 8) dX6_waysTo_8 z1 (by omega) (hU _ ⟨p0, p1⟩) ?_
  refine ev_lret (X := M_X6_waysTo) (pc := 9) dX6_waysTo_9 rfl ?_
  exact ⟨by rw [p2], rfl, rfl⟩
theorem c_waysInAll {γ : Gh} {K : Sk} {V : Mm} (hL : Lay K) {sa sb : Nat} (hM : SM K sa sb) {U : Int → Int} (hU : ∀ j, 0 ≤ j ∧ j < 455 → V sa j = U (stF j)) : Call γ M_X6_waysInAll 0 0 0 [vR 101] K V (Rt (some (vL (Sm U 455))) K V) := by
  refine call_of (by decide +kernel) (by intro v hv; simp only [List.mem_cons, List.not_mem_nil, or_false] at hv; rcases hv with rfl <;> exact fun q => by cases q) (Nat.le_of_ble_eq_true rfl) ?_
  refine ev_lsE (ls' := [_, _, _, _]) rfl ?_
  obtain ⟨z1, z2, z3, z4⟩ := hM.sh hL
  refine ev_lconst (X := M_X6_waysInAll) (pc := 0) (v := 0) dX6_waysInAll_0 (by decide) ?_
  refine ev_lstore_nL (X := M_X6_waysInAll) (pc := 1) (ls' := [_, _, _, _]) dX6_waysInAll_1 (by decide) rfl ?_
  refine ev_iconst (X := M_X6_waysInAll) (pc := 2) dX6_waysInAll_2 ?_
  refine ev_istore_nL (X := M_X6_waysInAll) (pc := 3) (ls' := [_, _, _, _]) dX6_waysInAll_3 (by decide) rfl ?_
  refine ev_weak (ev_count 455 0 (fun i => [vR 101, vL (Sm U i.toNat), vU, vI i]) (by decide) ?_) ⟨rfl, rfl, rfl, trivial⟩
  intro i i0 i1 ih
  refine ev_iload_n (X := M_X6_waysInAll) (pc := 4) dX6_waysInAll_4 rfl ?_
  refine ev_sipush (X := M_X6_waysInAll) (pc := 5) dX6_waysInAll_5 (by decide) ?_
  refine ev_icmp_ge (X := M_X6_waysInAll) (pc := 8) (tgt := 26) dX6_waysInAll_8 (by decide) (by omega) (by omega) (fun h8 => ?_) (fun h8 => ?_)
  · refine ev_lload_n (X := M_X6_waysInAll) (pc := 26) dX6_waysInAll_26 rfl ?_
    refine ev_lret (X := M_X6_waysInAll) (pc := 27) dX6_waysInAll_27 rfl ?_
    have hi : i.toNat = 455 := by omega
    exact ⟨by rw [hi], rfl, rfl⟩
  · refine ev_lload_n (X := M_X6_waysInAll) (pc := 11) dX6_waysInAll_11 rfl ?_
    refine ev_aload_n (X := M_X6_waysInAll) (pc := 12) dX6_waysInAll_12 rfl ?_
    refine ev_getRe (X := M_X6_waysInAll) (pc := 13) dX6_waysInAll_13 fl_X6_40_6 (lO_101 hL) rfl hM.1 ?_
    refine ev_iload_n (X := M_X6_waysInAll) (pc := 16) dX6_waysInAll_16 rfl ?_
    refine ev_laloadE (X := M_X6_waysInAll) (pc := 17) dX6_waysInAll_17 z1 (by omega) (hU i (by omega)) ?_
    refine ev_ladd (X := M_X6_waysInAll) (pc := 18) dX6_waysInAll_18 ?_
    refine ev_lstore_nL (X := M_X6_waysInAll) (pc := 19) (ls' := [_, _, _, _]) dX6_waysInAll_19 (by decide) rfl ?_
    refine ev_iincL (X := M_X6_waysInAll) (pc := 20) (ls' := [_, _, _, _]) dX6_waysInAll_20 rfl (by decide) rfl ?_
    refine ev_goto (X := M_X6_waysInAll) (pc := 23) (tgt := 4) dX6_waysInAll_23 (by decide) ?_
    refine ev_weak (ih (by omega)) ⟨rfl, congrArg vL ?_, rfl, trivial⟩
    rw [show (i + 1).toNat = i.toNat + 1 by omega]
    show Sm U i.toNat + U (stF i) = Sm U i.toNat + U (stF (i.toNat : Int))
    rw [show ((i.toNat : Nat) : Int) = i by omega]
theorem CW.S {C : Int → Int} {F s0 : Int} {k : Nat} {K K' : Sk} {V W : Mm} (h : CW C F s0 k K V K' W) : CS C F V (V 155) W := ⟨h.2.2.2.1, h.2.2.1, h.2.1⟩
theorem c_ways {γ : Gh} {K : Sk} {V : Mm} {C : Int → Int} {F s0 n t : Int} (h : SrP K V C F) (hs : isSt s0) (hn : V 102 4 = s0) (hnr : R32 n) (ht : R32 t) : Call γ M_X11_ways 6 0 0 [vR 100, vI n, vI t] K V (Qg (some (vL (wsR C F s0 n t))) (fun K' W => KS K K' ∧ CS C F V (wsE n t (V 155)) W)) := by
  refine call_of (by decide +kernel) (by intro v hv; simp only [List.mem_cons, List.not_mem_nil, or_false] at hv; rcases hv with rfl | rfl | rfl <;> exact fun q => by cases q) (Nat.le_of_ble_eq_true rfl) ?_
  refine ev_lsE (ls' := [_, _, _]) rfl ?_
  have hL := h.1
  refine ev_iload_n (X := M_X11_ways) (pc := 0) dX11_ways_0 rfl ?_
  refine ev_if_lt (X := M_X11_ways) (pc := 1) (tgt := 17) dX11_ways_1 (by decide) (by omega) (fun h1 => ?_) (fun h1 => ?_)
  · have hno : ¬ ((0 ≤ n ∧ n ≤ 6) ∧ isSt t) := fun z => by omega
    refine ev_aload_n (X := M_X11_ways) (pc := 17) dX11_ways_17 rfl ?_
    refine ev_ldc (X := M_X11_ways) (pc := 18) (v := -1000000001) dX11_ways_18 kw_318 (by decide) ?_
    refine ev_virtR (X := M_X11_ways) (Y := M_X11_error) (pc := 20) (ci := 11) dX11_ways_20 mk_X11_error rfl kw_319 kw_321 kp_0 (lO_100 hL) (c_error hL (k := 1) (by decide) rfl) rfl (by decide) rfl (Nat.le_of_ble_eq_true rfl) (Nat.zero_add _) (Nat.zero_add _) ?_
    refine ev_i2l (X := M_X11_ways) (pc := 23) dX11_ways_23 (by decide) ?_
    refine ev_lret (X := M_X11_ways) (pc := 24) dX11_ways_24 rfl ?_
    unfold wsR wsE
    rw [if_neg hno, if_neg hno]
    exact ⟨rfl, KS.rf hL, by rw [err_119]; exact h.2.2.2.2.2.2.2, err_155, frS.rf.er 1⟩
  · refine ev_iload_n (X := M_X11_ways) (pc := 4) dX11_ways_4 rfl ?_
    refine ev_bipush (X := M_X11_ways) (pc := 5) dX11_ways_5 (by decide) ?_
    refine ev_icmp_gt (X := M_X11_ways) (pc := 7) (tgt := 17) dX11_ways_7 (by decide) (by omega) (by omega) (fun h7 => ?_) (fun h7 => ?_)
    · have hno : ¬ ((0 ≤ n ∧ n ≤ 6) ∧ isSt t) := fun z => by omega
      refine ev_aload_n (X := M_X11_ways) (pc := 17) dX11_ways_17 rfl ?_
      refine ev_ldc (X := M_X11_ways) (pc := 18) (v := -1000000001) dX11_ways_18 kw_318 (by decide) ?_
      refine ev_virtR (X := M_X11_ways) (Y := M_X11_error) (pc := 20) (ci := 11) dX11_ways_20 mk_X11_error rfl kw_319 kw_321 kp_0 (lO_100 hL) (c_error hL (k := 1) (by decide) rfl) rfl (by decide) rfl (Nat.le_of_ble_eq_true rfl) (Nat.zero_add _) (Nat.zero_add _) ?_
      refine ev_i2l (X := M_X11_ways) (pc := 23) dX11_ways_23 (by decide) ?_
      refine ev_lret (X := M_X11_ways) (pc := 24) dX11_ways_24 rfl ?_
      unfold wsR wsE
      rw [if_neg hno, if_neg hno]
      exact ⟨rfl, KS.rf hL, by rw [err_119]; exact h.2.2.2.2.2.2.2, err_155, frS.rf.er 1⟩
    · refine ev_iload_n (X := M_X11_ways) (pc := 10) dX11_ways_10 rfl ?_
      refine ev_staticR (X := M_X11_ways) (Y := M_X11_isState) (pc := 11) dX11_ways_11 mk_X11_isState kw_654 kw_178 (c_isState h.2.1 hL ht) rfl (by decide) rfl (Nat.le_of_ble_eq_true rfl) (Nat.zero_add _) (Nat.zero_add _) ?_
      refine ev_if_ne (X := M_X11_ways) (pc := 14) (tgt := 25) dX11_ways_14 (by decide) (by split <;> decide) (fun h14 => ?_) (fun h14 => ?_)
      · have hst : isSt t := Decidable.byContradiction fun z => h14 (by rw [if_neg z])
        have hye : (0 ≤ n ∧ n ≤ 6) ∧ isSt t := ⟨by omega, hst⟩
        refine ev_aload_n (X := M_X11_ways) (pc := 25) dX11_ways_25 rfl ?_
        refine ev_getRe (X := M_X11_ways) (pc := 26) dX11_ways_26 fl_X11_12_11 (lO_100 hL) rfl (lR_100_2 hL) ?_
        refine ev_iload_n (X := M_X11_ways) (pc := 29) dX11_ways_29 rfl ?_
        refine ev_virtH (X := M_X11_ways) (Y := M_X6_countWays) (pc := 30) (ci := 6) dX11_ways_30 mk_X6_countWays rfl kw_726 kw_727 kw_728 (lO_101 hL) ((by have := c_countWays (γ := γ) h hs hn (n := n.toNat) (by omega); rw [show ((n.toNat : Nat) : Int) = n by omega] at this; exact this)) rfl (by decide) rfl (Nat.le_of_ble_eq_true rfl) (Nat.zero_add _) (Nat.zero_add _) (fun K2 W hW => ?_)
        obtain ⟨sa, sb, hM, hU⟩ := hW.2.2.2.2
        have hL2 := hW.1.2.2.2
        have hS2 := h.frS hL2 hW.2.1 hW.2.2.2.1
        refine ev_aload_n (X := M_X11_ways) (pc := 33) dX11_ways_33 rfl ?_
        refine ev_getRe (X := M_X11_ways) (pc := 34) dX11_ways_34 fl_X11_12_11 (lO_100 hL2) rfl (lR_100_2 hL2) ?_
        refine ev_iload_n (X := M_X11_ways) (pc := 37) dX11_ways_37 rfl ?_
        refine ev_virtR (X := M_X11_ways) (Y := M_X6_waysTo) (pc := 38) (ci := 6) dX11_ways_38 mk_X6_waysTo rfl kw_742 kw_743 kw_744 (lO_101 hL2) (c_waysTo hL2 hS2.2.1 hS2.2.2.1 hM hU hst) rfl (by decide) rfl (Nat.le_of_ble_eq_true rfl) (Nat.zero_add _) (Nat.zero_add _) ?_
        refine ev_lret (X := M_X11_ways) (pc := 41) dX11_ways_41 rfl ?_
        unfold wsR wsE
        rw [if_pos hye, if_pos hye]
        exact ⟨rfl, hW.1, hW.S⟩
      · have hno : ¬ ((0 ≤ n ∧ n ≤ 6) ∧ isSt t) := fun z => by rw [if_pos z.2] at h14; exact absurd h14 (by decide)
        refine ev_aload_n (X := M_X11_ways) (pc := 17) dX11_ways_17 rfl ?_
        refine ev_ldc (X := M_X11_ways) (pc := 18) (v := -1000000001) dX11_ways_18 kw_318 (by decide) ?_
        refine ev_virtR (X := M_X11_ways) (Y := M_X11_error) (pc := 20) (ci := 11) dX11_ways_20 mk_X11_error rfl kw_319 kw_321 kp_0 (lO_100 hL) (c_error hL (k := 1) (by decide) rfl) rfl (by decide) rfl (Nat.le_of_ble_eq_true rfl) (Nat.zero_add _) (Nat.zero_add _) ?_
        refine ev_i2l (X := M_X11_ways) (pc := 23) dX11_ways_23 (by decide) ?_
        refine ev_lret (X := M_X11_ways) (pc := 24) dX11_ways_24 rfl ?_
        unfold wsR wsE
        rw [if_neg hno, if_neg hno]
        exact ⟨rfl, KS.rf hL, by rw [err_119]; exact h.2.2.2.2.2.2.2, err_155, frS.rf.er 1⟩
theorem c_allWays {γ : Gh} {K : Sk} {V : Mm} {C : Int → Int} {F s0 n : Int} (h : SrP K V C F) (hs : isSt s0) (hn : V 102 4 = s0) (hnr : R32 n) : Call γ M_X11_allWays 6 0 0 [vR 100, vI n] K V (Qg (some (vL (awR C F s0 n))) (fun K' W => KS K K' ∧ CS C F V (awE n (V 155)) W)) := by
  refine call_of (by decide +kernel) (by intro v hv; simp only [List.mem_cons, List.not_mem_nil, or_false] at hv; rcases hv with rfl | rfl <;> exact fun q => by cases q) (Nat.le_of_ble_eq_true rfl) ?_
  refine ev_lsE (ls' := [_, _]) rfl ?_
  have hL := h.1
  refine ev_iload_n (X := M_X11_allWays) (pc := 0) dX11_allWays_0 rfl ?_
  refine ev_if_lt (X := M_X11_allWays) (pc := 1) (tgt := 10) dX11_allWays_1 (by decide) (by omega) (fun h1 => ?_) (fun h1 => ?_)
  · have hno : ¬ (0 ≤ n ∧ n ≤ 6) := fun z => by omega
    refine ev_aload_n (X := M_X11_allWays) (pc := 10) dX11_allWays_10 rfl ?_
    refine ev_ldc (X := M_X11_allWays) (pc := 11) (v := -1000000001) dX11_allWays_11 kw_318 (by decide) ?_
    refine ev_virtR (X := M_X11_allWays) (Y := M_X11_error) (pc := 13) (ci := 11) dX11_allWays_13 mk_X11_error rfl kw_319 kw_321 kp_0 (lO_100 hL) (c_error hL (k := 1) (by decide) rfl) rfl (by decide) rfl (Nat.le_of_ble_eq_true rfl) (Nat.zero_add _) (Nat.zero_add _) ?_
    refine ev_i2l (X := M_X11_allWays) (pc := 16) dX11_allWays_16 (by decide) ?_
    refine ev_lret (X := M_X11_allWays) (pc := 17) dX11_allWays_17 rfl ?_
    unfold awR awE
    rw [if_neg hno, if_neg hno]
    exact ⟨rfl, KS.rf hL, by rw [err_119]; exact h.2.2.2.2.2.2.2, err_155, frS.rf.er 1⟩
  · refine ev_iload_n (X := M_X11_allWays) (pc := 4) dX11_allWays_4 rfl ?_
    refine ev_bipush (X := M_X11_allWays) (pc := 5) dX11_allWays_5 (by decide) ?_
    refine ev_icmp_le (X := M_X11_allWays) (pc := 7) (tgt := 18) dX11_allWays_7 (by decide) (by omega) (by omega) (fun h7 => ?_) (fun h7 => ?_)
    · have hye : 0 ≤ n ∧ n ≤ 6 := by omega
      refine ev_aload_n (X := M_X11_allWays) (pc := 18) dX11_allWays_18 rfl ?_
      refine ev_getRe (X := M_X11_allWays) (pc := 19) dX11_allWays_19 fl_X11_12_11 (lO_100 hL) rfl (lR_100_2 hL) ?_
      refine ev_iload_n (X := M_X11_allWays) (pc := 22) dX11_allWays_22 rfl ?_
      refine ev_virtH (X := M_X11_allWays) (Y := M_X6_countWays) (pc := 23) (ci := 6) dX11_allWays_23 mk_X6_countWays rfl kw_726 kw_727 kw_728 (lO_101 hL) ((by have := c_countWays (γ := γ) h hs hn (n := n.toNat) (by omega); rw [show ((n.toNat : Nat) : Int) = n by omega] at this; exact this)) rfl (by decide) rfl (Nat.le_of_ble_eq_true rfl) (Nat.zero_add _) (Nat.zero_add _) (fun K2 W hW => ?_)
      obtain ⟨sa, sb, hM, hU⟩ := hW.2.2.2.2
      have hL2 := hW.1.2.2.2
      refine ev_aload_n (X := M_X11_allWays) (pc := 26) dX11_allWays_26 rfl ?_
      refine ev_getRe (X := M_X11_allWays) (pc := 27) dX11_allWays_27 fl_X11_12_11 (lO_100 hL2) rfl (lR_100_2 hL2) ?_
      refine ev_virtR (X := M_X11_allWays) (Y := M_X6_waysInAll) (pc := 30) (ci := 6) dX11_allWays_30 mk_X6_waysInAll rfl kw_750 kw_751 kw_752 (lO_101 hL2) (c_waysInAll hL2 hM hU) rfl (by decide) rfl (Nat.le_of_ble_eq_true rfl) (Nat.zero_add _) (Nat.zero_add _) ?_
      refine ev_lret (X := M_X11_allWays) (pc := 33) dX11_allWays_33 rfl ?_
      unfold awR awE
      rw [if_pos hye, if_pos hye]
      exact ⟨rfl, hW.1, hW.S⟩
    · have hno : ¬ (0 ≤ n ∧ n ≤ 6) := fun z => by omega
      refine ev_aload_n (X := M_X11_allWays) (pc := 10) dX11_allWays_10 rfl ?_
      refine ev_ldc (X := M_X11_allWays) (pc := 11) (v := -1000000001) dX11_allWays_11 kw_318 (by decide) ?_
      refine ev_virtR (X := M_X11_allWays) (Y := M_X11_error) (pc := 13) (ci := 11) dX11_allWays_13 mk_X11_error rfl kw_319 kw_321 kp_0 (lO_100 hL) (c_error hL (k := 1) (by decide) rfl) rfl (by decide) rfl (Nat.le_of_ble_eq_true rfl) (Nat.zero_add _) (Nat.zero_add _) ?_
      refine ev_i2l (X := M_X11_allWays) (pc := 16) dX11_allWays_16 (by decide) ?_
      refine ev_lret (X := M_X11_allWays) (pc := 17) dX11_allWays_17 rfl ?_
      unfold awR awE
      rw [if_neg hno, if_neg hno]
      exact ⟨rfl, KS.rf hL, by rw [err_119]; exact h.2.2.2.2.2.2.2, err_155, frS.rf.er 1⟩
theorem cpl_m {a : Int} (h : 0 ≤ a ∧ a < 13) : 0 ≤ a * (a - 1) ∧ a * (a - 1) < 2147483648 := by
  rcases (show a = 0 ∨ 1 ≤ a by omega) with z | z
  · rw [z]; decide
  · refine ⟨Int.mul_nonneg (by omega) (by omega), ?_⟩
    have : a * (a - 1) ≤ 13 * 13 := Int.mul_le_mul (by omega) (by omega) (by omega) (by decide)
    omega
theorem m_findWays {γ : Gh} {K : Sk} {V : Mm} {D : Int → Int} (h : MQy K V D) {n : Nat} (hn6 : n ≤ 6) : Call γ M_X12_findWays 42 0 0 [vR 156, vI n] K V (Qx none K (fun W => MS V (V 159) W ∧ ∀ t, 0 ≤ t ∧ t < 2197 → W 165 t = wyK (comF D) (fS D) (nowS D) n t)) := by
  refine call_of (by decide +kernel) (by intro v hv; simp only [List.mem_cons, List.not_mem_nil, or_false] at hv; rcases hv with rfl | rfl <;> exact fun q => by cases q) (Nat.le_of_ble_eq_true rfl) ?_
  refine ev_lsE (ls' := [_, _, _, _, _, _, _, _, _]) rfl ?_
  obtain ⟨hL, hD, hct, hK, hF, hZ⟩ := h
  have hC := comF_wf hK
  have hF6 := fS_r hF
  have hs0 := nowS_st hct
  have hs0l := isSt_lt hs0
  refine ev_aload_n (X := M_X12_findWays) (pc := 0) dX12_findWays_0 rfl ?_
  refine ev_virtY (X := M_X12_findWays) (Y := M_X12_findAll) (pc := 1) (ci := 12) dX12_findWays_1 mk_X12_findAll rfl kw_1197 kw_1199 kp_19 (lO_156 hL) (m_findAll hL hD hK hZ) rfl (by decide) rfl (Nat.le_of_ble_eq_true rfl) (Nat.zero_add _) (Nat.zero_add _) (fun W1 hW1 => ?_)
  have hD1 : W1 157 = D := by rw [hW1.1.row (by decide) (by decide) (by decide)]; exact hD
  have hS1 := MS.com hW1.1 hW1.2
  have hC1 := hW1.2
  clear hW1
  generalize comF D = C at *
  refine ev_aload_n (X := M_X12_findWays) (pc := 4) dX12_findWays_4 rfl ?_
  refine ev_virtR (X := M_X12_findWays) (Y := M_X12_fencedNow) (pc := 5) (ci := 12) dX12_findWays_5 mk_X12_fencedNow rfl kw_1215 kw_1217 kp_22 (lO_156 hL) (m_fencedE hL hD1 hF) rfl (by decide) rfl (Nat.le_of_ble_eq_true rfl) (Nat.zero_add _) (Nat.zero_add _) ?_
  refine ev_istore_nL (X := M_X12_findWays) (pc := 8) (ls' := [_, _, _, _, _, _, _, _, _]) dX12_findWays_8 (by decide) rfl ?_
  refine ev_iconst (X := M_X12_findWays) (pc := 9) dX12_findWays_9 ?_
  refine ev_istore_nL (X := M_X12_findWays) (pc := 10) (ls' := [_, _, _, _, _, _, _, _, _]) dX12_findWays_10 (by decide) rfl ?_
  generalize fS D = F at *
  have ph2 : ∀ W, fr2 165 166 W1 W → (∀ t, 0 ≤ t ∧ t < 2197 → W 165 t = wyK C F (nowS D) 0 t) → Ev γ M_X12_findWays 42 0 0 43 [vR 156, vI n, vI F, vU, vU, vU, vU, vU, vU] [] K W (Qx none K (fun W => MS V (V 159) W ∧ ∀ t, 0 ≤ t ∧ t < 2197 → W 165 t = wyK C F (nowS D) n t)) := by
    intro W w1 w2
    refine ev_iconst (X := M_X12_findWays) (pc := 43) dX12_findWays_43 ?_
    refine ev_istore_nL (X := M_X12_findWays) (pc := 44) (ls' := [_, _, _, _, _, _, _, _, _]) dX12_findWays_44 (by decide) rfl ?_
    refine ev_weak (ev_while (σ := Int × Mm) (fun s => 0 ≤ s.1 ∧ s.1 ≤ n ∧ fr2 165 166 W1 s.2 ∧ ∀ t, 0 ≤ t ∧ t < 2197 → s.2 165 t = wyK C F (nowS D) s.1.toNat t) (fun s => ((n : Int) - s.1).toNat) (fun s => [vR 156, vI n, vI F, vI s.1, vU, vU, vU, vU, vU]) (fun _ => K) (fun s => s.2) ?_ (0, W) ⟨Int.le_refl 0, by show (0 : Int) ≤ n; omega, w1, w2⟩) ⟨rfl, rfl, rfl, rfl, trivial⟩
    clear w1 w2 W
    rintro ⟨k, W⟩ ⟨k0, k1, w1, w2⟩ ih
    dsimp only at k0 k1 w1 w2 ih ⊢
    have hk6 : k < n → k.toNat ≤ 6 := fun _ => by omega
    have hUr := fun z t => wyK_r (F := F) hC hs0 (k := k.toNat) (hk6 z) t
    have hU0 := fun (t : Int) (z : ¬ isSt t) => wyK_off (F := F) hC hs0 (t := t) z k.toNat
    have hUs : wyK C F (nowS D) (k + 1).toNat = wyI C F (wyK C F (nowS D) k.toNat) 2730 := by rw [show (k + 1).toNat = k.toNat + 1 by omega, wyK_s]
    refine ev_iload_n (X := M_X12_findWays) (pc := 45) dX12_findWays_45 rfl ?_
    refine ev_iload_n (X := M_X12_findWays) (pc := 46) dX12_findWays_46 rfl ?_
    refine ev_icmp_ge (X := M_X12_findWays) (pc := 47) (tgt := 252) dX12_findWays_47 (by decide) (by omega) (by omega) (fun h47 => ?_) (fun h47 => ?_)
    · refine ev_vret (X := M_X12_findWays) (pc := 252) dX12_findWays_252 rfl ?_
      have hk : k.toNat = n := by omega
      rw [hk] at w2
      exact ⟨rfl, rfl, hS1.wk (fun c z => w1 c (by omega) (by omega)), w2⟩
    · refine ev_iconst (X := M_X12_findWays) (pc := 50) dX12_findWays_50 ?_
      refine ev_istoreL (X := M_X12_findWays) (pc := 51) (ls' := [_, _, _, _, _, _, _, _, _]) dX12_findWays_51 (by decide) rfl ?_
      generalize wyK C F (nowS D) k.toNat = U at *
      have hkn : k < n := by omega
      have hUr := hUr hkn
      have ph4 : ∀ W, fr2 165 166 W1 W → (∀ t, 0 ≤ t ∧ t < 2197 → W 166 t = wyI C F U 2730 t) → Ev γ M_X12_findWays 42 0 0 215 [vR 156, vI n, vI F, vI k, vU, vU, vU, vU, vU] [] K W (Qx none K (fun W => MS V (V 159) W ∧ ∀ t, 0 ≤ t ∧ t < 2197 → W 165 t = wyK C F (nowS D) n t)) := by
        intro W w1 w2
        refine ev_iconst (X := M_X12_findWays) (pc := 215) dX12_findWays_215 ?_
        refine ev_istoreL (X := M_X12_findWays) (pc := 216) (ls' := [_, _, _, _, _, _, _, _, _]) dX12_findWays_216 (by decide) rfl ?_
        refine ev_weak (ev_while (σ := Int × Mm) (fun s => 0 ≤ s.1 ∧ s.1 ≤ 2197 ∧ fr2 165 166 W1 s.2 ∧ (∀ t, 0 ≤ t ∧ t < 2197 → s.2 166 t = wyI C F U 2730 t) ∧ ∀ t, 0 ≤ t ∧ t < s.1 → s.2 165 t = wyI C F U 2730 t) (fun s => (2197 - s.1).toNat) (fun s => [vR 156, vI n, vI F, vI k, vI s.1, vU, vU, vU, vU]) (fun _ => K) (fun s => s.2) ?_ (0, W) ⟨Int.le_refl 0, by show (0 : Int) ≤ 2197; decide, w1, w2, fun t ht => by change 0 ≤ t ∧ t < 0 at ht; omega⟩) ⟨rfl, rfl, rfl, rfl, rfl, trivial⟩
        clear w1 w2 W
        rintro ⟨s, W⟩ ⟨s0, s1, w1, w2, w3⟩ ih3
        dsimp only at s0 s1 w1 w2 w3 ih3 ⊢
        refine ev_iload (X := M_X12_findWays) (pc := 218) dX12_findWays_218 rfl ?_
        refine ev_sipush (X := M_X12_findWays) (pc := 220) dX12_findWays_220 (by decide) ?_
        refine ev_icmp_ge (X := M_X12_findWays) (pc := 223) (tgt := 246) dX12_findWays_223 (by decide) (by omega) (by omega) (fun h223 => ?_) (fun h223 => ?_)
        · refine ev_iincL (X := M_X12_findWays) (pc := 246) (ls' := [_, _, _, _, _, _, _, _, _]) dX12_findWays_246 rfl (by decide) rfl ?_
          refine ev_goto (X := M_X12_findWays) (pc := 249) (tgt := 45) dX12_findWays_249 (by decide) ?_
          refine ev_weak (ih (k + 1, W) ⟨by omega, by omega, w1, fun t ht => ?_⟩ (by show ((n : Int) - (k + 1)).toNat < ((n : Int) - k).toNat; omega)) ⟨rfl, rfl, rfl, rfl, trivial⟩
          show W 165 t = wyK C F (nowS D) (k + 1).toNat t
          rw [hUs]
          exact w3 t (by omega)
        · refine ev_aload_n (X := M_X12_findWays) (pc := 226) dX12_findWays_226 rfl ?_
          refine ev_getRe (X := M_X12_findWays) (pc := 227) dX12_findWays_227 fl_X12_35_12 (lO_156 hL) rfl (lR_156_15 hL) ?_
          refine ev_iload (X := M_X12_findWays) (pc := 230) dX12_findWays_230 rfl ?_
          refine ev_aload_n (X := M_X12_findWays) (pc := 232) dX12_findWays_232 rfl ?_
          refine ev_getRe (X := M_X12_findWays) (pc := 233) dX12_findWays_233 fl_X12_39_12 (lO_156 hL) rfl (lR_156_16 hL) ?_
          refine ev_iload (X := M_X12_findWays) (pc := 236) dX12_findWays_236 rfl ?_
          refine ev_laloadE (X := M_X12_findWays) (pc := 238) dX12_findWays_238 (lS_166 hL) (by omega) (w2 s (by omega)) ?_
          refine ev_lastore (X := M_X12_findWays) (pc := 239) dX12_findWays_239 (by decide) (lS_165 hL) (by omega) ?_
          refine ev_iincL (X := M_X12_findWays) (pc := 240) (ls' := [_, _, _, _, _, _, _, _, _]) dX12_findWays_240 rfl (by decide) rfl ?_
          refine ev_goto (X := M_X12_findWays) (pc := 243) (tgt := 218) dX12_findWays_243 (by decide) ?_
          refine ev_weak (ih3 (s + 1, wr W 165 s (wyI C F U 2730 s)) ⟨by omega, by omega, fr2.wr w1 (Or.inl rfl) _ _, fun t ht => ?_, fun t ht => ?_⟩ (by show (2197 - (s + 1)).toNat < (2197 - s).toNat; omega)) ⟨rfl, rfl, rfl, rfl, rfl, trivial⟩
          · show wr W 165 s (wyI C F U 2730 s) 166 t = _
            rw [wr_off (by decide)]
            exact w2 t ht
          · show wr W 165 s (wyI C F U 2730 s) 165 t = _
            change 0 ≤ t ∧ t < s + 1 at ht
            rw [wr_row]
            by_cases z : t = s
            · rw [z, up_self]
            · rw [up_ne z]
              exact w3 t (by omega)
      have ph3 : ∀ W, fr2 165 166 W1 W → (∀ t, 0 ≤ t ∧ t < 2197 → W 165 t = U t) → (∀ t, 0 ≤ t ∧ t < 2197 → W 166 t = 0) → Ev γ M_X12_findWays 42 0 0 75 [vR 156, vI n, vI F, vI k, vU, vU, vU, vU, vU] [] K W (Qx none K (fun W => MS V (V 159) W ∧ ∀ t, 0 ≤ t ∧ t < 2197 → W 165 t = wyK C F (nowS D) n t)) := by
        intro W w1 w2 w3
        refine ev_iconst (X := M_X12_findWays) (pc := 75) dX12_findWays_75 ?_
        refine ev_istoreL (X := M_X12_findWays) (pc := 76) (ls' := [_, _, _, _, _, _, _, _, _]) dX12_findWays_76 (by decide) rfl ?_
        refine ev_weak (ev_while (σ := Int × Int × Mm) (fun s => 0 ≤ s.1 ∧ s.1 ≤ 2197 ∧ Rk s.1 s.2.1 ∧ fr2 165 166 W1 s.2.2 ∧ (∀ t, 0 ≤ t ∧ t < 2197 → s.2.2 165 t = U t) ∧ ∀ t, 0 ≤ t ∧ t < 2197 → s.2.2 166 t = wyI C F U (6 * s.2.1) t) (fun s => (2197 - s.1).toNat) (fun s => [vR 156, vI n, vI F, vI k, vI s.1, vU, vU, vU, vU]) (fun _ => K) (fun s => s.2.2) ?_ (0, 0, W) ⟨Int.le_refl 0, by show (0 : Int) ≤ 2197; decide, Rk_0, w1, w2, w3⟩) ⟨rfl, rfl, rfl, rfl, rfl, trivial⟩
        clear w1 w2 w3 W
        rintro ⟨s, q, W⟩ ⟨s0, s1, rk, w1, w2, w3⟩ ih3
        dsimp only at s0 s1 rk w1 w2 w3 ih3 ⊢
        refine ev_iload (X := M_X12_findWays) (pc := 78) dX12_findWays_78 rfl ?_
        refine ev_sipush (X := M_X12_findWays) (pc := 80) dX12_findWays_80 (by decide) ?_
        refine ev_icmp_ge (X := M_X12_findWays) (pc := 83) (tgt := 215) dX12_findWays_83 (by decide) (by omega) (by omega) (fun h83 => ?_) (fun h83 => ?_)
        · have hs : s = 2197 := by omega
          rw [hs] at rk
          rw [Rk_end rk] at w3
          exact ev_weak (ph4 W w1 w3) ⟨rfl, rfl, rfl, rfl, trivial⟩
        · refine ev_iconst (X := M_X12_findWays) (pc := 86) dX12_findWays_86 ?_
          refine ev_istoreL (X := M_X12_findWays) (pc := 87) (ls' := [_, _, _, _, _, _, _, _, _]) dX12_findWays_87 (by decide) rfl ?_
          have hE : ∃ E : Int → Int, E = fun p => if isSt s then 6 * q + p else 6 * q := ⟨_, rfl⟩
          obtain ⟨E, hE⟩ := hE
          have hE0 : E 0 = 6 * q := by rw [hE]; show (if isSt s then 6 * q + 0 else 6 * q) = 6 * q; split <;> omega
          have q0 := rk.1
          have hEz : U s = 0 → ∀ p, 0 ≤ p → p < 6 → wyI C F U (E (p + 1)) = wyI C F U (E p) := fun hz p p0 p6 => by
            rw [hE]
            show wyI C F U (if isSt s then 6 * q + (p + 1) else 6 * q) = wyI C F U (if isSt s then 6 * q + p else 6 * q)
            by_cases y : isSt s
            · obtain ⟨_, e2, e3, _⟩ := Rk_st y rk
              rw [if_pos y, if_pos y, show 6 * q + (p + 1) = 6 * q + p + 1 by omega, wyI_s (by omega)]
              exact wyst_z (by rw [show (6 * q + p) / 6 = q by omega, e2]; exact hz)
            · rw [if_neg y, if_neg y]
          have hEs : isSt s → ∀ p, 0 ≤ p → p < 6 → wyI C F U (E (p + 1)) = if nx C F s p = -1 then wyI C F U (E p) else up (wyI C F U (E p)) (nx C F s p) (wyI C F U (E p) (nx C F s p) + U s * cpl s p) := fun y p p0 p6 => by
            obtain ⟨_, e2, e3, _⟩ := Rk_st y rk
            rw [hE]
            show wyI C F U (if isSt s then 6 * q + (p + 1) else 6 * q) = _
            dsimp only
            rw [if_pos y, if_pos y, show 6 * q + (p + 1) = 6 * q + p + 1 by omega, wyI_s (by omega)]
            unfold wyst
            rw [show (6 * q + p) / 6 = q by omega, show (6 * q + p) % 6 = p by omega, e2]
          have hE6 : ∃ q', Rk (s + 1) q' ∧ E 6 = 6 * q' := by
            rw [hE]
            show ∃ q', Rk (s + 1) q' ∧ (if isSt s then 6 * q + 6 else 6 * q) = 6 * q'
            by_cases y : isSt s
            · exact ⟨q + 1, (Rk_st y rk).2.2.2, by rw [if_pos y]; omega⟩
            · exact ⟨q, Rk_no y rk, by rw [if_neg y]⟩
          rw [← hE0] at w3
          clear hE0 hE
          refine ev_weak (ev_while (σ := Int × Mm) (fun z => 0 ≤ z.1 ∧ z.1 ≤ 6 ∧ fr2 165 166 W1 z.2 ∧ (∀ t, 0 ≤ t ∧ t < 2197 → z.2 165 t = U t) ∧ ∀ t, 0 ≤ t ∧ t < 2197 → z.2 166 t = wyI C F U (E z.1) t) (fun z => (6 - z.1).toNat) (fun z => [vR 156, vI n, vI F, vI k, vI s, vI z.1, vU, vU, vU]) (fun _ => K) (fun z => z.2) ?_ (0, W) ⟨Int.le_refl 0, by show (0 : Int) ≤ 6; decide, w1, w2, w3⟩) ⟨rfl, rfl, rfl, rfl, rfl, rfl, trivial⟩
          clear w1 w2 w3 W
          rintro ⟨p, W⟩ ⟨p0, p1, w1, w2, w3⟩ ih4
          dsimp only at p0 p1 w1 w2 w3 ih4 ⊢
          have hC2 : W 161 = C := by rw [w1 161 (by decide) (by decide)]; exact hC1
          refine ev_iload (X := M_X12_findWays) (pc := 89) dX12_findWays_89 rfl ?_
          refine ev_bipush (X := M_X12_findWays) (pc := 91) dX12_findWays_91 (by decide) ?_
          refine ev_icmp_ge (X := M_X12_findWays) (pc := 93) (tgt := 209) dX12_findWays_93 (by decide) (by omega) (by omega) (fun h93 => ?_) (fun h93 => ?_)
          · refine ev_iincL (X := M_X12_findWays) (pc := 209) (ls' := [_, _, _, _, _, _, _, _, _]) dX12_findWays_209 rfl (by decide) rfl ?_
            refine ev_goto (X := M_X12_findWays) (pc := 212) (tgt := 78) dX12_findWays_212 (by decide) ?_
            obtain ⟨q', r1, r2⟩ := hE6
            have hp : p = 6 := by omega
            rw [hp, r2] at w3
            exact ev_weak (ih3 (s + 1, q', W) ⟨by omega, by omega, r1, w1, w2, w3⟩ (by show (2197 - (s + 1)).toNat < (2197 - s).toNat; omega)) ⟨rfl, rfl, rfl, rfl, rfl, trivial⟩
          · have hUs1 := hUr s
            have hEz2 := fun z => hEz z p p0 (by omega)
            have hEs2 := fun y => hEs y p p0 (by omega)
            refine ev_aload_n (X := M_X12_findWays) (pc := 96) dX12_findWays_96 rfl ?_
            refine ev_getRe (X := M_X12_findWays) (pc := 97) dX12_findWays_97 fl_X12_35_12 (lO_156 hL) rfl (lR_156_15 hL) ?_
            refine ev_iload (X := M_X12_findWays) (pc := 100) dX12_findWays_100 rfl ?_
            refine ev_laloadE (X := M_X12_findWays) (pc := 102) dX12_findWays_102 (lS_165 hL) (by omega) (w2 s (by omega)) ?_
            refine ev_lconst (X := M_X12_findWays) (pc := 103) (v := 0) dX12_findWays_103 (by decide) ?_
            refine ev_lcmpN (X := M_X12_findWays) (pc := 104) dX12_findWays_104 (by omega) (by decide) (fun c104 hc104 => ?_)
            refine ev_if_le (X := M_X12_findWays) (pc := 105) (tgt := 203) dX12_findWays_105 (by decide) (by omega) (fun h105 => ?_) (fun h105 => ?_)
            · have hz : U s = 0 := by omega
              have hfin : ∀ t, 0 ≤ t ∧ t < 2197 → W 166 t = wyI C F U (E (p + 1)) t := fun t ht => by rw [hEz2 hz]; exact w3 t ht
              refine ev_iincL (X := M_X12_findWays) (pc := 203) (ls' := [_, _, _, _, _, _, _, _, _]) dX12_findWays_203 rfl (by decide) rfl ?_
              refine ev_goto (X := M_X12_findWays) (pc := 206) (tgt := 89) dX12_findWays_206 (by decide) ?_
              first
                | exact ev_weak (ih4 (p + 1, W) ⟨by omega, by omega, w1, w2, hfin⟩ (by show (6 - (p + 1)).toNat < (6 - p).toNat; omega)) ⟨rfl, rfl, rfl, rfl, rfl, rfl, trivial⟩
                | exact ev_weak (ih4 (p + 1, wr W 166 (aft C s p) (W 166 (aft C s p) + U s * cpl s p)) ⟨by omega, by omega, fr2.wr w1 (Or.inr rfl) _ _, fun t ht => by show wr W 166 (aft C s p) (W 166 (aft C s p) + U s * cpl s p) 165 t = U t; rw [wr_off (by decide)]; exact w2 t ht, hfin2⟩ (by show (6 - (p + 1)).toNat < (6 - p).toNat; omega)) ⟨rfl, rfl, rfl, rfl, rfl, rfl, trivial⟩
            · have hst : isSt s := Decidable.byContradiction fun z => by have := hU0 s z; omega
              have hsl := isSt_lt hst
              have hEs3 := hEs2 hst
              have h2 := les_r p (by omega)
              have h3 := gre_r p (by omega)
              have cr1 := cnt_r s (lesF p)
              have cr2 := cnt_r s (greF p)
              have cr3 := cpl_r (s := s) (p := p) hst (by omega)
              refine ev_aload_n (X := M_X12_findWays) (pc := 108) dX12_findWays_108 rfl ?_
              refine ev_iload (X := M_X12_findWays) (pc := 109) dX12_findWays_109 rfl ?_
              refine ev_iload (X := M_X12_findWays) (pc := 111) dX12_findWays_111 rfl ?_
              refine ev_iload_n (X := M_X12_findWays) (pc := 113) dX12_findWays_113 rfl ?_
              refine ev_virtR (X := M_X12_findWays) (Y := M_X12_mayMeet) (pc := 114) (ci := 12) dX12_findWays_114 mk_X12_mayMeet rfl kw_1219 kw_1221 kp_23 (lO_156 hL) (m_mayMeet hL hC hC2 (by omega) (by omega) hF6) rfl (by decide) rfl (Nat.le_of_ble_eq_true rfl) (Nat.zero_add _) (Nat.zero_add _) ?_
              refine ev_if_eq (X := M_X12_findWays) (pc := 117) (tgt := 203) dX12_findWays_117 (by decide) (by split <;> decide) (fun h117 => ?_) (fun h117 => ?_)
              · have hm : ¬ may C F s p := fun z => by rw [if_pos z] at h117; exact absurd h117 (by decide)
                have hn1 : nx C F s p = -1 := by unfold nx; rw [if_neg hm]
                have hfin : ∀ t, 0 ≤ t ∧ t < 2197 → W 166 t = wyI C F U (E (p + 1)) t := fun t ht => by rw [hEs3, if_pos hn1]; exact w3 t ht
                refine ev_iincL (X := M_X12_findWays) (pc := 203) (ls' := [_, _, _, _, _, _, _, _, _]) dX12_findWays_203 rfl (by decide) rfl ?_
                refine ev_goto (X := M_X12_findWays) (pc := 206) (tgt := 89) dX12_findWays_206 (by decide) ?_
                first
                  | exact ev_weak (ih4 (p + 1, W) ⟨by omega, by omega, w1, w2, hfin⟩ (by show (6 - (p + 1)).toNat < (6 - p).toNat; omega)) ⟨rfl, rfl, rfl, rfl, rfl, rfl, trivial⟩
                  | exact ev_weak (ih4 (p + 1, wr W 166 (aft C s p) (W 166 (aft C s p) + U s * cpl s p)) ⟨by omega, by omega, fr2.wr w1 (Or.inr rfl) _ _, fun t ht => by show wr W 166 (aft C s p) (W 166 (aft C s p) + U s * cpl s p) 165 t = U t; rw [wr_off (by decide)]; exact w2 t ht, hfin2⟩ (by show (6 - (p + 1)).toNat < (6 - p).toNat; omega)) ⟨rfl, rfl, rfl, rfl, rfl, rfl, trivial⟩
              · have hm : may C F s p := Decidable.byContradiction fun z => h117 (by rw [if_neg z])
                have hnx : nx C F s p = aft C s p := by unfold nx; rw [if_pos hm]
                have hn1 := (nx_ne (F := F) hC (by omega) hst).mpr hm
                have hns := nx_st hC (by omega) hst hn1
                rw [if_neg hn1, hnx] at hEs3
                rw [hnx] at hns
                have hnsl := isSt_lt hns
                refine ev_iload (X := M_X12_findWays) (pc := 120) dX12_findWays_120 rfl ?_
                refine ev_iload (X := M_X12_findWays) (pc := 122) dX12_findWays_122 rfl ?_
                refine ev_staticR (X := M_X12_findWays) (Y := M_X12_first) (pc := 124) dX12_findWays_124 mk_X12_first kw_1205 kw_1206 (m_first (by omega)) rfl (by decide) rfl (Nat.le_of_ble_eq_true rfl) (Nat.zero_add _) (Nat.zero_add _) ?_
                refine ev_staticR (X := M_X12_findWays) (Y := M_X12_countIn) (pc := 127) dX12_findWays_127 mk_X12_countIn kw_1223 kw_1224 (m_countIn (by omega) h2) rfl (by decide) rfl (Nat.le_of_ble_eq_true rfl) (Nat.zero_add _) (Nat.zero_add _) ?_
                refine ev_istoreL (X := M_X12_findWays) (pc := 130) (ls' := [_, _, _, _, _, _, _, _, _]) dX12_findWays_130 (by decide) rfl ?_
                refine ev_iload (X := M_X12_findWays) (pc := 132) dX12_findWays_132 rfl ?_
                refine ev_iload (X := M_X12_findWays) (pc := 134) dX12_findWays_134 rfl ?_
                refine ev_staticR (X := M_X12_findWays) (Y := M_X12_second) (pc := 136) dX12_findWays_136 mk_X12_second kw_1208 kw_1209 (m_second (by omega)) rfl (by decide) rfl (Nat.le_of_ble_eq_true rfl) (Nat.zero_add _) (Nat.zero_add _) ?_
                refine ev_staticR (X := M_X12_findWays) (Y := M_X12_countIn) (pc := 139) dX12_findWays_139 mk_X12_countIn kw_1223 kw_1224 (m_countIn (by omega) h3) rfl (by decide) rfl (Nat.le_of_ble_eq_true rfl) (Nat.zero_add _) (Nat.zero_add _) ?_
                refine ev_istoreL (X := M_X12_findWays) (pc := 142) (ls' := [_, _, _, _, _, _, _, _, _]) dX12_findWays_142 (by decide) rfl ?_
                refine ev_iload (X := M_X12_findWays) (pc := 144) dX12_findWays_144 rfl ?_
                refine ev_staticR (X := M_X12_findWays) (Y := M_X12_first) (pc := 146) dX12_findWays_146 mk_X12_first kw_1205 kw_1206 (m_first (by omega)) rfl (by decide) rfl (Nat.le_of_ble_eq_true rfl) (Nat.zero_add _) (Nat.zero_add _) ?_
                refine ev_iload (X := M_X12_findWays) (pc := 149) dX12_findWays_149 rfl ?_
                refine ev_staticR (X := M_X12_findWays) (Y := M_X12_second) (pc := 151) dX12_findWays_151 mk_X12_second kw_1208 kw_1209 (m_second (by omega)) rfl (by decide) rfl (Nat.le_of_ble_eq_true rfl) (Nat.zero_add _) (Nat.zero_add _) ?_
                refine ev_icmp_ne (X := M_X12_findWays) (pc := 154) (tgt := 169) dX12_findWays_154 (by decide) (by omega) (by omega) (fun h154 => ?_) (fun h154 => ?_)
                · have hcp : cnt s (lesF p) * cnt s (greF p) = cpl s p := by unfold cpl; rw [if_neg h154]
                  refine ev_iload (X := M_X12_findWays) (pc := 169) dX12_findWays_169 rfl ?_
                  refine ev_iload (X := M_X12_findWays) (pc := 171) dX12_findWays_171 rfl ?_
                  refine ev_imul (X := M_X12_findWays) (pc := 173) dX12_findWays_173 ?_
                  refine ev_istoreL (X := M_X12_findWays) (pc := 174) (ls' := [_, _, _, _, _, _, _, _, _]) dX12_findWays_174 (by decide) rfl ?_
                  rw [hcp]
                  refine ev_aload_n (X := M_X12_findWays) (pc := 176) dX12_findWays_176 rfl ?_
                  refine ev_getRe (X := M_X12_findWays) (pc := 177) dX12_findWays_177 fl_X12_39_12 (lO_156 hL) rfl (lR_156_16 hL) ?_
                  refine ev_aload_n (X := M_X12_findWays) (pc := 180) dX12_findWays_180 rfl ?_
                  refine ev_iload (X := M_X12_findWays) (pc := 181) dX12_findWays_181 rfl ?_
                  refine ev_iload (X := M_X12_findWays) (pc := 183) dX12_findWays_183 rfl ?_
                  refine ev_virtR (X := M_X12_findWays) (Y := M_X12_after) (pc := 185) (ci := 12) dX12_findWays_185 mk_X12_after rfl kw_1248 kw_1250 kp_26 (lO_156 hL) (m_after hL hC hC2 (by omega)) rfl (by decide) rfl (Nat.le_of_ble_eq_true rfl) (Nat.zero_add _) (Nat.zero_add _) ?_
                  refine ev_dup2 (X := M_X12_findWays) (pc := 188) dX12_findWays_188 (fun _ q => by cases q) (fun _ q => by cases q) ?_
                  refine ev_laload (X := M_X12_findWays) (pc := 189) dX12_findWays_189 (lS_166 hL) (by exact hnsl) ?_
                  refine ev_aload_n (X := M_X12_findWays) (pc := 190) dX12_findWays_190 rfl ?_
                  refine ev_getRe (X := M_X12_findWays) (pc := 191) dX12_findWays_191 fl_X12_35_12 (lO_156 hL) rfl (lR_156_15 hL) ?_
                  refine ev_iload (X := M_X12_findWays) (pc := 194) dX12_findWays_194 rfl ?_
                  refine ev_laloadE (X := M_X12_findWays) (pc := 196) dX12_findWays_196 (lS_165 hL) (by omega) (w2 s (by omega)) ?_
                  refine ev_iload (X := M_X12_findWays) (pc := 197) dX12_findWays_197 rfl ?_
                  refine ev_i2l (X := M_X12_findWays) (pc := 199) dX12_findWays_199 (by omega) ?_
                  refine ev_lmul (X := M_X12_findWays) (pc := 200) dX12_findWays_200 ?_
                  refine ev_ladd (X := M_X12_findWays) (pc := 201) dX12_findWays_201 ?_
                  refine ev_lastore (X := M_X12_findWays) (pc := 202) dX12_findWays_202 (by decide) (lS_166 hL) (by exact hnsl) ?_
                  have hfin2 : ∀ t, 0 ≤ t ∧ t < 2197 → wr W 166 (aft C s p) (W 166 (aft C s p) + U s * cpl s p) 166 t = wyI C F U (E (p + 1)) t := fun t ht => by
                    rw [wr_row, hEs3, w3 _ hnsl]
                    by_cases z : t = aft C s p
                    · rw [z, up_self, up_self]
                    · rw [up_ne z, up_ne z]
                      exact w3 t ht
                  refine ev_iincL (X := M_X12_findWays) (pc := 203) (ls' := [_, _, _, _, _, _, _, _, _]) dX12_findWays_203 rfl (by decide) rfl ?_
                  refine ev_goto (X := M_X12_findWays) (pc := 206) (tgt := 89) dX12_findWays_206 (by decide) ?_
                  first
                    | exact ev_weak (ih4 (p + 1, W) ⟨by omega, by omega, w1, w2, hfin⟩ (by show (6 - (p + 1)).toNat < (6 - p).toNat; omega)) ⟨rfl, rfl, rfl, rfl, rfl, rfl, trivial⟩
                    | exact ev_weak (ih4 (p + 1, wr W 166 (aft C s p) (W 166 (aft C s p) + U s * cpl s p)) ⟨by omega, by omega, fr2.wr w1 (Or.inr rfl) _ _, fun t ht => by show wr W 166 (aft C s p) (W 166 (aft C s p) + U s * cpl s p) 165 t = U t; rw [wr_off (by decide)]; exact w2 t ht, hfin2⟩ (by show (6 - (p + 1)).toNat < (6 - p).toNat; omega)) ⟨rfl, rfl, rfl, rfl, rfl, rfl, trivial⟩
                · have hcp : cnt s (lesF p) * (cnt s (lesF p) - 1) / 2 = cpl s p := by unfold cpl; rw [if_pos h154]
                  refine ev_iload (X := M_X12_findWays) (pc := 157) dX12_findWays_157 rfl ?_
                  refine ev_iload (X := M_X12_findWays) (pc := 159) dX12_findWays_159 rfl ?_
                  refine ev_iconst (X := M_X12_findWays) (pc := 161) dX12_findWays_161 ?_
                  refine ev_isub (X := M_X12_findWays) (pc := 162) dX12_findWays_162 ?_
                  refine ev_imul (X := M_X12_findWays) (pc := 163) dX12_findWays_163 ?_
                  refine ev_iconst (X := M_X12_findWays) (pc := 164) dX12_findWays_164 ?_
                  refine ev_idiv (X := M_X12_findWays) (pc := 165) dX12_findWays_165 (by exact cpl_m cr1) (by decide) ?_
                  refine ev_goto (X := M_X12_findWays) (pc := 166) (tgt := 174) dX12_findWays_166 (by decide) ?_
                  refine ev_istoreL (X := M_X12_findWays) (pc := 174) (ls' := [_, _, _, _, _, _, _, _, _]) dX12_findWays_174 (by decide) rfl ?_
                  rw [hcp]
                  refine ev_aload_n (X := M_X12_findWays) (pc := 176) dX12_findWays_176 rfl ?_
                  refine ev_getRe (X := M_X12_findWays) (pc := 177) dX12_findWays_177 fl_X12_39_12 (lO_156 hL) rfl (lR_156_16 hL) ?_
                  refine ev_aload_n (X := M_X12_findWays) (pc := 180) dX12_findWays_180 rfl ?_
                  refine ev_iload (X := M_X12_findWays) (pc := 181) dX12_findWays_181 rfl ?_
                  refine ev_iload (X := M_X12_findWays) (pc := 183) dX12_findWays_183 rfl ?_
                  refine ev_virtR (X := M_X12_findWays) (Y := M_X12_after) (pc := 185) (ci := 12) dX12_findWays_185 mk_X12_after rfl kw_1248 kw_1250 kp_26 (lO_156 hL) (m_after hL hC hC2 (by omega)) rfl (by decide) rfl (Nat.le_of_ble_eq_true rfl) (Nat.zero_add _) (Nat.zero_add _) ?_
                  refine ev_dup2 (X := M_X12_findWays) (pc := 188) dX12_findWays_188 (fun _ q => by cases q) (fun _ q => by cases q) ?_
                  refine ev_laload (X := M_X12_findWays) (pc := 189) dX12_findWays_189 (lS_166 hL) (by exact hnsl) ?_
                  refine ev_aload_n (X := M_X12_findWays) (pc := 190) dX12_findWays_190 rfl ?_
                  refine ev_getRe (X := M_X12_findWays) (pc := 191) dX12_findWays_191 fl_X12_35_12 (lO_156 hL) rfl (lR_156_15 hL) ?_
                  refine ev_iload (X := M_X12_findWays) (pc := 194) dX12_findWays_194 rfl ?_
                  refine ev_laloadE (X := M_X12_findWays) (pc := 196) dX12_findWays_196 (lS_165 hL) (by omega) (w2 s (by omega)) ?_
                  refine ev_iload (X := M_X12_findWays) (pc := 197) dX12_findWays_197 rfl ?_
                  refine ev_i2l (X := M_X12_findWays) (pc := 199) dX12_findWays_199 (by omega) ?_
                  refine ev_lmul (X := M_X12_findWays) (pc := 200) dX12_findWays_200 ?_
                  refine ev_ladd (X := M_X12_findWays) (pc := 201) dX12_findWays_201 ?_
                  refine ev_lastore (X := M_X12_findWays) (pc := 202) dX12_findWays_202 (by decide) (lS_166 hL) (by exact hnsl) ?_
                  have hfin2 : ∀ t, 0 ≤ t ∧ t < 2197 → wr W 166 (aft C s p) (W 166 (aft C s p) + U s * cpl s p) 166 t = wyI C F U (E (p + 1)) t := fun t ht => by
                    rw [wr_row, hEs3, w3 _ hnsl]
                    by_cases z : t = aft C s p
                    · rw [z, up_self, up_self]
                    · rw [up_ne z, up_ne z]
                      exact w3 t ht
                  refine ev_iincL (X := M_X12_findWays) (pc := 203) (ls' := [_, _, _, _, _, _, _, _, _]) dX12_findWays_203 rfl (by decide) rfl ?_
                  refine ev_goto (X := M_X12_findWays) (pc := 206) (tgt := 89) dX12_findWays_206 (by decide) ?_
                  first
                    | exact ev_weak (ih4 (p + 1, W) ⟨by omega, by omega, w1, w2, hfin⟩ (by show (6 - (p + 1)).toNat < (6 - p).toNat; omega)) ⟨rfl, rfl, rfl, rfl, rfl, rfl, trivial⟩
                    | exact ev_weak (ih4 (p + 1, wr W 166 (aft C s p) (W 166 (aft C s p) + U s * cpl s p)) ⟨by omega, by omega, fr2.wr w1 (Or.inr rfl) _ _, fun t ht => by show wr W 166 (aft C s p) (W 166 (aft C s p) + U s * cpl s p) 165 t = U t; rw [wr_off (by decide)]; exact w2 t ht, hfin2⟩ (by show (6 - (p + 1)).toNat < (6 - p).toNat; omega)) ⟨rfl, rfl, rfl, rfl, rfl, rfl, trivial⟩
      refine ev_weak (ev_while (σ := Int × Mm) (fun s => 0 ≤ s.1 ∧ s.1 ≤ 2197 ∧ fr2 165 166 W1 s.2 ∧ (∀ t, 0 ≤ t ∧ t < 2197 → s.2 165 t = U t) ∧ ∀ t, 0 ≤ t ∧ t < s.1 → s.2 166 t = 0) (fun s => (2197 - s.1).toNat) (fun s => [vR 156, vI n, vI F, vI k, vI s.1, vU, vU, vU, vU]) (fun _ => K) (fun s => s.2) ?_ (0, W) ⟨Int.le_refl 0, by show (0 : Int) ≤ 2197; decide, w1, w2, fun t ht => by change 0 ≤ t ∧ t < 0 at ht; omega⟩) ⟨rfl, rfl, rfl, rfl, rfl, trivial⟩
      clear w1 w2 W
      rintro ⟨s, W⟩ ⟨s0, s1, w1, w2, w3⟩ ih3
      dsimp only at s0 s1 w1 w2 w3 ih3 ⊢
      refine ev_iload (X := M_X12_findWays) (pc := 53) dX12_findWays_53 rfl ?_
      refine ev_sipush (X := M_X12_findWays) (pc := 55) dX12_findWays_55 (by decide) ?_
      refine ev_icmp_ge (X := M_X12_findWays) (pc := 58) (tgt := 75) dX12_findWays_58 (by decide) (by omega) (by omega) (fun h58 => ?_) (fun h58 => ?_)
      · exact ev_weak (ph3 W w1 w2 (fun t ht => w3 t (by omega))) ⟨rfl, rfl, rfl, rfl, trivial⟩
      · refine ev_aload_n (X := M_X12_findWays) (pc := 61) dX12_findWays_61 rfl ?_
        refine ev_getRe (X := M_X12_findWays) (pc := 62) dX12_findWays_62 fl_X12_39_12 (lO_156 hL) rfl (lR_156_16 hL) ?_
        refine ev_iload (X := M_X12_findWays) (pc := 65) dX12_findWays_65 rfl ?_
        refine ev_lconst (X := M_X12_findWays) (pc := 67) (v := 0) dX12_findWays_67 (by decide) ?_
        refine ev_lastore (X := M_X12_findWays) (pc := 68) dX12_findWays_68 (by decide) (lS_166 hL) (by omega) ?_
        refine ev_iincL (X := M_X12_findWays) (pc := 69) (ls' := [_, _, _, _, _, _, _, _, _]) dX12_findWays_69 rfl (by decide) rfl ?_
        refine ev_goto (X := M_X12_findWays) (pc := 72) (tgt := 53) dX12_findWays_72 (by decide) ?_
        refine ev_weak (ih3 (s + 1, wr W 166 s 0) ⟨by omega, by omega, fr2.wr w1 (Or.inr rfl) _ _, fun t ht => ?_, fun t ht => ?_⟩ (by show (2197 - (s + 1)).toNat < (2197 - s).toNat; omega)) ⟨rfl, rfl, rfl, rfl, rfl, trivial⟩
        · show wr W 166 s 0 165 t = _
          rw [wr_off (by decide)]
          exact w2 t ht
        · show wr W 166 s 0 166 t = _
          change 0 ≤ t ∧ t < s + 1 at ht
          rw [wr_row]
          by_cases z : t = s
          · rw [z, up_self]
          · rw [up_ne z]
            exact w3 t (by omega)
  refine ev_weak (ev_while (σ := Int × Mm) (fun s => 0 ≤ s.1 ∧ s.1 ≤ 2197 ∧ fr2 165 166 W1 s.2 ∧ ∀ t, 0 ≤ t ∧ t < s.1 → s.2 165 t = wyK C F (nowS D) 0 t) (fun s => (2197 - s.1).toNat) (fun s => [vR 156, vI n, vI F, vI s.1, vU, vU, vU, vU, vU]) (fun _ => K) (fun s => s.2) ?_ (0, W1) ⟨Int.le_refl 0, by show (0 : Int) ≤ 2197; decide, fun _ _ _ => rfl, fun t ht => by change 0 ≤ t ∧ t < 0 at ht; omega⟩) ⟨rfl, rfl, rfl, rfl, trivial⟩
  rintro ⟨s, W⟩ ⟨s0, s1, w1, w2⟩ ih
  dsimp only at s0 s1 w1 w2 ih ⊢
  have hD2 : W 157 = D := by rw [w1 157 (by decide) (by decide)]; exact hD1
  have hnext : ∀ x, x = (if s = nowS D then (1 : Int) else 0) → s < 2197 → Ev γ M_X12_findWays 42 0 0 11 [vR 156, vI n, vI F, vI (s + 1), vU, vU, vU, vU, vU] [] K (wr W 165 s x) (Qx none K (fun W => MS V (V 159) W ∧ ∀ t, 0 ≤ t ∧ t < 2197 → W 165 t = wyK C F (nowS D) n t)) := fun x hx hq => by
    refine ih (s + 1, wr W 165 s x) ⟨by omega, by omega, fr2.wr w1 (Or.inl rfl) _ _, fun r ⟨r0, r1⟩ => ?_⟩ (by show (2197 - (s + 1)).toNat < (2197 - s).toNat; omega)
    show wr W 165 s x 165 r = _
    rw [wr_row]
    change r < s + 1 at r1
    by_cases e : r = s
    · rw [e, up_self, hx]
      rfl
    · rw [up_ne e]
      exact w2 r ⟨r0, by omega⟩
  refine ev_iload_n (X := M_X12_findWays) (pc := 11) dX12_findWays_11 rfl ?_
  refine ev_sipush (X := M_X12_findWays) (pc := 12) dX12_findWays_12 (by decide) ?_
  refine ev_icmp_ge (X := M_X12_findWays) (pc := 15) (tgt := 43) dX12_findWays_15 (by decide) (by omega) (by omega) (fun h15 => ?_) (fun h15 => ?_)
  · exact ev_weak (ph2 W w1 (fun t ht => w2 t (by omega))) ⟨rfl, rfl, rfl, trivial⟩
  · refine ev_aload_n (X := M_X12_findWays) (pc := 18) dX12_findWays_18 rfl ?_
    refine ev_getRe (X := M_X12_findWays) (pc := 19) dX12_findWays_19 fl_X12_35_12 (lO_156 hL) rfl (lR_156_15 hL) ?_
    refine ev_iload_n (X := M_X12_findWays) (pc := 22) dX12_findWays_22 rfl ?_
    refine ev_iload_n (X := M_X12_findWays) (pc := 23) dX12_findWays_23 rfl ?_
    refine ev_aload_n (X := M_X12_findWays) (pc := 24) dX12_findWays_24 rfl ?_
    refine ev_virtR (X := M_X12_findWays) (Y := M_X12_now) (pc := 25) (ci := 12) dX12_findWays_25 mk_X12_now rfl kw_1168 kw_1170 kp_18 (lO_156 hL) (m_nowE hL hD2) rfl (by decide) rfl (Nat.le_of_ble_eq_true rfl) (Nat.zero_add _) (Nat.zero_add _) ?_
    refine ev_icmp_ne (X := M_X12_findWays) (pc := 28) (tgt := 35) dX12_findWays_28 (by decide) (by omega) (by omega) (fun h28 => ?_) (fun h28 => ?_)
    · refine ev_lconst (X := M_X12_findWays) (pc := 35) (v := 0) dX12_findWays_35 (by decide) ?_
      refine ev_lastore (X := M_X12_findWays) (pc := 36) dX12_findWays_36 (by decide) (lS_165 hL) (by omega) ?_
      refine ev_iincL (X := M_X12_findWays) (pc := 37) (ls' := [_, _, _, _, _, _, _, _, _]) dX12_findWays_37 rfl (by decide) rfl ?_
      refine ev_goto (X := M_X12_findWays) (pc := 40) (tgt := 11) dX12_findWays_40 (by decide) ?_
      first
        | exact ev_weak (hnext 1 (by rw [if_pos (by omega)]) (by omega)) ⟨rfl, rfl, rfl, rfl, trivial⟩
        | exact ev_weak (hnext 0 (by rw [if_neg (by omega)]) (by omega)) ⟨rfl, rfl, rfl, rfl, trivial⟩
    · refine ev_lconst (X := M_X12_findWays) (pc := 31) (v := 1) dX12_findWays_31 (by decide) ?_
      refine ev_goto (X := M_X12_findWays) (pc := 32) (tgt := 36) dX12_findWays_32 (by decide) ?_
      refine ev_lastore (X := M_X12_findWays) (pc := 36) dX12_findWays_36 (by decide) (lS_165 hL) (by omega) ?_
      refine ev_iincL (X := M_X12_findWays) (pc := 37) (ls' := [_, _, _, _, _, _, _, _, _]) dX12_findWays_37 rfl (by decide) rfl ?_
      refine ev_goto (X := M_X12_findWays) (pc := 40) (tgt := 11) dX12_findWays_40 (by decide) ?_
      first
        | exact ev_weak (hnext 1 (by rw [if_pos (by omega)]) (by omega)) ⟨rfl, rfl, rfl, rfl, trivial⟩
        | exact ev_weak (hnext 0 (by rw [if_neg (by omega)]) (by omega)) ⟨rfl, rfl, rfl, rfl, trivial⟩
theorem m_ways {γ : Gh} {K : Sk} {V : Mm} {D : Int → Int} (h : MQy K V D) {n t : Int} (hn : R32 n) (ht : R32 t) : Call γ M_X12_ways 43 0 0 [vR 156, vI n, vI t] K V (Qx (some (vL (wsR (comF D) (fS D) (nowS D) n t))) K (MS V (wsE n t (V 159)))) := by
  refine call_of (by decide +kernel) (by intro v hv; simp only [List.mem_cons, List.not_mem_nil, or_false] at hv; rcases hv with rfl | rfl | rfl <;> exact fun q => by cases q) (Nat.le_of_ble_eq_true rfl) ?_
  refine ev_lsE (ls' := [_, _, _]) rfl ?_
  have hL := h.1
  have hZ := h.2.2.2.2.2
  refine ev_iload_n (X := M_X12_ways) (pc := 0) dX12_ways_0 rfl ?_
  refine ev_i2l (X := M_X12_ways) (pc := 1) dX12_ways_1 (by omega) ?_
  refine ev_lconst (X := M_X12_ways) (pc := 2) (v := 0) dX12_ways_2 (by decide) ?_
  refine ev_ldc2 (X := M_X12_ways) (pc := 3) (v := 6) dX12_ways_3 kw_1234 (by decide) ?_
  refine ev_staticR (X := M_X12_ways) (Y := M_X12_in) (pc := 6) dX12_ways_6 mk_X12_in kw_1089 kw_1090 (m_in (by omega) (by decide) (by decide)) rfl (by decide) rfl (Nat.le_of_ble_eq_true rfl) (Nat.zero_add _) (Nat.zero_add _) ?_
  refine ev_if_eq (X := M_X12_ways) (pc := 9) (tgt := 19) dX12_ways_9 (by decide) (by split <;> decide) (fun h9 => ?_) (fun h9 => ?_)
  · have hno : ¬ ((0 ≤ n ∧ n ≤ 6) ∧ isSt t) := fun z => by rw [if_pos z.1] at h9; exact absurd h9 (by decide)
    refine ev_aload_n (X := M_X12_ways) (pc := 19) dX12_ways_19 rfl ?_
    refine ev_iconst (X := M_X12_ways) (pc := 20) dX12_ways_20 ?_
    refine ev_virtR (X := M_X12_ways) (Y := M_X12_finds) (pc := 21) (ci := 12) dX12_ways_21 mk_X12_finds rfl kw_1092 kw_1094 kp_5 (lO_156 hL) (m_finds hL (by decide)) rfl (by decide) rfl (Nat.le_of_ble_eq_true rfl) (Nat.zero_add _) (Nat.zero_add _) ?_
    refine ev_i2l (X := M_X12_ways) (pc := 24) dX12_ways_24 (by decide) ?_
    refine ev_lret (X := M_X12_ways) (pc := 25) dX12_ways_25 rfl ?_
    unfold wsR wsE
    rw [if_neg hno, if_neg hno]
    exact ⟨rfl, rfl, (MS.rf hZ).er 1⟩
  · have hn6 : 0 ≤ n ∧ n ≤ 6 := Decidable.byContradiction fun z => h9 (by rw [if_neg z])
    refine ev_iload_n (X := M_X12_ways) (pc := 12) dX12_ways_12 rfl ?_
    refine ev_staticR (X := M_X12_ways) (Y := M_X12_isState) (pc := 13) dX12_ways_13 mk_X12_isState kw_1284 kw_1285 (m_isState ht) rfl (by decide) rfl (Nat.le_of_ble_eq_true rfl) (Nat.zero_add _) (Nat.zero_add _) ?_
    refine ev_if_ne (X := M_X12_ways) (pc := 16) (tgt := 26) dX12_ways_16 (by decide) (by split <;> decide) (fun h16 => ?_) (fun h16 => ?_)
    · have hst : isSt t := Decidable.byContradiction fun z => h16 (by rw [if_neg z])
      have hye : (0 ≤ n ∧ n ≤ 6) ∧ isSt t := ⟨hn6, hst⟩
      have hstl := isSt_lt hst
      refine ev_aload_n (X := M_X12_ways) (pc := 26) dX12_ways_26 rfl ?_
      refine ev_iload_n (X := M_X12_ways) (pc := 27) dX12_ways_27 rfl ?_
      refine ev_virtY (X := M_X12_ways) (Y := M_X12_findWays) (pc := 28) (ci := 12) dX12_ways_28 mk_X12_findWays rfl kw_1328 kw_1330 kp_34 (lO_156 hL) ((by have := m_findWays (γ := γ) h (n := n.toNat) (by omega); rw [show ((n.toNat : Nat) : Int) = n by omega] at this; exact this)) rfl (by decide) rfl (Nat.le_of_ble_eq_true rfl) (Nat.zero_add _) (Nat.zero_add _) (fun W hW => ?_)
      refine ev_aload_n (X := M_X12_ways) (pc := 31) dX12_ways_31 rfl ?_
      refine ev_getRe (X := M_X12_ways) (pc := 32) dX12_ways_32 fl_X12_35_12 (lO_156 hL) rfl (lR_156_15 hL) ?_
      refine ev_iload_n (X := M_X12_ways) (pc := 35) dX12_ways_35 rfl ?_
      refine ev_laloadE (X := M_X12_ways) (pc := 36) dX12_ways_36 (lS_165 hL) (by omega) (hW.2 t hstl) ?_
      refine ev_lret (X := M_X12_ways) (pc := 37) dX12_ways_37 rfl ?_
      unfold wsR wsE
      rw [if_pos hye, if_pos hye]
      exact ⟨rfl, rfl, hW.1⟩
    · have hno : ¬ ((0 ≤ n ∧ n ≤ 6) ∧ isSt t) := fun z => by rw [if_pos z.2] at h16; exact absurd h16 (by decide)
      refine ev_aload_n (X := M_X12_ways) (pc := 19) dX12_ways_19 rfl ?_
      refine ev_iconst (X := M_X12_ways) (pc := 20) dX12_ways_20 ?_
      refine ev_virtR (X := M_X12_ways) (Y := M_X12_finds) (pc := 21) (ci := 12) dX12_ways_21 mk_X12_finds rfl kw_1092 kw_1094 kp_5 (lO_156 hL) (m_finds hL (by decide)) rfl (by decide) rfl (Nat.le_of_ble_eq_true rfl) (Nat.zero_add _) (Nat.zero_add _) ?_
      refine ev_i2l (X := M_X12_ways) (pc := 24) dX12_ways_24 (by decide) ?_
      refine ev_lret (X := M_X12_ways) (pc := 25) dX12_ways_25 rfl ?_
      unfold wsR wsE
      rw [if_neg hno, if_neg hno]
      exact ⟨rfl, rfl, (MS.rf hZ).er 1⟩
theorem m_allWays {γ : Gh} {K : Sk} {V : Mm} {D : Int → Int} (h : MQy K V D) {n : Int} (hn : R32 n) : Call γ M_X12_allWays 43 0 0 [vR 156, vI n] K V (Qx (some (vL (awR (comF D) (fS D) (nowS D) n))) K (MS V (awE n (V 159)))) := by
  refine call_of (by decide +kernel) (by intro v hv; simp only [List.mem_cons, List.not_mem_nil, or_false] at hv; rcases hv with rfl | rfl <;> exact fun q => by cases q) (Nat.le_of_ble_eq_true rfl) ?_
  refine ev_lsE (ls' := [_, _, _, _, _]) rfl ?_
  have hL := h.1
  have hZ := h.2.2.2.2.2
  have hC := comF_wf h.2.2.2.1
  have hs0 := nowS_st h.2.2.1
  refine ev_iload_n (X := M_X12_allWays) (pc := 0) dX12_allWays_0 rfl ?_
  refine ev_i2l (X := M_X12_allWays) (pc := 1) dX12_allWays_1 (by omega) ?_
  refine ev_lconst (X := M_X12_allWays) (pc := 2) (v := 0) dX12_allWays_2 (by decide) ?_
  refine ev_ldc2 (X := M_X12_allWays) (pc := 3) (v := 6) dX12_allWays_3 kw_1234 (by decide) ?_
  refine ev_staticR (X := M_X12_allWays) (Y := M_X12_in) (pc := 6) dX12_allWays_6 mk_X12_in kw_1089 kw_1090 (m_in (by omega) (by decide) (by decide)) rfl (by decide) rfl (Nat.le_of_ble_eq_true rfl) (Nat.zero_add _) (Nat.zero_add _) ?_
  refine ev_if_ne (X := M_X12_allWays) (pc := 9) (tgt := 19) dX12_allWays_9 (by decide) (by split <;> decide) (fun h9 => ?_) (fun h9 => ?_)
  · have hn6 : 0 ≤ n ∧ n ≤ 6 := Decidable.byContradiction fun z => h9 (by rw [if_neg z])
    refine ev_aload_n (X := M_X12_allWays) (pc := 19) dX12_allWays_19 rfl ?_
    refine ev_iload_n (X := M_X12_allWays) (pc := 20) dX12_allWays_20 rfl ?_
    refine ev_virtY (X := M_X12_allWays) (Y := M_X12_findWays) (pc := 21) (ci := 12) dX12_allWays_21 mk_X12_findWays rfl kw_1328 kw_1330 kp_34 (lO_156 hL) ((by have := m_findWays (γ := γ) h (n := n.toNat) (by omega); rw [show ((n.toNat : Nat) : Int) = n by omega] at this; exact this)) rfl (by decide) rfl (Nat.le_of_ble_eq_true rfl) (Nat.zero_add _) (Nat.zero_add _) (fun W hW => ?_)
    refine ev_lconst (X := M_X12_allWays) (pc := 24) (v := 0) dX12_allWays_24 (by decide) ?_
    refine ev_lstore_nL (X := M_X12_allWays) (pc := 25) (ls' := [_, _, _, _, _]) dX12_allWays_25 (by decide) rfl ?_
    refine ev_iconst (X := M_X12_allWays) (pc := 26) dX12_allWays_26 ?_
    refine ev_istoreL (X := M_X12_allWays) (pc := 27) (ls' := [_, _, _, _, _]) dX12_allWays_27 (by decide) rfl ?_
    obtain ⟨w1, w2⟩ := hW
    unfold awR awE
    rw [if_pos hn6, if_pos hn6]
    have hoff := fun (t : Int) (z : ¬ isSt t) => wyK_off (F := fS D) hC hs0 (t := t) z n.toNat
    generalize wyK (comF D) (fS D) (nowS D) n.toNat = U at *
    refine ev_weak (ev_while (σ := Int × Int) (fun s => 0 ≤ s.1 ∧ s.1 ≤ 2197 ∧ Rk s.1 s.2) (fun s => (2197 - s.1).toNat) (fun s => [vR 156, vI n, vL (Sm U s.2.toNat), vU, vI s.1]) (fun _ => K) (fun _ => W) ?_ (0, 0) ⟨Int.le_refl 0, by show (0 : Int) ≤ 2197; decide, Rk_0⟩) ⟨rfl, rfl, rfl, rfl, trivial⟩
    rintro ⟨s, q⟩ ⟨s0, s1, rk⟩ ih
    dsimp only at s0 s1 rk ih ⊢
    refine ev_iload (X := M_X12_allWays) (pc := 29) dX12_allWays_29 rfl ?_
    refine ev_sipush (X := M_X12_allWays) (pc := 31) dX12_allWays_31 (by decide) ?_
    refine ev_icmp_ge (X := M_X12_allWays) (pc := 34) (tgt := 53) dX12_allWays_34 (by decide) (by omega) (by omega) (fun h34 => ?_) (fun h34 => ?_)
    · refine ev_lload_n (X := M_X12_allWays) (pc := 53) dX12_allWays_53 rfl ?_
      refine ev_lret (X := M_X12_allWays) (pc := 54) dX12_allWays_54 rfl ?_
      have hs : s = 2197 := by omega
      rw [hs] at rk
      rw [Rk_end rk]
      exact ⟨rfl, rfl, w1⟩
    · refine ev_lload_n (X := M_X12_allWays) (pc := 37) dX12_allWays_37 rfl ?_
      refine ev_aload_n (X := M_X12_allWays) (pc := 38) dX12_allWays_38 rfl ?_
      refine ev_getRe (X := M_X12_allWays) (pc := 39) dX12_allWays_39 fl_X12_35_12 (lO_156 hL) rfl (lR_156_15 hL) ?_
      refine ev_iload (X := M_X12_allWays) (pc := 42) dX12_allWays_42 rfl ?_
      refine ev_laloadE (X := M_X12_allWays) (pc := 44) dX12_allWays_44 (lS_165 hL) (by omega) (w2 s (by omega)) ?_
      refine ev_ladd (X := M_X12_allWays) (pc := 45) dX12_allWays_45 ?_
      refine ev_lstore_nL (X := M_X12_allWays) (pc := 46) (ls' := [_, _, _, _, _]) dX12_allWays_46 (by decide) rfl ?_
      refine ev_iincL (X := M_X12_allWays) (pc := 47) (ls' := [_, _, _, _, _]) dX12_allWays_47 rfl (by decide) rfl ?_
      refine ev_goto (X := M_X12_allWays) (pc := 50) (tgt := 29) dX12_allWays_50 (by decide) ?_
      have q0 := rk.1
      by_cases y : isSt s
      · obtain ⟨e1, e2, e3, e4⟩ := Rk_st y rk
        refine ev_weak (ih (s + 1, q + 1) ⟨by omega, by omega, e4⟩ (by show (2197 - (s + 1)).toNat < (2197 - s).toNat; omega)) ⟨rfl, rfl, congrArg vL ?_, rfl, trivial⟩
        rw [show (q + 1).toNat = q.toNat + 1 by omega]
        show Sm U q.toNat + U s = Sm U q.toNat + U (stF (q.toNat : Int))
        rw [show ((q.toNat : Nat) : Int) = q by omega, e2]
      · refine ev_weak (ih (s + 1, q) ⟨by omega, by omega, Rk_no y rk⟩ (by show (2197 - (s + 1)).toNat < (2197 - s).toNat; omega)) ⟨rfl, rfl, congrArg vL ?_, rfl, trivial⟩
        rw [hoff s y, Int.add_zero]
  · have hno : ¬ (0 ≤ n ∧ n ≤ 6) := fun z => by rw [if_pos z] at h9; exact absurd h9 (by decide)
    refine ev_aload_n (X := M_X12_allWays) (pc := 12) dX12_allWays_12 rfl ?_
    refine ev_iconst (X := M_X12_allWays) (pc := 13) dX12_allWays_13 ?_
    refine ev_virtR (X := M_X12_allWays) (Y := M_X12_finds) (pc := 14) (ci := 12) dX12_allWays_14 mk_X12_finds rfl kw_1092 kw_1094 kp_5 (lO_156 hL) (m_finds hL (by decide)) rfl (by decide) rfl (Nat.le_of_ble_eq_true rfl) (Nat.zero_add _) (Nat.zero_add _) ?_
    refine ev_i2l (X := M_X12_allWays) (pc := 17) dX12_allWays_17 (by decide) ?_
    refine ev_lret (X := M_X12_allWays) (pc := 18) dX12_allWays_18 rfl ?_
    unfold awR awE
    rw [if_neg hno, if_neg hno]
    exact ⟨rfl, rfl, (MS.rf hZ).er 1⟩
