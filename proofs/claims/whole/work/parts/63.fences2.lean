def fcR (C : Int → Int) (F s0 k w : Int) : Int := if (0 ≤ k ∧ k < 3) ∧ 0 ≤ w ∧ w ≤ 1 then (if eD k s0 = 1 then -1000000002 else if w = 0 then onF (cB C F s0 k 64) else cB C F s0 k 64) else -1000000001
def fcE (s0 k w : Int) (er : Int → Int) : Int → Int := if (0 ≤ k ∧ k < 3) ∧ 0 ≤ w ∧ w ≤ 1 then (if eD k s0 = 1 then up er 2 (er 2 + 1) else er) else up er 1 (er 1 + 1)
theorem c_fences {γ : Gh} {K : Sk} {V : Mm} {C : Int → Int} {F s0 k w : Int} (h : SrP K V C F) (hs : isSt s0) (hn : V 102 4 = s0) (hkr : R32 k) (hwr : R32 w) : Call γ M_X11_fences 7 0 0 [vR 100, vI k, vI w] K V (Qx (some (vI (fcR C F s0 k w))) K (CS C F V (fcE s0 k w (V 155)))) := by
  refine call_of (by decide +kernel) (by intro v hv; simp only [List.mem_cons, List.not_mem_nil, or_false] at hv; rcases hv with rfl | rfl | rfl <;> exact fun q => by cases q) (Nat.le_of_ble_eq_true rfl) ?_
  refine ev_lsE (ls' := [_, _, _, _]) rfl ?_
  have hL := h.1
  have hF6 := h.2.2.2.2.1
  have hsl := isSt_lt hs
  have hcr := cB_r (C := C) (s0 := s0) (k := k) hF6 64 (Nat.le_refl _)
  unfold fcR fcE
  generalize hcb : cB C F s0 k 64 = cb at *
  have he := (eD_i (k := k) (s := s0)).1
  refine ev_iload_n (X := M_X11_fences) (pc := 0) dX11_fences_0 rfl ?_
  refine ev_staticR (X := M_X11_fences) (Y := M_X11_isSort) (pc := 1) dX11_fences_1 mk_X11_isSort kw_317 kw_235 (c_isSort hkr) rfl (by decide) rfl (Nat.le_of_ble_eq_true rfl) (Nat.zero_add _) (Nat.zero_add _) ?_
  refine ev_if_eq (X := M_X11_fences) (pc := 4) (tgt := 16) dX11_fences_4 (by decide) (by split <;> decide) (fun h4 => ?_) (fun h4 => ?_)
  · have hno : ¬ ((0 ≤ k ∧ k < 3) ∧ 0 ≤ w ∧ w ≤ 1) := fun z => by rw [if_pos z.1] at h4; exact absurd h4 (by decide)
    refine ev_aload_n (X := M_X11_fences) (pc := 16) dX11_fences_16 rfl ?_
    refine ev_ldc (X := M_X11_fences) (pc := 17) (v := -1000000001) dX11_fences_17 kw_318 (by decide) ?_
    refine ev_virtR (X := M_X11_fences) (Y := M_X11_error) (pc := 19) (ci := 11) dX11_fences_19 mk_X11_error rfl kw_319 kw_321 kp_0 (lO_100 hL) (c_error hL (k := 1) (by decide) rfl) rfl (by decide) rfl (Nat.le_of_ble_eq_true rfl) (Nat.zero_add _) (Nat.zero_add _) ?_
    refine ev_iret (X := M_X11_fences) (pc := 22) dX11_fences_22 rfl ?_
    rw [if_neg hno, if_neg hno]
    exact ⟨rfl, rfl, by rw [err_119]; exact h.2.2.2.2.2.2.2, err_155, frS.rf.er 1⟩
  · have hk : 0 ≤ k ∧ k < 3 := Decidable.byContradiction fun z => h4 (by rw [if_neg z])
    refine ev_iload_n (X := M_X11_fences) (pc := 7) dX11_fences_7 rfl ?_
    refine ev_if_lt (X := M_X11_fences) (pc := 8) (tgt := 16) dX11_fences_8 (by decide) (by omega) (fun h8 => ?_) (fun h8 => ?_)
    · have hno : ¬ ((0 ≤ k ∧ k < 3) ∧ 0 ≤ w ∧ w ≤ 1) := fun z => by omega
      refine ev_aload_n (X := M_X11_fences) (pc := 16) dX11_fences_16 rfl ?_
      refine ev_ldc (X := M_X11_fences) (pc := 17) (v := -1000000001) dX11_fences_17 kw_318 (by decide) ?_
      refine ev_virtR (X := M_X11_fences) (Y := M_X11_error) (pc := 19) (ci := 11) dX11_fences_19 mk_X11_error rfl kw_319 kw_321 kp_0 (lO_100 hL) (c_error hL (k := 1) (by decide) rfl) rfl (by decide) rfl (Nat.le_of_ble_eq_true rfl) (Nat.zero_add _) (Nat.zero_add _) ?_
      refine ev_iret (X := M_X11_fences) (pc := 22) dX11_fences_22 rfl ?_
      rw [if_neg hno, if_neg hno]
      exact ⟨rfl, rfl, by rw [err_119]; exact h.2.2.2.2.2.2.2, err_155, frS.rf.er 1⟩
    · refine ev_iload_n (X := M_X11_fences) (pc := 11) dX11_fences_11 rfl ?_
      refine ev_iconst (X := M_X11_fences) (pc := 12) dX11_fences_12 ?_
      refine ev_icmp_le (X := M_X11_fences) (pc := 13) (tgt := 23) dX11_fences_13 (by decide) (by omega) (by omega) (fun h13 => ?_) (fun h13 => ?_)
      · have hye : (0 ≤ k ∧ k < 3) ∧ 0 ≤ w ∧ w ≤ 1 := by omega
        rw [if_pos hye, if_pos hye]
        refine ev_aload_n (X := M_X11_fences) (pc := 23) dX11_fences_23 rfl ?_
        refine ev_getRe (X := M_X11_fences) (pc := 24) dX11_fences_24 fl_X11_20_11 (lO_100 hL) rfl (lR_100_0 hL) ?_
        refine ev_getIe (X := M_X11_fences) (pc := 27) (ki := 4) dX11_fences_27 fl_X11_61_2 (lO_102 hL) (by decide) rfl (hn) ?_
        refine ev_iload_n (X := M_X11_fences) (pc := 30) dX11_fences_30 rfl ?_
        refine ev_staticR (X := M_X11_fences) (Y := M_X11_isEnd) (pc := 31) dX11_fences_31 mk_X11_isEnd kw_758 kw_759 (c_isEndE hL h.2.1 hsl hk) rfl (by decide) rfl (Nat.le_of_ble_eq_true rfl) (Nat.zero_add _) (Nat.zero_add _) ?_
        refine ev_if_eq (X := M_X11_fences) (pc := 34) (tgt := 44) dX11_fences_34 (by decide) (by omega) (fun h34 => ?_) (fun h34 => ?_)
        · have he1 : ¬ eD k s0 = 1 := by omega
          rw [if_neg he1, if_neg he1]
          refine ev_aload_n (X := M_X11_fences) (pc := 44) dX11_fences_44 rfl ?_
          refine ev_getRe (X := M_X11_fences) (pc := 45) dX11_fences_45 fl_X11_12_11 (lO_100 hL) rfl (lR_100_2 hL) ?_
          refine ev_iload_n (X := M_X11_fences) (pc := 48) dX11_fences_48 rfl ?_
          refine ev_virtX (X := M_X11_fences) (Y := M_X6_leastFences) (pc := 49) (ci := 6) dX11_fences_49 mk_X6_leastFences rfl kw_761 kw_762 kw_763 (lO_101 hL) (c_leastFences h hs hn hk) rfl (by decide) rfl (Nat.le_of_ble_eq_true rfl) (Nat.zero_add _) (Nat.zero_add _) (fun W hW => ?_)
          rw [hcb]
          refine ev_istore_nL (X := M_X11_fences) (pc := 52) (ls' := [_, _, _, _]) dX11_fences_52 (by decide) rfl ?_
          refine ev_iload_n (X := M_X11_fences) (pc := 53) dX11_fences_53 rfl ?_
          refine ev_if_ne (X := M_X11_fences) (pc := 54) (tgt := 64) dX11_fences_54 (by decide) (by omega) (fun h54 => ?_) (fun h54 => ?_)
          · rw [if_neg h54]
            refine ev_iload_n (X := M_X11_fences) (pc := 64) dX11_fences_64 rfl ?_
            refine ev_iret (X := M_X11_fences) (pc := 65) dX11_fences_65 rfl ?_
            exact ⟨rfl, rfl, hW⟩
          · rw [if_pos h54]
            refine ev_iload_n (X := M_X11_fences) (pc := 57) dX11_fences_57 rfl ?_
            refine ev_staticR (X := M_X11_fences) (Y := M_J6_bitCount_0f7a4) (pc := 58) dX11_fences_58 mk_J6_bitCount_0f7a4 kw_784 kw_779 (j_bitCount hcr) rfl (by decide) rfl (Nat.le_of_ble_eq_true rfl) (Nat.zero_add _) (Nat.zero_add _) ?_
            refine ev_goto (X := M_X11_fences) (pc := 61) (tgt := 65) dX11_fences_61 (by decide) ?_
            refine ev_iret (X := M_X11_fences) (pc := 65) dX11_fences_65 rfl ?_
            exact ⟨rfl, rfl, hW⟩
        · have he1 : eD k s0 = 1 := by omega
          rw [if_pos he1, if_pos he1]
          refine ev_aload_n (X := M_X11_fences) (pc := 37) dX11_fences_37 rfl ?_
          refine ev_ldc (X := M_X11_fences) (pc := 38) (v := -1000000002) dX11_fences_38 kw_682 (by decide) ?_
          refine ev_virtR (X := M_X11_fences) (Y := M_X11_error) (pc := 40) (ci := 11) dX11_fences_40 mk_X11_error rfl kw_319 kw_321 kp_0 (lO_100 hL) (c_error hL (k := 2) (by decide) rfl) rfl (by decide) rfl (Nat.le_of_ble_eq_true rfl) (Nat.zero_add _) (Nat.zero_add _) ?_
          refine ev_iret (X := M_X11_fences) (pc := 43) dX11_fences_43 rfl ?_
          exact ⟨rfl, rfl, by rw [err_119]; exact h.2.2.2.2.2.2.2, err_155, frS.rf.er 2⟩
      · have hno : ¬ ((0 ≤ k ∧ k < 3) ∧ 0 ≤ w ∧ w ≤ 1) := fun z => by omega
        refine ev_aload_n (X := M_X11_fences) (pc := 16) dX11_fences_16 rfl ?_
        refine ev_ldc (X := M_X11_fences) (pc := 17) (v := -1000000001) dX11_fences_17 kw_318 (by decide) ?_
        refine ev_virtR (X := M_X11_fences) (Y := M_X11_error) (pc := 19) (ci := 11) dX11_fences_19 mk_X11_error rfl kw_319 kw_321 kp_0 (lO_100 hL) (c_error hL (k := 1) (by decide) rfl) rfl (by decide) rfl (Nat.le_of_ble_eq_true rfl) (Nat.zero_add _) (Nat.zero_add _) ?_
        refine ev_iret (X := M_X11_fences) (pc := 22) dX11_fences_22 rfl ?_
        rw [if_neg hno, if_neg hno]
        exact ⟨rfl, rfl, by rw [err_119]; exact h.2.2.2.2.2.2.2, err_155, frS.rf.er 1⟩
theorem ones_op {n p : Int} (hn : 0 ≤ n ∧ n < 64) (hp : 0 ≤ p ∧ p < 6) : op_iand (op_ishr n p) 1 = bit n p := bit_op hn hp
def onS (n : Int) : Nat → Int
  | 0 => 0
  | i + 1 => onS n i + bit n i
theorem m_ones {γ : Gh} {K : Sk} {V : Mm} {n : Int} (h : 0 ≤ n ∧ n < 64) : Call γ M_X12_ones 0 0 0 [vI n] K V (Rt (some (vI (onF n))) K V) := by
  refine call_of (by decide +kernel) (by intro v hv; simp only [List.mem_cons, List.not_mem_nil, or_false] at hv; rcases hv with rfl <;> exact fun q => by cases q) (Nat.le_of_ble_eq_true rfl) ?_
  refine ev_lsE (ls' := [_, _, _]) rfl ?_
  refine ev_iconst (X := M_X12_ones) (pc := 0) dX12_ones_0 ?_
  refine ev_istore_nL (X := M_X12_ones) (pc := 1) (ls' := [_, _, _]) dX12_ones_1 (by decide) rfl ?_
  refine ev_iconst (X := M_X12_ones) (pc := 2) dX12_ones_2 ?_
  refine ev_istore_nL (X := M_X12_ones) (pc := 3) (ls' := [_, _, _]) dX12_ones_3 (by decide) rfl ?_
  refine ev_weak (ev_count 6 0 (fun i => [vI n, vI (onS n i.toNat), vI i]) (by decide) ?_) ⟨rfl, rfl, rfl, trivial⟩
  intro i i0 i1 ih
  refine ev_iload_n (X := M_X12_ones) (pc := 4) dX12_ones_4 rfl ?_
  refine ev_bipush (X := M_X12_ones) (pc := 5) dX12_ones_5 (by decide) ?_
  refine ev_icmp_ge (X := M_X12_ones) (pc := 7) (tgt := 24) dX12_ones_7 (by decide) (by omega) (by omega) (fun h7 => ?_) (fun h7 => ?_)
  · refine ev_iload_n (X := M_X12_ones) (pc := 24) dX12_ones_24 rfl ?_
    refine ev_iret (X := M_X12_ones) (pc := 25) dX12_ones_25 rfl ?_
    have hi : i.toNat = 6 := by omega
    rw [hi]
    refine ⟨congrArg (fun z => some (vI z)) ?_, rfl, rfl⟩
    show 0 + bit n 0 + bit n 1 + bit n 2 + bit n 3 + bit n 4 + bit n 5 = onF n
    unfold onF
    omega
  · refine ev_iload_n (X := M_X12_ones) (pc := 10) dX12_ones_10 rfl ?_
    refine ev_iload_n (X := M_X12_ones) (pc := 11) dX12_ones_11 rfl ?_
    refine ev_iload_n (X := M_X12_ones) (pc := 12) dX12_ones_12 rfl ?_
    refine ev_ishr (X := M_X12_ones) (pc := 13) dX12_ones_13 ?_
    refine ev_iconst (X := M_X12_ones) (pc := 14) dX12_ones_14 ?_
    refine ev_iand (X := M_X12_ones) (pc := 15) dX12_ones_15 ?_
    rw [ones_op h (by omega)]
    refine ev_iadd (X := M_X12_ones) (pc := 16) dX12_ones_16 ?_
    refine ev_istore_nL (X := M_X12_ones) (pc := 17) (ls' := [_, _, _]) dX12_ones_17 (by decide) rfl ?_
    refine ev_iincL (X := M_X12_ones) (pc := 18) (ls' := [_, _, _]) dX12_ones_18 rfl (by decide) rfl ?_
    refine ev_goto (X := M_X12_ones) (pc := 21) (tgt := 4) dX12_ones_21 (by decide) ?_
    refine ev_weak (ih (by omega)) ⟨rfl, congrArg vI ?_, rfl, trivial⟩
    rw [show (i + 1).toNat = i.toNat + 1 by omega]
    show onS n i.toNat + bit n i = onS n i.toNat + bit n (i.toNat : Int)
    rw [show ((i.toNat : Nat) : Int) = i by omega]
theorem m_fences {γ : Gh} {K : Sk} {V : Mm} {D : Int → Int} (h : MQy K V D) {k w : Int} (hkr : R32 k) (hwr : R32 w) : Call γ M_X12_fences 42 0 0 [vR 156, vI k, vI w] K V (Qx (some (vI (fcR (comF D) (fS D) (nowS D) k w))) K (MS V (fcE (nowS D) k w (V 159)))) := by
  refine call_of (by decide +kernel) (by intro v hv; simp only [List.mem_cons, List.not_mem_nil, or_false] at hv; rcases hv with rfl | rfl | rfl <;> exact fun q => by cases q) (Nat.le_of_ble_eq_true rfl) ?_
  refine ev_lsE (ls' := [_, _, _, _, _, _, _]) rfl ?_
  obtain ⟨hL, hD, hct, hK, hF, hZ⟩ := h
  have hC := comF_wf hK
  have hF6 := fS_r hF
  have hs0 := nowS_st hct
  have hs0l := isSt_lt hs0
  have he := (eD_i (k := k) (s := nowS D)).1
  have hei := (eD_i (k := k) (s := nowS D)).2
  unfold fcR fcE
  refine ev_iload_n (X := M_X12_fences) (pc := 0) dX12_fences_0 rfl ?_
  refine ev_staticR (X := M_X12_fences) (Y := M_X12_isSort) (pc := 1) dX12_fences_1 mk_X12_isSort kw_1163 kw_1164 (m_isSort hkr) rfl (by decide) rfl (Nat.le_of_ble_eq_true rfl) (Nat.zero_add _) (Nat.zero_add _) ?_
  refine ev_if_eq (X := M_X12_fences) (pc := 4) (tgt := 17) dX12_fences_4 (by decide) (by split <;> decide) (fun h4 => ?_) (fun h4 => ?_)
  · have hno : ¬ ((0 ≤ k ∧ k < 3) ∧ 0 ≤ w ∧ w ≤ 1) := fun z => by rw [if_pos (by omega)] at h4; exact absurd h4 (by decide)
    refine ev_aload_n (X := M_X12_fences) (pc := 17) dX12_fences_17 rfl ?_
    refine ev_iconst (X := M_X12_fences) (pc := 18) dX12_fences_18 ?_
    refine ev_virtR (X := M_X12_fences) (Y := M_X12_finds) (pc := 19) (ci := 12) dX12_fences_19 mk_X12_finds rfl kw_1092 kw_1094 kp_5 (lO_156 hL) (m_finds hL (by decide)) rfl (by decide) rfl (Nat.le_of_ble_eq_true rfl) (Nat.zero_add _) (Nat.zero_add _) ?_
    refine ev_iret (X := M_X12_fences) (pc := 22) dX12_fences_22 rfl ?_
    rw [if_neg hno, if_neg hno]
    exact ⟨rfl, rfl, (MS.rf hZ).er 1⟩
  · have hk : 0 ≤ k ∧ k < 3 := by
      have : 0 ≤ k ∧ k ≤ 2 := Decidable.byContradiction fun z => h4 (by rw [if_neg z])
      omega
    refine ev_iload_n (X := M_X12_fences) (pc := 7) dX12_fences_7 rfl ?_
    refine ev_i2l (X := M_X12_fences) (pc := 8) dX12_fences_8 (by omega) ?_
    refine ev_lconst (X := M_X12_fences) (pc := 9) (v := 0) dX12_fences_9 (by decide) ?_
    refine ev_lconst (X := M_X12_fences) (pc := 10) (v := 1) dX12_fences_10 (by decide) ?_
    refine ev_staticR (X := M_X12_fences) (Y := M_X12_in) (pc := 11) dX12_fences_11 mk_X12_in kw_1089 kw_1090 (m_in (by omega) (by decide) (by decide)) rfl (by decide) rfl (Nat.le_of_ble_eq_true rfl) (Nat.zero_add _) (Nat.zero_add _) ?_
    refine ev_if_ne (X := M_X12_fences) (pc := 14) (tgt := 23) dX12_fences_14 (by decide) (by split <;> decide) (fun h14 => ?_) (fun h14 => ?_)
    · have hye : (0 ≤ k ∧ k < 3) ∧ 0 ≤ w ∧ w ≤ 1 := ⟨hk, Decidable.byContradiction fun z => h14 (by rw [if_neg z])⟩
      rw [if_pos hye, if_pos hye]
      refine ev_aload_n (X := M_X12_fences) (pc := 23) dX12_fences_23 rfl ?_
      refine ev_aload_n (X := M_X12_fences) (pc := 24) dX12_fences_24 rfl ?_
      refine ev_virtR (X := M_X12_fences) (Y := M_X12_now) (pc := 25) (ci := 12) dX12_fences_25 mk_X12_now rfl kw_1168 kw_1170 kp_18 (lO_156 hL) (m_nowE hL hD) rfl (by decide) rfl (Nat.le_of_ble_eq_true rfl) (Nat.zero_add _) (Nat.zero_add _) ?_
      refine ev_iload_n (X := M_X12_fences) (pc := 28) dX12_fences_28 rfl ?_
      refine ev_virtR (X := M_X12_fences) (Y := M_X12_isEnd) (pc := 29) (ci := 12) dX12_fences_29 mk_X12_isEnd rfl kw_1340 kw_1342 kp_35 (lO_156 hL) (m_isEndE hs0l hk) rfl (by decide) rfl (Nat.le_of_ble_eq_true rfl) (Nat.zero_add _) (Nat.zero_add _) ?_
      refine ev_if_eq (X := M_X12_fences) (pc := 32) (tgt := 41) dX12_fences_32 (by decide) (by omega) (fun h32 => ?_) (fun h32 => ?_)
      · have he1 : ¬ eD k (nowS D) = 1 := by omega
        rw [if_neg he1, if_neg he1]
        rw [cB_64 (k := k) hC hs0 hF6 hk (fun z => he1 (hei.mpr z))]
        refine ev_aload_n (X := M_X12_fences) (pc := 41) dX12_fences_41 rfl ?_
        refine ev_virtY (X := M_X12_fences) (Y := M_X12_findAll) (pc := 42) (ci := 12) dX12_fences_42 mk_X12_findAll rfl kw_1197 kw_1199 kp_19 (lO_156 hL) (m_findAll hL hD hK hZ) rfl (by decide) rfl (Nat.le_of_ble_eq_true rfl) (Nat.zero_add _) (Nat.zero_add _) (fun W1 hW1 => ?_)
        have hD1 : W1 157 = D := by rw [hW1.1.row (by decide) (by decide) (by decide)]; exact hD
        have hS1 := MS.com hW1.1 hW1.2
        have hC1 := hW1.2
        clear hW1
        generalize comF D = C at *
        refine ev_aload_n (X := M_X12_fences) (pc := 45) dX12_fences_45 rfl ?_
        refine ev_virtR (X := M_X12_fences) (Y := M_X12_fencedNow) (pc := 46) (ci := 12) dX12_fences_46 mk_X12_fencedNow rfl kw_1215 kw_1217 kp_22 (lO_156 hL) (m_fencedE hL hD1 hF) rfl (by decide) rfl (Nat.le_of_ble_eq_true rfl) (Nat.zero_add _) (Nat.zero_add _) ?_
        refine ev_istore_nL (X := M_X12_fences) (pc := 49) (ls' := [_, _, _, _, _, _, _]) dX12_fences_49 (by decide) rfl ?_
        refine ev_iconst (X := M_X12_fences) (pc := 50) dX12_fences_50 ?_
        refine ev_istoreL (X := M_X12_fences) (pc := 51) (ls' := [_, _, _, _, _, _, _]) dX12_fences_51 (by decide) rfl ?_
        refine ev_iconst (X := M_X12_fences) (pc := 53) dX12_fences_53 ?_
        refine ev_istoreL (X := M_X12_fences) (pc := 54) (ls' := [_, _, _, _, _, _, _]) dX12_fences_54 (by decide) rfl ?_
        generalize fS D = F at *
        have hge : 0 ≤ mB C F (nowS D) k 64 := by
          rcases cB_mB (k := k) hC hs0 hF6 hk (fun z => he1 (hei.mpr z)) 64 (Nat.le_refl _) with ⟨_, _, c⟩ | ⟨a, _⟩
          · omega
          · exact a
        have hmr := mB_r (C := C) (F := F) (s0 := nowS D) (k := k)
        have hstep : ∀ i : Nat, mB C F (nowS D) k (i + 1) = if op_iand i F = 0 ∧ (mB C F (nowS D) k i < 0 ∨ onF i < onF (mB C F (nowS D) k i)) ∧ keI C F (nowS D) k i = -1 then (i : Int) else mB C F (nowS D) k i := fun i => rfl
        have hQ : ∃ Q, Q = (Qx (some (vI (if w = 0 then onF (mB C F (nowS D) k 64) else mB C F (nowS D) k 64))) K (MS V (V 159))) := ⟨_, rfl⟩
        obtain ⟨Q, hQ⟩ := hQ
        rw [← hQ]
        refine ev_weak (ev_while (σ := Nat × Mm) (fun z => z.1 ≤ 64 ∧ fr2 162 163 W1 z.2) (fun z => 64 - z.1) (fun z => [vR 156, vI k, vI w, vI F, vI (mB C F (nowS D) k z.1), vI z.1, vU]) (fun _ => K) (fun z => z.2) ?_ (0, W1) ⟨by show 0 ≤ 64; decide, fun _ _ _ => rfl⟩) ⟨rfl, rfl, rfl, rfl, rfl, rfl, trivial⟩
        rintro ⟨i, W⟩ ⟨hi, w1⟩ ih
        dsimp only at hi w1 ih ⊢
        have hmi := hmr i hi
        have hst := hstep i
        have hD2 : W 157 = D := by rw [w1 157 (by decide) (by decide)]; exact hD1
        have hC2 : W 161 = C := by rw [w1 161 (by decide) (by decide)]; exact hC1
        have hir : R32 (op_iand i F) := op_r _
        have hgo : ∀ y W3, i < 64 → fr2 162 163 W1 W3 → y = mB C F (nowS D) k (i + 1) → Ev γ M_X12_fences 42 0 0 56 [vR 156, vI k, vI w, vI F, vI y, vI ((i : Int) + 1), vU] [] K W3 Q := fun y W3 h1 h2 h3 => by
          rw [h3]
          exact ev_weak (ih (i + 1, W3) ⟨by omega, h2⟩ (by show 64 - (i + 1) < 64 - i; omega)) ⟨rfl, rfl, rfl, rfl, rfl, congrArg vI (by omega), trivial⟩
        clear ih
        refine ev_iload (X := M_X12_fences) (pc := 56) dX12_fences_56 rfl ?_
        refine ev_bipush (X := M_X12_fences) (pc := 58) dX12_fences_58 (by decide) ?_
        refine ev_icmp_ge (X := M_X12_fences) (pc := 60) (tgt := 125) dX12_fences_60 (by decide) (by omega) (by omega) (fun h60 => ?_) (fun h60 => ?_)
        · have hi64 : i = 64 := by omega
          subst hi64
          rw [hQ]
          refine ev_iload_n (X := M_X12_fences) (pc := 125) dX12_fences_125 rfl ?_
          refine ev_if_ne (X := M_X12_fences) (pc := 126) (tgt := 137) dX12_fences_126 (by decide) (by omega) (fun h126 => ?_) (fun h126 => ?_)
          · rw [if_neg h126]
            refine ev_iload (X := M_X12_fences) (pc := 137) dX12_fences_137 rfl ?_
            refine ev_iret (X := M_X12_fences) (pc := 139) dX12_fences_139 rfl ?_
            exact ⟨rfl, rfl, hS1.wk (fun c z => w1 c (by omega) (by omega))⟩
          · rw [if_pos h126]
            refine ev_iload (X := M_X12_fences) (pc := 129) dX12_fences_129 rfl ?_
            refine ev_staticR (X := M_X12_fences) (Y := M_X12_ones) (pc := 131) dX12_fences_131 mk_X12_ones kw_1344 kw_1345 (m_ones (by omega)) rfl (by decide) rfl (Nat.le_of_ble_eq_true rfl) (Nat.zero_add _) (Nat.zero_add _) ?_
            refine ev_goto (X := M_X12_fences) (pc := 134) (tgt := 139) dX12_fences_134 (by decide) ?_
            refine ev_iret (X := M_X12_fences) (pc := 139) dX12_fences_139 rfl ?_
            exact ⟨rfl, rfl, hS1.wk (fun c z => w1 c (by omega) (by omega))⟩
        · have hi64 : i < 64 := by omega
          have hb1 := on_rI (n := (i : Int)) (by omega)
          refine ev_iload (X := M_X12_fences) (pc := 63) dX12_fences_63 rfl ?_
          refine ev_iload_n (X := M_X12_fences) (pc := 65) dX12_fences_65 rfl ?_
          refine ev_iand (X := M_X12_fences) (pc := 66) dX12_fences_66 ?_
          refine ev_if_ne (X := M_X12_fences) (pc := 67) (tgt := 119) dX12_fences_67 (by decide) (by exact hir) (fun h67 => ?_) (fun h67 => ?_)
          · have hfin := hgo (mB C F (nowS D) k i) W hi64 w1 (by rw [hst, if_neg (fun q => h67 q.1)])
            refine ev_iincL (X := M_X12_fences) (pc := 119) (ls' := [_, _, _, _, _, _, _]) dX12_fences_119 rfl (by decide) rfl ?_
            refine ev_goto (X := M_X12_fences) (pc := 122) (tgt := 56) dX12_fences_122 (by decide) ?_
            exact ev_weak hfin ⟨rfl, rfl, rfl, rfl, rfl, rfl, trivial⟩
          · refine ev_iload (X := M_X12_fences) (pc := 70) dX12_fences_70 rfl ?_
            refine ev_if_lt (X := M_X12_fences) (pc := 72) (tgt := 88) dX12_fences_72 (by decide) (by omega) (fun h72 => ?_) (fun h72 => ?_)
            · have hcnd : mB C F (nowS D) k i < 0 ∨ onF i < onF (mB C F (nowS D) k i) := Or.inl (by omega)
              refine ev_aload_n (X := M_X12_fences) (pc := 88) dX12_fences_88 rfl ?_
              refine ev_aload_n (X := M_X12_fences) (pc := 89) dX12_fences_89 rfl ?_
              refine ev_virtR (X := M_X12_fences) (Y := M_X12_now) (pc := 90) (ci := 12) dX12_fences_90 mk_X12_now rfl kw_1168 kw_1170 kp_18 (lO_156 hL) (m_nowE hL hD2) rfl (by decide) rfl (Nat.le_of_ble_eq_true rfl) (Nat.zero_add _) (Nat.zero_add _) ?_
              refine ev_iload_n (X := M_X12_fences) (pc := 93) dX12_fences_93 rfl ?_
              refine ev_iload (X := M_X12_fences) (pc := 94) dX12_fences_94 rfl ?_
              refine ev_ior (X := M_X12_fences) (pc := 96) dX12_fences_96 ?_
              refine ev_virtX (X := M_X12_fences) (Y := M_X12_findFar) (pc := 97) (ci := 12) dX12_fences_97 mk_X12_findFar rfl kw_1288 kw_1290 kp_31 (lO_156 hL) (m_findFar hL hC hC2 hs0 (ior_r hF6 (by omega))) rfl (by decide) rfl (Nat.le_of_ble_eq_true rfl) (Nat.zero_add _) (Nat.zero_add _) (fun W2 hW2 => ?_)
              have hI2 := bF_I (F := op_ior F i) hC hs0
              have hnr := nE_st (far := (bF C (op_ior F i) (nowS D)).1) (v := 12) hk (by decide)
              have hne := m_nearestEnd (γ := γ) (K := K) (V := W2) hL hI2 hW2.2.1 hk
              have hkei : keI C F (nowS D) k i = nE (bF C (op_ior F i) (nowS D)).1 (wgtF k) 12 := rfl
              have hfr := hW2.1
              clear hW2 hI2
              rw [← hkei] at hnr hne
              clear hkei
              generalize keI C F (nowS D) k i = kv at *
              have hkr2 : kv = -1 ∨ (0 ≤ kv ∧ kv < 2197) := by
                rcases hnr with z | z
                · exact Or.inl z
                · exact Or.inr (isSt_lt z.1)
              clear hnr
              have hfw : fr2 162 163 W1 W2 := fun c c1 c2 => by rw [hfr c c1 c2]; exact w1 c c1 c2
              refine ev_istoreL (X := M_X12_fences) (pc := 100) (ls' := [_, _, _, _, _, _, _]) dX12_fences_100 (by decide) rfl ?_
              refine ev_aload_n (X := M_X12_fences) (pc := 102) dX12_fences_102 rfl ?_
              refine ev_iload_n (X := M_X12_fences) (pc := 103) dX12_fences_103 rfl ?_
              refine ev_virtR (X := M_X12_fences) (Y := M_X12_nearestEnd) (pc := 104) (ci := 12) dX12_fences_104 mk_X12_nearestEnd rfl kw_1301 kw_1303 kp_32 (lO_156 hL) (hne) rfl (by decide) rfl (Nat.le_of_ble_eq_true rfl) (Nat.zero_add _) (Nat.zero_add _) ?_
              refine ev_if_ge (X := M_X12_fences) (pc := 107) (tgt := 115) dX12_fences_107 (by decide) (by omega) (fun h107 => ?_) (fun h107 => ?_)
              · have hfin := hgo (mB C F (nowS D) k i) W2 hi64 hfw (by rw [hst, if_neg (fun q => by have := q.2.2; omega)])
                refine ev_iload (X := M_X12_fences) (pc := 115) dX12_fences_115 rfl ?_
                refine ev_istoreL (X := M_X12_fences) (pc := 117) (ls' := [_, _, _, _, _, _, _]) dX12_fences_117 (by decide) rfl ?_
                refine ev_iincL (X := M_X12_fences) (pc := 119) (ls' := [_, _, _, _, _, _, _]) dX12_fences_119 rfl (by decide) rfl ?_
                refine ev_goto (X := M_X12_fences) (pc := 122) (tgt := 56) dX12_fences_122 (by decide) ?_
                exact ev_weak hfin ⟨rfl, rfl, rfl, rfl, rfl, rfl, trivial⟩
              · have hfin := hgo i W2 hi64 hfw (by rw [hst, if_pos ⟨h67, hcnd, by omega⟩])
                refine ev_iload (X := M_X12_fences) (pc := 110) dX12_fences_110 rfl ?_
                refine ev_goto (X := M_X12_fences) (pc := 112) (tgt := 117) dX12_fences_112 (by decide) ?_
                refine ev_istoreL (X := M_X12_fences) (pc := 117) (ls' := [_, _, _, _, _, _, _]) dX12_fences_117 (by decide) rfl ?_
                refine ev_iincL (X := M_X12_fences) (pc := 119) (ls' := [_, _, _, _, _, _, _]) dX12_fences_119 rfl (by decide) rfl ?_
                refine ev_goto (X := M_X12_fences) (pc := 122) (tgt := 56) dX12_fences_122 (by decide) ?_
                exact ev_weak hfin ⟨rfl, rfl, rfl, rfl, rfl, rfl, trivial⟩
            · have hb2 := on_rI (n := mB C F (nowS D) k i) (by omega)
              refine ev_iload (X := M_X12_fences) (pc := 75) dX12_fences_75 rfl ?_
              refine ev_staticR (X := M_X12_fences) (Y := M_X12_ones) (pc := 77) dX12_fences_77 mk_X12_ones kw_1344 kw_1345 (m_ones (by omega)) rfl (by decide) rfl (Nat.le_of_ble_eq_true rfl) (Nat.zero_add _) (Nat.zero_add _) ?_
              refine ev_iload (X := M_X12_fences) (pc := 80) dX12_fences_80 rfl ?_
              refine ev_staticR (X := M_X12_fences) (Y := M_X12_ones) (pc := 82) dX12_fences_82 mk_X12_ones kw_1344 kw_1345 (m_ones (by omega)) rfl (by decide) rfl (Nat.le_of_ble_eq_true rfl) (Nat.zero_add _) (Nat.zero_add _) ?_
              refine ev_icmp_ge (X := M_X12_fences) (pc := 85) (tgt := 119) dX12_fences_85 (by decide) (by omega) (by omega) (fun h85 => ?_) (fun h85 => ?_)
              · have hfin := hgo (mB C F (nowS D) k i) W hi64 w1 (by rw [hst, if_neg (fun q => by have := q.2.1; omega)])
                refine ev_iincL (X := M_X12_fences) (pc := 119) (ls' := [_, _, _, _, _, _, _]) dX12_fences_119 rfl (by decide) rfl ?_
                refine ev_goto (X := M_X12_fences) (pc := 122) (tgt := 56) dX12_fences_122 (by decide) ?_
                exact ev_weak hfin ⟨rfl, rfl, rfl, rfl, rfl, rfl, trivial⟩
              · have hcnd : mB C F (nowS D) k i < 0 ∨ onF i < onF (mB C F (nowS D) k i) := Or.inr (by omega)
                refine ev_aload_n (X := M_X12_fences) (pc := 88) dX12_fences_88 rfl ?_
                refine ev_aload_n (X := M_X12_fences) (pc := 89) dX12_fences_89 rfl ?_
                refine ev_virtR (X := M_X12_fences) (Y := M_X12_now) (pc := 90) (ci := 12) dX12_fences_90 mk_X12_now rfl kw_1168 kw_1170 kp_18 (lO_156 hL) (m_nowE hL hD2) rfl (by decide) rfl (Nat.le_of_ble_eq_true rfl) (Nat.zero_add _) (Nat.zero_add _) ?_
                refine ev_iload_n (X := M_X12_fences) (pc := 93) dX12_fences_93 rfl ?_
                refine ev_iload (X := M_X12_fences) (pc := 94) dX12_fences_94 rfl ?_
                refine ev_ior (X := M_X12_fences) (pc := 96) dX12_fences_96 ?_
                refine ev_virtX (X := M_X12_fences) (Y := M_X12_findFar) (pc := 97) (ci := 12) dX12_fences_97 mk_X12_findFar rfl kw_1288 kw_1290 kp_31 (lO_156 hL) (m_findFar hL hC hC2 hs0 (ior_r hF6 (by omega))) rfl (by decide) rfl (Nat.le_of_ble_eq_true rfl) (Nat.zero_add _) (Nat.zero_add _) (fun W2 hW2 => ?_)
                have hI2 := bF_I (F := op_ior F i) hC hs0
                have hnr := nE_st (far := (bF C (op_ior F i) (nowS D)).1) (v := 12) hk (by decide)
                have hne := m_nearestEnd (γ := γ) (K := K) (V := W2) hL hI2 hW2.2.1 hk
                have hkei : keI C F (nowS D) k i = nE (bF C (op_ior F i) (nowS D)).1 (wgtF k) 12 := rfl
                have hfr := hW2.1
                clear hW2 hI2
                rw [← hkei] at hnr hne
                clear hkei
                generalize keI C F (nowS D) k i = kv at *
                have hkr2 : kv = -1 ∨ (0 ≤ kv ∧ kv < 2197) := by
                  rcases hnr with z | z
                  · exact Or.inl z
                  · exact Or.inr (isSt_lt z.1)
                clear hnr
                have hfw : fr2 162 163 W1 W2 := fun c c1 c2 => by rw [hfr c c1 c2]; exact w1 c c1 c2
                refine ev_istoreL (X := M_X12_fences) (pc := 100) (ls' := [_, _, _, _, _, _, _]) dX12_fences_100 (by decide) rfl ?_
                refine ev_aload_n (X := M_X12_fences) (pc := 102) dX12_fences_102 rfl ?_
                refine ev_iload_n (X := M_X12_fences) (pc := 103) dX12_fences_103 rfl ?_
                refine ev_virtR (X := M_X12_fences) (Y := M_X12_nearestEnd) (pc := 104) (ci := 12) dX12_fences_104 mk_X12_nearestEnd rfl kw_1301 kw_1303 kp_32 (lO_156 hL) (hne) rfl (by decide) rfl (Nat.le_of_ble_eq_true rfl) (Nat.zero_add _) (Nat.zero_add _) ?_
                refine ev_if_ge (X := M_X12_fences) (pc := 107) (tgt := 115) dX12_fences_107 (by decide) (by omega) (fun h107 => ?_) (fun h107 => ?_)
                · have hfin := hgo (mB C F (nowS D) k i) W2 hi64 hfw (by rw [hst, if_neg (fun q => by have := q.2.2; omega)])
                  refine ev_iload (X := M_X12_fences) (pc := 115) dX12_fences_115 rfl ?_
                  refine ev_istoreL (X := M_X12_fences) (pc := 117) (ls' := [_, _, _, _, _, _, _]) dX12_fences_117 (by decide) rfl ?_
                  refine ev_iincL (X := M_X12_fences) (pc := 119) (ls' := [_, _, _, _, _, _, _]) dX12_fences_119 rfl (by decide) rfl ?_
                  refine ev_goto (X := M_X12_fences) (pc := 122) (tgt := 56) dX12_fences_122 (by decide) ?_
                  exact ev_weak hfin ⟨rfl, rfl, rfl, rfl, rfl, rfl, trivial⟩
                · have hfin := hgo i W2 hi64 hfw (by rw [hst, if_pos ⟨h67, hcnd, by omega⟩])
                  refine ev_iload (X := M_X12_fences) (pc := 110) dX12_fences_110 rfl ?_
                  refine ev_goto (X := M_X12_fences) (pc := 112) (tgt := 117) dX12_fences_112 (by decide) ?_
                  refine ev_istoreL (X := M_X12_fences) (pc := 117) (ls' := [_, _, _, _, _, _, _]) dX12_fences_117 (by decide) rfl ?_
                  refine ev_iincL (X := M_X12_fences) (pc := 119) (ls' := [_, _, _, _, _, _, _]) dX12_fences_119 rfl (by decide) rfl ?_
                  refine ev_goto (X := M_X12_fences) (pc := 122) (tgt := 56) dX12_fences_122 (by decide) ?_
                  exact ev_weak hfin ⟨rfl, rfl, rfl, rfl, rfl, rfl, trivial⟩
      · have he1 : eD k (nowS D) = 1 := by omega
        rw [if_pos he1, if_pos he1]
        refine ev_aload_n (X := M_X12_fences) (pc := 35) dX12_fences_35 rfl ?_
        refine ev_iconst (X := M_X12_fences) (pc := 36) dX12_fences_36 ?_
        refine ev_virtR (X := M_X12_fences) (Y := M_X12_finds) (pc := 37) (ci := 12) dX12_fences_37 mk_X12_finds rfl kw_1092 kw_1094 kp_5 (lO_156 hL) (m_finds hL (by decide)) rfl (by decide) rfl (Nat.le_of_ble_eq_true rfl) (Nat.zero_add _) (Nat.zero_add _) ?_
        refine ev_iret (X := M_X12_fences) (pc := 40) dX12_fences_40 rfl ?_
        exact ⟨rfl, rfl, (MS.rf hZ).er 2⟩
    · have hno : ¬ ((0 ≤ k ∧ k < 3) ∧ 0 ≤ w ∧ w ≤ 1) := fun z => by rw [if_pos z.2] at h14; exact absurd h14 (by decide)
      refine ev_aload_n (X := M_X12_fences) (pc := 17) dX12_fences_17 rfl ?_
      refine ev_iconst (X := M_X12_fences) (pc := 18) dX12_fences_18 ?_
      refine ev_virtR (X := M_X12_fences) (Y := M_X12_finds) (pc := 19) (ci := 12) dX12_fences_19 mk_X12_finds rfl kw_1092 kw_1094 kp_5 (lO_156 hL) (m_finds hL (by decide)) rfl (by decide) rfl (Nat.le_of_ble_eq_true rfl) (Nat.zero_add _) (Nat.zero_add _) ?_
      refine ev_iret (X := M_X12_fences) (pc := 22) dX12_fences_22 rfl ?_
      rw [if_neg hno, if_neg hno]
      exact ⟨rfl, rfl, (MS.rf hZ).er 1⟩
