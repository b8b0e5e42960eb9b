theorem c_levels {γ : Gh} {K : Sk} {t n : Nat} {u : Int} {k : Nat} (hs : CSg γ K t n u k) : ∀ j, j ≤ 5 → CLv γ K t n u k j
  | 0, _ => fun V h hq ho hm => c_level0 hs h hq ho hm
  | j + 1, hj => fun V h hq ho hm => by
    have := c_levelS (by omega) (c_levels hs j (by omega)) h hq ho hm
    rw [show ((4 - j : Nat) : Int) = 5 - ((j + 1 : Nat) : Int) by omega] at this
    exact this
theorem c_singles {γ : Gh} {K : Sk} {t n : Nat} {u : Int} : ∀ k, k ≤ 5 → CSg γ K t n u k
  | 0, hk => fun V h hq ho hm => c_single hk (fun k' e => by omega) (fun k' e => by omega) h hq ho hm
  | k + 1, hk => fun V h hq ho hm => c_single hk (fun k' e => by rw [show k' = k by omega]; exact c_singles k (by omega)) (fun k' e => by rw [show k' = k by omega]; exact c_levels (c_singles k (by omega)) 5 (by decide)) h hq ho hm
/-- the fault, or -1 -/
def fltR (n : Int) (r : RR) : Int := if r.1.isSome ∧ r.2 = n then -1 else r.2
theorem c_fault {γ : Gh} {K : Sk} {V : Mm} {t n : Nat} {u : Int} (h : TxC K V t n u) (hq : V t 4 = 0) (ho : V t 5 = 0) (hm : V (t + 1) 1 = 0) : Call γ M_X8_faultOfReading 47 0 0 [vR t] K V (Qx (some (vI (fltR n (txt (V 106) n u)))) K (PR t V (txt (V 106) n u))) := by
  refine call_of (by decide +kernel) (by intro v hv; simp only [List.mem_cons, List.not_mem_nil, or_false] at hv; rcases hv with rfl <;> exact fun q => by cases q) (Nat.le_of_ble_eq_true rfl) ?_
  refine ev_lsE (ls' := [_]) rfl ?_
  have hL := h.1
  have hO : (K.1 t).1 = 8 + 10 := by rw [h.2.2.1.1]
  have hr0 := h.2.2.1.2.1
  have hn5 := h.2.2.2.2.1
  have hB := (lvl_B (f := V 106) (prS_B (f := V 106) (n := n) (u := u) 5) 5) 0 (by decide) (by omega)
  have hB2 : 0 ≤ (txt (V 106) n u).2 ∧ (txt (V 106) n u).2 ≤ n := by
    unfold txt
    generalize lvl (prS (V 106) n u 5) (V 106) n 5 0 = r at hB
    obtain ⟨o, q⟩ := r
    cases o with
    | none => exact ⟨hB.1, hB.2⟩
    | some l => have b1 := hB.2.1; have b2 := hB.2.2; exact ⟨by show 0 ≤ q; omega, b2⟩
  refine ev_aload_n (X := M_X8_faultOfReading) (pc := 0) dX8_faultOfReading_0 rfl ?_
  refine ev_iconst (X := M_X8_faultOfReading) (pc := 1) dX8_faultOfReading_1 ?_
  refine ev_virtX (X := M_X8_faultOfReading) (Y := M_X8_readLevel) (pc := 2) (ci := 8) dX8_faultOfReading_2 mk_X8_readLevel rfl kw_494 kw_496 kp_2 hO (c_levels (c_singles 5 (by decide)) 5 (by decide) V h (by omega) (by rw [ho]; decide) (by omega)) rfl (by decide) rfl (Nat.le_of_ble_eq_true rfl) (Nat.zero_add _) (Nat.zero_add _) (fun W hW => ?_)
  rw [hq] at hW
  rw [hq]
  have hW' : PR t V (txt (V 106) n u) W := hW
  have hok : okI (txt (V 106) n u) = okI (lvl (prS (V 106) n u 5) (V 106) n 5 0) := rfl
  rw [← hok]
  have h105 : W 105 1 = n := (h.fr hW'.1).2.2.2.1
  have hWt := hW'.2.1
  refine ev_if_eq (X := M_X8_faultOfReading) (pc := 5) (tgt := 26) dX8_faultOfReading_5 (by decide) (by unfold okI; split <;> decide) (fun h5 => ?_) (fun h5 => ?_)
  · have hno : ¬ ((txt (V 106) n u).1.isSome = true) := fun z => by unfold okI at h5; rw [if_pos z] at h5; exact absurd h5 (by decide)
    have hfl : fltR n (txt (V 106) n u) = (txt (V 106) n u).2 := by unfold fltR; rw [if_neg (fun z => hno z.1)]
    refine ev_aload_n (X := M_X8_faultOfReading) (pc := 26) dX8_faultOfReading_26 rfl ?_
    refine ev_getIe (X := M_X8_faultOfReading) (pc := 27) (ki := 4) dX8_faultOfReading_27 fl_X8_39_8 hO (by decide) rfl (hWt) ?_
    refine ev_iret (X := M_X8_faultOfReading) (pc := 30) dX8_faultOfReading_30 rfl ?_
    exact ⟨by rw [hfl], rfl, hW'⟩
  · have hye : (txt (V 106) n u).1.isSome = true := Decidable.byContradiction fun z => h5 (by unfold okI; rw [if_neg z])
    refine ev_aload_n (X := M_X8_faultOfReading) (pc := 8) dX8_faultOfReading_8 rfl ?_
    refine ev_getIe (X := M_X8_faultOfReading) (pc := 9) (ki := 4) dX8_faultOfReading_9 fl_X8_39_8 hO (by decide) rfl (hWt) ?_
    refine ev_aload_n (X := M_X8_faultOfReading) (pc := 12) dX8_faultOfReading_12 rfl ?_
    refine ev_getRe (X := M_X8_faultOfReading) (pc := 13) dX8_faultOfReading_13 fl_X8_9_8 hO rfl hr0 ?_
    refine ev_getIe (X := M_X8_faultOfReading) (pc := 16) (ki := 1) dX8_faultOfReading_16 fl_X8_21_5 (lO_105 hL) (by decide) rfl (h105) ?_
    refine ev_icmp_ne (X := M_X8_faultOfReading) (pc := 19) (tgt := 26) dX8_faultOfReading_19 (by decide) (by omega) (by omega) (fun h19 => ?_) (fun h19 => ?_)
    · have hfl : fltR n (txt (V 106) n u) = (txt (V 106) n u).2 := by unfold fltR; rw [if_neg (fun z => h19 z.2)]
      refine ev_aload_n (X := M_X8_faultOfReading) (pc := 26) dX8_faultOfReading_26 rfl ?_
      refine ev_getIe (X := M_X8_faultOfReading) (pc := 27) (ki := 4) dX8_faultOfReading_27 fl_X8_39_8 hO (by decide) rfl (hWt) ?_
      refine ev_iret (X := M_X8_faultOfReading) (pc := 30) dX8_faultOfReading_30 rfl ?_
      exact ⟨by rw [hfl], rfl, hW'⟩
    · have hfl : fltR n (txt (V 106) n u) = -1 := by unfold fltR; rw [if_pos ⟨hye, h19⟩]
      refine ev_iconst (X := M_X8_faultOfReading) (pc := 22) dX8_faultOfReading_22 ?_
      refine ev_goto (X := M_X8_faultOfReading) (pc := 23) (tgt := 30) dX8_faultOfReading_23 (by decide) ?_
      refine ev_iret (X := M_X8_faultOfReading) (pc := 30) dX8_faultOfReading_30 rfl ?_
      exact ⟨by rw [hfl], rfl, hW'⟩
theorem c_joined {γ : Gh} {K : Sk} {V : Mm} {s l r : Int} (hs : s ∈ [38, 42, 43, 45, 47, 60, 61, 62, 124, 37]) (hl : -2147483648 ≤ l ∧ l < 2147483648) (hr : -2147483648 ≤ r ∧ r < 2147483648) : Call γ M_X8_joined 0 0 0 [vI s, vI l, vI r] K V (Rt (some (vI (jn s l r))) K V) := by
  refine call_of (by decide +kernel) (by intro v hv; simp only [List.mem_cons, List.not_mem_nil, or_false] at hv; rcases hv with rfl | rfl | rfl <;> exact fun q => by cases q) (Nat.le_of_ble_eq_true rfl) ?_
  refine ev_lsE (ls' := [_, _, _]) rfl ?_
  simp only [List.mem_cons, List.not_mem_nil, or_false] at hs
  refine ev_iload_n (X := M_X8_joined) (pc := 0) dX8_joined_0 rfl ?_
  rcases (show s = 38 ∨ s = 42 ∨ s = 43 ∨ s = 45 ∨ s = 47 ∨ s = 60 ∨ s = 61 ∨ s = 62 ∨ s = 124 ∨ s = 37 by omega) with h1 | h1 | h1 | h1 | h1 | h1 | h1 | h1 | h1 | h1
  · refine ev_lookup (X := M_X8_joined) (pc := 1) (off := 97) (tgt := 98) dX8_joined_1 (by omega) (by decide) (by rw [h1]; rfl) (by decide) ?_
    refine ev_iload_n (X := M_X8_joined) (pc := 98) dX8_joined_98 rfl ?_
    refine ev_if_eq (X := M_X8_joined) (pc := 99) (tgt := 110) dX8_joined_99 (by decide) (by omega) (fun h99 => ?_) (fun h99 => ?_)
    · refine ev_iconst (X := M_X8_joined) (pc := 110) dX8_joined_110 ?_
      refine ev_iret (X := M_X8_joined) (pc := 111) dX8_joined_111 rfl ?_
      refine ⟨?_, rfl, rfl⟩
      unfold jn
      rw [h1]
      simp (config := { decide := true }) only [if_false, if_true, ite_true, ite_false]
      all_goals first
        | rfl
        | rw [if_pos (by omega)]
        | rw [if_neg (by omega)]
    · refine ev_iload_n (X := M_X8_joined) (pc := 102) dX8_joined_102 rfl ?_
      refine ev_if_eq (X := M_X8_joined) (pc := 103) (tgt := 110) dX8_joined_103 (by decide) (by omega) (fun h103 => ?_) (fun h103 => ?_)
      · refine ev_iconst (X := M_X8_joined) (pc := 110) dX8_joined_110 ?_
        refine ev_iret (X := M_X8_joined) (pc := 111) dX8_joined_111 rfl ?_
        refine ⟨?_, rfl, rfl⟩
        unfold jn
        rw [h1]
        simp (config := { decide := true }) only [if_false, if_true, ite_true, ite_false]
        all_goals first
          | rfl
          | rw [if_pos (by omega)]
          | rw [if_neg (by omega)]
      · refine ev_iconst (X := M_X8_joined) (pc := 106) dX8_joined_106 ?_
        refine ev_goto (X := M_X8_joined) (pc := 107) (tgt := 111) dX8_joined_107 (by decide) ?_
        refine ev_iret (X := M_X8_joined) (pc := 111) dX8_joined_111 rfl ?_
        refine ⟨?_, rfl, rfl⟩
        unfold jn
        rw [h1]
        simp (config := { decide := true }) only [if_false, if_true, ite_true, ite_false]
        all_goals first
          | rfl
          | rw [if_pos (by omega)]
          | rw [if_neg (by omega)]
  · refine ev_lookup (X := M_X8_joined) (pc := 1) (off := 152) (tgt := 153) dX8_joined_1 (by omega) (by decide) (by rw [h1]; rfl) (by decide) ?_
    refine ev_iload_n (X := M_X8_joined) (pc := 153) dX8_joined_153 rfl ?_
    refine ev_iload_n (X := M_X8_joined) (pc := 154) dX8_joined_154 rfl ?_
    refine ev_imul (X := M_X8_joined) (pc := 155) dX8_joined_155 ?_
    refine ev_nrm ?_
    refine ev_iret (X := M_X8_joined) (pc := 156) dX8_joined_156 rfl ?_
    refine ⟨?_, rfl, rfl⟩
    unfold jn
    rw [h1]
    simp (config := { decide := true }) only [if_false, if_true, ite_true, ite_false]
    all_goals first
      | rfl
      | rw [if_pos (by omega)]
      | rw [if_neg (by omega)]
  · refine ev_lookup (X := M_X8_joined) (pc := 1) (off := 144) (tgt := 145) dX8_joined_1 (by omega) (by decide) (by rw [h1]; rfl) (by decide) ?_
    refine ev_iload_n (X := M_X8_joined) (pc := 145) dX8_joined_145 rfl ?_
    refine ev_iload_n (X := M_X8_joined) (pc := 146) dX8_joined_146 rfl ?_
    refine ev_iadd (X := M_X8_joined) (pc := 147) dX8_joined_147 ?_
    refine ev_nrm ?_
    refine ev_iret (X := M_X8_joined) (pc := 148) dX8_joined_148 rfl ?_
    refine ⟨?_, rfl, rfl⟩
    unfold jn
    rw [h1]
    simp (config := { decide := true }) only [if_false, if_true, ite_true, ite_false]
    all_goals first
      | rfl
      | rw [if_pos (by omega)]
      | rw [if_neg (by omega)]
  · refine ev_lookup (X := M_X8_joined) (pc := 1) (off := 148) (tgt := 149) dX8_joined_1 (by omega) (by decide) (by rw [h1]; rfl) (by decide) ?_
    refine ev_iload_n (X := M_X8_joined) (pc := 149) dX8_joined_149 rfl ?_
    refine ev_iload_n (X := M_X8_joined) (pc := 150) dX8_joined_150 rfl ?_
    refine ev_isub (X := M_X8_joined) (pc := 151) dX8_joined_151 ?_
    refine ev_nrm ?_
    refine ev_iret (X := M_X8_joined) (pc := 152) dX8_joined_152 rfl ?_
    refine ⟨?_, rfl, rfl⟩
    unfold jn
    rw [h1]
    simp (config := { decide := true }) only [if_false, if_true, ite_true, ite_false]
    all_goals first
      | rfl
      | rw [if_pos (by omega)]
      | rw [if_neg (by omega)]
  · refine ev_lookup (X := M_X8_joined) (pc := 1) (off := 156) (tgt := 157) dX8_joined_1 (by omega) (by decide) (by rw [h1]; rfl) (by decide) ?_
    refine ev_iload_n (X := M_X8_joined) (pc := 157) dX8_joined_157 rfl ?_
    refine ev_if_ne (X := M_X8_joined) (pc := 158) (tgt := 165) dX8_joined_158 (by decide) (by omega) (fun h158 => ?_) (fun h158 => ?_)
    · refine ev_iload_n (X := M_X8_joined) (pc := 165) dX8_joined_165 rfl ?_
      refine ev_iload_n (X := M_X8_joined) (pc := 166) dX8_joined_166 rfl ?_
      refine ev_idivg (X := M_X8_joined) (pc := 167) dX8_joined_167 (i32_ne0 hr h158) ?_
      refine ev_iret (X := M_X8_joined) (pc := 168) dX8_joined_168 rfl ?_
      refine ⟨?_, rfl, rfl⟩
      unfold jn
      rw [h1]
      simp (config := { decide := true }) only [if_false, if_true, ite_true, ite_false]
      all_goals first
        | rfl
        | rw [if_pos (by omega)]
        | rw [if_neg (by omega)]
    · refine ev_iconst (X := M_X8_joined) (pc := 161) dX8_joined_161 ?_
      refine ev_goto (X := M_X8_joined) (pc := 162) (tgt := 168) dX8_joined_162 (by decide) ?_
      refine ev_iret (X := M_X8_joined) (pc := 168) dX8_joined_168 rfl ?_
      refine ⟨?_, rfl, rfl⟩
      unfold jn
      rw [h1]
      simp (config := { decide := true }) only [if_false, if_true, ite_true, ite_false]
      all_goals first
        | rfl
        | rw [if_pos (by omega)]
        | rw [if_neg (by omega)]
  · refine ev_lookup (X := M_X8_joined) (pc := 1) (off := 111) (tgt := 112) dX8_joined_1 (by omega) (by decide) (by rw [h1]; rfl) (by decide) ?_
    refine ev_iload_n (X := M_X8_joined) (pc := 112) dX8_joined_112 rfl ?_
    refine ev_iload_n (X := M_X8_joined) (pc := 113) dX8_joined_113 rfl ?_
    refine ev_icmp_ge (X := M_X8_joined) (pc := 114) (tgt := 121) dX8_joined_114 (by decide) (by omega) (by omega) (fun h114 => ?_) (fun h114 => ?_)
    · refine ev_iconst (X := M_X8_joined) (pc := 121) dX8_joined_121 ?_
      refine ev_iret (X := M_X8_joined) (pc := 122) dX8_joined_122 rfl ?_
      refine ⟨?_, rfl, rfl⟩
      unfold jn
      rw [h1]
      simp (config := { decide := true }) only [if_false, if_true, ite_true, ite_false]
      all_goals first
        | rfl
        | rw [if_pos (by omega)]
        | rw [if_neg (by omega)]
    · refine ev_iconst (X := M_X8_joined) (pc := 117) dX8_joined_117 ?_
      refine ev_goto (X := M_X8_joined) (pc := 118) (tgt := 122) dX8_joined_118 (by decide) ?_
      refine ev_iret (X := M_X8_joined) (pc := 122) dX8_joined_122 rfl ?_
      refine ⟨?_, rfl, rfl⟩
      unfold jn
      rw [h1]
      simp (config := { decide := true }) only [if_false, if_true, ite_true, ite_false]
      all_goals first
        | rfl
        | rw [if_pos (by omega)]
        | rw [if_neg (by omega)]
  · refine ev_lookup (X := M_X8_joined) (pc := 1) (off := 122) (tgt := 123) dX8_joined_1 (by omega) (by decide) (by rw [h1]; rfl) (by decide) ?_
    refine ev_iload_n (X := M_X8_joined) (pc := 123) dX8_joined_123 rfl ?_
    refine ev_iload_n (X := M_X8_joined) (pc := 124) dX8_joined_124 rfl ?_
    refine ev_icmp_ne (X := M_X8_joined) (pc := 125) (tgt := 132) dX8_joined_125 (by decide) (by omega) (by omega) (fun h125 => ?_) (fun h125 => ?_)
    · refine ev_iconst (X := M_X8_joined) (pc := 132) dX8_joined_132 ?_
      refine ev_iret (X := M_X8_joined) (pc := 133) dX8_joined_133 rfl ?_
      refine ⟨?_, rfl, rfl⟩
      unfold jn
      rw [h1]
      simp (config := { decide := true }) only [if_false, if_true, ite_true, ite_false]
      all_goals first
        | rfl
        | rw [if_pos (by omega)]
        | rw [if_neg (by omega)]
    · refine ev_iconst (X := M_X8_joined) (pc := 128) dX8_joined_128 ?_
      refine ev_goto (X := M_X8_joined) (pc := 129) (tgt := 133) dX8_joined_129 (by decide) ?_
      refine ev_iret (X := M_X8_joined) (pc := 133) dX8_joined_133 rfl ?_
      refine ⟨?_, rfl, rfl⟩
      unfold jn
      rw [h1]
      simp (config := { decide := true }) only [if_false, if_true, ite_true, ite_false]
      all_goals first
        | rfl
        | rw [if_pos (by omega)]
        | rw [if_neg (by omega)]
  · refine ev_lookup (X := M_X8_joined) (pc := 1) (off := 133) (tgt := 134) dX8_joined_1 (by omega) (by decide) (by rw [h1]; rfl) (by decide) ?_
    refine ev_iload_n (X := M_X8_joined) (pc := 134) dX8_joined_134 rfl ?_
    refine ev_iload_n (X := M_X8_joined) (pc := 135) dX8_joined_135 rfl ?_
    refine ev_icmp_le (X := M_X8_joined) (pc := 136) (tgt := 143) dX8_joined_136 (by decide) (by omega) (by omega) (fun h136 => ?_) (fun h136 => ?_)
    · refine ev_iconst (X := M_X8_joined) (pc := 143) dX8_joined_143 ?_
      refine ev_iret (X := M_X8_joined) (pc := 144) dX8_joined_144 rfl ?_
      refine ⟨?_, rfl, rfl⟩
      unfold jn
      rw [h1]
      simp (config := { decide := true }) only [if_false, if_true, ite_true, ite_false]
      all_goals first
        | rfl
        | rw [if_pos (by omega)]
        | rw [if_neg (by omega)]
    · refine ev_iconst (X := M_X8_joined) (pc := 139) dX8_joined_139 ?_
      refine ev_goto (X := M_X8_joined) (pc := 140) (tgt := 144) dX8_joined_140 (by decide) ?_
      refine ev_iret (X := M_X8_joined) (pc := 144) dX8_joined_144 rfl ?_
      refine ⟨?_, rfl, rfl⟩
      unfold jn
      rw [h1]
      simp (config := { decide := true }) only [if_false, if_true, ite_true, ite_false]
      all_goals first
        | rfl
        | rw [if_pos (by omega)]
        | rw [if_neg (by omega)]
  · refine ev_lookup (X := M_X8_joined) (pc := 1) (off := 83) (tgt := 84) dX8_joined_1 (by omega) (by decide) (by rw [h1]; rfl) (by decide) ?_
    refine ev_iload_n (X := M_X8_joined) (pc := 84) dX8_joined_84 rfl ?_
    refine ev_if_ne (X := M_X8_joined) (pc := 85) (tgt := 92) dX8_joined_85 (by decide) (by omega) (fun h85 => ?_) (fun h85 => ?_)
    · refine ev_iconst (X := M_X8_joined) (pc := 92) dX8_joined_92 ?_
      refine ev_goto (X := M_X8_joined) (pc := 93) (tgt := 97) dX8_joined_93 (by decide) ?_
      refine ev_iret (X := M_X8_joined) (pc := 97) dX8_joined_97 rfl ?_
      refine ⟨?_, rfl, rfl⟩
      unfold jn
      rw [h1]
      simp (config := { decide := true }) only [if_false, if_true, ite_true, ite_false]
      all_goals first
        | rfl
        | rw [if_pos (by omega)]
        | rw [if_neg (by omega)]
    · refine ev_iload_n (X := M_X8_joined) (pc := 88) dX8_joined_88 rfl ?_
      refine ev_if_eq (X := M_X8_joined) (pc := 89) (tgt := 96) dX8_joined_89 (by decide) (by omega) (fun h89 => ?_) (fun h89 => ?_)
      · refine ev_iconst (X := M_X8_joined) (pc := 96) dX8_joined_96 ?_
        refine ev_iret (X := M_X8_joined) (pc := 97) dX8_joined_97 rfl ?_
        refine ⟨?_, rfl, rfl⟩
        unfold jn
        rw [h1]
        simp (config := { decide := true }) only [if_false, if_true, ite_true, ite_false]
        all_goals first
          | rfl
          | rw [if_pos (by omega)]
          | rw [if_neg (by omega)]
      · refine ev_iconst (X := M_X8_joined) (pc := 92) dX8_joined_92 ?_
        refine ev_goto (X := M_X8_joined) (pc := 93) (tgt := 97) dX8_joined_93 (by decide) ?_
        refine ev_iret (X := M_X8_joined) (pc := 97) dX8_joined_97 rfl ?_
        refine ⟨?_, rfl, rfl⟩
        unfold jn
        rw [h1]
        simp (config := { decide := true }) only [if_false, if_true, ite_true, ite_false]
        all_goals first
          | rfl
          | rw [if_pos (by omega)]
          | rw [if_neg (by omega)]
  · refine ev_lookup (X := M_X8_joined) (pc := 1) (off := 168) (tgt := 169) dX8_joined_1 (by omega) (by decide) (by rw [h1]; rfl) (by decide) ?_
    refine ev_iload_n (X := M_X8_joined) (pc := 169) dX8_joined_169 rfl ?_
    refine ev_if_ne (X := M_X8_joined) (pc := 170) (tgt := 177) dX8_joined_170 (by decide) (by omega) (fun h170 => ?_) (fun h170 => ?_)
    · refine ev_iload_n (X := M_X8_joined) (pc := 177) dX8_joined_177 rfl ?_
      refine ev_iload_n (X := M_X8_joined) (pc := 178) dX8_joined_178 rfl ?_
      refine ev_iremg (X := M_X8_joined) (pc := 179) dX8_joined_179 (i32_ne0 hr h170) ?_
      refine ev_iret (X := M_X8_joined) (pc := 180) dX8_joined_180 rfl ?_
      refine ⟨?_, rfl, rfl⟩
      unfold jn
      rw [h1]
      simp (config := { decide := true }) only [if_false, if_true, ite_true, ite_false]
      all_goals first
        | rfl
        | rw [if_pos (by omega)]
        | rw [if_neg (by omega)]
    · refine ev_iconst (X := M_X8_joined) (pc := 173) dX8_joined_173 ?_
      refine ev_goto (X := M_X8_joined) (pc := 174) (tgt := 180) dX8_joined_174 (by decide) ?_
      refine ev_iret (X := M_X8_joined) (pc := 180) dX8_joined_180 rfl ?_
      refine ⟨?_, rfl, rfl⟩
      unfold jn
      rw [h1]
      simp (config := { decide := true }) only [if_false, if_true, ite_true, ite_false]
      all_goals first
        | rfl
        | rw [if_pos (by omega)]
        | rw [if_neg (by omega)]
