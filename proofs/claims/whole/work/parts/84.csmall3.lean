theorem c_count {γ : Gh} {K : Sk} {V : Mm} (hL : Lay K) {D : Int → Int} (hct : DCnt D) {tm w : Int} (c4 : V 102 4 = nowS D) (c6 : V 102 6 = D 21) (c7 : V 102 7 = D 22) (c8 : V 102 8 = D 23) (ct : V 105 1 = D 24) (cw : V 107 1 = D 25) (cb : V 143 1 = tm) (hw : R32 w) : Call γ M_X11_count 1 0 0 [vR 100, vI w] K V (Rt (some (vI (aR (coK w) (coX D tm w)))) K (cE V (coK w))) := by
  refine call_of (by decide +kernel) (by intro v hv; simp only [List.mem_cons, List.not_mem_nil, or_false] at hv; rcases hv with rfl | rfl <;> exact fun q => by cases q) (Nat.le_of_ble_eq_true rfl) ?_
  refine ev_lsE (ls' := [_, _]) rfl ?_
  obtain ⟨n0, n1, n2, n3⟩ := nowS_cnt hct
  have hsl := isSt_lt (nowS_st hct)
  refine ev_iload_n (X := M_X11_count) (pc := 0) dX11_count_0 rfl ?_
  rcases (show w = 0 ∨ w = 1 ∨ w = 2 ∨ w = 3 ∨ w = 4 ∨ w = 5 ∨ w = 6 ∨ w = 7 ∨ (w < 0 ∨ 7 < w) by omega) with h1 | h1 | h1 | h1 | h1 | h1 | h1 | h1 | h1
  · refine ev_tableIn (X := M_X11_count) (pc := 1) (off := 47) (tgt := 48) dX11_count_1 (by omega) (by omega) (by omega) (by rw [h1]; rfl) (by decide) ?_
    refine ev_aload_n (X := M_X11_count) (pc := 48) dX11_count_48 rfl ?_
    refine ev_getRe (X := M_X11_count) (pc := 49) dX11_count_49 fl_X11_20_11 (lO_100 hL) rfl (lR_100_0 hL) ?_
    refine ev_getIe (X := M_X11_count) (pc := 52) (ki := 4) dX11_count_52 fl_X11_61_2 (lO_102 hL) (by decide) rfl (c4) ?_
    refine ev_iret (X := M_X11_count) (pc := 55) dX11_count_55 rfl ?_
    first
      | (have hk : coK w = 0 := by unfold coK; rw [if_pos (by omega)]
         rw [hk]
         refine ⟨congrArg (fun z => some (vI z)) ?_, rfl, rfl⟩
         show _ = coX D tm w
         rw [h1]
         first
           | rfl
           | exact n3)
      | (have hk : coK w = 1 := by unfold coK; rw [if_neg (by omega)]
         rw [hk]
         exact ⟨rfl, rfl, rfl⟩)
  · refine ev_tableIn (X := M_X11_count) (pc := 1) (off := 55) (tgt := 56) dX11_count_1 (by omega) (by omega) (by omega) (by rw [h1]; rfl) (by decide) ?_
    refine ev_aload_n (X := M_X11_count) (pc := 56) dX11_count_56 rfl ?_
    refine ev_getRe (X := M_X11_count) (pc := 57) dX11_count_57 fl_X11_20_11 (lO_100 hL) rfl (lR_100_0 hL) ?_
    refine ev_getIe (X := M_X11_count) (pc := 60) (ki := 4) dX11_count_60 fl_X11_61_2 (lO_102 hL) (by decide) rfl (c4) ?_
    refine ev_staticR (X := M_X11_count) (Y := M_X11_beingsOf) (pc := 63) dX11_count_63 mk_X11_beingsOf kw_181 kw_182 (c_beingsOf (by omega)) rfl (by decide) rfl (Nat.le_of_ble_eq_true rfl) (Nat.zero_add _) (Nat.zero_add _) ?_
    refine ev_iret (X := M_X11_count) (pc := 66) dX11_count_66 rfl ?_
    first
      | (have hk : coK w = 0 := by unfold coK; rw [if_pos (by omega)]
         rw [hk]
         refine ⟨congrArg (fun z => some (vI z)) ?_, rfl, rfl⟩
         show _ = coX D tm w
         rw [h1]
         first
           | rfl
           | exact n3)
      | (have hk : coK w = 1 := by unfold coK; rw [if_neg (by omega)]
         rw [hk]
         exact ⟨rfl, rfl, rfl⟩)
  · refine ev_tableIn (X := M_X11_count) (pc := 1) (off := 66) (tgt := 67) dX11_count_1 (by omega) (by omega) (by omega) (by rw [h1]; rfl) (by decide) ?_
    refine ev_aload_n (X := M_X11_count) (pc := 67) dX11_count_67 rfl ?_
    refine ev_getRe (X := M_X11_count) (pc := 68) dX11_count_68 fl_X11_20_11 (lO_100 hL) rfl (lR_100_0 hL) ?_
    refine ev_getIe (X := M_X11_count) (pc := 71) (ki := 6) dX11_count_71 fl_X11_156_2 (lO_102 hL) (by decide) rfl (c6) ?_
    refine ev_iret (X := M_X11_count) (pc := 74) dX11_count_74 rfl ?_
    first
      | (have hk : coK w = 0 := by unfold coK; rw [if_pos (by omega)]
         rw [hk]
         refine ⟨congrArg (fun z => some (vI z)) ?_, rfl, rfl⟩
         show _ = coX D tm w
         rw [h1]
         first
           | rfl
           | exact n3)
      | (have hk : coK w = 1 := by unfold coK; rw [if_neg (by omega)]
         rw [hk]
         exact ⟨rfl, rfl, rfl⟩)
  · refine ev_tableIn (X := M_X11_count) (pc := 1) (off := 74) (tgt := 75) dX11_count_1 (by omega) (by omega) (by omega) (by rw [h1]; rfl) (by decide) ?_
    refine ev_aload_n (X := M_X11_count) (pc := 75) dX11_count_75 rfl ?_
    refine ev_getRe (X := M_X11_count) (pc := 76) dX11_count_76 fl_X11_20_11 (lO_100 hL) rfl (lR_100_0 hL) ?_
    refine ev_getIe (X := M_X11_count) (pc := 79) (ki := 7) dX11_count_79 fl_X11_283_2 (lO_102 hL) (by decide) rfl (c7) ?_
    refine ev_iret (X := M_X11_count) (pc := 82) dX11_count_82 rfl ?_
    first
      | (have hk : coK w = 0 := by unfold coK; rw [if_pos (by omega)]
         rw [hk]
         refine ⟨congrArg (fun z => some (vI z)) ?_, rfl, rfl⟩
         show _ = coX D tm w
         rw [h1]
         first
           | rfl
           | exact n3)
      | (have hk : coK w = 1 := by unfold coK; rw [if_neg (by omega)]
         rw [hk]
         exact ⟨rfl, rfl, rfl⟩)
  · refine ev_tableIn (X := M_X11_count) (pc := 1) (off := 82) (tgt := 83) dX11_count_1 (by omega) (by omega) (by omega) (by rw [h1]; rfl) (by decide) ?_
    refine ev_aload_n (X := M_X11_count) (pc := 83) dX11_count_83 rfl ?_
    refine ev_getRe (X := M_X11_count) (pc := 84) dX11_count_84 fl_X11_20_11 (lO_100 hL) rfl (lR_100_0 hL) ?_
    refine ev_getRe (X := M_X11_count) (pc := 87) dX11_count_87 fl_X11_119_2 (lO_102 hL) rfl (lR_102_2 hL) ?_
    refine ev_getIe (X := M_X11_count) (pc := 90) (ki := 1) dX11_count_90 fl_X11_122_5 (lO_105 hL) (by decide) rfl (ct) ?_
    refine ev_iret (X := M_X11_count) (pc := 93) dX11_count_93 rfl ?_
    first
      | (have hk : coK w = 0 := by unfold coK; rw [if_pos (by omega)]
         rw [hk]
         refine ⟨congrArg (fun z => some (vI z)) ?_, rfl, rfl⟩
         show _ = coX D tm w
         rw [h1]
         first
           | rfl
           | exact n3)
      | (have hk : coK w = 1 := by unfold coK; rw [if_neg (by omega)]
         rw [hk]
         exact ⟨rfl, rfl, rfl⟩)
  · refine ev_tableIn (X := M_X11_count) (pc := 1) (off := 93) (tgt := 94) dX11_count_1 (by omega) (by omega) (by omega) (by rw [h1]; rfl) (by decide) ?_
    refine ev_aload_n (X := M_X11_count) (pc := 94) dX11_count_94 rfl ?_
    refine ev_getRe (X := M_X11_count) (pc := 95) dX11_count_95 fl_X11_20_11 (lO_100 hL) rfl (lR_100_0 hL) ?_
    refine ev_getRe (X := M_X11_count) (pc := 98) dX11_count_98 fl_X11_277_2 (lO_102 hL) rfl (lR_102_3 hL) ?_
    refine ev_getIe (X := M_X11_count) (pc := 101) (ki := 1) dX11_count_101 fl_X11_122_5 (lO_107 hL) (by decide) rfl (cw) ?_
    refine ev_iret (X := M_X11_count) (pc := 104) dX11_count_104 rfl ?_
    first
      | (have hk : coK w = 0 := by unfold coK; rw [if_pos (by omega)]
         rw [hk]
         refine ⟨congrArg (fun z => some (vI z)) ?_, rfl, rfl⟩
         show _ = coX D tm w
         rw [h1]
         first
           | rfl
           | exact n3)
      | (have hk : coK w = 1 := by unfold coK; rw [if_neg (by omega)]
         rw [hk]
         exact ⟨rfl, rfl, rfl⟩)
  · refine ev_tableIn (X := M_X11_count) (pc := 1) (off := 104) (tgt := 105) dX11_count_1 (by omega) (by omega) (by omega) (by rw [h1]; rfl) (by decide) ?_
    refine ev_aload_n (X := M_X11_count) (pc := 105) dX11_count_105 rfl ?_
    refine ev_getRe (X := M_X11_count) (pc := 106) dX11_count_106 fl_X11_37_11 (lO_100 hL) rfl (lR_100_3 hL) ?_
    refine ev_getIe (X := M_X11_count) (pc := 109) (ki := 1) dX11_count_109 fl_X11_122_5 (lO_143 hL) (by decide) rfl (cb) ?_
    refine ev_iret (X := M_X11_count) (pc := 112) dX11_count_112 rfl ?_
    first
      | (have hk : coK w = 0 := by unfold coK; rw [if_pos (by omega)]
         rw [hk]
         refine ⟨congrArg (fun z => some (vI z)) ?_, rfl, rfl⟩
         show _ = coX D tm w
         rw [h1]
         first
           | rfl
           | exact n3)
      | (have hk : coK w = 1 := by unfold coK; rw [if_neg (by omega)]
         rw [hk]
         exact ⟨rfl, rfl, rfl⟩)
  · refine ev_tableIn (X := M_X11_count) (pc := 1) (off := 112) (tgt := 113) dX11_count_1 (by omega) (by omega) (by omega) (by rw [h1]; rfl) (by decide) ?_
    refine ev_aload_n (X := M_X11_count) (pc := 113) dX11_count_113 rfl ?_
    refine ev_getRe (X := M_X11_count) (pc := 114) dX11_count_114 fl_X11_20_11 (lO_100 hL) rfl (lR_100_0 hL) ?_
    refine ev_getIe (X := M_X11_count) (pc := 117) (ki := 8) dX11_count_117 fl_X11_233_2 (lO_102 hL) (by decide) rfl (c8) ?_
    refine ev_iret (X := M_X11_count) (pc := 120) dX11_count_120 rfl ?_
    first
      | (have hk : coK w = 0 := by unfold coK; rw [if_pos (by omega)]
         rw [hk]
         refine ⟨congrArg (fun z => some (vI z)) ?_, rfl, rfl⟩
         show _ = coX D tm w
         rw [h1]
         first
           | rfl
           | exact n3)
      | (have hk : coK w = 1 := by unfold coK; rw [if_neg (by omega)]
         rw [hk]
         exact ⟨rfl, rfl, rfl⟩)
  · refine ev_tableOut (X := M_X11_count) (pc := 1) (tgt := 121) dX11_count_1 (by omega) (by omega) (by decide) ?_
    refine ev_aload_n (X := M_X11_count) (pc := 121) dX11_count_121 rfl ?_
    refine ev_ldc (X := M_X11_count) (pc := 122) (v := -1000000001) dX11_count_122 kw_318 (by decide) ?_
    refine ev_virtR (X := M_X11_count) (Y := M_X11_error) (pc := 124) (ci := 11) dX11_count_124 mk_X11_error rfl kw_319 kw_321 kp_0 (lO_100 hL) (c_error hL (k := 1) (by decide) rfl) rfl (by decide) rfl (Nat.le_of_ble_eq_true rfl) (Nat.zero_add _) (Nat.zero_add _) ?_
    refine ev_iret (X := M_X11_count) (pc := 127) dX11_count_127 rfl ?_
    first
      | (have hk : coK w = 0 := by unfold coK; rw [if_pos (by omega)]
         rw [hk]
         refine ⟨congrArg (fun z => some (vI z)) ?_, rfl, rfl⟩
         show _ = coX D tm w
         rw [h1]
         first
           | rfl
           | exact n3)
      | (have hk : coK w = 1 := by unfold coK; rw [if_neg (by omega)]
         rw [hk]
         exact ⟨rfl, rfl, rfl⟩)
theorem row_107 {K : Sk} (hL : Lay K) : RowAt K 107 108 20 := ⟨lO_107 hL, lR_107_0 hL, lS_108 hL, by decide, by decide, by decide, by decide⟩
theorem row_143 {K : Sk} (hL : Lay K) : RowAt K 143 144 40 := ⟨lO_143 hL, lR_143_0 hL, lS_144 hL, by decide, by decide, by decide, by decide⟩
theorem c_tell {γ : Gh} {K : Sk} {V : Mm} (hL : Lay K) {D : Int → Int} (h25 : 0 ≤ D 25 ∧ D 25 ≤ 20) (cw : V 107 1 = D 25) {v : Int} : Call γ M_X11_tell 1 0 0 [vR 100, vI v] K V (Rt (some (vI (aR (teK D) (D 25 + 1)))) K (if teK D = 0 then rAdd V 107 108 v else err V 4)) := by
  refine call_of (by decide +kernel) (by intro v hv; simp only [List.mem_cons, List.not_mem_nil, or_false] at hv; rcases hv with rfl | rfl <;> exact fun q => by cases q) (Nat.le_of_ble_eq_true rfl) ?_
  refine ev_lsE (ls' := [_, _]) rfl ?_
  have hz : 0 ≤ V 107 1 ∧ V 107 1 ≤ (20 : Nat) := by rw [cw]; exact h25
  refine ev_aload_n (X := M_X11_tell) (pc := 0) dX11_tell_0 rfl ?_
  refine ev_getRe (X := M_X11_tell) (pc := 1) dX11_tell_1 fl_X11_20_11 (lO_100 hL) rfl (lR_100_0 hL) ?_
  refine ev_getRe (X := M_X11_tell) (pc := 4) dX11_tell_4 fl_X11_277_2 (lO_102 hL) rfl (lR_102_3 hL) ?_
  refine ev_iload_n (X := M_X11_tell) (pc := 7) dX11_tell_7 rfl ?_
  refine ev_virtR (X := M_X11_tell) (Y := M_X5_add) (pc := 8) (ci := 5) dX11_tell_8 mk_X5_add rfl kw_449 kw_450 kw_451 (lO_107 hL) (c_Row_add (row_107 hL) hz) rfl (by decide) rfl (Nat.le_of_ble_eq_true rfl) (Nat.zero_add _) (Nat.zero_add _) ?_
  refine ev_if_eq (X := M_X11_tell) (pc := 11) (tgt := 27) dX11_tell_11 (by decide) (by split <;> decide) (fun h11 => ?_) (fun h11 => ?_)
  · have hno : ¬ V 107 1 < ((20 : Nat) : Int) := fun z => by rw [if_pos z] at h11; exact absurd h11 (by decide)
    rw [if_neg hno]
    have hk : teK D = 4 := by unfold teK; rw [if_pos (by rw [cw] at hno; omega)]
    refine ev_aload_n (X := M_X11_tell) (pc := 27) dX11_tell_27 rfl ?_
    refine ev_ldc (X := M_X11_tell) (pc := 28) (v := -1000000004) dX11_tell_28 kw_327 (by decide) ?_
    refine ev_virtR (X := M_X11_tell) (Y := M_X11_error) (pc := 30) (ci := 11) dX11_tell_30 mk_X11_error rfl kw_319 kw_321 kp_0 (lO_100 hL) (c_error hL (k := 4) (by decide) rfl) rfl (by decide) rfl (Nat.le_of_ble_eq_true rfl) (Nat.zero_add _) (Nat.zero_add _) ?_
    refine ev_iret (X := M_X11_tell) (pc := 33) dX11_tell_33 rfl ?_
    rw [hk]
    exact ⟨rfl, rfl, rfl⟩
  · have hye : V 107 1 < ((20 : Nat) : Int) := Decidable.byContradiction fun z => h11 (by rw [if_neg z])
    rw [if_pos hye]
    have hk : teK D = 0 := by unfold teK; rw [if_neg (by rw [cw] at hye; omega)]
    have e : rAdd V 107 108 v 107 1 = D 25 + 1 := by unfold rAdd; rw [wr_self, cw]
    refine ev_aload_n (X := M_X11_tell) (pc := 14) dX11_tell_14 rfl ?_
    refine ev_getRe (X := M_X11_tell) (pc := 15) dX11_tell_15 fl_X11_20_11 (lO_100 hL) rfl (lR_100_0 hL) ?_
    refine ev_getRe (X := M_X11_tell) (pc := 18) dX11_tell_18 fl_X11_277_2 (lO_102 hL) rfl (lR_102_3 hL) ?_
    refine ev_getIe (X := M_X11_tell) (pc := 21) (ki := 1) dX11_tell_21 fl_X11_122_5 (lO_107 hL) (by decide) rfl (e) ?_
    refine ev_goto (X := M_X11_tell) (pc := 24) (tgt := 33) dX11_tell_24 (by decide) ?_
    refine ev_iret (X := M_X11_tell) (pc := 33) dX11_tell_33 rfl ?_
    rw [hk]
    exact ⟨rfl, rfl, rfl⟩
theorem c_trace {γ : Gh} {K : Sk} {V : Mm} (hL : Lay K) {i tm : Int} (hi : R32 i) (cb : V 143 1 = tm) (ht : 0 ≤ tm ∧ tm ≤ 40) : Call γ M_X11_trace 1 0 0 [vR 100, vI i] K V (Rt (some (vI (aR (if 0 ≤ i ∧ i < tm then 0 else 2) (V 144 i)))) K (cE V (if 0 ≤ i ∧ i < tm then 0 else 2))) := by
  refine call_of (by decide +kernel) (by intro v hv; simp only [List.mem_cons, List.not_mem_nil, or_false] at hv; rcases hv with rfl | rfl <;> exact fun q => by cases q) (Nat.le_of_ble_eq_true rfl) ?_
  refine ev_lsE (ls' := [_, _]) rfl ?_
  have hz : 0 ≤ V 143 1 ∧ V 143 1 ≤ (40 : Nat) := by rw [cb]; exact ht
  refine ev_aload_n (X := M_X11_trace) (pc := 0) dX11_trace_0 rfl ?_
  refine ev_getRe (X := M_X11_trace) (pc := 1) dX11_trace_1 fl_X11_37_11 (lO_100 hL) rfl (lR_100_3 hL) ?_
  refine ev_iload_n (X := M_X11_trace) (pc := 4) dX11_trace_4 rfl ?_
  refine ev_virtR (X := M_X11_trace) (Y := M_X5_has) (pc := 5) (ci := 5) dX11_trace_5 mk_X5_has rfl kw_913 kw_914 kw_915 (lO_143 hL) (c_Row_has (row_143 hL) hz hi) rfl (by decide) rfl (Nat.le_of_ble_eq_true rfl) (Nat.zero_add _) (Nat.zero_add _) ?_
  rw [cb]
  refine ev_if_eq (X := M_X11_trace) (pc := 8) (tgt := 23) dX11_trace_8 (by decide) (by split <;> decide) (fun h8 => ?_) (fun h8 => ?_)
  · have hno : ¬ (0 ≤ i ∧ i < tm) := fun z => by rw [if_pos z] at h8; exact absurd h8 (by decide)
    refine ev_aload_n (X := M_X11_trace) (pc := 23) dX11_trace_23 rfl ?_
    refine ev_ldc (X := M_X11_trace) (pc := 24) (v := -1000000002) dX11_trace_24 kw_682 (by decide) ?_
    refine ev_virtR (X := M_X11_trace) (Y := M_X11_error) (pc := 26) (ci := 11) dX11_trace_26 mk_X11_error rfl kw_319 kw_321 kp_0 (lO_100 hL) (c_error hL (k := 2) (by decide) rfl) rfl (by decide) rfl (Nat.le_of_ble_eq_true rfl) (Nat.zero_add _) (Nat.zero_add _) ?_
    refine ev_iret (X := M_X11_trace) (pc := 29) dX11_trace_29 rfl ?_
    first
      | (rw [if_pos hye]
         exact ⟨rfl, rfl, rfl⟩)
      | (rw [if_neg hno]
         exact ⟨rfl, rfl, rfl⟩)
  · have hye : 0 ≤ i ∧ i < tm := Decidable.byContradiction fun z => h8 (by rw [if_neg z])
    refine ev_aload_n (X := M_X11_trace) (pc := 11) dX11_trace_11 rfl ?_
    refine ev_getRe (X := M_X11_trace) (pc := 12) dX11_trace_12 fl_X11_37_11 (lO_100 hL) rfl (lR_100_3 hL) ?_
    refine ev_getRe (X := M_X11_trace) (pc := 15) dX11_trace_15 fl_X11_252_5 (lO_143 hL) rfl (lR_143_0 hL) ?_
    refine ev_iload_n (X := M_X11_trace) (pc := 18) dX11_trace_18 rfl ?_
    refine ev_iaload (X := M_X11_trace) (pc := 19) dX11_trace_19 (lS_144 hL) (by omega) ?_
    refine ev_goto (X := M_X11_trace) (pc := 20) (tgt := 29) dX11_trace_20 (by decide) ?_
    refine ev_iret (X := M_X11_trace) (pc := 29) dX11_trace_29 rfl ?_
    first
      | (rw [if_pos hye]
         exact ⟨rfl, rfl, rfl⟩)
      | (rw [if_neg hno]
         exact ⟨rfl, rfl, rfl⟩)
