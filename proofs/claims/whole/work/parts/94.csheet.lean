/-! ===== the class: sheets ===== -/
def shW (V : Mm) (s b n : Int) : Mm := wr (setr (wr V 154 s b) (shA s + 1) (flr (V (shA s + 1)) ((40 : Nat) : Int) 0)) (shA s) 1 (if b = 0 then 0 else n)
theorem shA_r {s : Int} (hs : 0 ≤ s ∧ s < 4) : 146 ≤ shA s ∧ shA s ≤ 152 ∧ ((shA s : Nat) : Int) = 146 + 2 * s := by unfold shA; omega
def cBn (V : Mm) : Prop := ∀ s, 0 ≤ s → s < 4 → (0 ≤ V 154 s ∧ V 154 s ≤ 32) ∧ (0 ≤ V (shA s) 1 ∧ V (shA s) 1 ≤ 40)
theorem c_sheet {γ : Gh} {K : Sk} {V : Mm} (hL : Lay K) (hB : cBn V) {s b n : Int} (hs : R32 s) (hb : R32 b) (hn : R32 n) : Call γ M_X11_sheet 2 0 0 [vR 100, vI s, vI b, vI n] K V (Rt (some (vI (aR (shK s b n) 1))) K (if shK s b n = 0 then shW V s b n else err V (shK s b n))) := by
  refine call_of (by decide +kernel) (by intro v hv; simp only [List.mem_cons, List.not_mem_nil, or_false] at hv; rcases hv with rfl | rfl | rfl | rfl <;> exact fun q => by cases q) (Nat.le_of_ble_eq_true rfl) ?_
  refine ev_lsE (ls' := [_, _, _, _]) rfl ?_
  have main : (0 ≤ s ∧ s < 4) → (b = 0 ∨ b = 8 ∨ b = 16 ∨ b = 32) → Ev γ M_X11_sheet 2 0 0 36 [vR 100, vI s, vI b, vI n] [] K V (Rt (some (vI (aR (shK s b n) 1))) K (if shK s b n = 0 then shW V s b n else err V (shK s b n))) := by
    intro hs4 hb4
    obtain ⟨z1, z2⟩ := hB s hs4.1 hs4.2
    obtain ⟨hr, hro⟩ := shA_row hL hs4
    have hA := shA_r hs4
    have hk0 : shK s b n = if b ≠ 0 ∧ n < 0 then 3 else if b ≠ 0 ∧ 40 < n then 1 else 0 := by unfold shK; rw [if_pos ⟨hs4, hb4⟩]
    obtain ⟨r, hrr⟩ : ∃ r, shA s = r := ⟨_, rfl⟩
    have fin : ∀ x, x = (if b = 0 then 0 else n) → shK s b n = 0 → 0 ≤ x ∧ x ≤ 40 → Ev γ M_X11_sheet 2 0 0 90 [vR 100, vI s, vI b, vI n] [vI x, vR r] K (wr V 154 s b) (Rt (some (vI (aR (shK s b n) 1))) K (if shK s b n = 0 then shW V s b n else err V (shK s b n))) := by
      intro x hx hk hx4
      rw [hk, if_pos rfl]
      unfold shW
      rw [hrr] at hro z2 hA ⊢
      have e1 : wr V 154 s b r = V r := wr_off (by omega)
      have e2 : wr V 154 s b (r + 1) = V (r + 1) := wr_off (by omega)
      have hO := hro.1
      refine ev_virtV (X := M_X11_sheet) (Y := M_X5_zeros) (pc := 90) (ci := 5) dX11_sheet_90 mk_X5_zeros rfl kw_924 kw_925 kw_926 hO (c_Row_zeros (m := x) hro (by rw [e1]; exact z2) hx4) rfl (by decide) rfl (Nat.le_of_ble_eq_true rfl) (Nat.zero_add _) (Nat.zero_add _) ?_
      refine ev_iconst (X := M_X11_sheet) (pc := 93) dX11_sheet_93 ?_
      refine ev_iret (X := M_X11_sheet) (pc := 94) dX11_sheet_94 rfl ?_
      refine ⟨rfl, rfl, ?_⟩
      rw [e2, hx]
    refine ev_iload_n (X := M_X11_sheet) (pc := 36) dX11_sheet_36 rfl ?_
    refine ev_if_eq (X := M_X11_sheet) (pc := 37) (tgt := 51) dX11_sheet_37 (by decide) (by omega) (fun h37 => ?_) (fun h37 => ?_)
    · refine ev_iload_n (X := M_X11_sheet) (pc := 51) dX11_sheet_51 rfl ?_
      refine ev_if_eq (X := M_X11_sheet) (pc := 52) (tgt := 68) dX11_sheet_52 (by decide) (by omega) (fun h52 => ?_) (fun h52 => ?_)
      · refine ev_aload_n (X := M_X11_sheet) (pc := 68) dX11_sheet_68 rfl ?_
        refine ev_getRe (X := M_X11_sheet) (pc := 69) dX11_sheet_69 fl_X11_45_11 (lO_100 hL) rfl (lR_100_5 hL) ?_
        refine ev_iload_n (X := M_X11_sheet) (pc := 72) dX11_sheet_72 rfl ?_
        refine ev_iload_n (X := M_X11_sheet) (pc := 73) dX11_sheet_73 rfl ?_
        refine ev_iastore (X := M_X11_sheet) (pc := 74) dX11_sheet_74 (by decide) (lS_154 hL) (by omega) ?_
        refine ev_aload_n (X := M_X11_sheet) (pc := 75) dX11_sheet_75 rfl ?_
        refine ev_getRe (X := M_X11_sheet) (pc := 76) dX11_sheet_76 fl_X11_41_11 (lO_100 hL) rfl (lR_100_4 hL) ?_
        refine ev_iload_n (X := M_X11_sheet) (pc := 79) dX11_sheet_79 rfl ?_
        refine ev_aaloadE (X := M_X11_sheet) (pc := 80) dX11_sheet_80 (lS_145 hL) (by decide) (by decide) (by omega) (hr.trans hrr) ?_
        refine ev_iload_n (X := M_X11_sheet) (pc := 81) dX11_sheet_81 rfl ?_
        refine ev_if_ne (X := M_X11_sheet) (pc := 82) (tgt := 89) dX11_sheet_82 (by decide) (by omega) (fun h82 => ?_) (fun h82 => ?_)
        · refine ev_iload_n (X := M_X11_sheet) (pc := 89) dX11_sheet_89 rfl ?_
          first
            | (have hk : shK s b n = 0 := by rw [hk0, if_neg (fun z => by omega), if_neg (fun z => by omega)]
               first
                 | exact ev_weak (fin 0 (by rw [if_pos (by omega)]) hk (by decide)) ⟨rfl, rfl, rfl, rfl, trivial⟩
                 | exact ev_weak (fin n (by rw [if_neg (by omega)]) hk (by omega)) ⟨rfl, rfl, rfl, rfl, trivial⟩)
            | (exfalso; omega)
        · refine ev_iconst (X := M_X11_sheet) (pc := 85) dX11_sheet_85 ?_
          refine ev_goto (X := M_X11_sheet) (pc := 86) (tgt := 90) dX11_sheet_86 (by decide) ?_
          first
            | (have hk : shK s b n = 0 := by rw [hk0, if_neg (fun z => by omega), if_neg (fun z => by omega)]
               first
                 | exact ev_weak (fin 0 (by rw [if_pos (by omega)]) hk (by decide)) ⟨rfl, rfl, rfl, rfl, trivial⟩
                 | exact ev_weak (fin n (by rw [if_neg (by omega)]) hk (by omega)) ⟨rfl, rfl, rfl, rfl, trivial⟩)
            | (exfalso; omega)
      · refine ev_iload_n (X := M_X11_sheet) (pc := 55) dX11_sheet_55 rfl ?_
        refine ev_bipush (X := M_X11_sheet) (pc := 56) dX11_sheet_56 (by decide) ?_
        refine ev_icmp_le (X := M_X11_sheet) (pc := 58) (tgt := 68) dX11_sheet_58 (by decide) (by omega) (by omega) (fun h58 => ?_) (fun h58 => ?_)
        · refine ev_aload_n (X := M_X11_sheet) (pc := 68) dX11_sheet_68 rfl ?_
          refine ev_getRe (X := M_X11_sheet) (pc := 69) dX11_sheet_69 fl_X11_45_11 (lO_100 hL) rfl (lR_100_5 hL) ?_
          refine ev_iload_n (X := M_X11_sheet) (pc := 72) dX11_sheet_72 rfl ?_
          refine ev_iload_n (X := M_X11_sheet) (pc := 73) dX11_sheet_73 rfl ?_
          refine ev_iastore (X := M_X11_sheet) (pc := 74) dX11_sheet_74 (by decide) (lS_154 hL) (by omega) ?_
          refine ev_aload_n (X := M_X11_sheet) (pc := 75) dX11_sheet_75 rfl ?_
          refine ev_getRe (X := M_X11_sheet) (pc := 76) dX11_sheet_76 fl_X11_41_11 (lO_100 hL) rfl (lR_100_4 hL) ?_
          refine ev_iload_n (X := M_X11_sheet) (pc := 79) dX11_sheet_79 rfl ?_
          refine ev_aaloadE (X := M_X11_sheet) (pc := 80) dX11_sheet_80 (lS_145 hL) (by decide) (by decide) (by omega) (hr.trans hrr) ?_
          refine ev_iload_n (X := M_X11_sheet) (pc := 81) dX11_sheet_81 rfl ?_
          refine ev_if_ne (X := M_X11_sheet) (pc := 82) (tgt := 89) dX11_sheet_82 (by decide) (by omega) (fun h82 => ?_) (fun h82 => ?_)
          · refine ev_iload_n (X := M_X11_sheet) (pc := 89) dX11_sheet_89 rfl ?_
            first
              | (have hk : shK s b n = 0 := by rw [hk0, if_neg (fun z => by omega), if_neg (fun z => by omega)]
                 first
                   | exact ev_weak (fin 0 (by rw [if_pos (by omega)]) hk (by decide)) ⟨rfl, rfl, rfl, rfl, trivial⟩
                   | exact ev_weak (fin n (by rw [if_neg (by omega)]) hk (by omega)) ⟨rfl, rfl, rfl, rfl, trivial⟩)
              | (exfalso; omega)
          · refine ev_iconst (X := M_X11_sheet) (pc := 85) dX11_sheet_85 ?_
            refine ev_goto (X := M_X11_sheet) (pc := 86) (tgt := 90) dX11_sheet_86 (by decide) ?_
            first
              | (have hk : shK s b n = 0 := by rw [hk0, if_neg (fun z => by omega), if_neg (fun z => by omega)]
                 first
                   | exact ev_weak (fin 0 (by rw [if_pos (by omega)]) hk (by decide)) ⟨rfl, rfl, rfl, rfl, trivial⟩
                   | exact ev_weak (fin n (by rw [if_neg (by omega)]) hk (by omega)) ⟨rfl, rfl, rfl, rfl, trivial⟩)
              | (exfalso; omega)
        · first
            | (have hk : shK s b n = 1 := by rw [hk0, if_neg (fun z => by omega), if_pos ⟨h52, by omega⟩])
            | (exfalso; omega)
          refine ev_aload_n (X := M_X11_sheet) (pc := 61) dX11_sheet_61 rfl ?_
          refine ev_ldc (X := M_X11_sheet) (pc := 62) (v := -1000000001) dX11_sheet_62 kw_318 (by decide) ?_
          refine ev_virtR (X := M_X11_sheet) (Y := M_X11_error) (pc := 64) (ci := 11) dX11_sheet_64 mk_X11_error rfl kw_319 kw_321 kp_0 (lO_100 hL) (c_error hL (k := 1) (by decide) rfl) rfl (by decide) rfl (Nat.le_of_ble_eq_true rfl) (Nat.zero_add _) (Nat.zero_add _) ?_
          refine ev_iret (X := M_X11_sheet) (pc := 67) dX11_sheet_67 rfl ?_
          rw [hk]
          exact ⟨rfl, rfl, rfl⟩
    · refine ev_iload_n (X := M_X11_sheet) (pc := 40) dX11_sheet_40 rfl ?_
      refine ev_if_ge (X := M_X11_sheet) (pc := 41) (tgt := 51) dX11_sheet_41 (by decide) (by omega) (fun h41 => ?_) (fun h41 => ?_)
      · refine ev_iload_n (X := M_X11_sheet) (pc := 51) dX11_sheet_51 rfl ?_
        refine ev_if_eq (X := M_X11_sheet) (pc := 52) (tgt := 68) dX11_sheet_52 (by decide) (by omega) (fun h52 => ?_) (fun h52 => ?_)
        · refine ev_aload_n (X := M_X11_sheet) (pc := 68) dX11_sheet_68 rfl ?_
          refine ev_getRe (X := M_X11_sheet) (pc := 69) dX11_sheet_69 fl_X11_45_11 (lO_100 hL) rfl (lR_100_5 hL) ?_
          refine ev_iload_n (X := M_X11_sheet) (pc := 72) dX11_sheet_72 rfl ?_
          refine ev_iload_n (X := M_X11_sheet) (pc := 73) dX11_sheet_73 rfl ?_
          refine ev_iastore (X := M_X11_sheet) (pc := 74) dX11_sheet_74 (by decide) (lS_154 hL) (by omega) ?_
          refine ev_aload_n (X := M_X11_sheet) (pc := 75) dX11_sheet_75 rfl ?_
          refine ev_getRe (X := M_X11_sheet) (pc := 76) dX11_sheet_76 fl_X11_41_11 (lO_100 hL) rfl (lR_100_4 hL) ?_
          refine ev_iload_n (X := M_X11_sheet) (pc := 79) dX11_sheet_79 rfl ?_
          refine ev_aaloadE (X := M_X11_sheet) (pc := 80) dX11_sheet_80 (lS_145 hL) (by decide) (by decide) (by omega) (hr.trans hrr) ?_
          refine ev_iload_n (X := M_X11_sheet) (pc := 81) dX11_sheet_81 rfl ?_
          refine ev_if_ne (X := M_X11_sheet) (pc := 82) (tgt := 89) dX11_sheet_82 (by decide) (by omega) (fun h82 => ?_) (fun h82 => ?_)
          · refine ev_iload_n (X := M_X11_sheet) (pc := 89) dX11_sheet_89 rfl ?_
            first
              | (have hk : shK s b n = 0 := by rw [hk0, if_neg (fun z => by omega), if_neg (fun z => by omega)]
                 first
                   | exact ev_weak (fin 0 (by rw [if_pos (by omega)]) hk (by decide)) ⟨rfl, rfl, rfl, rfl, trivial⟩
                   | exact ev_weak (fin n (by rw [if_neg (by omega)]) hk (by omega)) ⟨rfl, rfl, rfl, rfl, trivial⟩)
              | (exfalso; omega)
          · refine ev_iconst (X := M_X11_sheet) (pc := 85) dX11_sheet_85 ?_
            refine ev_goto (X := M_X11_sheet) (pc := 86) (tgt := 90) dX11_sheet_86 (by decide) ?_
            first
              | (have hk : shK s b n = 0 := by rw [hk0, if_neg (fun z => by omega), if_neg (fun z => by omega)]
                 first
                   | exact ev_weak (fin 0 (by rw [if_pos (by omega)]) hk (by decide)) ⟨rfl, rfl, rfl, rfl, trivial⟩
                   | exact ev_weak (fin n (by rw [if_neg (by omega)]) hk (by omega)) ⟨rfl, rfl, rfl, rfl, trivial⟩)
              | (exfalso; omega)
        · refine ev_iload_n (X := M_X11_sheet) (pc := 55) dX11_sheet_55 rfl ?_
          refine ev_bipush (X := M_X11_sheet) (pc := 56) dX11_sheet_56 (by decide) ?_
          refine ev_icmp_le (X := M_X11_sheet) (pc := 58) (tgt := 68) dX11_sheet_58 (by decide) (by omega) (by omega) (fun h58 => ?_) (fun h58 => ?_)
          · refine ev_aload_n (X := M_X11_sheet) (pc := 68) dX11_sheet_68 rfl ?_
            refine ev_getRe (X := M_X11_sheet) (pc := 69) dX11_sheet_69 fl_X11_45_11 (lO_100 hL) rfl (lR_100_5 hL) ?_
            refine ev_iload_n (X := M_X11_sheet) (pc := 72) dX11_sheet_72 rfl ?_
            refine ev_iload_n (X := M_X11_sheet) (pc := 73) dX11_sheet_73 rfl ?_
            refine ev_iastore (X := M_X11_sheet) (pc := 74) dX11_sheet_74 (by decide) (lS_154 hL) (by omega) ?_
            refine ev_aload_n (X := M_X11_sheet) (pc := 75) dX11_sheet_75 rfl ?_
            refine ev_getRe (X := M_X11_sheet) (pc := 76) dX11_sheet_76 fl_X11_41_11 (lO_100 hL) rfl (lR_100_4 hL) ?_
            refine ev_iload_n (X := M_X11_sheet) (pc := 79) dX11_sheet_79 rfl ?_
            refine ev_aaloadE (X := M_X11_sheet) (pc := 80) dX11_sheet_80 (lS_145 hL) (by decide) (by decide) (by omega) (hr.trans hrr) ?_
            refine ev_iload_n (X := M_X11_sheet) (pc := 81) dX11_sheet_81 rfl ?_
            refine ev_if_ne (X := M_X11_sheet) (pc := 82) (tgt := 89) dX11_sheet_82 (by decide) (by omega) (fun h82 => ?_) (fun h82 => ?_)
            · refine ev_iload_n (X := M_X11_sheet) (pc := 89) dX11_sheet_89 rfl ?_
              first
                | (have hk : shK s b n = 0 := by rw [hk0, if_neg (fun z => by omega), if_neg (fun z => by omega)]
                   first
                     | exact ev_weak (fin 0 (by rw [if_pos (by omega)]) hk (by decide)) ⟨rfl, rfl, rfl, rfl, trivial⟩
                     | exact ev_weak (fin n (by rw [if_neg (by omega)]) hk (by omega)) ⟨rfl, rfl, rfl, rfl, trivial⟩)
                | (exfalso; omega)
            · refine ev_iconst (X := M_X11_sheet) (pc := 85) dX11_sheet_85 ?_
              refine ev_goto (X := M_X11_sheet) (pc := 86) (tgt := 90) dX11_sheet_86 (by decide) ?_
              first
                | (have hk : shK s b n = 0 := by rw [hk0, if_neg (fun z => by omega), if_neg (fun z => by omega)]
                   first
                     | exact ev_weak (fin 0 (by rw [if_pos (by omega)]) hk (by decide)) ⟨rfl, rfl, rfl, rfl, trivial⟩
                     | exact ev_weak (fin n (by rw [if_neg (by omega)]) hk (by omega)) ⟨rfl, rfl, rfl, rfl, trivial⟩)
                | (exfalso; omega)
          · first
              | (have hk : shK s b n = 1 := by rw [hk0, if_neg (fun z => by omega), if_pos ⟨h52, by omega⟩])
              | (exfalso; omega)
            refine ev_aload_n (X := M_X11_sheet) (pc := 61) dX11_sheet_61 rfl ?_
            refine ev_ldc (X := M_X11_sheet) (pc := 62) (v := -1000000001) dX11_sheet_62 kw_318 (by decide) ?_
            refine ev_virtR (X := M_X11_sheet) (Y := M_X11_error) (pc := 64) (ci := 11) dX11_sheet_64 mk_X11_error rfl kw_319 kw_321 kp_0 (lO_100 hL) (c_error hL (k := 1) (by decide) rfl) rfl (by decide) rfl (Nat.le_of_ble_eq_true rfl) (Nat.zero_add _) (Nat.zero_add _) ?_
            refine ev_iret (X := M_X11_sheet) (pc := 67) dX11_sheet_67 rfl ?_
            rw [hk]
            exact ⟨rfl, rfl, rfl⟩
      · have hk : shK s b n = 3 := by rw [hk0, if_pos ⟨h37, by omega⟩]
        refine ev_aload_n (X := M_X11_sheet) (pc := 44) dX11_sheet_44 rfl ?_
        refine ev_ldc (X := M_X11_sheet) (pc := 45) (v := -1000000003) dX11_sheet_45 kw_624 (by decide) ?_
        refine ev_virtR (X := M_X11_sheet) (Y := M_X11_error) (pc := 47) (ci := 11) dX11_sheet_47 mk_X11_error rfl kw_319 kw_321 kp_0 (lO_100 hL) (c_error hL (k := 3) (by decide) rfl) rfl (by decide) rfl (Nat.le_of_ble_eq_true rfl) (Nat.zero_add _) (Nat.zero_add _) ?_
        refine ev_iret (X := M_X11_sheet) (pc := 50) dX11_sheet_50 rfl ?_
        rw [hk]
        exact ⟨rfl, rfl, rfl⟩
  refine ev_iload_n (X := M_X11_sheet) (pc := 0) dX11_sheet_0 rfl ?_
  refine ev_staticR (X := M_X11_sheet) (Y := M_X11_isSheet) (pc := 1) dX11_sheet_1 mk_X11_isSheet kw_921 kw_922 (c_isSheet hs) rfl (by decide) rfl (Nat.le_of_ble_eq_true rfl) (Nat.zero_add _) (Nat.zero_add _) ?_
  refine ev_if_eq (X := M_X11_sheet) (pc := 4) (tgt := 29) dX11_sheet_4 (by decide) (by split <;> decide) (fun h4 => ?_) (fun h4 => ?_)
  · have hk : shK s b n = 1 := by unfold shK; rw [if_neg (fun z => by rw [if_pos z.1] at h4; exact absurd h4 (by decide))]
    refine ev_aload_n (X := M_X11_sheet) (pc := 29) dX11_sheet_29 rfl ?_
    refine ev_ldc (X := M_X11_sheet) (pc := 30) (v := -1000000001) dX11_sheet_30 kw_318 (by decide) ?_
    refine ev_virtR (X := M_X11_sheet) (Y := M_X11_error) (pc := 32) (ci := 11) dX11_sheet_32 mk_X11_error rfl kw_319 kw_321 kp_0 (lO_100 hL) (c_error hL (k := 1) (by decide) rfl) rfl (by decide) rfl (Nat.le_of_ble_eq_true rfl) (Nat.zero_add _) (Nat.zero_add _) ?_
    refine ev_iret (X := M_X11_sheet) (pc := 35) dX11_sheet_35 rfl ?_
    rw [hk]
    exact ⟨rfl, rfl, rfl⟩
  · have hs4 : 0 ≤ s ∧ s < 4 := Decidable.byContradiction fun z => h4 (by rw [if_neg z])
    refine ev_iload_n (X := M_X11_sheet) (pc := 7) dX11_sheet_7 rfl ?_
    refine ev_if_eq (X := M_X11_sheet) (pc := 8) (tgt := 36) dX11_sheet_8 (by decide) (by omega) (fun h8 => ?_) (fun h8 => ?_)
    · exact ev_weak (main hs4 (by omega)) ⟨rfl, rfl, rfl, rfl, trivial⟩
    · refine ev_iload_n (X := M_X11_sheet) (pc := 11) dX11_sheet_11 rfl ?_
      refine ev_bipush (X := M_X11_sheet) (pc := 12) dX11_sheet_12 (by decide) ?_
      refine ev_icmp_eq (X := M_X11_sheet) (pc := 14) (tgt := 36) dX11_sheet_14 (by decide) (by omega) (by omega) (fun h14 => ?_) (fun h14 => ?_)
      · exact ev_weak (main hs4 (by omega)) ⟨rfl, rfl, rfl, rfl, trivial⟩
      · refine ev_iload_n (X := M_X11_sheet) (pc := 17) dX11_sheet_17 rfl ?_
        refine ev_bipush (X := M_X11_sheet) (pc := 18) dX11_sheet_18 (by decide) ?_
        refine ev_icmp_eq (X := M_X11_sheet) (pc := 20) (tgt := 36) dX11_sheet_20 (by decide) (by omega) (by omega) (fun h20 => ?_) (fun h20 => ?_)
        · exact ev_weak (main hs4 (by omega)) ⟨rfl, rfl, rfl, rfl, trivial⟩
        · refine ev_iload_n (X := M_X11_sheet) (pc := 23) dX11_sheet_23 rfl ?_
          refine ev_bipush (X := M_X11_sheet) (pc := 24) dX11_sheet_24 (by decide) ?_
          refine ev_icmp_eq (X := M_X11_sheet) (pc := 26) (tgt := 36) dX11_sheet_26 (by decide) (by omega) (by omega) (fun h26 => ?_) (fun h26 => ?_)
          · exact ev_weak (main hs4 (by omega)) ⟨rfl, rfl, rfl, rfl, trivial⟩
          · have hk : shK s b n = 1 := by unfold shK; rw [if_neg (fun z => by omega)]
            refine ev_aload_n (X := M_X11_sheet) (pc := 29) dX11_sheet_29 rfl ?_
            refine ev_ldc (X := M_X11_sheet) (pc := 30) (v := -1000000001) dX11_sheet_30 kw_318 (by decide) ?_
            refine ev_virtR (X := M_X11_sheet) (Y := M_X11_error) (pc := 32) (ci := 11) dX11_sheet_32 mk_X11_error rfl kw_319 kw_321 kp_0 (lO_100 hL) (c_error hL (k := 1) (by decide) rfl) rfl (by decide) rfl (Nat.le_of_ble_eq_true rfl) (Nat.zero_add _) (Nat.zero_add _) ?_
            refine ev_iret (X := M_X11_sheet) (pc := 35) dX11_sheet_35 rfl ?_
            rw [hk]
            exact ⟨rfl, rfl, rfl⟩
def pcF (b v : Int) : Int := if b = 32 then v else op_iand v (op_ishl 1 b - 1)
theorem c_put {γ : Gh} {K : Sk} {V : Mm} (hL : Lay K) (hB : cBn V) {s i v : Int} (hs : R32 s) (hi : R32 i) : Call γ M_X11_put 2 0 0 [vR 100, vI s, vI i, vI v] K V (Rt (some (vI (aR (ptK (V 154) (fun s => V (shA s) 1) s i) 1))) K (if ptK (V 154) (fun s => V (shA s) 1) s i = 0 then wr V (shA s + 1) i (pcF (V 154 s) v) else err V (ptK (V 154) (fun s => V (shA s) 1) s i))) := by
  refine call_of (by decide +kernel) (by intro v hv; simp only [List.mem_cons, List.not_mem_nil, or_false] at hv; rcases hv with rfl | rfl | rfl | rfl <;> exact fun q => by cases q) (Nat.le_of_ble_eq_true rfl) ?_
  refine ev_lsE (ls' := [_, _, _, _]) rfl ?_
  refine ev_iload_n (X := M_X11_put) (pc := 0) dX11_put_0 rfl ?_
  refine ev_staticR (X := M_X11_put) (Y := M_X11_isSheet) (pc := 1) dX11_put_1 mk_X11_isSheet kw_921 kw_922 (c_isSheet hs) rfl (by decide) rfl (Nat.le_of_ble_eq_true rfl) (Nat.zero_add _) (Nat.zero_add _) ?_
  refine ev_if_ne (X := M_X11_put) (pc := 4) (tgt := 14) dX11_put_4 (by decide) (by split <;> decide) (fun h4 => ?_) (fun h4 => ?_)
  · have hs4 : 0 ≤ s ∧ s < 4 := Decidable.byContradiction fun z => h4 (by rw [if_neg z])
    obtain ⟨z1, z2⟩ := hB s hs4.1 hs4.2
    obtain ⟨hr, hro⟩ := shA_row hL hs4
    have hA := shA_r hs4
    have hk0 : ptK (V 154) (fun s => V (shA s) 1) s i = if V 154 s = 0 then 2 else if 0 ≤ i ∧ i < V (shA s) 1 then 0 else 1 := by unfold ptK; rw [if_pos hs4]
    obtain ⟨r, hrr⟩ : ∃ r, shA s = r := ⟨_, rfl⟩
    rw [hrr] at hr hro z2 hA hk0
    have hO := hro.1
    have hR := hro.2.1
    have hS := hro.2.2.1
    refine ev_aload_n (X := M_X11_put) (pc := 14) dX11_put_14 rfl ?_
    refine ev_getRe (X := M_X11_put) (pc := 15) dX11_put_15 fl_X11_45_11 (lO_100 hL) rfl (lR_100_5 hL) ?_
    refine ev_iload_n (X := M_X11_put) (pc := 18) dX11_put_18 rfl ?_
    refine ev_iaload (X := M_X11_put) (pc := 19) dX11_put_19 (lS_154 hL) (by omega) ?_
    refine ev_if_ne (X := M_X11_put) (pc := 20) (tgt := 30) dX11_put_20 (by decide) (by omega) (fun h20 => ?_) (fun h20 => ?_)
    · rw [if_neg h20] at hk0
      refine ev_aload_n (X := M_X11_put) (pc := 30) dX11_put_30 rfl ?_
      refine ev_getRe (X := M_X11_put) (pc := 31) dX11_put_31 fl_X11_41_11 (lO_100 hL) rfl (lR_100_4 hL) ?_
      refine ev_iload_n (X := M_X11_put) (pc := 34) dX11_put_34 rfl ?_
      refine ev_aaloadE (X := M_X11_put) (pc := 35) dX11_put_35 (lS_145 hL) (by decide) (by decide) (by omega) (hr) ?_
      refine ev_iload_n (X := M_X11_put) (pc := 36) dX11_put_36 rfl ?_
      refine ev_virtR (X := M_X11_put) (Y := M_X5_has) (pc := 37) (ci := 5) dX11_put_37 mk_X5_has rfl kw_913 kw_914 kw_915 hO (c_Row_has hro z2 hi) rfl (by decide) rfl (Nat.le_of_ble_eq_true rfl) (Nat.zero_add _) (Nat.zero_add _) ?_
      refine ev_if_ne (X := M_X11_put) (pc := 40) (tgt := 50) dX11_put_40 (by decide) (by split <;> decide) (fun h40 => ?_) (fun h40 => ?_)
      · have hi3 : 0 ≤ i ∧ i < V r 1 := Decidable.byContradiction fun z => h40 (by rw [if_neg z])
        have hk : ptK (V 154) (fun s => V (shA s) 1) s i = 0 := by rw [hk0, if_pos hi3]
        refine ev_aload_n (X := M_X11_put) (pc := 50) dX11_put_50 rfl ?_
        refine ev_getRe (X := M_X11_put) (pc := 51) dX11_put_51 fl_X11_41_11 (lO_100 hL) rfl (lR_100_4 hL) ?_
        refine ev_iload_n (X := M_X11_put) (pc := 54) dX11_put_54 rfl ?_
        refine ev_aaloadE (X := M_X11_put) (pc := 55) dX11_put_55 (lS_145 hL) (by decide) (by decide) (by omega) (hr) ?_
        refine ev_getRe (X := M_X11_put) (pc := 56) dX11_put_56 fl_X11_252_5 hO rfl hR ?_
        refine ev_iload_n (X := M_X11_put) (pc := 59) dX11_put_59 rfl ?_
        refine ev_aload_n (X := M_X11_put) (pc := 60) dX11_put_60 rfl ?_
        refine ev_getRe (X := M_X11_put) (pc := 61) dX11_put_61 fl_X11_45_11 (lO_100 hL) rfl (lR_100_5 hL) ?_
        refine ev_iload_n (X := M_X11_put) (pc := 64) dX11_put_64 rfl ?_
        refine ev_iaload (X := M_X11_put) (pc := 65) dX11_put_65 (lS_154 hL) (by omega) ?_
        refine ev_bipush (X := M_X11_put) (pc := 66) dX11_put_66 (by decide) ?_
        refine ev_icmp_ne (X := M_X11_put) (pc := 68) (tgt := 75) dX11_put_68 (by decide) (by omega) (by decide) (fun h68 => ?_) (fun h68 => ?_)
        · refine ev_iload_n (X := M_X11_put) (pc := 75) dX11_put_75 rfl ?_
          refine ev_iconst (X := M_X11_put) (pc := 76) dX11_put_76 ?_
          refine ev_aload_n (X := M_X11_put) (pc := 77) dX11_put_77 rfl ?_
          refine ev_getRe (X := M_X11_put) (pc := 78) dX11_put_78 fl_X11_45_11 (lO_100 hL) rfl (lR_100_5 hL) ?_
          refine ev_iload_n (X := M_X11_put) (pc := 81) dX11_put_81 rfl ?_
          refine ev_iaload (X := M_X11_put) (pc := 82) dX11_put_82 (lS_154 hL) (by omega) ?_
          refine ev_ishl (X := M_X11_put) (pc := 83) dX11_put_83 ?_
          refine ev_iconst (X := M_X11_put) (pc := 84) dX11_put_84 ?_
          refine ev_isub (X := M_X11_put) (pc := 85) dX11_put_85 ?_
          refine ev_iand (X := M_X11_put) (pc := 86) dX11_put_86 ?_
          refine ev_iastore (X := M_X11_put) (pc := 87) dX11_put_87 (by omega) hS (by omega) ?_
          refine ev_iconst (X := M_X11_put) (pc := 88) dX11_put_88 ?_
          refine ev_iret (X := M_X11_put) (pc := 89) dX11_put_89 rfl ?_
          rw [hk, if_pos rfl, hrr]
          refine ⟨rfl, rfl, ?_⟩
          unfold pcF
          first
            | rw [if_pos (show V 154 s = 32 by omega)]
            | rw [if_neg (show ¬ V 154 s = 32 by omega)]
        · refine ev_iload_n (X := M_X11_put) (pc := 71) dX11_put_71 rfl ?_
          refine ev_goto (X := M_X11_put) (pc := 72) (tgt := 87) dX11_put_72 (by decide) ?_
          refine ev_iastore (X := M_X11_put) (pc := 87) dX11_put_87 (by omega) hS (by omega) ?_
          refine ev_iconst (X := M_X11_put) (pc := 88) dX11_put_88 ?_
          refine ev_iret (X := M_X11_put) (pc := 89) dX11_put_89 rfl ?_
          rw [hk, if_pos rfl, hrr]
          refine ⟨rfl, rfl, ?_⟩
          unfold pcF
          first
            | rw [if_pos (show V 154 s = 32 by omega)]
            | rw [if_neg (show ¬ V 154 s = 32 by omega)]
      · have hk : ptK (V 154) (fun s => V (shA s) 1) s i = 1 := by rw [hk0, if_neg (fun z => by rw [if_pos z] at h40; exact absurd h40 (by decide))]
        refine ev_aload_n (X := M_X11_put) (pc := 43) dX11_put_43 rfl ?_
        refine ev_ldc (X := M_X11_put) (pc := 44) (v := -1000000001) dX11_put_44 kw_318 (by decide) ?_
        refine ev_virtR (X := M_X11_put) (Y := M_X11_error) (pc := 46) (ci := 11) dX11_put_46 mk_X11_error rfl kw_319 kw_321 kp_0 (lO_100 hL) (c_error hL (k := 1) (by decide) rfl) rfl (by decide) rfl (Nat.le_of_ble_eq_true rfl) (Nat.zero_add _) (Nat.zero_add _) ?_
        refine ev_iret (X := M_X11_put) (pc := 49) dX11_put_49 rfl ?_
        rw [hk]
        exact ⟨rfl, rfl, rfl⟩
    · have hk : ptK (V 154) (fun s => V (shA s) 1) s i = 2 := by rw [hk0, if_pos h20]
      refine ev_aload_n (X := M_X11_put) (pc := 23) dX11_put_23 rfl ?_
      refine ev_ldc (X := M_X11_put) (pc := 24) (v := -1000000002) dX11_put_24 kw_682 (by decide) ?_
      refine ev_virtR (X := M_X11_put) (Y := M_X11_error) (pc := 26) (ci := 11) dX11_put_26 mk_X11_error rfl kw_319 kw_321 kp_0 (lO_100 hL) (c_error hL (k := 2) (by decide) rfl) rfl (by decide) rfl (Nat.le_of_ble_eq_true rfl) (Nat.zero_add _) (Nat.zero_add _) ?_
      refine ev_iret (X := M_X11_put) (pc := 29) dX11_put_29 rfl ?_
      rw [hk]
      exact ⟨rfl, rfl, rfl⟩
  · have hk : ptK (V 154) (fun s => V (shA s) 1) s i = 1 := by unfold ptK; rw [if_neg (fun z => by rw [if_pos z] at h4; exact absurd h4 (by decide))]
    refine ev_aload_n (X := M_X11_put) (pc := 7) dX11_put_7 rfl ?_
    refine ev_ldc (X := M_X11_put) (pc := 8) (v := -1000000001) dX11_put_8 kw_318 (by decide) ?_
    refine ev_virtR (X := M_X11_put) (Y := M_X11_error) (pc := 10) (ci := 11) dX11_put_10 mk_X11_error rfl kw_319 kw_321 kp_0 (lO_100 hL) (c_error hL (k := 1) (by decide) rfl) rfl (by decide) rfl (Nat.le_of_ble_eq_true rfl) (Nat.zero_add _) (Nat.zero_add _) ?_
    refine ev_iret (X := M_X11_put) (pc := 13) dX11_put_13 rfl ?_
    rw [hk]
    exact ⟨rfl, rfl, rfl⟩
theorem c_move {γ : Gh} {K : Sk} {V : Mm} (hL : Lay K) (hB : cBn V) {s i o j n : Int} (hs : R32 s) (hi : R32 i) (ho : R32 o) (hj : R32 j) (hn : R32 n) : Call γ M_X11_move 2 0 0 [vR 100, vI s, vI i, vI o, vI j, vI n] K V (Rt (some (vI (aR (mvK (V 154) (fun s => V (shA s) 1) s i o j n) n))) K (if mvK (V 154) (fun s => V (shA s) 1) s i o j n = 0 then setr V (shA o + 1) (cpy (V (shA s + 1)) (V (shA o + 1)) i j n) else err V (mvK (V 154) (fun s => V (shA s) 1) s i o j n))) := by
  refine call_of (by decide +kernel) (by intro v hv; simp only [List.mem_cons, List.not_mem_nil, or_false] at hv; rcases hv with rfl | rfl | rfl | rfl | rfl | rfl <;> exact fun q => by cases q) (Nat.le_of_ble_eq_true rfl) ?_
  refine ev_lsE (ls' := [_, _, _, _, _, _]) rfl ?_
  obtain ⟨k, hke⟩ : ∃ k, mvK (V 154) (fun s => V (shA s) 1) s i o j n = k := ⟨_, rfl⟩
  rw [hke]
  have hm0 : k = if (0 ≤ s ∧ s < 4) ∧ 0 ≤ o ∧ o < 4 then (if V 154 s = 0 ∨ V 154 o = 0 then 2 else if V 154 s ≠ V 154 o then 5 else if (0 ≤ n ∧ 0 ≤ i ∧ 0 ≤ j) ∧ n ≤ V (shA s) 1 - i ∧ n ≤ V (shA o) 1 - j then 0 else 1) else 1 := by rw [← hke]; rfl
  clear hke
  refine ev_iload_n (X := M_X11_move) (pc := 0) dX11_move_0 rfl ?_
  refine ev_staticR (X := M_X11_move) (Y := M_X11_isSheet) (pc := 1) dX11_move_1 mk_X11_isSheet kw_921 kw_922 (c_isSheet hs) rfl (by decide) rfl (Nat.le_of_ble_eq_true rfl) (Nat.zero_add _) (Nat.zero_add _) ?_
  refine ev_if_eq (X := M_X11_move) (pc := 4) (tgt := 14) dX11_move_4 (by decide) (by split <;> decide) (fun h4 => ?_) (fun h4 => ?_)
  · have hk : k = 1 := by rw [hm0, if_neg (fun z => by rw [if_pos z.1] at h4; exact absurd h4 (by decide))]
    refine ev_aload_n (X := M_X11_move) (pc := 14) dX11_move_14 rfl ?_
    refine ev_ldc (X := M_X11_move) (pc := 15) (v := -1000000001) dX11_move_15 kw_318 (by decide) ?_
    refine ev_virtR (X := M_X11_move) (Y := M_X11_error) (pc := 17) (ci := 11) dX11_move_17 mk_X11_error rfl kw_319 kw_321 kp_0 (lO_100 hL) (c_error hL (k := 1) (by decide) rfl) rfl (by decide) rfl (Nat.le_of_ble_eq_true rfl) (Nat.zero_add _) (Nat.zero_add _) ?_
    refine ev_iret (X := M_X11_move) (pc := 20) dX11_move_20 rfl ?_
    rw [hk]
    exact ⟨rfl, rfl, rfl⟩
  · have hs4 : 0 ≤ s ∧ s < 4 := Decidable.byContradiction fun z => h4 (by rw [if_neg z])
    refine ev_iload_n (X := M_X11_move) (pc := 7) dX11_move_7 rfl ?_
    refine ev_staticR (X := M_X11_move) (Y := M_X11_isSheet) (pc := 8) dX11_move_8 mk_X11_isSheet kw_921 kw_922 (c_isSheet ho) rfl (by decide) rfl (Nat.le_of_ble_eq_true rfl) (Nat.zero_add _) (Nat.zero_add _) ?_
    refine ev_if_ne (X := M_X11_move) (pc := 11) (tgt := 21) dX11_move_11 (by decide) (by split <;> decide) (fun h11 => ?_) (fun h11 => ?_)
    · have ho4 : 0 ≤ o ∧ o < 4 := Decidable.byContradiction fun z => h11 (by rw [if_neg z])
      obtain ⟨z1, z2⟩ := hB s hs4.1 hs4.2
      obtain ⟨y1, y2⟩ := hB o ho4.1 ho4.2
      obtain ⟨hr, hro⟩ := shA_row hL hs4
      obtain ⟨hr', hro'⟩ := shA_row hL ho4
      have hA := shA_r hs4
      have hA' := shA_r ho4
      rw [if_pos ⟨hs4, ho4⟩] at hm0
      obtain ⟨r, hrr⟩ : ∃ r, shA s = r := ⟨_, rfl⟩
      obtain ⟨q, hqq⟩ : ∃ q, shA o = q := ⟨_, rfl⟩
      rw [hrr] at hr hro z2 hA hm0
      rw [hqq] at hr' hro' y2 hA' hm0
      have hO := hro.1
      have hR := hro.2.1
      have hS := hro.2.2.1
      have hO' := hro'.1
      have hR' := hro'.2.1
      have hS' := hro'.2.2.1
      refine ev_aload_n (X := M_X11_move) (pc := 21) dX11_move_21 rfl ?_
      refine ev_getRe (X := M_X11_move) (pc := 22) dX11_move_22 fl_X11_45_11 (lO_100 hL) rfl (lR_100_5 hL) ?_
      refine ev_iload_n (X := M_X11_move) (pc := 25) dX11_move_25 rfl ?_
      refine ev_iaload (X := M_X11_move) (pc := 26) dX11_move_26 (lS_154 hL) (by omega) ?_
      refine ev_if_eq (X := M_X11_move) (pc := 27) (tgt := 39) dX11_move_27 (by decide) (by omega) (fun h27 => ?_) (fun h27 => ?_)
      · have hk : k = 2 := by rw [hm0, if_pos (Or.inl h27)]
        refine ev_aload_n (X := M_X11_move) (pc := 39) dX11_move_39 rfl ?_
        refine ev_ldc (X := M_X11_move) (pc := 40) (v := -1000000002) dX11_move_40 kw_682 (by decide) ?_
        refine ev_virtR (X := M_X11_move) (Y := M_X11_error) (pc := 42) (ci := 11) dX11_move_42 mk_X11_error rfl kw_319 kw_321 kp_0 (lO_100 hL) (c_error hL (k := 2) (by decide) rfl) rfl (by decide) rfl (Nat.le_of_ble_eq_true rfl) (Nat.zero_add _) (Nat.zero_add _) ?_
        refine ev_iret (X := M_X11_move) (pc := 45) dX11_move_45 rfl ?_
        rw [hk]
        exact ⟨rfl, rfl, rfl⟩
      · refine ev_aload_n (X := M_X11_move) (pc := 30) dX11_move_30 rfl ?_
        refine ev_getRe (X := M_X11_move) (pc := 31) dX11_move_31 fl_X11_45_11 (lO_100 hL) rfl (lR_100_5 hL) ?_
        refine ev_iload_n (X := M_X11_move) (pc := 34) dX11_move_34 rfl ?_
        refine ev_iaload (X := M_X11_move) (pc := 35) dX11_move_35 (lS_154 hL) (by omega) ?_
        refine ev_if_ne (X := M_X11_move) (pc := 36) (tgt := 46) dX11_move_36 (by decide) (by omega) (fun h36 => ?_) (fun h36 => ?_)
        · rw [if_neg (fun z => by rcases z with z | z; exact h27 z; exact h36 z)] at hm0
          refine ev_aload_n (X := M_X11_move) (pc := 46) dX11_move_46 rfl ?_
          refine ev_getRe (X := M_X11_move) (pc := 47) dX11_move_47 fl_X11_45_11 (lO_100 hL) rfl (lR_100_5 hL) ?_
          refine ev_iload_n (X := M_X11_move) (pc := 50) dX11_move_50 rfl ?_
          refine ev_iaload (X := M_X11_move) (pc := 51) dX11_move_51 (lS_154 hL) (by omega) ?_
          refine ev_aload_n (X := M_X11_move) (pc := 52) dX11_move_52 rfl ?_
          refine ev_getRe (X := M_X11_move) (pc := 53) dX11_move_53 fl_X11_45_11 (lO_100 hL) rfl (lR_100_5 hL) ?_
          refine ev_iload_n (X := M_X11_move) (pc := 56) dX11_move_56 rfl ?_
          refine ev_iaload (X := M_X11_move) (pc := 57) dX11_move_57 (lS_154 hL) (by omega) ?_
          refine ev_icmp_eq (X := M_X11_move) (pc := 58) (tgt := 68) dX11_move_58 (by decide) (by omega) (by omega) (fun h58 => ?_) (fun h58 => ?_)
          · rw [if_neg (fun z => z h58)] at hm0
            refine ev_aload_n (X := M_X11_move) (pc := 68) dX11_move_68 rfl ?_
            refine ev_getRe (X := M_X11_move) (pc := 69) dX11_move_69 fl_X11_41_11 (lO_100 hL) rfl (lR_100_4 hL) ?_
            refine ev_iload_n (X := M_X11_move) (pc := 72) dX11_move_72 rfl ?_
            refine ev_aaloadE (X := M_X11_move) (pc := 73) dX11_move_73 (lS_145 hL) (by decide) (by decide) (by omega) (hr) ?_
            refine ev_iload_n (X := M_X11_move) (pc := 74) dX11_move_74 rfl ?_
            refine ev_iload (X := M_X11_move) (pc := 75) dX11_move_75 rfl ?_
            refine ev_virtR (X := M_X11_move) (Y := M_X5_hasRange) (pc := 77) (ci := 5) dX11_move_77 mk_X5_hasRange rfl kw_938 kw_939 kw_940 hO (c_Row_hasRange hro z2 hi hn) rfl (by decide) rfl (Nat.le_of_ble_eq_true rfl) (Nat.zero_add _) (Nat.zero_add _) ?_
            refine ev_if_eq (X := M_X11_move) (pc := 80) (tgt := 99) dX11_move_80 (by decide) (by split <;> decide) (fun h80 => ?_) (fun h80 => ?_)
            · have hk : k = 1 := by rw [hm0, if_neg (fun z => by rw [if_pos (by omega)] at h80; exact absurd h80 (by decide))]
              refine ev_aload_n (X := M_X11_move) (pc := 99) dX11_move_99 rfl ?_
              refine ev_ldc (X := M_X11_move) (pc := 100) (v := -1000000001) dX11_move_100 kw_318 (by decide) ?_
              refine ev_virtR (X := M_X11_move) (Y := M_X11_error) (pc := 102) (ci := 11) dX11_move_102 mk_X11_error rfl kw_319 kw_321 kp_0 (lO_100 hL) (c_error hL (k := 1) (by decide) rfl) rfl (by decide) rfl (Nat.le_of_ble_eq_true rfl) (Nat.zero_add _) (Nat.zero_add _) ?_
              refine ev_iret (X := M_X11_move) (pc := 105) dX11_move_105 rfl ?_
              rw [hk]
              exact ⟨rfl, rfl, rfl⟩
            · have ha3 : 0 ≤ i ∧ 0 ≤ n ∧ n ≤ V r 1 ∧ i ≤ V r 1 - n := Decidable.byContradiction fun z => h80 (by rw [if_neg z])
              refine ev_aload_n (X := M_X11_move) (pc := 83) dX11_move_83 rfl ?_
              refine ev_getRe (X := M_X11_move) (pc := 84) dX11_move_84 fl_X11_41_11 (lO_100 hL) rfl (lR_100_4 hL) ?_
              refine ev_iload_n (X := M_X11_move) (pc := 87) dX11_move_87 rfl ?_
              refine ev_aaloadE (X := M_X11_move) (pc := 88) dX11_move_88 (lS_145 hL) (by decide) (by decide) (by omega) (hr') ?_
              refine ev_iload (X := M_X11_move) (pc := 89) dX11_move_89 rfl ?_
              refine ev_iload (X := M_X11_move) (pc := 91) dX11_move_91 rfl ?_
              refine ev_virtR (X := M_X11_move) (Y := M_X5_hasRange) (pc := 93) (ci := 5) dX11_move_93 mk_X5_hasRange rfl kw_938 kw_939 kw_940 hO' (c_Row_hasRange hro' y2 hj hn) rfl (by decide) rfl (Nat.le_of_ble_eq_true rfl) (Nat.zero_add _) (Nat.zero_add _) ?_
              refine ev_if_ne (X := M_X11_move) (pc := 96) (tgt := 106) dX11_move_96 (by decide) (by split <;> decide) (fun h96 => ?_) (fun h96 => ?_)
              · have hb3 : 0 ≤ j ∧ 0 ≤ n ∧ n ≤ V q 1 ∧ j ≤ V q 1 - n := Decidable.byContradiction fun z => h96 (by rw [if_neg z])
                have hk : k = 0 := by rw [hm0, if_pos (by omega)]
                refine ev_aload_n (X := M_X11_move) (pc := 106) dX11_move_106 rfl ?_
                refine ev_getRe (X := M_X11_move) (pc := 107) dX11_move_107 fl_X11_41_11 (lO_100 hL) rfl (lR_100_4 hL) ?_
                refine ev_iload_n (X := M_X11_move) (pc := 110) dX11_move_110 rfl ?_
                refine ev_aaloadE (X := M_X11_move) (pc := 111) dX11_move_111 (lS_145 hL) (by decide) (by decide) (by omega) (hr) ?_
                refine ev_getRe (X := M_X11_move) (pc := 112) dX11_move_112 fl_X11_252_5 hO rfl hR ?_
                refine ev_iload_n (X := M_X11_move) (pc := 115) dX11_move_115 rfl ?_
                refine ev_aload_n (X := M_X11_move) (pc := 116) dX11_move_116 rfl ?_
                refine ev_getRe (X := M_X11_move) (pc := 117) dX11_move_117 fl_X11_41_11 (lO_100 hL) rfl (lR_100_4 hL) ?_
                refine ev_iload_n (X := M_X11_move) (pc := 120) dX11_move_120 rfl ?_
                refine ev_aaloadE (X := M_X11_move) (pc := 121) dX11_move_121 (lS_145 hL) (by decide) (by decide) (by omega) (hr') ?_
                refine ev_getRe (X := M_X11_move) (pc := 122) dX11_move_122 fl_X11_252_5 hO' rfl hR' ?_
                refine ev_iload (X := M_X11_move) (pc := 125) dX11_move_125 rfl ?_
                refine ev_iload (X := M_X11_move) (pc := 127) dX11_move_127 rfl ?_
                refine ev_arraycopy (X := M_X11_move) (pc := 129) (na := 40) (nb := 40) dX11_move_129 kw_942 kw_944 kw_943 kw_22 (by omega) (by omega) hS hS' (by omega) (by omega) (by omega) (by omega) (by omega) (by decide) (Nat.le_of_ble_eq_true rfl) ?_
                refine ev_iload (X := M_X11_move) (pc := 132) dX11_move_132 rfl ?_
                refine ev_iret (X := M_X11_move) (pc := 134) dX11_move_134 rfl ?_
                rw [hk, if_pos rfl, hrr, hqq]
                exact ⟨rfl, rfl, rfl⟩
              · have hk : k = 1 := by rw [hm0, if_neg (fun z => by rw [if_pos (by omega)] at h96; exact absurd h96 (by decide))]
                refine ev_aload_n (X := M_X11_move) (pc := 99) dX11_move_99 rfl ?_
                refine ev_ldc (X := M_X11_move) (pc := 100) (v := -1000000001) dX11_move_100 kw_318 (by decide) ?_
                refine ev_virtR (X := M_X11_move) (Y := M_X11_error) (pc := 102) (ci := 11) dX11_move_102 mk_X11_error rfl kw_319 kw_321 kp_0 (lO_100 hL) (c_error hL (k := 1) (by decide) rfl) rfl (by decide) rfl (Nat.le_of_ble_eq_true rfl) (Nat.zero_add _) (Nat.zero_add _) ?_
                refine ev_iret (X := M_X11_move) (pc := 105) dX11_move_105 rfl ?_
                rw [hk]
                exact ⟨rfl, rfl, rfl⟩
          · have hk : k = 5 := by rw [hm0, if_pos h58]
            refine ev_aload_n (X := M_X11_move) (pc := 61) dX11_move_61 rfl ?_
            refine ev_ldc (X := M_X11_move) (pc := 62) (v := -1000000005) dX11_move_62 kw_444 (by decide) ?_
            refine ev_virtR (X := M_X11_move) (Y := M_X11_error) (pc := 64) (ci := 11) dX11_move_64 mk_X11_error rfl kw_319 kw_321 kp_0 (lO_100 hL) (c_error hL (k := 5) (by decide) rfl) rfl (by decide) rfl (Nat.le_of_ble_eq_true rfl) (Nat.zero_add _) (Nat.zero_add _) ?_
            refine ev_iret (X := M_X11_move) (pc := 67) dX11_move_67 rfl ?_
            rw [hk]
            exact ⟨rfl, rfl, rfl⟩
        · have hk : k = 2 := by rw [hm0, if_pos (Or.inr h36)]
          refine ev_aload_n (X := M_X11_move) (pc := 39) dX11_move_39 rfl ?_
          refine ev_ldc (X := M_X11_move) (pc := 40) (v := -1000000002) dX11_move_40 kw_682 (by decide) ?_
          refine ev_virtR (X := M_X11_move) (Y := M_X11_error) (pc := 42) (ci := 11) dX11_move_42 mk_X11_error rfl kw_319 kw_321 kp_0 (lO_100 hL) (c_error hL (k := 2) (by decide) rfl) rfl (by decide) rfl (Nat.le_of_ble_eq_true rfl) (Nat.zero_add _) (Nat.zero_add _) ?_
          refine ev_iret (X := M_X11_move) (pc := 45) dX11_move_45 rfl ?_
          rw [hk]
          exact ⟨rfl, rfl, rfl⟩
    · have hk : k = 1 := by rw [hm0, if_neg (fun z => by rw [if_pos z.2] at h11; exact absurd h11 (by decide))]
      refine ev_aload_n (X := M_X11_move) (pc := 14) dX11_move_14 rfl ?_
      refine ev_ldc (X := M_X11_move) (pc := 15) (v := -1000000001) dX11_move_15 kw_318 (by decide) ?_
      refine ev_virtR (X := M_X11_move) (Y := M_X11_error) (pc := 17) (ci := 11) dX11_move_17 mk_X11_error rfl kw_319 kw_321 kp_0 (lO_100 hL) (c_error hL (k := 1) (by decide) rfl) rfl (by decide) rfl (Nat.le_of_ble_eq_true rfl) (Nat.zero_add _) (Nat.zero_add _) ?_
      refine ev_iret (X := M_X11_move) (pc := 20) dX11_move_20 rfl ?_
      rw [hk]
      exact ⟨rfl, rfl, rfl⟩
