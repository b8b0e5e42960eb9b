theorem be_st {D : Int → Int} (h : DCnt D) {s v : Int} (hs : 0 ≤ s ∧ s < 3) : nowS D + (v - D s) * wgtF s = nowS (up D s v) := by
  have w0 : wgtF 0 = 169 := rfl
  have w1 : wgtF 1 = 13 := rfl
  have w2 : wgtF 2 = 1 := rfl
  unfold nowS
  rcases (show s = 0 ∨ s = 1 ∨ s = 2 by omega) with z | z | z <;> subst z
  · rw [w0, up_self, up_ne (by decide), up_ne (by decide)]; omega
  · rw [w1, up_self, up_ne (by decide), up_ne (by decide)]; omega
  · rw [w2, up_self, up_ne (by decide), up_ne (by decide)]; omega
theorem cnt_D {D : Int → Int} (h : DCnt D) {s : Int} (hs : 0 ≤ s ∧ s < 3) : cnt (nowS D) s = D s := by
  obtain ⟨n0, n1, n2, _⟩ := nowS_cnt h
  rcases (show s = 0 ∨ s = 1 ∨ s = 2 by omega) with z | z | z <;> subst z <;> assumption
theorem c_be {γ : Gh} {K : Sk} {V : Mm} (hL : Lay K) (hV : SV V) {D : Int → Int} (hn : V 102 4 = nowS D) (hct : DCnt D) {s v : Int} (hs : R32 s) (hv : R32 v) : Call γ M_X11_be 1 0 0 [vR 100, vI s, vI v] K V (Rt (some (vI (aR (beK D s v) (D s)))) K (if beK D s v = 0 then wr V 102 4 (nowS (up D s v)) else err V (beK D s v))) := by
  refine call_of (by decide +kernel) (by intro v hv; simp only [List.mem_cons, List.not_mem_nil, or_false] at hv; rcases hv with rfl | rfl | rfl <;> exact fun q => by cases q) (Nat.le_of_ble_eq_true rfl) ?_
  refine ev_lsE (ls' := [_, _, _, _]) rfl ?_
  have hct2 : 0 ≤ D 0 ∧ 0 ≤ D 1 ∧ 0 ≤ D 2 ∧ D 0 + D 1 + D 2 ≤ 12 := hct
  obtain ⟨n0, n1, n2, n3⟩ := nowS_cnt hct
  have hsl := isSt_lt (nowS_st hct)
  refine ev_iload_n (X := M_X11_be) (pc := 0) dX11_be_0 rfl ?_
  refine ev_staticR (X := M_X11_be) (Y := M_X11_isSort) (pc := 1) dX11_be_1 mk_X11_isSort kw_317 kw_235 (c_isSort hs) rfl (by decide) rfl (Nat.le_of_ble_eq_true rfl) (Nat.zero_add _) (Nat.zero_add _) ?_
  refine ev_if_eq (X := M_X11_be) (pc := 4) (tgt := 17) dX11_be_4 (by decide) (by split <;> decide) (fun h4 => ?_) (fun h4 => ?_)
  · have hk : beK D s v = 1 := by unfold beK; rw [if_neg (fun z => by rw [if_pos z.1] at h4; exact absurd h4 (by decide))]
    refine ev_aload_n (X := M_X11_be) (pc := 17) dX11_be_17 rfl ?_
    refine ev_ldc (X := M_X11_be) (pc := 18) (v := -1000000001) dX11_be_18 kw_318 (by decide) ?_
    refine ev_virtR (X := M_X11_be) (Y := M_X11_error) (pc := 20) (ci := 11) dX11_be_20 mk_X11_error rfl kw_319 kw_321 kp_0 (lO_100 hL) (c_error hL (k := 1) (by decide) rfl) rfl (by decide) rfl (Nat.le_of_ble_eq_true rfl) (Nat.zero_add _) (Nat.zero_add _) ?_
    refine ev_iret (X := M_X11_be) (pc := 23) dX11_be_23 rfl ?_
    rw [hk]
    exact ⟨rfl, rfl, rfl⟩
  · have hs3 : 0 ≤ s ∧ s < 3 := Decidable.byContradiction fun z => h4 (by rw [if_neg z])
    refine ev_iload_n (X := M_X11_be) (pc := 7) dX11_be_7 rfl ?_
    refine ev_if_lt (X := M_X11_be) (pc := 8) (tgt := 17) dX11_be_8 (by decide) (by omega) (fun h8 => ?_) (fun h8 => ?_)
    · have hk : beK D s v = 1 := by unfold beK; rw [if_neg (by omega)]
      refine ev_aload_n (X := M_X11_be) (pc := 17) dX11_be_17 rfl ?_
      refine ev_ldc (X := M_X11_be) (pc := 18) (v := -1000000001) dX11_be_18 kw_318 (by decide) ?_
      refine ev_virtR (X := M_X11_be) (Y := M_X11_error) (pc := 20) (ci := 11) dX11_be_20 mk_X11_error rfl kw_319 kw_321 kp_0 (lO_100 hL) (c_error hL (k := 1) (by decide) rfl) rfl (by decide) rfl (Nat.le_of_ble_eq_true rfl) (Nat.zero_add _) (Nat.zero_add _) ?_
      refine ev_iret (X := M_X11_be) (pc := 23) dX11_be_23 rfl ?_
      rw [hk]
      exact ⟨rfl, rfl, rfl⟩
    · refine ev_iload_n (X := M_X11_be) (pc := 11) dX11_be_11 rfl ?_
      refine ev_bipush (X := M_X11_be) (pc := 12) dX11_be_12 (by decide) ?_
      refine ev_icmp_le (X := M_X11_be) (pc := 14) (tgt := 24) dX11_be_14 (by decide) (by omega) (by omega) (fun h14 => ?_) (fun h14 => ?_)
      · have hk0 : beK D s v = if 12 < D 0 + D 1 + D 2 - D s + v then 4 else 0 := by unfold beK; rw [if_pos (by omega)]
        have hDs : 0 ≤ D s ∧ D s ≤ 12 := by rcases (show s = 0 ∨ s = 1 ∨ s = 2 by omega) with z | z | z <;> subst z <;> omega
        have hbe := be_st (v := v) hct hs3
        refine ev_aload_n (X := M_X11_be) (pc := 24) dX11_be_24 rfl ?_
        refine ev_getRe (X := M_X11_be) (pc := 25) dX11_be_25 fl_X11_20_11 (lO_100 hL) rfl (lR_100_0 hL) ?_
        refine ev_getIe (X := M_X11_be) (pc := 28) (ki := 4) dX11_be_28 fl_X11_61_2 (lO_102 hL) (by decide) rfl (hn) ?_
        refine ev_iload_n (X := M_X11_be) (pc := 31) dX11_be_31 rfl ?_
        refine ev_staticR (X := M_X11_be) (Y := M_X11_countOf) (pc := 32) dX11_be_32 mk_X11_countOf kw_324 kw_325 (c_countOf hL hV (by omega) hs3) rfl (by decide) rfl (Nat.le_of_ble_eq_true rfl) (Nat.zero_add _) (Nat.zero_add _) ?_
        rw [cnt_D hct hs3]
        refine ev_istore_nL (X := M_X11_be) (pc := 35) (ls' := [_, _, _, _]) dX11_be_35 (by decide) rfl ?_
        refine ev_aload_n (X := M_X11_be) (pc := 36) dX11_be_36 rfl ?_
        refine ev_getRe (X := M_X11_be) (pc := 37) dX11_be_37 fl_X11_20_11 (lO_100 hL) rfl (lR_100_0 hL) ?_
        refine ev_getIe (X := M_X11_be) (pc := 40) (ki := 4) dX11_be_40 fl_X11_61_2 (lO_102 hL) (by decide) rfl (hn) ?_
        refine ev_staticR (X := M_X11_be) (Y := M_X11_beingsOf) (pc := 43) dX11_be_43 mk_X11_beingsOf kw_181 kw_182 (c_beingsOf (by omega)) rfl (by decide) rfl (Nat.le_of_ble_eq_true rfl) (Nat.zero_add _) (Nat.zero_add _) ?_
        rw [n3]
        refine ev_iload_n (X := M_X11_be) (pc := 46) dX11_be_46 rfl ?_
        refine ev_isub (X := M_X11_be) (pc := 47) dX11_be_47 ?_
        refine ev_iload_n (X := M_X11_be) (pc := 48) dX11_be_48 rfl ?_
        refine ev_iadd (X := M_X11_be) (pc := 49) dX11_be_49 ?_
        refine ev_bipush (X := M_X11_be) (pc := 50) dX11_be_50 (by decide) ?_
        refine ev_icmp_le (X := M_X11_be) (pc := 52) (tgt := 62) dX11_be_52 (by decide) (by omega) (by decide) (fun h52 => ?_) (fun h52 => ?_)
        · have hk : beK D s v = 0 := by rw [hk0, if_neg (by omega)]
          refine ev_aload_n (X := M_X11_be) (pc := 62) dX11_be_62 rfl ?_
          refine ev_getRe (X := M_X11_be) (pc := 63) dX11_be_63 fl_X11_20_11 (lO_100 hL) rfl (lR_100_0 hL) ?_
          refine ev_dup (X := M_X11_be) (pc := 66) dX11_be_66 (fun _ q => by cases q) ?_
          refine ev_getIe (X := M_X11_be) (pc := 67) (ki := 4) dX11_be_67 fl_X11_61_2 (lO_102 hL) (by decide) rfl (hn) ?_
          refine ev_iload_n (X := M_X11_be) (pc := 70) dX11_be_70 rfl ?_
          refine ev_iload_n (X := M_X11_be) (pc := 71) dX11_be_71 rfl ?_
          refine ev_isub (X := M_X11_be) (pc := 72) dX11_be_72 ?_
          refine ev_gets (X := M_X11_be) (pc := 73) (q := ("GreenPath", "WEIGHT", "[I", vR 3)) dX11_be_73 st_3 kw_180 ?_
          refine ev_iload_n (X := M_X11_be) (pc := 76) dX11_be_76 rfl ?_
          refine ev_ialoadE (X := M_X11_be) (pc := 77) dX11_be_77 (lS_3 hL) (by omega) (congrFun hV.2.2 _) ?_
          refine ev_imul (X := M_X11_be) (pc := 78) dX11_be_78 ?_
          refine ev_iadd (X := M_X11_be) (pc := 79) dX11_be_79 ?_
          refine ev_putI (X := M_X11_be) (pc := 80) (ki := 4) dX11_be_80 fl_X11_61_2 (by decide) (lO_102 hL) (fun _ h q => by cases h; cases q) (Or.inl rfl) rfl ?_
          refine ev_iload_n (X := M_X11_be) (pc := 83) dX11_be_83 rfl ?_
          refine ev_iret (X := M_X11_be) (pc := 84) dX11_be_84 rfl ?_
          rw [hk, if_pos rfl]
          exact ⟨rfl, rfl, by rw [hbe]⟩
        · have hk : beK D s v = 4 := by rw [hk0, if_pos (by omega)]
          refine ev_aload_n (X := M_X11_be) (pc := 55) dX11_be_55 rfl ?_
          refine ev_ldc (X := M_X11_be) (pc := 56) (v := -1000000004) dX11_be_56 kw_327 (by decide) ?_
          refine ev_virtR (X := M_X11_be) (Y := M_X11_error) (pc := 58) (ci := 11) dX11_be_58 mk_X11_error rfl kw_319 kw_321 kp_0 (lO_100 hL) (c_error hL (k := 4) (by decide) rfl) rfl (by decide) rfl (Nat.le_of_ble_eq_true rfl) (Nat.zero_add _) (Nat.zero_add _) ?_
          refine ev_iret (X := M_X11_be) (pc := 61) dX11_be_61 rfl ?_
          rw [hk]
          exact ⟨rfl, rfl, rfl⟩
      · have hk : beK D s v = 1 := by unfold beK; rw [if_neg (by omega)]
        refine ev_aload_n (X := M_X11_be) (pc := 17) dX11_be_17 rfl ?_
        refine ev_ldc (X := M_X11_be) (pc := 18) (v := -1000000001) dX11_be_18 kw_318 (by decide) ?_
        refine ev_virtR (X := M_X11_be) (Y := M_X11_error) (pc := 20) (ci := 11) dX11_be_20 mk_X11_error rfl kw_319 kw_321 kp_0 (lO_100 hL) (c_error hL (k := 1) (by decide) rfl) rfl (by decide) rfl (Nat.le_of_ble_eq_true rfl) (Nat.zero_add _) (Nat.zero_add _) ?_
        refine ev_iret (X := M_X11_be) (pc := 23) dX11_be_23 rfl ?_
        rw [hk]
        exact ⟨rfl, rfl, rfl⟩
