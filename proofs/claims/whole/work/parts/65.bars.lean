def rsF (s w k : Int) : Int := (w / (k * k) * cnt s 0 + w / k % k * cnt s 1 + w % k * cnt s 2) % k
theorem mul_60 {a b : Int} (ha : 0 ≤ a ∧ a < 5) (hb : 0 ≤ b ∧ b ≤ 12) : 0 ≤ a * b ∧ a * b ≤ 60 := by
  refine ⟨Int.mul_nonneg ha.1 hb.1, ?_⟩
  have : a * b ≤ 5 * 12 := Int.mul_le_mul (by omega) hb.2 hb.1 (by decide)
  omega
theorem wgs_r {w k : Int} (hk : 2 ≤ k ∧ k ≤ 5) (hw : 0 ≤ w ∧ w < k * k * k) : (0 ≤ w / (k * k) ∧ w / (k * k) < 5) ∧ (0 ≤ w / k % k ∧ w / k % k < 5) ∧ 0 ≤ w % k ∧ w % k < 5 := by
  have a := wg_r (s := 0) hk hw
  have b := wg_r (s := 1) hk hw
  have c := wg_r (s := 2) hk hw
  exact ⟨a, b, c⟩
theorem c_restOf {γ : Gh} {K : Sk} {V : Mm} (hL : Lay K) (hV : SV V) {s w k : Int} (hs : 0 ≤ s ∧ s < 2197) (hk : 2 ≤ k ∧ k ≤ 5) (hw : 0 ≤ w ∧ w < k * k * k) : Call γ M_X11_restOf 1 0 0 [vI s, vI w, vI k] K V (Rt (some (vI (rsF s w k))) K V) := by
  refine call_of (by decide +kernel) (by intro v hv; simp only [List.mem_cons, List.not_mem_nil, or_false] at hv; rcases hv with rfl | rfl | rfl <;> exact fun q => by cases q) (Nat.le_of_ble_eq_true rfl) ?_
  refine ev_lsE (ls' := [_, _, _]) rfl ?_
  obtain ⟨k1, k2, k3, k4⟩ := kk_r (w := w) hk (by omega)
  obtain ⟨a1, a2, a3⟩ := wgs_r hk hw
  have c0 := cnt_r s 0
  have c1 := cnt_r s 1
  have c2 := cnt_r s 2
  have m0 := mul_60 a1 (b := cnt s 0) (by omega)
  have m1 := mul_60 a2 (b := cnt s 1) (by omega)
  have m2 := mul_60 a3 (b := cnt s 2) (by omega)
  refine ev_iload_n (X := M_X11_restOf) (pc := 0) dX11_restOf_0 rfl ?_
  refine ev_iload_n (X := M_X11_restOf) (pc := 1) dX11_restOf_1 rfl ?_
  refine ev_iload_n (X := M_X11_restOf) (pc := 2) dX11_restOf_2 rfl ?_
  refine ev_imul (X := M_X11_restOf) (pc := 3) dX11_restOf_3 ?_
  refine ev_idiv (X := M_X11_restOf) (pc := 4) dX11_restOf_4 (by omega) (by omega) ?_
  refine ev_iload_n (X := M_X11_restOf) (pc := 5) dX11_restOf_5 rfl ?_
  refine ev_iconst (X := M_X11_restOf) (pc := 6) dX11_restOf_6 ?_
  refine ev_staticR (X := M_X11_restOf) (Y := M_X11_countOf) (pc := 7) dX11_restOf_7 mk_X11_countOf kw_324 kw_325 (c_countOf hL hV (by omega) (by decide)) rfl (by decide) rfl (Nat.le_of_ble_eq_true rfl) (Nat.zero_add _) (Nat.zero_add _) ?_
  refine ev_imul (X := M_X11_restOf) (pc := 10) dX11_restOf_10 ?_
  refine ev_iload_n (X := M_X11_restOf) (pc := 11) dX11_restOf_11 rfl ?_
  refine ev_iload_n (X := M_X11_restOf) (pc := 12) dX11_restOf_12 rfl ?_
  refine ev_idiv (X := M_X11_restOf) (pc := 13) dX11_restOf_13 (by omega) (by omega) ?_
  refine ev_iload_n (X := M_X11_restOf) (pc := 14) dX11_restOf_14 rfl ?_
  refine ev_irem (X := M_X11_restOf) (pc := 15) dX11_restOf_15 (by omega) (by omega) ?_
  refine ev_iload_n (X := M_X11_restOf) (pc := 16) dX11_restOf_16 rfl ?_
  refine ev_iconst (X := M_X11_restOf) (pc := 17) dX11_restOf_17 ?_
  refine ev_staticR (X := M_X11_restOf) (Y := M_X11_countOf) (pc := 18) dX11_restOf_18 mk_X11_countOf kw_324 kw_325 (c_countOf hL hV (by omega) (by decide)) rfl (by decide) rfl (Nat.le_of_ble_eq_true rfl) (Nat.zero_add _) (Nat.zero_add _) ?_
  refine ev_imul (X := M_X11_restOf) (pc := 21) dX11_restOf_21 ?_
  refine ev_iadd (X := M_X11_restOf) (pc := 22) dX11_restOf_22 ?_
  refine ev_iload_n (X := M_X11_restOf) (pc := 23) dX11_restOf_23 rfl ?_
  refine ev_iload_n (X := M_X11_restOf) (pc := 24) dX11_restOf_24 rfl ?_
  refine ev_irem (X := M_X11_restOf) (pc := 25) dX11_restOf_25 (by omega) (by omega) ?_
  refine ev_iload_n (X := M_X11_restOf) (pc := 26) dX11_restOf_26 rfl ?_
  refine ev_iconst (X := M_X11_restOf) (pc := 27) dX11_restOf_27 ?_
  refine ev_staticR (X := M_X11_restOf) (Y := M_X11_countOf) (pc := 28) dX11_restOf_28 mk_X11_countOf kw_324 kw_325 (c_countOf hL hV (by omega) (by decide)) rfl (by decide) rfl (Nat.le_of_ble_eq_true rfl) (Nat.zero_add _) (Nat.zero_add _) ?_
  refine ev_imul (X := M_X11_restOf) (pc := 31) dX11_restOf_31 ?_
  refine ev_iadd (X := M_X11_restOf) (pc := 32) dX11_restOf_32 ?_
  refine ev_iload_n (X := M_X11_restOf) (pc := 33) dX11_restOf_33 rfl ?_
  refine ev_irem (X := M_X11_restOf) (pc := 34) dX11_restOf_34 (by omega) (by omega) ?_
  refine ev_iret (X := M_X11_restOf) (pc := 35) dX11_restOf_35 rfl ?_
  exact ⟨rfl, rfl, rfl⟩
theorem end_cnt {j k : Int} (hj : 0 ≤ j ∧ j ≤ 12) (hk : 0 ≤ k ∧ k < 3) : cnt (j * wgtF k) 0 = (if k = 0 then j else 0) ∧ cnt (j * wgtF k) 1 = (if k = 1 then j else 0) ∧ cnt (j * wgtF k) 2 = if k = 2 then j else 0 := by
  have w0 : wgtF 0 = 169 := rfl
  have w1 : wgtF 1 = 13 := rfl
  have w2 : wgtF 2 = 1 := rfl
  rcases (show k = 0 ∨ k = 1 ∨ k = 2 by omega) with z | z | z <;> subst z
  · have hm := st_mk (a := j) (b := 0) (c := 0) (by omega) (by omega) (by omega) (by omega)
    rw [w0, show j * 169 = 169 * j + 13 * 0 + 0 by omega]
    exact ⟨hm.2.1, hm.2.2.1, hm.2.2.2.1⟩
  · have hm := st_mk (a := 0) (b := j) (c := 0) (by omega) (by omega) (by omega) (by omega)
    rw [w1, show j * 13 = 169 * 0 + 13 * j + 0 by omega]
    exact ⟨hm.2.1, hm.2.2.1, hm.2.2.2.1⟩
  · have hm := st_mk (a := 0) (b := 0) (c := j) (by omega) (by omega) (by omega) (by omega)
    rw [w2, show j * 1 = 169 * 0 + 13 * 0 + j by omega]
    exact ⟨hm.2.1, hm.2.2.1, hm.2.2.2.1⟩
theorem rsF_end {j s w k : Int} (hj : 0 ≤ j ∧ j ≤ 12) (hs : 0 ≤ s ∧ s < 3) : rsF (j * wgtF s) w k = wg w k s * j % k := by
  obtain ⟨e0, e1, e2⟩ := end_cnt hj hs
  unfold rsF wg
  rw [e0, e1, e2]
  rcases (show s = 0 ∨ s = 1 ∨ s = 2 by omega) with z | z | z <;> subst z <;> simp
/-- whether some weights bar it -/
def baG (U : Int → Int) (X Y : Int → Int) : Nat → Int → Int
  | 0, _ => 0
  | n + 1, w => if U w = 1 ∧ X w ≠ Y w then 1 else baG U X Y n (w + 1)
def baR (C : Int → Int) (F s0 s k : Int) : Int := if (0 ≤ s ∧ s < 3) ∧ 2 ≤ k ∧ k ≤ 5 then (if bei s0 = 0 then -1000000003 else baG (fun w => kq C F w k) (fun w => rsF (bei s0 * wgtF s) w k) (fun w => rsF s0 w k) (k * k * k).toNat 0) else -1000000001
def baE (s0 s k : Int) (er : Int → Int) : Int → Int := if (0 ≤ s ∧ s < 3) ∧ 2 ≤ k ∧ k ≤ 5 then (if bei s0 = 0 then up er 3 (er 3 + 1) else er) else up er 1 (er 1 + 1)
theorem k3_r {k : Int} (hk : 2 ≤ k ∧ k ≤ 5) : 8 ≤ k * k * k ∧ k * k * k ≤ 125 := by
  rcases (show k = 2 ∨ k = 3 ∨ k = 4 ∨ k = 5 by omega) with z | z | z | z <;> subst z <;> decide
theorem rsF_r {s w k : Int} (hk : 2 ≤ k ∧ k ≤ 5) : 0 ≤ rsF s w k ∧ rsF s w k < 5 := by
  unfold rsF
  have h1 := Int.emod_nonneg (w / (k * k) * cnt s 0 + w / k % k * cnt s 1 + w % k * cnt s 2) (show k ≠ 0 by omega)
  have h2 := Int.emod_lt_of_pos (w / (k * k) * cnt s 0 + w / k % k * cnt s 1 + w % k * cnt s 2) (show 0 < k by omega)
  omega
theorem c_bars {γ : Gh} {K : Sk} {V : Mm} {C : Int → Int} {F s0 s k : Int} (h : SrP K V C F) (hCh : ChD V C) (hs : isSt s0) (hn : V 102 4 = s0) (hsr : R32 s) (hkr : R32 k) : Call γ M_X11_bars 2 0 0 [vR 100, vI s, vI k] K V (Qx (some (vI (baR C F s0 s k))) K (CS C F V (baE s0 s k (V 155)))) := by
  refine call_of (by decide +kernel) (by intro v hv; simp only [List.mem_cons, List.not_mem_nil, or_false] at hv; rcases hv with rfl | rfl | rfl <;> exact fun q => by cases q) (Nat.le_of_ble_eq_true rfl) ?_
  refine ev_lsE (ls' := [_, _, _, _, _, _]) rfl ?_
  have hL := h.1
  have hV := h.2.1
  have hC := h.2.2.2.1
  have hF6 := h.2.2.2.2.1
  have hVF : V 102 5 = F := h.2.2.2.2.2.1.1
  have hsl := isSt_lt hs
  have hb12 := hs.2.2
  have hbr := bei_r (s := s0) (by omega)
  unfold baR baE
  refine ev_iload_n (X := M_X11_bars) (pc := 0) dX11_bars_0 rfl ?_
  refine ev_staticR (X := M_X11_bars) (Y := M_X11_isSort) (pc := 1) dX11_bars_1 mk_X11_isSort kw_317 kw_235 (c_isSort hsr) rfl (by decide) rfl (Nat.le_of_ble_eq_true rfl) (Nat.zero_add _) (Nat.zero_add _) ?_
  refine ev_if_eq (X := M_X11_bars) (pc := 4) (tgt := 14) dX11_bars_4 (by decide) (by split <;> decide) (fun h4 => ?_) (fun h4 => ?_)
  · have hno : ¬ ((0 ≤ s ∧ s < 3) ∧ 2 ≤ k ∧ k ≤ 5) := fun z => by rw [if_pos z.1] at h4; exact absurd h4 (by decide)
    refine ev_aload_n (X := M_X11_bars) (pc := 14) dX11_bars_14 rfl ?_
    refine ev_ldc (X := M_X11_bars) (pc := 15) (v := -1000000001) dX11_bars_15 kw_318 (by decide) ?_
    refine ev_virtR (X := M_X11_bars) (Y := M_X11_error) (pc := 17) (ci := 11) dX11_bars_17 mk_X11_error rfl kw_319 kw_321 kp_0 (lO_100 hL) (c_error hL (k := 1) (by decide) rfl) rfl (by decide) rfl (Nat.le_of_ble_eq_true rfl) (Nat.zero_add _) (Nat.zero_add _) ?_
    refine ev_iret (X := M_X11_bars) (pc := 20) dX11_bars_20 rfl ?_
    rw [if_neg hno, if_neg hno]
    exact ⟨rfl, rfl, by rw [err_119]; exact h.2.2.2.2.2.2.2, err_155, frS.rf.er 1⟩
  · have hs3 : 0 ≤ s ∧ s < 3 := Decidable.byContradiction fun z => h4 (by rw [if_neg z])
    refine ev_iload_n (X := M_X11_bars) (pc := 7) dX11_bars_7 rfl ?_
    refine ev_staticR (X := M_X11_bars) (Y := M_X11_isRest) (pc := 8) dX11_bars_8 mk_X11_isRest kw_708 kw_709 (c_isRest hkr) rfl (by decide) rfl (Nat.le_of_ble_eq_true rfl) (Nat.zero_add _) (Nat.zero_add _) ?_
    refine ev_if_ne (X := M_X11_bars) (pc := 11) (tgt := 21) dX11_bars_11 (by decide) (by split <;> decide) (fun h11 => ?_) (fun h11 => ?_)
    · have hk : 2 ≤ k ∧ k ≤ 5 := Decidable.byContradiction fun z => h11 (by rw [if_neg z])
      have hye : (0 ≤ s ∧ s < 3) ∧ 2 ≤ k ∧ k ≤ 5 := ⟨hs3, hk⟩
      rw [if_pos hye, if_pos hye]
      refine ev_aload_n (X := M_X11_bars) (pc := 21) dX11_bars_21 rfl ?_
      refine ev_getRe (X := M_X11_bars) (pc := 22) dX11_bars_22 fl_X11_20_11 (lO_100 hL) rfl (lR_100_0 hL) ?_
      refine ev_getIe (X := M_X11_bars) (pc := 25) (ki := 4) dX11_bars_25 fl_X11_61_2 (lO_102 hL) (by decide) rfl (hn) ?_
      refine ev_staticR (X := M_X11_bars) (Y := M_X11_beingsOf) (pc := 28) dX11_bars_28 mk_X11_beingsOf kw_181 kw_182 (c_beingsOf (by omega)) rfl (by decide) rfl (Nat.le_of_ble_eq_true rfl) (Nat.zero_add _) (Nat.zero_add _) ?_
      refine ev_istore_nL (X := M_X11_bars) (pc := 31) (ls' := [_, _, _, _, _, _]) dX11_bars_31 (by decide) rfl ?_
      refine ev_iload_n (X := M_X11_bars) (pc := 32) dX11_bars_32 rfl ?_
      refine ev_if_ne (X := M_X11_bars) (pc := 33) (tgt := 43) dX11_bars_33 (by decide) (by omega) (fun h33 => ?_) (fun h33 => ?_)
      · rw [if_neg h33, if_neg h33]
        refine ev_iload_n (X := M_X11_bars) (pc := 43) dX11_bars_43 rfl ?_
        refine ev_gets (X := M_X11_bars) (pc := 44) (q := ("GreenPath", "WEIGHT", "[I", vR 3)) dX11_bars_44 st_3 kw_180 ?_
        refine ev_iload_n (X := M_X11_bars) (pc := 47) dX11_bars_47 rfl ?_
        refine ev_ialoadE (X := M_X11_bars) (pc := 48) dX11_bars_48 (lS_3 hL) (by omega) (congrFun hV.2.2 _) ?_
        refine ev_imul (X := M_X11_bars) (pc := 49) dX11_bars_49 ?_
        refine ev_istoreL (X := M_X11_bars) (pc := 50) (ls' := [_, _, _, _, _, _]) dX11_bars_50 (by decide) rfl ?_
        refine ev_iconst (X := M_X11_bars) (pc := 52) dX11_bars_52 ?_
        refine ev_istoreL (X := M_X11_bars) (pc := 53) (ls' := [_, _, _, _, _, _]) dX11_bars_53 (by decide) rfl ?_
        have hkk := k3_r hk
        have hend := isSt_lt (end_st (j := bei s0) (k := s) (by omega) hs3)
        obtain ⟨G, hG⟩ : ∃ G, G = baG (fun w => kq C F w k) (fun w => rsF (bei s0 * wgtF s) w k) (fun w => rsF s0 w k) (k * k * k).toNat 0 := ⟨_, rfl⟩
        rw [← hG]
        refine ev_weak (ev_countI (k * k * k) 0 (fun w => G = baG (fun w => kq C F w k) (fun w => rsF (bei s0 * wgtF s) w k) (fun w => rsF s0 w k) (k * k * k - w).toNat w) (fun w => [vR 100, vI s, vI k, vI (bei s0), vI (bei s0 * wgtF s), vI w]) (by omega) (by show G = baG _ _ _ (k * k * k - 0).toNat 0; rw [Int.sub_zero]; exact hG) ?_) ⟨rfl, rfl, rfl, rfl, rfl, rfl, trivial⟩
        intro w w0 w1 hg ih
        have hgs : w < k * k * k → G = if kq C F w k = 1 ∧ rsF (bei s0 * wgtF s) w k ≠ rsF s0 w k then 1 else baG (fun w => kq C F w k) (fun w => rsF (bei s0 * wgtF s) w k) (fun w => rsF s0 w k) (k * k * k - (w + 1)).toNat (w + 1) := fun z => by
          rw [hg, show (k * k * k - w).toNat = (k * k * k - (w + 1)).toNat + 1 by omega]
          rfl
        have h01 := kq_01 (C := C) (F := F) (w := w) (k := k)
        have r1 := rsF_r (s := bei s0 * wgtF s) (w := w) hk
        have r2 := rsF_r (s := s0) (w := w) hk
        refine ev_iload (X := M_X11_bars) (pc := 55) dX11_bars_55 rfl ?_
        refine ev_iload_n (X := M_X11_bars) (pc := 57) dX11_bars_57 rfl ?_
        refine ev_iload_n (X := M_X11_bars) (pc := 58) dX11_bars_58 rfl ?_
        refine ev_imul (X := M_X11_bars) (pc := 59) dX11_bars_59 ?_
        refine ev_iload_n (X := M_X11_bars) (pc := 60) dX11_bars_60 rfl ?_
        refine ev_imul (X := M_X11_bars) (pc := 61) dX11_bars_61 ?_
        refine ev_icmp_ge (X := M_X11_bars) (pc := 62) (tgt := 110) dX11_bars_62 (by decide) (by omega) (by omega) (fun h62 => ?_) (fun h62 => ?_)
        · have hw : (k * k * k - w).toNat = 0 := by omega
          rw [hw] at hg
          have hg2 : G = 0 := hg
          refine ev_iconst (X := M_X11_bars) (pc := 110) dX11_bars_110 ?_
          refine ev_iret (X := M_X11_bars) (pc := 111) dX11_bars_111 rfl ?_
          exact ⟨by rw [hg2], rfl, h.2.2.2.2.2.2.2, rfl, frS.rf⟩
        · have hgs2 := hgs (by omega)
          refine ev_aload_n (X := M_X11_bars) (pc := 65) dX11_bars_65 rfl ?_
          refine ev_getRe (X := M_X11_bars) (pc := 66) dX11_bars_66 fl_X11_20_11 (lO_100 hL) rfl (lR_100_0 hL) ?_
          refine ev_iload (X := M_X11_bars) (pc := 69) dX11_bars_69 rfl ?_
          refine ev_iload_n (X := M_X11_bars) (pc := 71) dX11_bars_71 rfl ?_
          refine ev_virtR (X := M_X11_bars) (Y := M_X2_keepsRest) (pc := 72) (ci := 2) dX11_bars_72 mk_X2_keepsRest rfl kw_711 kw_712 kw_713 (lO_102 hL) (c_keepsRest hL hC hF6 hVF hCh hk (by omega)) rfl (by decide) rfl (Nat.le_of_ble_eq_true rfl) (Nat.zero_add _) (Nat.zero_add _) ?_
          refine ev_if_eq (X := M_X11_bars) (pc := 75) (tgt := 104) dX11_bars_75 (by decide) (by omega) (fun h75 => ?_) (fun h75 => ?_)
          · rw [if_neg (fun z => by omega)] at hgs2
            refine ev_iincL (X := M_X11_bars) (pc := 104) (ls' := [_, _, _, _, _, _]) dX11_bars_104 rfl (by decide) rfl ?_
            refine ev_goto (X := M_X11_bars) (pc := 107) (tgt := 55) dX11_bars_107 (by decide) ?_
            exact ev_weak (ih (by omega) hgs2) ⟨rfl, rfl, rfl, rfl, rfl, rfl, trivial⟩
          · refine ev_iload (X := M_X11_bars) (pc := 78) dX11_bars_78 rfl ?_
            refine ev_iload (X := M_X11_bars) (pc := 80) dX11_bars_80 rfl ?_
            refine ev_iload_n (X := M_X11_bars) (pc := 82) dX11_bars_82 rfl ?_
            refine ev_staticR (X := M_X11_bars) (Y := M_X11_restOf) (pc := 83) dX11_bars_83 mk_X11_restOf kw_719 kw_720 (c_restOf hL hV hend hk (by omega)) rfl (by decide) rfl (Nat.le_of_ble_eq_true rfl) (Nat.zero_add _) (Nat.zero_add _) ?_
            refine ev_aload_n (X := M_X11_bars) (pc := 86) dX11_bars_86 rfl ?_
            refine ev_getRe (X := M_X11_bars) (pc := 87) dX11_bars_87 fl_X11_20_11 (lO_100 hL) rfl (lR_100_0 hL) ?_
            refine ev_getIe (X := M_X11_bars) (pc := 90) (ki := 4) dX11_bars_90 fl_X11_61_2 (lO_102 hL) (by decide) rfl (hn) ?_
            refine ev_iload (X := M_X11_bars) (pc := 93) dX11_bars_93 rfl ?_
            refine ev_iload_n (X := M_X11_bars) (pc := 95) dX11_bars_95 rfl ?_
            refine ev_staticR (X := M_X11_bars) (Y := M_X11_restOf) (pc := 96) dX11_bars_96 mk_X11_restOf kw_719 kw_720 (c_restOf hL hV hsl hk (by omega)) rfl (by decide) rfl (Nat.le_of_ble_eq_true rfl) (Nat.zero_add _) (Nat.zero_add _) ?_
            refine ev_icmp_eq (X := M_X11_bars) (pc := 99) (tgt := 104) dX11_bars_99 (by decide) (by omega) (by omega) (fun h99 => ?_) (fun h99 => ?_)
            · rw [if_neg (fun z => z.2 h99)] at hgs2
              refine ev_iincL (X := M_X11_bars) (pc := 104) (ls' := [_, _, _, _, _, _]) dX11_bars_104 rfl (by decide) rfl ?_
              refine ev_goto (X := M_X11_bars) (pc := 107) (tgt := 55) dX11_bars_107 (by decide) ?_
              exact ev_weak (ih (by omega) hgs2) ⟨rfl, rfl, rfl, rfl, rfl, rfl, trivial⟩
            · rw [if_pos ⟨by omega, h99⟩] at hgs2
              refine ev_iconst (X := M_X11_bars) (pc := 102) dX11_bars_102 ?_
              refine ev_iret (X := M_X11_bars) (pc := 103) dX11_bars_103 rfl ?_
              exact ⟨by rw [hgs2], rfl, h.2.2.2.2.2.2.2, rfl, frS.rf⟩
      · rw [if_pos h33, if_pos h33]
        refine ev_aload_n (X := M_X11_bars) (pc := 36) dX11_bars_36 rfl ?_
        refine ev_ldc (X := M_X11_bars) (pc := 37) (v := -1000000003) dX11_bars_37 kw_624 (by decide) ?_
        refine ev_virtR (X := M_X11_bars) (Y := M_X11_error) (pc := 39) (ci := 11) dX11_bars_39 mk_X11_error rfl kw_319 kw_321 kp_0 (lO_100 hL) (c_error hL (k := 3) (by decide) rfl) rfl (by decide) rfl (Nat.le_of_ble_eq_true rfl) (Nat.zero_add _) (Nat.zero_add _) ?_
        refine ev_iret (X := M_X11_bars) (pc := 42) dX11_bars_42 rfl ?_
        exact ⟨rfl, rfl, by rw [err_119]; exact h.2.2.2.2.2.2.2, err_155, frS.rf.er 3⟩
    · have hno : ¬ ((0 ≤ s ∧ s < 3) ∧ 2 ≤ k ∧ k ≤ 5) := fun z => by rw [if_pos z.2] at h11; exact absurd h11 (by decide)
      refine ev_aload_n (X := M_X11_bars) (pc := 14) dX11_bars_14 rfl ?_
      refine ev_ldc (X := M_X11_bars) (pc := 15) (v := -1000000001) dX11_bars_15 kw_318 (by decide) ?_
      refine ev_virtR (X := M_X11_bars) (Y := M_X11_error) (pc := 17) (ci := 11) dX11_bars_17 mk_X11_error rfl kw_319 kw_321 kp_0 (lO_100 hL) (c_error hL (k := 1) (by decide) rfl) rfl (by decide) rfl (Nat.le_of_ble_eq_true rfl) (Nat.zero_add _) (Nat.zero_add _) ?_
      refine ev_iret (X := M_X11_bars) (pc := 20) dX11_bars_20 rfl ?_
      rw [if_neg hno, if_neg hno]
      exact ⟨rfl, rfl, by rw [err_119]; exact h.2.2.2.2.2.2.2, err_155, frS.rf.er 1⟩
theorem m_weightOf {γ : Gh} {K : Sk} {V : Mm} {w k s : Int} (hk : 2 ≤ k ∧ k ≤ 5) (hw : 0 ≤ w ∧ w < k * k * k) (hs : R32 s) : Call γ M_X12_weightOf 0 0 0 [vI w, vI k, vI s] K V (Rt (some (vI (wg w k s))) K V) := by
  refine call_of (by decide +kernel) (by intro v hv; simp only [List.mem_cons, List.not_mem_nil, or_false] at hv; rcases hv with rfl | rfl | rfl <;> exact fun q => by cases q) (Nat.le_of_ble_eq_true rfl) ?_
  refine ev_lsE (ls' := [_, _, _]) rfl ?_
  obtain ⟨k1, k2, k3, k4⟩ := kk_r (w := w) hk (by omega)
  have e : wg w k s = wg w k s := rfl
  unfold wg at e
  refine ev_iload_n (X := M_X12_weightOf) (pc := 0) dX12_weightOf_0 rfl ?_
  refine ev_if_ge (X := M_X12_weightOf) (pc := 1) (tgt := 8) dX12_weightOf_1 (by decide) (by omega) (fun h1 => ?_) (fun h1 => ?_)
  · refine ev_iload_n (X := M_X12_weightOf) (pc := 8) dX12_weightOf_8 rfl ?_
    refine ev_if_ne (X := M_X12_weightOf) (pc := 9) (tgt := 20) dX12_weightOf_9 (by decide) (by omega) (fun h9 => ?_) (fun h9 => ?_)
    · refine ev_iload_n (X := M_X12_weightOf) (pc := 20) dX12_weightOf_20 rfl ?_
      refine ev_iconst (X := M_X12_weightOf) (pc := 21) dX12_weightOf_21 ?_
      refine ev_icmp_ne (X := M_X12_weightOf) (pc := 22) (tgt := 33) dX12_weightOf_22 (by decide) (by omega) (by omega) (fun h22 => ?_) (fun h22 => ?_)
      · refine ev_iload_n (X := M_X12_weightOf) (pc := 33) dX12_weightOf_33 rfl ?_
        refine ev_iload_n (X := M_X12_weightOf) (pc := 34) dX12_weightOf_34 rfl ?_
        refine ev_irem (X := M_X12_weightOf) (pc := 35) dX12_weightOf_35 (by omega) (by omega) ?_
        refine ev_iret (X := M_X12_weightOf) (pc := 36) dX12_weightOf_36 rfl ?_
        refine ⟨congrArg (fun z => some (vI z)) ?_, rfl, rfl⟩
        unfold wg
        first
          | rw [if_pos (by omega)]
          | rw [if_neg (by omega), if_pos (by omega)]
          | rw [if_neg (by omega), if_neg (by omega), if_pos (by omega)]
          | rw [if_neg (by omega), if_neg (by omega), if_neg (by omega)]
      · refine ev_iload_n (X := M_X12_weightOf) (pc := 25) dX12_weightOf_25 rfl ?_
        refine ev_iload_n (X := M_X12_weightOf) (pc := 26) dX12_weightOf_26 rfl ?_
        refine ev_idiv (X := M_X12_weightOf) (pc := 27) dX12_weightOf_27 (by omega) (by omega) ?_
        refine ev_iload_n (X := M_X12_weightOf) (pc := 28) dX12_weightOf_28 rfl ?_
        refine ev_irem (X := M_X12_weightOf) (pc := 29) dX12_weightOf_29 (by omega) (by omega) ?_
        refine ev_goto (X := M_X12_weightOf) (pc := 30) (tgt := 36) dX12_weightOf_30 (by decide) ?_
        refine ev_iret (X := M_X12_weightOf) (pc := 36) dX12_weightOf_36 rfl ?_
        refine ⟨congrArg (fun z => some (vI z)) ?_, rfl, rfl⟩
        unfold wg
        first
          | rw [if_pos (by omega)]
          | rw [if_neg (by omega), if_pos (by omega)]
          | rw [if_neg (by omega), if_neg (by omega), if_pos (by omega)]
          | rw [if_neg (by omega), if_neg (by omega), if_neg (by omega)]
    · refine ev_iload_n (X := M_X12_weightOf) (pc := 12) dX12_weightOf_12 rfl ?_
      refine ev_iload_n (X := M_X12_weightOf) (pc := 13) dX12_weightOf_13 rfl ?_
      refine ev_iload_n (X := M_X12_weightOf) (pc := 14) dX12_weightOf_14 rfl ?_
      refine ev_imul (X := M_X12_weightOf) (pc := 15) dX12_weightOf_15 ?_
      refine ev_idiv (X := M_X12_weightOf) (pc := 16) dX12_weightOf_16 (by omega) (by omega) ?_
      refine ev_goto (X := M_X12_weightOf) (pc := 17) (tgt := 36) dX12_weightOf_17 (by decide) ?_
      refine ev_iret (X := M_X12_weightOf) (pc := 36) dX12_weightOf_36 rfl ?_
      refine ⟨congrArg (fun z => some (vI z)) ?_, rfl, rfl⟩
      unfold wg
      first
        | rw [if_pos (by omega)]
        | rw [if_neg (by omega), if_pos (by omega)]
        | rw [if_neg (by omega), if_neg (by omega), if_pos (by omega)]
        | rw [if_neg (by omega), if_neg (by omega), if_neg (by omega)]
  · refine ev_iconst (X := M_X12_weightOf) (pc := 4) dX12_weightOf_4 ?_
    refine ev_goto (X := M_X12_weightOf) (pc := 5) (tgt := 36) dX12_weightOf_5 (by decide) ?_
    refine ev_iret (X := M_X12_weightOf) (pc := 36) dX12_weightOf_36 rfl ?_
    refine ⟨congrArg (fun z => some (vI z)) ?_, rfl, rfl⟩
    unfold wg
    first
      | rw [if_pos (by omega)]
      | rw [if_neg (by omega), if_pos (by omega)]
      | rw [if_neg (by omega), if_neg (by omega), if_pos (by omega)]
      | rw [if_neg (by omega), if_neg (by omega), if_neg (by omega)]
theorem m_isKeptBy {γ : Gh} {K : Sk} {V : Mm} (hL : Lay K) {D C : Int → Int} {w k : Int} (hD : V 157 = D) (hF : wfF D) (hC : wfC C) (hC1 : V 161 = C) (hk : 2 ≤ k ∧ k ≤ 5) (hw : 0 ≤ w ∧ w < k * k * k) : Call γ M_X12_isKeptBy 1 0 0 [vR 156, vI w, vI k] K V (Rt (some (vI (kq C (fS D) w k))) K V) := by
  refine call_of (by decide +kernel) (by intro v hv; simp only [List.mem_cons, List.not_mem_nil, or_false] at hv; rcases hv with rfl | rfl | rfl <;> exact fun q => by cases q) (Nat.le_of_ble_eq_true rfl) ?_
  refine ev_lsE (ls' := [_, _, _, _, _, _]) rfl ?_
  refine ev_iconst (X := M_X12_isKeptBy) (pc := 0) dX12_isKeptBy_0 ?_
  refine ev_istore_nL (X := M_X12_isKeptBy) (pc := 1) (ls' := [_, _, _, _, _, _]) dX12_isKeptBy_1 (by decide) rfl ?_
  refine ev_weak (ev_countI 6 0 (fun i => ∀ p, 0 ≤ p → p < i → kpP C (fS D) w k p) (fun i => [vR 156, vI w, vI k, vI i, vU, vU]) (by decide) (fun p h0 h1 => by omega) ?_) ⟨rfl, rfl, rfl, rfl, trivial⟩
  intro p p0 p1 hI ih
  have hab := ab_r (C := C) (p := p) hk hw
  refine ev_iload_n (X := M_X12_isKeptBy) (pc := 2) dX12_isKeptBy_2 rfl ?_
  refine ev_bipush (X := M_X12_isKeptBy) (pc := 3) dX12_isKeptBy_3 (by decide) ?_
  refine ev_icmp_ge (X := M_X12_isKeptBy) (pc := 5) (tgt := 107) dX12_isKeptBy_5 (by decide) (by omega) (by omega) (fun h5 => ?_) (fun h5 => ?_)
  · refine ev_iconst (X := M_X12_isKeptBy) (pc := 107) dX12_isKeptBy_107 ?_
    refine ev_bret (X := M_X12_isKeptBy) (pc := 108) dX12_isKeptBy_108 rfl (by decide) ?_
    exact ⟨by rw [kq_y (fun q h0 h1 => hI q h0 (by omega))], rfl, rfl⟩
  · have hp6 : 0 ≤ p ∧ p < 6 := by omega
    obtain ⟨c1, c2, c3⟩ := hC p hp6
    have l1 := les_r p hp6
    have l2 := gre_r p hp6
    have hbit := fS_bit hF hp6
    have hb01 := hF p hp6
    have hDp := congrFun hD (15 + p)
    refine ev_iload_n (X := M_X12_isKeptBy) (pc := 8) dX12_isKeptBy_8 rfl ?_
    refine ev_iload_n (X := M_X12_isKeptBy) (pc := 9) dX12_isKeptBy_9 rfl ?_
    refine ev_iload_n (X := M_X12_isKeptBy) (pc := 10) dX12_isKeptBy_10 rfl ?_
    refine ev_staticR (X := M_X12_isKeptBy) (Y := M_X12_first) (pc := 11) dX12_isKeptBy_11 mk_X12_first kw_1205 kw_1206 (m_first (by omega)) rfl (by decide) rfl (Nat.le_of_ble_eq_true rfl) (Nat.zero_add _) (Nat.zero_add _) ?_
    refine ev_staticR (X := M_X12_isKeptBy) (Y := M_X12_weightOf) (pc := 14) dX12_isKeptBy_14 mk_X12_weightOf kw_1317 kw_1318 (m_weightOf hk hw (by omega)) rfl (by decide) rfl (Nat.le_of_ble_eq_true rfl) (Nat.zero_add _) (Nat.zero_add _) ?_
    refine ev_iload_n (X := M_X12_isKeptBy) (pc := 17) dX12_isKeptBy_17 rfl ?_
    refine ev_iload_n (X := M_X12_isKeptBy) (pc := 18) dX12_isKeptBy_18 rfl ?_
    refine ev_iload_n (X := M_X12_isKeptBy) (pc := 19) dX12_isKeptBy_19 rfl ?_
    refine ev_staticR (X := M_X12_isKeptBy) (Y := M_X12_second) (pc := 20) dX12_isKeptBy_20 mk_X12_second kw_1208 kw_1209 (m_second (by omega)) rfl (by decide) rfl (Nat.le_of_ble_eq_true rfl) (Nat.zero_add _) (Nat.zero_add _) ?_
    refine ev_staticR (X := M_X12_isKeptBy) (Y := M_X12_weightOf) (pc := 23) dX12_isKeptBy_23 mk_X12_weightOf kw_1317 kw_1318 (m_weightOf hk hw (by omega)) rfl (by decide) rfl (Nat.le_of_ble_eq_true rfl) (Nat.zero_add _) (Nat.zero_add _) ?_
    refine ev_iadd (X := M_X12_isKeptBy) (pc := 26) dX12_isKeptBy_26 ?_
    have ea : wg w k (lesF p) + wg w k (greF p) = ahd w k p := rfl
    rw [ea]
    refine ev_istoreL (X := M_X12_isKeptBy) (pc := 27) (ls' := [_, _, _, _, _, _]) dX12_isKeptBy_27 (by decide) rfl ?_
    refine ev_iload_n (X := M_X12_isKeptBy) (pc := 29) dX12_isKeptBy_29 rfl ?_
    refine ev_iload_n (X := M_X12_isKeptBy) (pc := 30) dX12_isKeptBy_30 rfl ?_
    refine ev_aload_n (X := M_X12_isKeptBy) (pc := 31) dX12_isKeptBy_31 rfl ?_
    refine ev_getRe (X := M_X12_isKeptBy) (pc := 32) dX12_isKeptBy_32 fl_X12_22_12 (lO_156 hL) rfl (lR_156_11 hL) ?_
    refine ev_iconst (X := M_X12_isKeptBy) (pc := 35) dX12_isKeptBy_35 ?_
    refine ev_iload_n (X := M_X12_isKeptBy) (pc := 36) dX12_isKeptBy_36 rfl ?_
    refine ev_imul (X := M_X12_isKeptBy) (pc := 37) dX12_isKeptBy_37 ?_
    refine ev_ialoadE (X := M_X12_isKeptBy) (pc := 38) dX12_isKeptBy_38 (lS_161 hL) (by omega) (congrFun hC1 _) ?_
    refine ev_staticR (X := M_X12_isKeptBy) (Y := M_X12_weightOf) (pc := 39) dX12_isKeptBy_39 mk_X12_weightOf kw_1317 kw_1318 (m_weightOf hk hw (by omega)) rfl (by decide) rfl (Nat.le_of_ble_eq_true rfl) (Nat.zero_add _) (Nat.zero_add _) ?_
    refine ev_iload_n (X := M_X12_isKeptBy) (pc := 42) dX12_isKeptBy_42 rfl ?_
    refine ev_iload_n (X := M_X12_isKeptBy) (pc := 43) dX12_isKeptBy_43 rfl ?_
    refine ev_aload_n (X := M_X12_isKeptBy) (pc := 44) dX12_isKeptBy_44 rfl ?_
    refine ev_getRe (X := M_X12_isKeptBy) (pc := 45) dX12_isKeptBy_45 fl_X12_22_12 (lO_156 hL) rfl (lR_156_11 hL) ?_
    refine ev_iconst (X := M_X12_isKeptBy) (pc := 48) dX12_isKeptBy_48 ?_
    refine ev_iload_n (X := M_X12_isKeptBy) (pc := 49) dX12_isKeptBy_49 rfl ?_
    refine ev_imul (X := M_X12_isKeptBy) (pc := 50) dX12_isKeptBy_50 ?_
    refine ev_iconst (X := M_X12_isKeptBy) (pc := 51) dX12_isKeptBy_51 ?_
    refine ev_iadd (X := M_X12_isKeptBy) (pc := 52) dX12_isKeptBy_52 ?_
    refine ev_ialoadE (X := M_X12_isKeptBy) (pc := 53) dX12_isKeptBy_53 (lS_161 hL) (by omega) (congrFun hC1 _) ?_
    refine ev_staticR (X := M_X12_isKeptBy) (Y := M_X12_weightOf) (pc := 54) dX12_isKeptBy_54 mk_X12_weightOf kw_1317 kw_1318 (m_weightOf hk hw (by omega)) rfl (by decide) rfl (Nat.le_of_ble_eq_true rfl) (Nat.zero_add _) (Nat.zero_add _) ?_
    refine ev_iadd (X := M_X12_isKeptBy) (pc := 57) dX12_isKeptBy_57 ?_
    refine ev_iload_n (X := M_X12_isKeptBy) (pc := 58) dX12_isKeptBy_58 rfl ?_
    refine ev_iload_n (X := M_X12_isKeptBy) (pc := 59) dX12_isKeptBy_59 rfl ?_
    refine ev_aload_n (X := M_X12_isKeptBy) (pc := 60) dX12_isKeptBy_60 rfl ?_
    refine ev_getRe (X := M_X12_isKeptBy) (pc := 61) dX12_isKeptBy_61 fl_X12_22_12 (lO_156 hL) rfl (lR_156_11 hL) ?_
    refine ev_iconst (X := M_X12_isKeptBy) (pc := 64) dX12_isKeptBy_64 ?_
    refine ev_iload_n (X := M_X12_isKeptBy) (pc := 65) dX12_isKeptBy_65 rfl ?_
    refine ev_imul (X := M_X12_isKeptBy) (pc := 66) dX12_isKeptBy_66 ?_
    refine ev_iconst (X := M_X12_isKeptBy) (pc := 67) dX12_isKeptBy_67 ?_
    refine ev_iadd (X := M_X12_isKeptBy) (pc := 68) dX12_isKeptBy_68 ?_
    refine ev_ialoadE (X := M_X12_isKeptBy) (pc := 69) dX12_isKeptBy_69 (lS_161 hL) (by omega) (congrFun hC1 _) ?_
    refine ev_staticR (X := M_X12_isKeptBy) (Y := M_X12_weightOf) (pc := 70) dX12_isKeptBy_70 mk_X12_weightOf kw_1317 kw_1318 (m_weightOf hk hw (by omega)) rfl (by decide) rfl (Nat.le_of_ble_eq_true rfl) (Nat.zero_add _) (Nat.zero_add _) ?_
    refine ev_iadd (X := M_X12_isKeptBy) (pc := 73) dX12_isKeptBy_73 ?_
    have eb : wg w k (C (3 * p)) + wg w k (C (3 * p + 1)) + wg w k (C (3 * p + 2)) = bhd C w k p := rfl
    rw [eb]
    have er1 := Int.emod_nonneg (ahd w k p) (show k ≠ 0 by omega)
    have er2 := Int.emod_lt_of_pos (ahd w k p) (show 0 < k by omega)
    have er3 := Int.emod_nonneg (bhd C w k p) (show k ≠ 0 by omega)
    have er4 := Int.emod_lt_of_pos (bhd C w k p) (show 0 < k by omega)
    refine ev_istoreL (X := M_X12_isKeptBy) (pc := 74) (ls' := [_, _, _, _, _, _]) dX12_isKeptBy_74 (by decide) rfl ?_
    refine ev_aload_n (X := M_X12_isKeptBy) (pc := 76) dX12_isKeptBy_76 rfl ?_
    refine ev_getRe (X := M_X12_isKeptBy) (pc := 77) dX12_isKeptBy_77 fl_X12_7_12 (lO_156 hL) rfl (lR_156_0 hL) ?_
    refine ev_bipush (X := M_X12_isKeptBy) (pc := 80) dX12_isKeptBy_80 (by decide) ?_
    refine ev_iload_n (X := M_X12_isKeptBy) (pc := 82) dX12_isKeptBy_82 rfl ?_
    refine ev_iadd (X := M_X12_isKeptBy) (pc := 83) dX12_isKeptBy_83 ?_
    refine ev_ialoadE (X := M_X12_isKeptBy) (pc := 84) dX12_isKeptBy_84 (lS_157 hL) (by omega) (hDp) ?_
    refine ev_if_ne (X := M_X12_isKeptBy) (pc := 85) (tgt := 101) dX12_isKeptBy_85 (by decide) (by omega) (fun h85 => ?_) (fun h85 => ?_)
    · have hye : kpP C (fS D) w k p := fun z => absurd (by rw [← hbit]; exact z) h85
      refine ev_iincL (X := M_X12_isKeptBy) (pc := 101) (ls' := [_, _, _, _, _, _]) dX12_isKeptBy_101 rfl (by decide) rfl ?_
      refine ev_goto (X := M_X12_isKeptBy) (pc := 104) (tgt := 2) dX12_isKeptBy_104 (by decide) ?_
      refine ev_weak (ih (by omega) (fun q h0 h1 => ?_)) ⟨rfl, rfl, rfl, rfl, trivial⟩
      by_cases z : q = p
      · rw [z]; exact hye
      · exact hI q h0 (by omega)
    · refine ev_iload (X := M_X12_isKeptBy) (pc := 88) dX12_isKeptBy_88 rfl ?_
      refine ev_iload_n (X := M_X12_isKeptBy) (pc := 90) dX12_isKeptBy_90 rfl ?_
      refine ev_irem (X := M_X12_isKeptBy) (pc := 91) dX12_isKeptBy_91 (by omega) (by omega) ?_
      refine ev_iload (X := M_X12_isKeptBy) (pc := 92) dX12_isKeptBy_92 rfl ?_
      refine ev_iload_n (X := M_X12_isKeptBy) (pc := 94) dX12_isKeptBy_94 rfl ?_
      refine ev_irem (X := M_X12_isKeptBy) (pc := 95) dX12_isKeptBy_95 (by omega) (by omega) ?_
      refine ev_icmp_eq (X := M_X12_isKeptBy) (pc := 96) (tgt := 101) dX12_isKeptBy_96 (by decide) (by omega) (by omega) (fun h96 => ?_) (fun h96 => ?_)
      · have hye : kpP C (fS D) w k p := fun _ => h96
        refine ev_iincL (X := M_X12_isKeptBy) (pc := 101) (ls' := [_, _, _, _, _, _]) dX12_isKeptBy_101 rfl (by decide) rfl ?_
        refine ev_goto (X := M_X12_isKeptBy) (pc := 104) (tgt := 2) dX12_isKeptBy_104 (by decide) ?_
        refine ev_weak (ih (by omega) (fun q h0 h1 => ?_)) ⟨rfl, rfl, rfl, rfl, trivial⟩
        by_cases z : q = p
        · rw [z]; exact hye
        · exact hI q h0 (by omega)
      · have hno : ¬ kpP C (fS D) w k p := fun z => h96 (z (by rw [hbit]; exact h85))
        refine ev_iconst (X := M_X12_isKeptBy) (pc := 99) dX12_isKeptBy_99 ?_
        refine ev_bret (X := M_X12_isKeptBy) (pc := 100) dX12_isKeptBy_100 rfl (by decide) ?_
        exact ⟨by rw [kq_n hp6 hno], rfl, rfl⟩
theorem kq_0 {C : Int → Int} {F k : Int} (hk : 2 ≤ k ∧ k ≤ 5) : kq C F 0 k = 1 := by
  have hz : ∀ s, wg 0 k s = 0 := fun s => by
    unfold wg
    rcases (show k = 2 ∨ k = 3 ∨ k = 4 ∨ k = 5 by omega) with z | z | z | z <;> subst z <;> (repeat' split) <;> decide
  refine kq_y (fun p _ _ _ => ?_)
  unfold ahd bhd
  rw [hz, hz, hz, hz, hz]
  rfl
theorem m_stays {γ : Gh} {K : Sk} {V : Mm} {D : Int → Int} (h : MQy K V D) {k wh : Int} (hkr : R32 k) (hwr : R32 wh) : Call γ M_X12_stays 42 0 0 [vR 156, vI k, vI wh] K V (Qx (some (vI (syR (comF D) (fS D) k wh))) K (MS V (syE (comF D) (fS D) k wh (V 159)))) := by
  refine call_of (by decide +kernel) (by intro v hv; simp only [List.mem_cons, List.not_mem_nil, or_false] at hv; rcases hv with rfl | rfl | rfl <;> exact fun q => by cases q) (Nat.le_of_ble_eq_true rfl) ?_
  refine ev_lsE (ls' := [_, _, _, _, _, _]) rfl ?_
  obtain ⟨hL, hD, hct, hK, hF, hZ⟩ := h
  have hC := comF_wf hK
  unfold syR syE
  refine ev_iload_n (X := M_X12_stays) (pc := 0) dX12_stays_0 rfl ?_
  refine ev_i2l (X := M_X12_stays) (pc := 1) dX12_stays_1 (by omega) ?_
  refine ev_ldc2 (X := M_X12_stays) (pc := 2) (v := 2) dX12_stays_2 kw_1166 (by decide) ?_
  refine ev_ldc2 (X := M_X12_stays) (pc := 5) (v := 5) dX12_stays_5 kw_1186 (by decide) ?_
  refine ev_staticR (X := M_X12_stays) (Y := M_X12_in) (pc := 8) dX12_stays_8 mk_X12_in kw_1089 kw_1090 (m_in (by omega) (by decide) (by decide)) rfl (by decide) rfl (Nat.le_of_ble_eq_true rfl) (Nat.zero_add _) (Nat.zero_add _) ?_
  refine ev_if_eq (X := M_X12_stays) (pc := 11) (tgt := 19) dX12_stays_11 (by decide) (by split <;> decide) (fun h11 => ?_) (fun h11 => ?_)
  · have hno : ¬ ((2 ≤ k ∧ k ≤ 5) ∧ -1 ≤ wh) := fun z => by rw [if_pos z.1] at h11; exact absurd h11 (by decide)
    refine ev_aload_n (X := M_X12_stays) (pc := 19) dX12_stays_19 rfl ?_
    refine ev_iconst (X := M_X12_stays) (pc := 20) dX12_stays_20 ?_
    refine ev_virtR (X := M_X12_stays) (Y := M_X12_finds) (pc := 21) (ci := 12) dX12_stays_21 mk_X12_finds rfl kw_1092 kw_1094 kp_5 (lO_156 hL) (m_finds hL (by decide)) rfl (by decide) rfl (Nat.le_of_ble_eq_true rfl) (Nat.zero_add _) (Nat.zero_add _) ?_
    refine ev_iret (X := M_X12_stays) (pc := 24) dX12_stays_24 rfl ?_
    rw [if_neg hno, if_neg hno]
    exact ⟨rfl, rfl, (MS.rf hZ).er 1⟩
  · have hk : 2 ≤ k ∧ k ≤ 5 := Decidable.byContradiction fun z => h11 (by rw [if_neg z])
    refine ev_iload_n (X := M_X12_stays) (pc := 14) dX12_stays_14 rfl ?_
    refine ev_iconst (X := M_X12_stays) (pc := 15) dX12_stays_15 ?_
    refine ev_icmp_ge (X := M_X12_stays) (pc := 16) (tgt := 25) dX12_stays_16 (by decide) (by omega) (by omega) (fun h16 => ?_) (fun h16 => ?_)
    · have hye : (2 ≤ k ∧ k ≤ 5) ∧ -1 ≤ wh := ⟨hk, by omega⟩
      rw [if_pos hye, if_pos hye]
      refine ev_aload_n (X := M_X12_stays) (pc := 25) dX12_stays_25 rfl ?_
      refine ev_virtY (X := M_X12_stays) (Y := M_X12_findAll) (pc := 26) (ci := 12) dX12_stays_26 mk_X12_findAll rfl kw_1197 kw_1199 kp_19 (lO_156 hL) (m_findAll hL hD hK hZ) rfl (by decide) rfl (Nat.le_of_ble_eq_true rfl) (Nat.zero_add _) (Nat.zero_add _) (fun W1 hW1 => ?_)
      refine ev_iconst (X := M_X12_stays) (pc := 29) dX12_stays_29 ?_
      refine ev_istore_nL (X := M_X12_stays) (pc := 30) (ls' := [_, _, _, _, _, _]) dX12_stays_30 (by decide) rfl ?_
      refine ev_iconst (X := M_X12_stays) (pc := 31) dX12_stays_31 ?_
      refine ev_istoreL (X := M_X12_stays) (pc := 32) (ls' := [_, _, _, _, _, _]) dX12_stays_32 (by decide) rfl ?_
      have hD1 : W1 157 = D := by rw [hW1.1.row (by decide) (by decide) (by decide)]; exact hD
      have hS1 := MS.com hW1.1 hW1.2
      have hC1 := hW1.2
      clear hW1
      generalize comF D = C at *
      obtain ⟨G, hG⟩ : ∃ G, G = syG (fun w => kq C (fS D) w k) wh (k * k * k).toNat 0 0 := ⟨_, rfl⟩
      rw [← hG]
      have hkk := k3_r hk
      have hq0 := kq_0 (C := C) (F := fS D) hk
      refine ev_weak (ev_while (σ := Int × Int) (fun z => (0 ≤ z.1 ∧ z.1 ≤ k * k * k) ∧ (0 ≤ z.2 ∧ z.2 ≤ z.1) ∧ (0 < z.1 → 0 < z.2) ∧ G = syG (fun w => kq C (fS D) w k) wh (k * k * k - z.1).toNat z.1 z.2) (fun z => (k * k * k - z.1).toNat) (fun z => [vR 156, vI k, vI wh, vI z.2, vI z.1, vU]) (fun _ => K) (fun _ => W1) ?_ (0, 0) ⟨by show (0 : Int) ≤ 0 ∧ 0 ≤ k * k * k; omega, by show (0 : Int) ≤ 0 ∧ (0 : Int) ≤ 0; decide, fun z => z, by rw [Int.sub_zero]; exact hG⟩) ⟨rfl, rfl, rfl, rfl, rfl, trivial⟩
      rintro ⟨w, m⟩ ⟨w0, m0, mp, hg⟩ ih
      dsimp only at w0 m0 mp hg ih ⊢
      have hgs : w < k * k * k → G = if kq C (fS D) w k = 1 then (if m - 1 = wh ∧ 0 ≤ wh then w else syG (fun w => kq C (fS D) w k) wh (k * k * k - (w + 1)).toNat (w + 1) (m + 1)) else syG (fun w => kq C (fS D) w k) wh (k * k * k - (w + 1)).toNat (w + 1) m := fun z => by
        rw [hg, show (k * k * k - w).toNat = (k * k * k - (w + 1)).toNat + 1 by omega]
        rfl
      have h01 := kq_01 (C := C) (F := fS D) (w := w) (k := k)
      have hw01 : kq C (fS D) w k = 0 → w ≠ 0 := fun z y => by rw [y, hq0] at z; exact absurd z (by decide)
      refine ev_iload (X := M_X12_stays) (pc := 34) dX12_stays_34 rfl ?_
      refine ev_iload_n (X := M_X12_stays) (pc := 36) dX12_stays_36 rfl ?_
      refine ev_iload_n (X := M_X12_stays) (pc := 37) dX12_stays_37 rfl ?_
      refine ev_imul (X := M_X12_stays) (pc := 38) dX12_stays_38 ?_
      refine ev_iload_n (X := M_X12_stays) (pc := 39) dX12_stays_39 rfl ?_
      refine ev_imul (X := M_X12_stays) (pc := 40) dX12_stays_40 ?_
      refine ev_icmp_ge (X := M_X12_stays) (pc := 41) (tgt := 92) dX12_stays_41 (by decide) (by omega) (by omega) (fun h41 => ?_) (fun h41 => ?_)
      · have hw : (k * k * k - w).toNat = 0 := by omega
        rw [hw] at hg
        have hg2 : G = if wh = -1 then m else -1000000002 := hg
        refine ev_iload_n (X := M_X12_stays) (pc := 92) dX12_stays_92 rfl ?_
        refine ev_if_ge (X := M_X12_stays) (pc := 93) (tgt := 100) dX12_stays_93 (by decide) (by omega) (fun h93 => ?_) (fun h93 => ?_)
        · rw [if_neg (by omega)] at hg2
          refine ev_aload_n (X := M_X12_stays) (pc := 100) dX12_stays_100 rfl ?_
          refine ev_iconst (X := M_X12_stays) (pc := 101) dX12_stays_101 ?_
          refine ev_virtR (X := M_X12_stays) (Y := M_X12_finds) (pc := 102) (ci := 12) dX12_stays_102 mk_X12_finds rfl kw_1092 kw_1094 kp_5 (lO_156 hL) (m_finds hL (by decide)) rfl (by decide) rfl (Nat.le_of_ble_eq_true rfl) (Nat.zero_add _) (Nat.zero_add _) ?_
          refine ev_iret (X := M_X12_stays) (pc := 105) dX12_stays_105 rfl ?_
          first
            | (rw [if_pos hg2]
               exact ⟨by rw [hg2]; rfl, rfl, hS1.er 2⟩)
            | (rw [if_neg hGn]
               exact ⟨by rw [hg2], rfl, hS1⟩)
        · rw [if_pos (by omega)] at hg2
          have hGn : ¬ G = -1000000002 := by omega
          refine ev_iload_n (X := M_X12_stays) (pc := 96) dX12_stays_96 rfl ?_
          refine ev_goto (X := M_X12_stays) (pc := 97) (tgt := 105) dX12_stays_97 (by decide) ?_
          refine ev_iret (X := M_X12_stays) (pc := 105) dX12_stays_105 rfl ?_
          first
            | (rw [if_pos hg2]
               exact ⟨by rw [hg2]; rfl, rfl, hS1.er 2⟩)
            | (rw [if_neg hGn]
               exact ⟨by rw [hg2], rfl, hS1⟩)
      · have hgs2 := hgs (by omega)
        refine ev_aload_n (X := M_X12_stays) (pc := 44) dX12_stays_44 rfl ?_
        refine ev_iload (X := M_X12_stays) (pc := 45) dX12_stays_45 rfl ?_
        refine ev_iload_n (X := M_X12_stays) (pc := 47) dX12_stays_47 rfl ?_
        refine ev_virtR (X := M_X12_stays) (Y := M_X12_isKeptBy) (pc := 48) (ci := 12) dX12_stays_48 mk_X12_isKeptBy rfl kw_1313 kw_1315 kp_33 (lO_156 hL) (m_isKeptBy hL hD1 hF hC hC1 hk (by omega)) rfl (by decide) rfl (Nat.le_of_ble_eq_true rfl) (Nat.zero_add _) (Nat.zero_add _) ?_
        refine ev_istoreL (X := M_X12_stays) (pc := 51) (ls' := [_, _, _, _, _, _]) dX12_stays_51 (by decide) rfl ?_
        refine ev_iload (X := M_X12_stays) (pc := 53) dX12_stays_53 rfl ?_
        refine ev_if_eq (X := M_X12_stays) (pc := 55) (tgt := 73) dX12_stays_55 (by decide) (by omega) (fun h55 => ?_) (fun h55 => ?_)
        · refine ev_iload_n (X := M_X12_stays) (pc := 73) dX12_stays_73 rfl ?_
          refine ev_iload (X := M_X12_stays) (pc := 74) dX12_stays_74 rfl ?_
          refine ev_if_eq (X := M_X12_stays) (pc := 76) (tgt := 83) dX12_stays_76 (by decide) (by omega) (fun h76 => ?_) (fun h76 => ?_)
          · refine ev_iconst (X := M_X12_stays) (pc := 83) dX12_stays_83 ?_
            refine ev_iadd (X := M_X12_stays) (pc := 84) dX12_stays_84 ?_
            refine ev_istore_nL (X := M_X12_stays) (pc := 85) (ls' := [_, _, _, _, _, _]) dX12_stays_85 (by decide) rfl ?_
            refine ev_iincL (X := M_X12_stays) (pc := 86) (ls' := [_, _, _, _, _, _]) dX12_stays_86 rfl (by decide) rfl ?_
            refine ev_goto (X := M_X12_stays) (pc := 89) (tgt := 34) dX12_stays_89 (by decide) ?_
            first
              | (exfalso; omega)
              | (rw [if_neg (by omega)] at hgs2
                 have hw1 := hw01 (by omega)
                 refine ev_weak (ih (w + 1, m) ⟨by omega, by omega, fun _ => mp (by omega), hgs2⟩ (by show (k * k * k - (w + 1)).toNat < (k * k * k - w).toNat; omega)) ⟨rfl, rfl, rfl, congrArg vI (by omega), rfl, trivial⟩)
              | (rw [if_pos (by omega), if_neg (fun z => h67 z.1)] at hgs2
                 exact ev_weak (ih (w + 1, m + 1) ⟨by omega, by omega, fun _ => by show 0 < m + 1; omega, hgs2⟩ (by show (k * k * k - (w + 1)).toNat < (k * k * k - w).toNat; omega)) ⟨rfl, rfl, rfl, rfl, rfl, trivial⟩)
              | (rw [if_pos (by omega), if_neg (fun z => by omega)] at hgs2
                 exact ev_weak (ih (w + 1, m + 1) ⟨by omega, by omega, fun _ => by show 0 < m + 1; omega, hgs2⟩ (by show (k * k * k - (w + 1)).toNat < (k * k * k - w).toNat; omega)) ⟨rfl, rfl, rfl, rfl, rfl, trivial⟩)
          · refine ev_iconst (X := M_X12_stays) (pc := 79) dX12_stays_79 ?_
            refine ev_goto (X := M_X12_stays) (pc := 80) (tgt := 84) dX12_stays_80 (by decide) ?_
            refine ev_iadd (X := M_X12_stays) (pc := 84) dX12_stays_84 ?_
            refine ev_istore_nL (X := M_X12_stays) (pc := 85) (ls' := [_, _, _, _, _, _]) dX12_stays_85 (by decide) rfl ?_
            refine ev_iincL (X := M_X12_stays) (pc := 86) (ls' := [_, _, _, _, _, _]) dX12_stays_86 rfl (by decide) rfl ?_
            refine ev_goto (X := M_X12_stays) (pc := 89) (tgt := 34) dX12_stays_89 (by decide) ?_
            first
              | (exfalso; omega)
              | (rw [if_neg (by omega)] at hgs2
                 have hw1 := hw01 (by omega)
                 refine ev_weak (ih (w + 1, m) ⟨by omega, by omega, fun _ => mp (by omega), hgs2⟩ (by show (k * k * k - (w + 1)).toNat < (k * k * k - w).toNat; omega)) ⟨rfl, rfl, rfl, congrArg vI (by omega), rfl, trivial⟩)
              | (rw [if_pos (by omega), if_neg (fun z => h67 z.1)] at hgs2
                 exact ev_weak (ih (w + 1, m + 1) ⟨by omega, by omega, fun _ => by show 0 < m + 1; omega, hgs2⟩ (by show (k * k * k - (w + 1)).toNat < (k * k * k - w).toNat; omega)) ⟨rfl, rfl, rfl, rfl, rfl, trivial⟩)
              | (rw [if_pos (by omega), if_neg (fun z => by omega)] at hgs2
                 exact ev_weak (ih (w + 1, m + 1) ⟨by omega, by omega, fun _ => by show 0 < m + 1; omega, hgs2⟩ (by show (k * k * k - (w + 1)).toNat < (k * k * k - w).toNat; omega)) ⟨rfl, rfl, rfl, rfl, rfl, trivial⟩)
        · refine ev_iload (X := M_X12_stays) (pc := 58) dX12_stays_58 rfl ?_
          refine ev_if_le (X := M_X12_stays) (pc := 60) (tgt := 73) dX12_stays_60 (by decide) (by omega) (fun h60 => ?_) (fun h60 => ?_)
          · refine ev_iload_n (X := M_X12_stays) (pc := 73) dX12_stays_73 rfl ?_
            refine ev_iload (X := M_X12_stays) (pc := 74) dX12_stays_74 rfl ?_
            refine ev_if_eq (X := M_X12_stays) (pc := 76) (tgt := 83) dX12_stays_76 (by decide) (by omega) (fun h76 => ?_) (fun h76 => ?_)
            · refine ev_iconst (X := M_X12_stays) (pc := 83) dX12_stays_83 ?_
              refine ev_iadd (X := M_X12_stays) (pc := 84) dX12_stays_84 ?_
              refine ev_istore_nL (X := M_X12_stays) (pc := 85) (ls' := [_, _, _, _, _, _]) dX12_stays_85 (by decide) rfl ?_
              refine ev_iincL (X := M_X12_stays) (pc := 86) (ls' := [_, _, _, _, _, _]) dX12_stays_86 rfl (by decide) rfl ?_
              refine ev_goto (X := M_X12_stays) (pc := 89) (tgt := 34) dX12_stays_89 (by decide) ?_
              first
                | (exfalso; omega)
                | (rw [if_neg (by omega)] at hgs2
                   have hw1 := hw01 (by omega)
                   refine ev_weak (ih (w + 1, m) ⟨by omega, by omega, fun _ => mp (by omega), hgs2⟩ (by show (k * k * k - (w + 1)).toNat < (k * k * k - w).toNat; omega)) ⟨rfl, rfl, rfl, congrArg vI (by omega), rfl, trivial⟩)
                | (rw [if_pos (by omega), if_neg (fun z => h67 z.1)] at hgs2
                   exact ev_weak (ih (w + 1, m + 1) ⟨by omega, by omega, fun _ => by show 0 < m + 1; omega, hgs2⟩ (by show (k * k * k - (w + 1)).toNat < (k * k * k - w).toNat; omega)) ⟨rfl, rfl, rfl, rfl, rfl, trivial⟩)
                | (rw [if_pos (by omega), if_neg (fun z => by omega)] at hgs2
                   exact ev_weak (ih (w + 1, m + 1) ⟨by omega, by omega, fun _ => by show 0 < m + 1; omega, hgs2⟩ (by show (k * k * k - (w + 1)).toNat < (k * k * k - w).toNat; omega)) ⟨rfl, rfl, rfl, rfl, rfl, trivial⟩)
            · refine ev_iconst (X := M_X12_stays) (pc := 79) dX12_stays_79 ?_
              refine ev_goto (X := M_X12_stays) (pc := 80) (tgt := 84) dX12_stays_80 (by decide) ?_
              refine ev_iadd (X := M_X12_stays) (pc := 84) dX12_stays_84 ?_
              refine ev_istore_nL (X := M_X12_stays) (pc := 85) (ls' := [_, _, _, _, _, _]) dX12_stays_85 (by decide) rfl ?_
              refine ev_iincL (X := M_X12_stays) (pc := 86) (ls' := [_, _, _, _, _, _]) dX12_stays_86 rfl (by decide) rfl ?_
              refine ev_goto (X := M_X12_stays) (pc := 89) (tgt := 34) dX12_stays_89 (by decide) ?_
              first
                | (exfalso; omega)
                | (rw [if_neg (by omega)] at hgs2
                   have hw1 := hw01 (by omega)
                   refine ev_weak (ih (w + 1, m) ⟨by omega, by omega, fun _ => mp (by omega), hgs2⟩ (by show (k * k * k - (w + 1)).toNat < (k * k * k - w).toNat; omega)) ⟨rfl, rfl, rfl, congrArg vI (by omega), rfl, trivial⟩)
                | (rw [if_pos (by omega), if_neg (fun z => h67 z.1)] at hgs2
                   exact ev_weak (ih (w + 1, m + 1) ⟨by omega, by omega, fun _ => by show 0 < m + 1; omega, hgs2⟩ (by show (k * k * k - (w + 1)).toNat < (k * k * k - w).toNat; omega)) ⟨rfl, rfl, rfl, rfl, rfl, trivial⟩)
                | (rw [if_pos (by omega), if_neg (fun z => by omega)] at hgs2
                   exact ev_weak (ih (w + 1, m + 1) ⟨by omega, by omega, fun _ => by show 0 < m + 1; omega, hgs2⟩ (by show (k * k * k - (w + 1)).toNat < (k * k * k - w).toNat; omega)) ⟨rfl, rfl, rfl, rfl, rfl, trivial⟩)
          · refine ev_iload_n (X := M_X12_stays) (pc := 63) dX12_stays_63 rfl ?_
            refine ev_iconst (X := M_X12_stays) (pc := 64) dX12_stays_64 ?_
            refine ev_isub (X := M_X12_stays) (pc := 65) dX12_stays_65 ?_
            refine ev_iload_n (X := M_X12_stays) (pc := 66) dX12_stays_66 rfl ?_
            refine ev_icmp_ne (X := M_X12_stays) (pc := 67) (tgt := 73) dX12_stays_67 (by decide) (by omega) (by omega) (fun h67 => ?_) (fun h67 => ?_)
            · refine ev_iload_n (X := M_X12_stays) (pc := 73) dX12_stays_73 rfl ?_
              refine ev_iload (X := M_X12_stays) (pc := 74) dX12_stays_74 rfl ?_
              refine ev_if_eq (X := M_X12_stays) (pc := 76) (tgt := 83) dX12_stays_76 (by decide) (by omega) (fun h76 => ?_) (fun h76 => ?_)
              · refine ev_iconst (X := M_X12_stays) (pc := 83) dX12_stays_83 ?_
                refine ev_iadd (X := M_X12_stays) (pc := 84) dX12_stays_84 ?_
                refine ev_istore_nL (X := M_X12_stays) (pc := 85) (ls' := [_, _, _, _, _, _]) dX12_stays_85 (by decide) rfl ?_
                refine ev_iincL (X := M_X12_stays) (pc := 86) (ls' := [_, _, _, _, _, _]) dX12_stays_86 rfl (by decide) rfl ?_
                refine ev_goto (X := M_X12_stays) (pc := 89) (tgt := 34) dX12_stays_89 (by decide) ?_
                first
                  | (exfalso; omega)
                  | (rw [if_neg (by omega)] at hgs2
                     have hw1 := hw01 (by omega)
                     refine ev_weak (ih (w + 1, m) ⟨by omega, by omega, fun _ => mp (by omega), hgs2⟩ (by show (k * k * k - (w + 1)).toNat < (k * k * k - w).toNat; omega)) ⟨rfl, rfl, rfl, congrArg vI (by omega), rfl, trivial⟩)
                  | (rw [if_pos (by omega), if_neg (fun z => h67 z.1)] at hgs2
                     exact ev_weak (ih (w + 1, m + 1) ⟨by omega, by omega, fun _ => by show 0 < m + 1; omega, hgs2⟩ (by show (k * k * k - (w + 1)).toNat < (k * k * k - w).toNat; omega)) ⟨rfl, rfl, rfl, rfl, rfl, trivial⟩)
                  | (rw [if_pos (by omega), if_neg (fun z => by omega)] at hgs2
                     exact ev_weak (ih (w + 1, m + 1) ⟨by omega, by omega, fun _ => by show 0 < m + 1; omega, hgs2⟩ (by show (k * k * k - (w + 1)).toNat < (k * k * k - w).toNat; omega)) ⟨rfl, rfl, rfl, rfl, rfl, trivial⟩)
              · refine ev_iconst (X := M_X12_stays) (pc := 79) dX12_stays_79 ?_
                refine ev_goto (X := M_X12_stays) (pc := 80) (tgt := 84) dX12_stays_80 (by decide) ?_
                refine ev_iadd (X := M_X12_stays) (pc := 84) dX12_stays_84 ?_
                refine ev_istore_nL (X := M_X12_stays) (pc := 85) (ls' := [_, _, _, _, _, _]) dX12_stays_85 (by decide) rfl ?_
                refine ev_iincL (X := M_X12_stays) (pc := 86) (ls' := [_, _, _, _, _, _]) dX12_stays_86 rfl (by decide) rfl ?_
                refine ev_goto (X := M_X12_stays) (pc := 89) (tgt := 34) dX12_stays_89 (by decide) ?_
                first
                  | (exfalso; omega)
                  | (rw [if_neg (by omega)] at hgs2
                     have hw1 := hw01 (by omega)
                     refine ev_weak (ih (w + 1, m) ⟨by omega, by omega, fun _ => mp (by omega), hgs2⟩ (by show (k * k * k - (w + 1)).toNat < (k * k * k - w).toNat; omega)) ⟨rfl, rfl, rfl, congrArg vI (by omega), rfl, trivial⟩)
                  | (rw [if_pos (by omega), if_neg (fun z => h67 z.1)] at hgs2
                     exact ev_weak (ih (w + 1, m + 1) ⟨by omega, by omega, fun _ => by show 0 < m + 1; omega, hgs2⟩ (by show (k * k * k - (w + 1)).toNat < (k * k * k - w).toNat; omega)) ⟨rfl, rfl, rfl, rfl, rfl, trivial⟩)
                  | (rw [if_pos (by omega), if_neg (fun z => by omega)] at hgs2
                     exact ev_weak (ih (w + 1, m + 1) ⟨by omega, by omega, fun _ => by show 0 < m + 1; omega, hgs2⟩ (by show (k * k * k - (w + 1)).toNat < (k * k * k - w).toNat; omega)) ⟨rfl, rfl, rfl, rfl, rfl, trivial⟩)
            · rw [if_pos (by omega), if_pos ⟨h67, by have := mp (by omega); omega⟩] at hgs2
              have hGn : ¬ G = -1000000002 := by omega
              refine ev_iload (X := M_X12_stays) (pc := 70) dX12_stays_70 rfl ?_
              refine ev_iret (X := M_X12_stays) (pc := 72) dX12_stays_72 rfl ?_
              rw [if_neg hGn]
              exact ⟨by rw [hgs2], rfl, hS1⟩
    · have hno : ¬ ((2 ≤ k ∧ k ≤ 5) ∧ -1 ≤ wh) := fun z => by omega
      refine ev_aload_n (X := M_X12_stays) (pc := 19) dX12_stays_19 rfl ?_
      refine ev_iconst (X := M_X12_stays) (pc := 20) dX12_stays_20 ?_
      refine ev_virtR (X := M_X12_stays) (Y := M_X12_finds) (pc := 21) (ci := 12) dX12_stays_21 mk_X12_finds rfl kw_1092 kw_1094 kp_5 (lO_156 hL) (m_finds hL (by decide)) rfl (by decide) rfl (Nat.le_of_ble_eq_true rfl) (Nat.zero_add _) (Nat.zero_add _) ?_
      refine ev_iret (X := M_X12_stays) (pc := 24) dX12_stays_24 rfl ?_
      rw [if_neg hno, if_neg hno]
      exact ⟨rfl, rfl, (MS.rf hZ).er 1⟩
theorem nowS_cnt {D : Int → Int} (h : DCnt D) : cnt (nowS D) 0 = D 0 ∧ cnt (nowS D) 1 = D 1 ∧ cnt (nowS D) 2 = D 2 ∧ bei (nowS D) = D 0 + D 1 + D 2 := (st_mk h.1 h.2.1 h.2.2.1 h.2.2.2).2
theorem m_bars {γ : Gh} {K : Sk} {V : Mm} {D : Int → Int} (h : MQy K V D) {s k : Int} (hsr : R32 s) (hkr : R32 k) : Call γ M_X12_bars 42 0 0 [vR 156, vI s, vI k] K V (Qx (some (vI (baR (comF D) (fS D) (nowS D) s k))) K (MS V (baE (nowS D) s k (V 159)))) := by
  refine call_of (by decide +kernel) (by intro v hv; simp only [List.mem_cons, List.not_mem_nil, or_false] at hv; rcases hv with rfl | rfl | rfl <;> exact fun q => by cases q) (Nat.le_of_ble_eq_true rfl) ?_
  refine ev_lsE (ls' := [_, _, _, _, _, _, _]) rfl ?_
  obtain ⟨hL, hD, hct, hK, hF, hZ⟩ := h
  have hC := comF_wf hK
  have hs0 := nowS_st hct
  have hsl := isSt_lt hs0
  have hb12 := hs0.2.2
  have hbr := bei_r (s := nowS D) (by omega)
  obtain ⟨n0, n1, n2, n3⟩ := nowS_cnt hct
  have hct2 : 0 ≤ D 0 ∧ 0 ≤ D 1 ∧ 0 ≤ D 2 ∧ D 0 + D 1 + D 2 ≤ 12 := hct
  unfold baR baE
  refine ev_iload_n (X := M_X12_bars) (pc := 0) dX12_bars_0 rfl ?_
  refine ev_staticR (X := M_X12_bars) (Y := M_X12_isSort) (pc := 1) dX12_bars_1 mk_X12_isSort kw_1163 kw_1164 (m_isSort hsr) rfl (by decide) rfl (Nat.le_of_ble_eq_true rfl) (Nat.zero_add _) (Nat.zero_add _) ?_
  refine ev_if_eq (X := M_X12_bars) (pc := 4) (tgt := 21) dX12_bars_4 (by decide) (by split <;> decide) (fun h4 => ?_) (fun h4 => ?_)
  · have hno : ¬ ((0 ≤ s ∧ s < 3) ∧ 2 ≤ k ∧ k ≤ 5) := fun z => by rw [if_pos (by omega)] at h4; exact absurd h4 (by decide)
    refine ev_aload_n (X := M_X12_bars) (pc := 21) dX12_bars_21 rfl ?_
    refine ev_iconst (X := M_X12_bars) (pc := 22) dX12_bars_22 ?_
    refine ev_virtR (X := M_X12_bars) (Y := M_X12_finds) (pc := 23) (ci := 12) dX12_bars_23 mk_X12_finds rfl kw_1092 kw_1094 kp_5 (lO_156 hL) (m_finds hL (by decide)) rfl (by decide) rfl (Nat.le_of_ble_eq_true rfl) (Nat.zero_add _) (Nat.zero_add _) ?_
    refine ev_iret (X := M_X12_bars) (pc := 26) dX12_bars_26 rfl ?_
    rw [if_neg hno, if_neg hno]
    exact ⟨rfl, rfl, (MS.rf hZ).er 1⟩
  · have hs3 : 0 ≤ s ∧ s < 3 := by
      have : 0 ≤ s ∧ s ≤ 2 := Decidable.byContradiction fun z => h4 (by rw [if_neg z])
      omega
    refine ev_iload_n (X := M_X12_bars) (pc := 7) dX12_bars_7 rfl ?_
    refine ev_i2l (X := M_X12_bars) (pc := 8) dX12_bars_8 (by omega) ?_
    refine ev_ldc2 (X := M_X12_bars) (pc := 9) (v := 2) dX12_bars_9 kw_1166 (by decide) ?_
    refine ev_ldc2 (X := M_X12_bars) (pc := 12) (v := 5) dX12_bars_12 kw_1186 (by decide) ?_
    refine ev_staticR (X := M_X12_bars) (Y := M_X12_in) (pc := 15) dX12_bars_15 mk_X12_in kw_1089 kw_1090 (m_in (by omega) (by decide) (by decide)) rfl (by decide) rfl (Nat.le_of_ble_eq_true rfl) (Nat.zero_add _) (Nat.zero_add _) ?_
    refine ev_if_ne (X := M_X12_bars) (pc := 18) (tgt := 27) dX12_bars_18 (by decide) (by split <;> decide) (fun h18 => ?_) (fun h18 => ?_)
    · have hk : 2 ≤ k ∧ k ≤ 5 := Decidable.byContradiction fun z => h18 (by rw [if_neg z])
      have hye : (0 ≤ s ∧ s < 3) ∧ 2 ≤ k ∧ k ≤ 5 := ⟨hs3, hk⟩
      rw [if_pos hye, if_pos hye]
      refine ev_aload_n (X := M_X12_bars) (pc := 27) dX12_bars_27 rfl ?_
      refine ev_virtR (X := M_X12_bars) (Y := M_X12_now) (pc := 28) (ci := 12) dX12_bars_28 mk_X12_now rfl kw_1168 kw_1170 kp_18 (lO_156 hL) (m_nowE hL hD) rfl (by decide) rfl (Nat.le_of_ble_eq_true rfl) (Nat.zero_add _) (Nat.zero_add _) ?_
      refine ev_staticR (X := M_X12_bars) (Y := M_X12_allIn) (pc := 31) dX12_bars_31 mk_X12_allIn kw_1172 kw_1173 (m_allIn (by omega)) rfl (by decide) rfl (Nat.le_of_ble_eq_true rfl) (Nat.zero_add _) (Nat.zero_add _) ?_
      refine ev_istore_nL (X := M_X12_bars) (pc := 34) (ls' := [_, _, _, _, _, _, _]) dX12_bars_34 (by decide) rfl ?_
      refine ev_iload_n (X := M_X12_bars) (pc := 35) dX12_bars_35 rfl ?_
      refine ev_if_ne (X := M_X12_bars) (pc := 36) (tgt := 45) dX12_bars_36 (by decide) (by omega) (fun h36 => ?_) (fun h36 => ?_)
      · rw [if_neg h36, if_neg h36]
        refine ev_aload_n (X := M_X12_bars) (pc := 45) dX12_bars_45 rfl ?_
        refine ev_virtY (X := M_X12_bars) (Y := M_X12_findAll) (pc := 46) (ci := 12) dX12_bars_46 mk_X12_findAll rfl kw_1197 kw_1199 kp_19 (lO_156 hL) (m_findAll hL hD hK hZ) rfl (by decide) rfl (Nat.le_of_ble_eq_true rfl) (Nat.zero_add _) (Nat.zero_add _) (fun W1 hW1 => ?_)
        refine ev_iconst (X := M_X12_bars) (pc := 49) dX12_bars_49 ?_
        refine ev_istoreL (X := M_X12_bars) (pc := 50) (ls' := [_, _, _, _, _, _, _]) dX12_bars_50 (by decide) rfl ?_
        have hD1 : W1 157 = D := by rw [hW1.1.row (by decide) (by decide) (by decide)]; exact hD
        have hS1 := MS.com hW1.1 hW1.2
        have hC1 := hW1.2
        clear hW1
        generalize comF D = C at *
        have hkk := k3_r hk
        obtain ⟨G, hG⟩ : ∃ G, G = baG (fun w => kq C (fS D) w k) (fun w => rsF (bei (nowS D) * wgtF s) w k) (fun w => rsF (nowS D) w k) (k * k * k).toNat 0 := ⟨_, rfl⟩
        rw [← hG]
        refine ev_weak (ev_countI (k * k * k) 0 (fun w => G = baG (fun w => kq C (fS D) w k) (fun w => rsF (bei (nowS D) * wgtF s) w k) (fun w => rsF (nowS D) w k) (k * k * k - w).toNat w) (fun w => [vR 156, vI s, vI k, vI (bei (nowS D)), vI w, vU, vU]) (by omega) (by show G = baG _ _ _ (k * k * k - 0).toNat 0; rw [Int.sub_zero]; exact hG) ?_) ⟨rfl, rfl, rfl, rfl, rfl, trivial⟩
        intro w w0 w1 hg ih
        have hgs : w < k * k * k → G = if kq C (fS D) w k = 1 ∧ rsF (bei (nowS D) * wgtF s) w k ≠ rsF (nowS D) w k then 1 else baG (fun w => kq C (fS D) w k) (fun w => rsF (bei (nowS D) * wgtF s) w k) (fun w => rsF (nowS D) w k) (k * k * k - (w + 1)).toNat (w + 1) := fun z => by
          rw [hg, show (k * k * k - w).toNat = (k * k * k - (w + 1)).toNat + 1 by omega]
          rfl
        have h01 := kq_01 (C := C) (F := fS D) (w := w) (k := k)
        have hen := rsF_end (j := bei (nowS D)) (s := s) (w := w) (k := k) (by omega) hs3
        refine ev_iload (X := M_X12_bars) (pc := 52) dX12_bars_52 rfl ?_
        refine ev_iload_n (X := M_X12_bars) (pc := 54) dX12_bars_54 rfl ?_
        refine ev_iload_n (X := M_X12_bars) (pc := 55) dX12_bars_55 rfl ?_
        refine ev_imul (X := M_X12_bars) (pc := 56) dX12_bars_56 ?_
        refine ev_iload_n (X := M_X12_bars) (pc := 57) dX12_bars_57 rfl ?_
        refine ev_imul (X := M_X12_bars) (pc := 58) dX12_bars_58 ?_
        refine ev_icmp_ge (X := M_X12_bars) (pc := 59) (tgt := 139) dX12_bars_59 (by decide) (by omega) (by omega) (fun h59 => ?_) (fun h59 => ?_)
        · have hw : (k * k * k - w).toNat = 0 := by omega
          rw [hw] at hg
          have hg2 : G = 0 := hg
          refine ev_iconst (X := M_X12_bars) (pc := 139) dX12_bars_139 ?_
          refine ev_iret (X := M_X12_bars) (pc := 140) dX12_bars_140 rfl ?_
          exact ⟨by rw [hg2], rfl, hS1⟩
        · have hw3 : 0 ≤ w ∧ w < k * k * k := by omega
          have hgs2 := hgs (by omega)
          rw [hen] at hgs2
          obtain ⟨a1, a2, a3⟩ := wgs_r hk hw3
          have aw := wg_r (s := s) hk hw3
          have m0 := mul_60 a1 (b := D 0) (by omega)
          have m1 := mul_60 a2 (b := D 1) (by omega)
          have m2 := mul_60 a3 (b := D 2) (by omega)
          have mw := mul_60 aw (b := bei (nowS D)) (by omega)
          have hrn : rsF (nowS D) w k = (w / (k * k) * D 0 + w / k % k * D 1 + w % k * D 2) % k := by unfold rsF; rw [n0, n1, n2]
          rw [hrn] at hgs2
          refine ev_aload_n (X := M_X12_bars) (pc := 62) dX12_bars_62 rfl ?_
          refine ev_iload (X := M_X12_bars) (pc := 63) dX12_bars_63 rfl ?_
          refine ev_iload_n (X := M_X12_bars) (pc := 65) dX12_bars_65 rfl ?_
          refine ev_virtR (X := M_X12_bars) (Y := M_X12_isKeptBy) (pc := 66) (ci := 12) dX12_bars_66 mk_X12_isKeptBy rfl kw_1313 kw_1315 kp_33 (lO_156 hL) (m_isKeptBy hL hD1 hF hC hC1 hk hw3) rfl (by decide) rfl (Nat.le_of_ble_eq_true rfl) (Nat.zero_add _) (Nat.zero_add _) ?_
          refine ev_if_eq (X := M_X12_bars) (pc := 69) (tgt := 133) dX12_bars_69 (by decide) (by omega) (fun h69 => ?_) (fun h69 => ?_)
          · rw [if_neg (fun z => by omega)] at hgs2
            refine ev_iincL (X := M_X12_bars) (pc := 133) (ls' := [_, _, _, _, _, _, _]) dX12_bars_133 rfl (by decide) rfl ?_
            refine ev_goto (X := M_X12_bars) (pc := 136) (tgt := 52) dX12_bars_136 (by decide) ?_
            exact ev_weak (ih (by omega) hgs2) ⟨rfl, rfl, rfl, rfl, rfl, trivial⟩
          · refine ev_iconst (X := M_X12_bars) (pc := 72) dX12_bars_72 ?_
            refine ev_istoreL (X := M_X12_bars) (pc := 73) (ls' := [_, _, _, _, _, _, _]) dX12_bars_73 (by decide) rfl ?_
            refine ev_iconst (X := M_X12_bars) (pc := 75) dX12_bars_75 ?_
            refine ev_istoreL (X := M_X12_bars) (pc := 76) (ls' := [_, _, _, _, _, _, _]) dX12_bars_76 (by decide) rfl ?_
            refine ev_weak (ev_count 3 0 (fun i => [vR 156, vI s, vI k, vI (bei (nowS D)), vI w, vI ((if 0 < i then w / (k * k) * D 0 else 0) + (if 1 < i then w / k % k * D 1 else 0) + (if 2 < i then w % k * D 2 else 0)), vI i]) (by decide) ?_) ⟨rfl, rfl, rfl, rfl, rfl, rfl, rfl, trivial⟩
            intro i i0 i1 ih2
            refine ev_iload (X := M_X12_bars) (pc := 78) dX12_bars_78 rfl ?_
            refine ev_iconst (X := M_X12_bars) (pc := 80) dX12_bars_80 ?_
            refine ev_icmp_ge (X := M_X12_bars) (pc := 81) (tgt := 113) dX12_bars_81 (by decide) (by omega) (by omega) (fun h81 => ?_) (fun h81 => ?_)
            · have hi3 : i = 3 := by omega
              subst hi3
              have e3 : ((if (0 : Int) < 3 then w / (k * k) * D 0 else 0) + (if (1 : Int) < 3 then w / k % k * D 1 else 0) + (if (2 : Int) < 3 then w % k * D 2 else 0)) = w / (k * k) * D 0 + w / k % k * D 1 + w % k * D 2 := rfl
              rw [e3]
              have er1 := Int.emod_nonneg (w / (k * k) * D 0 + w / k % k * D 1 + w % k * D 2) (show k ≠ 0 by omega)
              have er2 := Int.emod_lt_of_pos (w / (k * k) * D 0 + w / k % k * D 1 + w % k * D 2) (show 0 < k by omega)
              have er3 := Int.emod_nonneg (wg w k s * bei (nowS D)) (show k ≠ 0 by omega)
              have er4 := Int.emod_lt_of_pos (wg w k s * bei (nowS D)) (show 0 < k by omega)
              refine ev_iload (X := M_X12_bars) (pc := 113) dX12_bars_113 rfl ?_
              refine ev_iload_n (X := M_X12_bars) (pc := 115) dX12_bars_115 rfl ?_
              refine ev_irem (X := M_X12_bars) (pc := 116) dX12_bars_116 (by omega) (by omega) ?_
              refine ev_iload (X := M_X12_bars) (pc := 117) dX12_bars_117 rfl ?_
              refine ev_iload_n (X := M_X12_bars) (pc := 119) dX12_bars_119 rfl ?_
              refine ev_iload_n (X := M_X12_bars) (pc := 120) dX12_bars_120 rfl ?_
              refine ev_staticR (X := M_X12_bars) (Y := M_X12_weightOf) (pc := 121) dX12_bars_121 mk_X12_weightOf kw_1317 kw_1318 (m_weightOf hk hw3 (by omega)) rfl (by decide) rfl (Nat.le_of_ble_eq_true rfl) (Nat.zero_add _) (Nat.zero_add _) ?_
              refine ev_iload_n (X := M_X12_bars) (pc := 124) dX12_bars_124 rfl ?_
              refine ev_imul (X := M_X12_bars) (pc := 125) dX12_bars_125 ?_
              refine ev_iload_n (X := M_X12_bars) (pc := 126) dX12_bars_126 rfl ?_
              refine ev_irem (X := M_X12_bars) (pc := 127) dX12_bars_127 (by omega) (by omega) ?_
              refine ev_icmp_eq (X := M_X12_bars) (pc := 128) (tgt := 133) dX12_bars_128 (by decide) (by omega) (by omega) (fun h128 => ?_) (fun h128 => ?_)
              · rw [if_neg (fun z => z.2 h128.symm)] at hgs2
                refine ev_iincL (X := M_X12_bars) (pc := 133) (ls' := [_, _, _, _, _, _, _]) dX12_bars_133 rfl (by decide) rfl ?_
                refine ev_goto (X := M_X12_bars) (pc := 136) (tgt := 52) dX12_bars_136 (by decide) ?_
                exact ev_weak (ih (by omega) hgs2) ⟨rfl, rfl, rfl, rfl, rfl, trivial⟩
              · rw [if_pos ⟨by omega, fun z => h128 z.symm⟩] at hgs2
                refine ev_iconst (X := M_X12_bars) (pc := 131) dX12_bars_131 ?_
                refine ev_iret (X := M_X12_bars) (pc := 132) dX12_bars_132 rfl ?_
                exact ⟨by rw [hgs2], rfl, hS1⟩
            · have hdi := congrFun hD1 (0 + i)
              refine ev_iload (X := M_X12_bars) (pc := 84) dX12_bars_84 rfl ?_
              refine ev_iload (X := M_X12_bars) (pc := 86) dX12_bars_86 rfl ?_
              refine ev_iload_n (X := M_X12_bars) (pc := 88) dX12_bars_88 rfl ?_
              refine ev_iload (X := M_X12_bars) (pc := 89) dX12_bars_89 rfl ?_
              refine ev_staticR (X := M_X12_bars) (Y := M_X12_weightOf) (pc := 91) dX12_bars_91 mk_X12_weightOf kw_1317 kw_1318 (m_weightOf hk hw3 (by omega)) rfl (by decide) rfl (Nat.le_of_ble_eq_true rfl) (Nat.zero_add _) (Nat.zero_add _) ?_
              refine ev_aload_n (X := M_X12_bars) (pc := 94) dX12_bars_94 rfl ?_
              refine ev_getRe (X := M_X12_bars) (pc := 95) dX12_bars_95 fl_X12_7_12 (lO_156 hL) rfl (lR_156_0 hL) ?_
              refine ev_iconst (X := M_X12_bars) (pc := 98) dX12_bars_98 ?_
              refine ev_iload (X := M_X12_bars) (pc := 99) dX12_bars_99 rfl ?_
              refine ev_iadd (X := M_X12_bars) (pc := 101) dX12_bars_101 ?_
              refine ev_ialoadE (X := M_X12_bars) (pc := 102) dX12_bars_102 (lS_157 hL) (by omega) (hdi) ?_
              refine ev_imul (X := M_X12_bars) (pc := 103) dX12_bars_103 ?_
              refine ev_iadd (X := M_X12_bars) (pc := 104) dX12_bars_104 ?_
              refine ev_istoreL (X := M_X12_bars) (pc := 105) (ls' := [_, _, _, _, _, _, _]) dX12_bars_105 (by decide) rfl ?_
              refine ev_iincL (X := M_X12_bars) (pc := 107) (ls' := [_, _, _, _, _, _, _]) dX12_bars_107 rfl (by decide) rfl ?_
              refine ev_goto (X := M_X12_bars) (pc := 110) (tgt := 78) dX12_bars_110 (by decide) ?_
              refine ev_weak (ih2 (by omega)) ⟨rfl, rfl, rfl, rfl, rfl, congrArg vI ?_, rfl, trivial⟩
              rcases (show i = 0 ∨ i = 1 ∨ i = 2 by omega) with z | z | z <;> subst z
              · show (0 : Int) + 0 + 0 + wg w k 0 * D 0 = w / (k * k) * D 0 + 0 + 0
                have : wg w k 0 = w / (k * k) := rfl
                rw [this]
                omega
              · show w / (k * k) * D 0 + 0 + 0 + wg w k 1 * D 1 = w / (k * k) * D 0 + w / k % k * D 1 + 0
                have : wg w k 1 = w / k % k := rfl
                rw [this]
                omega
              · show w / (k * k) * D 0 + w / k % k * D 1 + 0 + wg w k 2 * D 2 = w / (k * k) * D 0 + w / k % k * D 1 + w % k * D 2
                have : wg w k 2 = w % k := rfl
                rw [this]
                omega
      · rw [if_pos h36, if_pos h36]
        refine ev_aload_n (X := M_X12_bars) (pc := 39) dX12_bars_39 rfl ?_
        refine ev_iconst (X := M_X12_bars) (pc := 40) dX12_bars_40 ?_
        refine ev_virtR (X := M_X12_bars) (Y := M_X12_finds) (pc := 41) (ci := 12) dX12_bars_41 mk_X12_finds rfl kw_1092 kw_1094 kp_5 (lO_156 hL) (m_finds hL (by decide)) rfl (by decide) rfl (Nat.le_of_ble_eq_true rfl) (Nat.zero_add _) (Nat.zero_add _) ?_
        refine ev_iret (X := M_X12_bars) (pc := 44) dX12_bars_44 rfl ?_
        exact ⟨rfl, rfl, (MS.rf hZ).er 3⟩
    · have hno : ¬ ((0 ≤ s ∧ s < 3) ∧ 2 ≤ k ∧ k ≤ 5) := fun z => by rw [if_pos z.2] at h18; exact absurd h18 (by decide)
      refine ev_aload_n (X := M_X12_bars) (pc := 21) dX12_bars_21 rfl ?_
      refine ev_iconst (X := M_X12_bars) (pc := 22) dX12_bars_22 ?_
      refine ev_virtR (X := M_X12_bars) (Y := M_X12_finds) (pc := 23) (ci := 12) dX12_bars_23 mk_X12_finds rfl kw_1092 kw_1094 kp_5 (lO_156 hL) (m_finds hL (by decide)) rfl (by decide) rfl (Nat.le_of_ble_eq_true rfl) (Nat.zero_add _) (Nat.zero_add _) ?_
      refine ev_iret (X := M_X12_bars) (pc := 26) dX12_bars_26 rfl ?_
      rw [if_neg hno, if_neg hno]
      exact ⟨rfl, rfl, (MS.rf hZ).er 1⟩
