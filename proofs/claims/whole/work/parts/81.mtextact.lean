def tpF (D : Int → Int) : Int → Int := rs (D 24) (fun i => D (148 + i))
def txF (D : Int → Int) (u : Int) : Int := fltR (D 24) (txt (tpF D) (D 24) u)
def txC (D : Int → Int) (u n : Int) : Int → Int := fun j => if 48 + 50 * u ≤ j ∧ j < 48 + 50 * u + n then D (148 + (j - (48 + 50 * u))) else up (up D 24 0) (26 + u) (D 24) j
def txD (D : Int → Int) (u : Int) : Int → Int := if txF D u = -1 then txC D u (D 24) else up D 24 0
def txR (D : Int → Int) (u : Int) : Int := if txF D u = -1 then 1 else -10 - txF D u
def usK (u : Int) : Int := if u = 0 ∨ u = 1 then 0 else 1
theorem m_text {γ : Gh} {K : Sk} {V : Mm} {D : Int → Int} (h : MQy K V D) (h24 : 0 ≤ D 24 ∧ D 24 ≤ 50) (hby : ∀ i, 0 ≤ i → i < D 24 → 0 ≤ D (148 + i) ∧ D (148 + i) < 256) {u : Int} (hu : R32 u) : Call γ M_X12_text 39 0 0 [vR 156, vI u] K V (Qx (some (vI (aR (usK u) (txR D u)))) K (MW V (aD (usK u) D (txD D u)) (usK u))) := by
  refine call_of (by decide +kernel) (by intro v hv; simp only [List.mem_cons, List.not_mem_nil, or_false] at hv; rcases hv with rfl | rfl <;> exact fun q => by cases q) (Nat.le_of_ble_eq_true rfl) ?_
  refine ev_lsE (ls' := [_, _, _, _, _]) rfl ?_
  obtain ⟨hL, hD, hct, hK, hF, hZ⟩ := h
  refine ev_iload_n (X := M_X12_text) (pc := 0) dX12_text_0 rfl ?_
  refine ev_i2l (X := M_X12_text) (pc := 1) dX12_text_1 (by omega) ?_
  refine ev_lconst (X := M_X12_text) (pc := 2) (v := 0) dX12_text_2 (by decide) ?_
  refine ev_lconst (X := M_X12_text) (pc := 3) (v := 1) dX12_text_3 (by decide) ?_
  refine ev_staticR (X := M_X12_text) (Y := M_X12_in) (pc := 4) dX12_text_4 mk_X12_in kw_1089 kw_1090 (m_in (by omega) (by decide) (by decide)) rfl (by decide) rfl (Nat.le_of_ble_eq_true rfl) (Nat.zero_add _) (Nat.zero_add _) ?_
  refine ev_if_ne (X := M_X12_text) (pc := 7) (tgt := 16) dX12_text_7 (by decide) (by split <;> decide) (fun h7 => ?_) (fun h7 => ?_)
  · have hu01 : 0 ≤ u ∧ u ≤ 1 := Decidable.byContradiction fun z => h7 (by rw [if_neg z])
    have hu2 : u = 0 ∨ u = 1 := by omega
    have hk : usK u = 0 := by unfold usK; rw [if_pos hu2]
    refine ev_aload_n (X := M_X12_text) (pc := 16) dX12_text_16 rfl ?_
    refine ev_getRe (X := M_X12_text) (pc := 17) dX12_text_17 fl_X12_7_12 (lO_156 hL) rfl (lR_156_0 hL) ?_
    refine ev_bipush (X := M_X12_text) (pc := 20) dX12_text_20 (by decide) ?_
    refine ev_ialoadE (X := M_X12_text) (pc := 22) dX12_text_22 (lS_157 hL) (by omega) (congrFun hD _) ?_
    refine ev_istore_nL (X := M_X12_text) (pc := 23) (ls' := [_, _, _, _, _]) dX12_text_23 (by decide) rfl ?_
    refine ev_aload_n (X := M_X12_text) (pc := 24) dX12_text_24 rfl ?_
    refine ev_getRe (X := M_X12_text) (pc := 25) dX12_text_25 fl_X12_7_12 (lO_156 hL) rfl (lR_156_0 hL) ?_
    refine ev_bipush (X := M_X12_text) (pc := 28) dX12_text_28 (by decide) ?_
    refine ev_iconst (X := M_X12_text) (pc := 30) dX12_text_30 ?_
    refine ev_iastore (X := M_X12_text) (pc := 31) dX12_text_31 (by decide) (lS_157 hL) (by omega) ?_
    rw [hk]
    have hD0 : wr V 157 24 0 157 = up D 24 0 := by rw [wr_row, hD]
    refine ev_aload_n (X := M_X12_text) (pc := 32) dX12_text_32 rfl ?_
    refine ev_sipush (X := M_X12_text) (pc := 33) dX12_text_33 (by decide) ?_
    refine ev_iload_n (X := M_X12_text) (pc := 36) dX12_text_36 rfl ?_
    refine ev_iload_n (X := M_X12_text) (pc := 37) dX12_text_37 rfl ?_
    refine ev_virtZ (X := M_X12_text) (Y := M_X12_worked) (pc := 38) (ci := 12) dX12_text_38 mk_X12_worked rfl kw_1102 kw_1104 kp_6 (lO_156 hL) (m_worked hL (B := 148) (n := D 24) (nm := fun k => sx (wr V 157 24 0 160 k)) (f := tpF D) (by omega) h24 hu2 (by intro i i0 i1; rw [hD0, up_ne (by omega)]; unfold tpF; rw [rs_at i0 i1]) (by intro i i0 i1; unfold tpF; rw [rs_at i0 i1]; exact hby i i0 i1) (fun k _ _ => rfl)) rfl (by decide) rfl (Nat.le_of_ble_eq_true rfl) (Nat.zero_add _) (Nat.zero_add _) (fun x W hW => ?_)
    obtain ⟨w1, w2, w3, w4⟩ := hW
    have hft : W 156 7 = txF D u := w3
    have hD1 : W 157 = up D 24 0 := by rw [w1.row (by decide)]; exact hD0
    have hfr : -1 ≤ txF D u ∧ txF D u ≤ 50 := by
      have hB := (lvl_B (f := tpF D) (prS_B (f := tpF D) (n := D 24) (u := u) 5) 5) 0 (by decide) h24.1
      unfold txF fltR txt
      generalize lvl (prS (tpF D) (D 24) u 5) (tpF D) (D 24) 5 0 = r at hB ⊢
      obtain ⟨o, q⟩ := r
      cases o with
      | none =>
        have b1 := hB.1
        have b2 := hB.2
        split
        · decide
        · show -1 ≤ q ∧ q ≤ 50; omega
      | some l =>
        have b1 := hB.2.1
        have b2 := hB.2.2
        split
        · decide
        · show -1 ≤ q ∧ q ≤ 50; omega
    have hZ1 : Z161 W := fun j z => by rw [w1.row (by decide), wr_off (by decide)]; exact hZ j z
    have ho : ∀ c i, ¬ (c = 156 ∧ 4 ≤ i ∧ i ≤ 9) → c ≠ 157 → W c i = V c i := fun c i z1 z2 => by rw [w1 c i z1, wr_off z2]
    refine ev_istore_nL (X := M_X12_text) (pc := 41) (ls' := [_, _, _, _, _]) dX12_text_41 (by decide) rfl ?_
    refine ev_aload_n (X := M_X12_text) (pc := 42) dX12_text_42 rfl ?_
    refine ev_getIe (X := M_X12_text) (pc := 43) (ki := 7) dX12_text_43 fl_X12_101_12 (lO_156 hL) (by decide) rfl (hft) ?_
    refine ev_if_lt (X := M_X12_text) (pc := 46) (tgt := 57) dX12_text_46 (by decide) (by omega) (fun h46 => ?_) (fun h46 => ?_)
    · have hye : txF D u = -1 := by omega
      refine ev_aload_n (X := M_X12_text) (pc := 57) dX12_text_57 rfl ?_
      refine ev_getRe (X := M_X12_text) (pc := 58) dX12_text_58 fl_X12_7_12 (lO_156 hL) rfl (lR_156_0 hL) ?_
      refine ev_bipush (X := M_X12_text) (pc := 61) dX12_text_61 (by decide) ?_
      refine ev_iload_n (X := M_X12_text) (pc := 63) dX12_text_63 rfl ?_
      refine ev_iadd (X := M_X12_text) (pc := 64) dX12_text_64 ?_
      refine ev_iload_n (X := M_X12_text) (pc := 65) dX12_text_65 rfl ?_
      refine ev_iastore (X := M_X12_text) (pc := 66) dX12_text_66 (by decide) (lS_157 hL) (by omega) ?_
      refine ev_iconst (X := M_X12_text) (pc := 67) dX12_text_67 ?_
      refine ev_istoreL (X := M_X12_text) (pc := 68) (ls' := [_, _, _, _, _]) dX12_text_68 (by decide) rfl ?_
      have hW0 : wr W 157 (26 + u) (D 24) = setr W 157 (txC D u 0) := by
        unfold wr
        rw [hD1]
        have : txC D u 0 = up (up D 24 0) (26 + u) (D 24) := by
          funext j
          unfold txC
          rw [if_neg (by omega)]
        rw [this]
      rw [hW0]
      refine ev_weak (ev_while (σ := Int × Mm) (fun z => 0 ≤ z.1 ∧ z.1 ≤ D 24 ∧ z.2 = setr W 157 (txC D u z.1)) (fun z => (D 24 - z.1).toNat) (fun z => [vR 156, vI u, vI (D 24), vU, vI z.1]) (fun _ => K) (fun z => z.2) ?_ (0, setr W 157 (txC D u 0)) ⟨Int.le_refl 0, h24.1, rfl⟩) ⟨rfl, rfl, rfl, rfl, trivial⟩
      rintro ⟨i, W2⟩ ⟨i0, i1, hW2⟩ ih
      dsimp only at i0 i1 hW2 ih ⊢
      have hrd : i < D 24 → W2 157 (148 + i) = D (148 + i) := fun z => by
        rw [hW2, setr_self]
        unfold txC
        rw [if_neg (by omega), up_ne (by omega), up_ne (by omega)]
      refine ev_iload (X := M_X12_text) (pc := 70) dX12_text_70 rfl ?_
      refine ev_iload_n (X := M_X12_text) (pc := 72) dX12_text_72 rfl ?_
      refine ev_icmp_ge (X := M_X12_text) (pc := 73) (tgt := 108) dX12_text_73 (by decide) (by omega) (by omega) (fun h73 => ?_) (fun h73 => ?_)
      · refine ev_iconst (X := M_X12_text) (pc := 108) dX12_text_108 ?_
        refine ev_iret (X := M_X12_text) (pc := 109) dX12_text_109 rfl ?_
        rw [show i = D 24 by omega] at hW2
        refine ⟨?_, rfl, ?_, ?_, ?_, fun c j z1 z2 _ => ?_⟩
        · show some (vI 1) = some (vI (txR D u))
          unfold txR
          rw [if_pos hye]
        · exact fun j z => by rw [hW2, setr_ne (by decide)]; exact hZ1 j z
        · show W2 157 = txD D u
          unfold txD
          rw [if_pos hye, hW2, setr_self]
        · rw [hW2, setr_ne (by decide), show W 159 = V 159 from funext fun i => ho 159 i (by omega) (by decide)]
          rfl
        · rw [hW2, setr_ne z2]
          exact ho c j z1 z2
      · refine ev_aload_n (X := M_X12_text) (pc := 76) dX12_text_76 rfl ?_
        refine ev_getRe (X := M_X12_text) (pc := 77) dX12_text_77 fl_X12_7_12 (lO_156 hL) rfl (lR_156_0 hL) ?_
        refine ev_bipush (X := M_X12_text) (pc := 80) dX12_text_80 (by decide) ?_
        refine ev_bipush (X := M_X12_text) (pc := 82) dX12_text_82 (by decide) ?_
        refine ev_iload_n (X := M_X12_text) (pc := 84) dX12_text_84 rfl ?_
        refine ev_imul (X := M_X12_text) (pc := 85) dX12_text_85 ?_
        refine ev_iadd (X := M_X12_text) (pc := 86) dX12_text_86 ?_
        refine ev_iload (X := M_X12_text) (pc := 87) dX12_text_87 rfl ?_
        refine ev_iadd (X := M_X12_text) (pc := 89) dX12_text_89 ?_
        refine ev_aload_n (X := M_X12_text) (pc := 90) dX12_text_90 rfl ?_
        refine ev_getRe (X := M_X12_text) (pc := 91) dX12_text_91 fl_X12_7_12 (lO_156 hL) rfl (lR_156_0 hL) ?_
        refine ev_sipush (X := M_X12_text) (pc := 94) dX12_text_94 (by decide) ?_
        refine ev_iload (X := M_X12_text) (pc := 97) dX12_text_97 rfl ?_
        refine ev_iadd (X := M_X12_text) (pc := 99) dX12_text_99 ?_
        refine ev_ialoadE (X := M_X12_text) (pc := 100) dX12_text_100 (lS_157 hL) (by omega) (hrd (by omega)) ?_
        refine ev_iastore (X := M_X12_text) (pc := 101) dX12_text_101 (by decide) (lS_157 hL) (by omega) ?_
        refine ev_iincL (X := M_X12_text) (pc := 102) (ls' := [_, _, _, _, _]) dX12_text_102 rfl (by decide) rfl ?_
        refine ev_goto (X := M_X12_text) (pc := 105) (tgt := 70) dX12_text_105 (by decide) ?_
        refine ev_weak (ih (i + 1, wr W2 157 (48 + 50 * u + i) (D (148 + i))) ⟨by omega, by omega, ?_⟩ (by show (D 24 - (i + 1)).toNat < (D 24 - i).toNat; omega)) ⟨rfl, rfl, rfl, rfl, trivial⟩
        show wr W2 157 (48 + 50 * u + i) (D (148 + i)) = setr W 157 (txC D u (i + 1))
        rw [hW2, wr_setr]
        have e : up (txC D u i) (48 + 50 * u + i) (D (148 + i)) = txC D u (i + 1) := by
          funext j
          unfold txC
          by_cases z : j = 48 + 50 * u + i
          · rw [z, up_self, if_pos (by omega), show 148 + (48 + 50 * u + i - (48 + 50 * u)) = 148 + i by omega]
          · rw [up_ne z]
            by_cases y : 48 + 50 * u ≤ j ∧ j < 48 + 50 * u + i
            · rw [if_pos y, if_pos (by omega)]
            · rw [if_neg y, if_neg (by omega)]
        rw [e]
    · have hne : ¬ txF D u = -1 := by omega
      refine ev_bipush (X := M_X12_text) (pc := 49) dX12_text_49 (by decide) ?_
      refine ev_aload_n (X := M_X12_text) (pc := 51) dX12_text_51 rfl ?_
      refine ev_getIe (X := M_X12_text) (pc := 52) (ki := 7) dX12_text_52 fl_X12_101_12 (lO_156 hL) (by decide) rfl (hft) ?_
      refine ev_isub (X := M_X12_text) (pc := 55) dX12_text_55 ?_
      refine ev_iret (X := M_X12_text) (pc := 56) dX12_text_56 rfl ?_
      refine ⟨?_, rfl, hZ1, ?_, ?_, fun c i z1 z2 _ => ho c i z1 z2⟩
      · show some (vI (-10 - txF D u)) = some (vI (txR D u))
        unfold txR
        rw [if_neg hne]
      · show W 157 = txD D u
        unfold txD
        rw [if_neg hne]
        exact hD1
      · rw [show W 159 = V 159 from funext fun i => ho 159 i (by omega) (by decide)]
        rfl
  · have hk : usK u = 1 := by unfold usK; rw [if_neg (fun z => by rw [if_pos (by omega)] at h7; exact absurd h7 (by decide))]
    refine ev_aload_n (X := M_X12_text) (pc := 10) dX12_text_10 rfl ?_
    refine ev_iconst (X := M_X12_text) (pc := 11) dX12_text_11 ?_
    refine ev_virtR (X := M_X12_text) (Y := M_X12_finds) (pc := 12) (ci := 12) dX12_text_12 mk_X12_finds rfl kw_1092 kw_1094 kp_5 (lO_156 hL) (m_finds hL (by decide)) rfl (by decide) rfl (Nat.le_of_ble_eq_true rfl) (Nat.zero_add _) (Nat.zero_add _) ?_
    refine ev_iret (X := M_X12_text) (pc := 15) dX12_text_15 rfl ?_
    rw [hk]
    exact ⟨rfl, rfl, MW_e hZ hD (by decide)⟩
