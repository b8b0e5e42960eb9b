theorem c_placeOf {γ : Gh} {K : Sk} {V : Mm} (hL : Lay K) (hV : SV V) (hV2 : SV2 V) {s : Int} (hs : 0 ≤ s ∧ s < 2197) : Call γ M_X6_placeOf 1 0 0 [vI s] K V (Rt (some (vI (pl s))) K V) := by
  refine call_of (by decide +kernel) (by intro v hv; simp only [List.mem_cons, List.not_mem_nil, or_false] at hv; rcases hv with rfl <;> exact fun q => by cases q) (Nat.le_of_ble_eq_true rfl) ?_
  refine ev_lsE (ls' := [_, _, _]) rfl ?_
  have q0 := cnt_r s 0
  have q1 := cnt_r s 1
  have q2 := cnt_r s 2
  have q3 := ahe_r (cnt s 0).toNat (by omega)
  rw [Int.toNat_of_nonneg q0.1] at q3
  have q4 : 0 ≤ cnt s 1 * (cnt s 1 - 1) ∧ cnt s 1 * (cnt s 1 - 1) ≤ 156 := by
    rcases (show cnt s 1 = 0 ∨ 1 ≤ cnt s 1 by omega) with q | q
    · rw [q]; decide
    · exact ⟨Int.mul_nonneg (by omega) (by omega), Int.le_trans (Int.mul_le_mul (by omega : cnt s 1 ≤ 12) (by omega : cnt s 1 - 1 ≤ 11) (by omega) (by omega)) (by decide)⟩
  refine ev_iload_n (X := M_X6_placeOf) (pc := 0) dX6_placeOf_0 rfl ?_
  refine ev_iconst (X := M_X6_placeOf) (pc := 1) dX6_placeOf_1 ?_
  refine ev_staticNR (X := M_X6_placeOf) (Y := M_X11_countOf) (pc := 2) (host := "GreenPath") dX6_placeOf_2 mk_X11_countOf kn_662 kw_325 (c_countOf hL hV (by omega) (by decide)) rfl (by decide) rfl (Nat.le_of_ble_eq_true rfl) (Nat.zero_add _) (Nat.zero_add _) ?_
  refine ev_istore_nL (X := M_X6_placeOf) (pc := 5) (ls' := [_, _, _]) dX6_placeOf_5 (by decide) rfl ?_
  refine ev_iload_n (X := M_X6_placeOf) (pc := 6) dX6_placeOf_6 rfl ?_
  refine ev_iconst (X := M_X6_placeOf) (pc := 7) dX6_placeOf_7 ?_
  refine ev_staticNR (X := M_X6_placeOf) (Y := M_X11_countOf) (pc := 8) (host := "GreenPath") dX6_placeOf_8 mk_X11_countOf kn_662 kw_325 (c_countOf hL hV (by omega) (by decide)) rfl (by decide) rfl (Nat.le_of_ble_eq_true rfl) (Nat.zero_add _) (Nat.zero_add _) ?_
  refine ev_istore_nL (X := M_X6_placeOf) (pc := 11) (ls' := [_, _, _]) dX6_placeOf_11 (by decide) rfl ?_
  refine ev_gets (X := M_X6_placeOf) (pc := 12) (q := ("GreenPath$Search", "AHEAD", "[I", vR 4)) dX6_placeOf_12 st_4 kw_663 ?_
  refine ev_iload_n (X := M_X6_placeOf) (pc := 15) dX6_placeOf_15 rfl ?_
  refine ev_ialoadE (X := M_X6_placeOf) (pc := 16) dX6_placeOf_16 (lS_4 hL) (by omega) (congrFun hV2.1 _) ?_
  refine ev_iload_n (X := M_X6_placeOf) (pc := 17) dX6_placeOf_17 rfl ?_
  refine ev_bipush (X := M_X6_placeOf) (pc := 18) dX6_placeOf_18 (by decide) ?_
  refine ev_iload_n (X := M_X6_placeOf) (pc := 20) dX6_placeOf_20 rfl ?_
  refine ev_isub (X := M_X6_placeOf) (pc := 21) dX6_placeOf_21 ?_
  refine ev_imul (X := M_X6_placeOf) (pc := 22) dX6_placeOf_22 ?_
  refine ev_iadd (X := M_X6_placeOf) (pc := 23) dX6_placeOf_23 ?_
  refine ev_iload_n (X := M_X6_placeOf) (pc := 24) dX6_placeOf_24 rfl ?_
  refine ev_iload_n (X := M_X6_placeOf) (pc := 25) dX6_placeOf_25 rfl ?_
  refine ev_iconst (X := M_X6_placeOf) (pc := 26) dX6_placeOf_26 ?_
  refine ev_isub (X := M_X6_placeOf) (pc := 27) dX6_placeOf_27 ?_
  refine ev_imul (X := M_X6_placeOf) (pc := 28) dX6_placeOf_28 ?_
  refine ev_iconst (X := M_X6_placeOf) (pc := 29) dX6_placeOf_29 ?_
  refine ev_idiv (X := M_X6_placeOf) (pc := 30) dX6_placeOf_30 (by omega) (by omega) ?_
  refine ev_isub (X := M_X6_placeOf) (pc := 31) dX6_placeOf_31 ?_
  refine ev_iload_n (X := M_X6_placeOf) (pc := 32) dX6_placeOf_32 rfl ?_
  refine ev_iconst (X := M_X6_placeOf) (pc := 33) dX6_placeOf_33 ?_
  refine ev_staticNR (X := M_X6_placeOf) (Y := M_X11_countOf) (pc := 34) (host := "GreenPath") dX6_placeOf_34 mk_X11_countOf kn_662 kw_325 (c_countOf hL hV (by omega) (by decide)) rfl (by decide) rfl (Nat.le_of_ble_eq_true rfl) (Nat.zero_add _) (Nat.zero_add _) ?_
  refine ev_iadd (X := M_X6_placeOf) (pc := 37) dX6_placeOf_37 ?_
  refine ev_iret (X := M_X6_placeOf) (pc := 38) dX6_placeOf_38 rfl ?_
  exact ⟨rfl, rfl, rfl⟩
def fr1 (a : Nat) (V W : Mm) : Prop := ∀ c, c ≠ a → W c = V c
theorem c_lead {γ : Gh} {K : Sk} {V : Mm} {C : Int → Int} {F q p : Int} (h : SrP K V C F) (hq : 0 ≤ q ∧ q < 455) (hp : 0 ≤ p ∧ p < 6) : Call γ M_X6_lead 3 0 0 [vR 101, vI q, vI p] K V (Qx (some (vI (ld C F q p))) K (fun W => fr1 119 V W ∧ COk C F (W 119))) := by
  refine call_of (by decide +kernel) (by intro v hv; simp only [List.mem_cons, List.not_mem_nil, or_false] at hv; rcases hv with rfl | rfl | rfl <;> exact fun q => by cases q) (Nat.le_of_ble_eq_true rfl) ?_
  refine ev_lsE (ls' := [_, _, _, _, _]) rfl ?_
  obtain ⟨hL, hV, hV2, hC, hF, hD, hS, hO⟩ := h
  have hst := stF_at hq
  have hsl := isSt_lt hst.1
  have hlr := ld_r (F := F) hC hq hp
  have hnr := nx_r (F := F) hC hsl hp
  have hc := hO q p hq hp
  have e6 : q * 6 + p = 6 * q + p := by omega
  have wst : ∀ x, x = ld C F q p → COk C F (wr V 119 (6 * q + p) x 119) := by
    intro x hx q' p' hq' hp'
    rw [wr_row]
    by_cases z : 6 * q' + p' = 6 * q + p
    · rw [z, up_self]
      right
      have : q' = q ∧ p' = p := by omega
      rw [this.1, this.2]
      exact hx
    · rw [up_ne z]
      exact hO q' p' hq' hp'
  refine ev_iload_n (X := M_X6_lead) (pc := 0) dX6_lead_0 rfl ?_
  refine ev_bipush (X := M_X6_lead) (pc := 1) dX6_lead_1 (by decide) ?_
  refine ev_imul (X := M_X6_lead) (pc := 3) dX6_lead_3 ?_
  refine ev_iload_n (X := M_X6_lead) (pc := 4) dX6_lead_4 rfl ?_
  refine ev_iadd (X := M_X6_lead) (pc := 5) dX6_lead_5 ?_
  rw [e6]
  refine ev_istore_nL (X := M_X6_lead) (pc := 6) (ls' := [_, _, _, _, _]) dX6_lead_6 (by decide) rfl ?_
  refine ev_aload_n (X := M_X6_lead) (pc := 7) dX6_lead_7 rfl ?_
  refine ev_getRe (X := M_X6_lead) (pc := 8) dX6_lead_8 fl_X6_22_6 (lO_101 hL) rfl (lR_101_2 hL) ?_
  refine ev_iload_n (X := M_X6_lead) (pc := 11) dX6_lead_11 rfl ?_
  refine ev_iaload (X := M_X6_lead) (pc := 12) dX6_lead_12 (lS_119 hL) (by omega) ?_
  refine ev_bipush (X := M_X6_lead) (pc := 13) dX6_lead_13 (by decide) ?_
  refine ev_icmp_ne (X := M_X6_lead) (pc := 15) (tgt := 55) dX6_lead_15 (by decide) (by omega) (by decide) (fun h15 => ?_) (fun h15 => ?_)
  · have hne : V 119 (6 * q + p) = ld C F q p := hc.resolve_left h15
    refine ev_aload_n (X := M_X6_lead) (pc := 55) dX6_lead_55 rfl ?_
    refine ev_getRe (X := M_X6_lead) (pc := 56) dX6_lead_56 fl_X6_22_6 (lO_101 hL) rfl (lR_101_2 hL) ?_
    refine ev_iload_n (X := M_X6_lead) (pc := 59) dX6_lead_59 rfl ?_
    refine ev_iaload (X := M_X6_lead) (pc := 60) dX6_lead_60 (lS_119 hL) (by omega) ?_
    refine ev_iret (X := M_X6_lead) (pc := 61) dX6_lead_61 rfl ?_
    first
      | exact ⟨by rw [hne], rfl, fun _ _ => rfl, hO⟩
      | exact ⟨by rw [wr_row, up_self, hrd], rfl, fun c z => wr_off z, wst _ hrd.symm⟩
  · have hld : ld C F q p = if nx C F (stF q) p = -1 then -1 else pl (nx C F (stF q) p) := rfl
    refine ev_aload_n (X := M_X6_lead) (pc := 18) dX6_lead_18 rfl ?_
    refine ev_getRe (X := M_X6_lead) (pc := 19) dX6_lead_19 fl_X6_12_6 (lO_101 hL) rfl (lR_101_0 hL) ?_
    refine ev_aload_n (X := M_X6_lead) (pc := 22) dX6_lead_22 rfl ?_
    refine ev_getRe (X := M_X6_lead) (pc := 23) dX6_lead_23 fl_X6_18_6 (lO_101 hL) rfl (lR_101_1 hL) ?_
    refine ev_iload_n (X := M_X6_lead) (pc := 26) dX6_lead_26 rfl ?_
    refine ev_ialoadE (X := M_X6_lead) (pc := 27) dX6_lead_27 (lS_118 hL) (by omega) (hS q hq) ?_
    refine ev_iload_n (X := M_X6_lead) (pc := 28) dX6_lead_28 rfl ?_
    refine ev_virtR (X := M_X6_lead) (Y := M_X2_next) (pc := 29) (ci := 2) dX6_lead_29 mk_X2_next rfl kw_673 kw_430 kw_431 (lO_102 hL) (c_next hL hV hC hF hp hD hsl) rfl (by decide) rfl (Nat.le_of_ble_eq_true rfl) (Nat.zero_add _) (Nat.zero_add _) ?_
    refine ev_istoreL (X := M_X6_lead) (pc := 32) (ls' := [_, _, _, _, _]) dX6_lead_32 (by decide) rfl ?_
    refine ev_aload_n (X := M_X6_lead) (pc := 34) dX6_lead_34 rfl ?_
    refine ev_getRe (X := M_X6_lead) (pc := 35) dX6_lead_35 fl_X6_22_6 (lO_101 hL) rfl (lR_101_2 hL) ?_
    refine ev_iload_n (X := M_X6_lead) (pc := 38) dX6_lead_38 rfl ?_
    refine ev_iload (X := M_X6_lead) (pc := 39) dX6_lead_39 rfl ?_
    refine ev_iconst (X := M_X6_lead) (pc := 41) dX6_lead_41 ?_
    refine ev_icmp_ne (X := M_X6_lead) (pc := 42) (tgt := 49) dX6_lead_42 (by decide) (hnr) (by decide) (fun h42 => ?_) (fun h42 => ?_)
    · rw [if_neg h42] at hld
      have hrd := hld
      refine ev_iload (X := M_X6_lead) (pc := 49) dX6_lead_49 rfl ?_
      refine ev_staticR (X := M_X6_lead) (Y := M_X6_placeOf) (pc := 51) dX6_lead_51 mk_X6_placeOf kw_659 kw_660 (c_placeOf hL hV hV2 (isSt_lt (nx_st hC hp hst.1 h42))) rfl (by decide) rfl (Nat.le_of_ble_eq_true rfl) (Nat.zero_add _) (Nat.zero_add _) ?_
      refine ev_iastore (X := M_X6_lead) (pc := 54) dX6_lead_54 (by decide) (lS_119 hL) (by omega) ?_
      refine ev_aload_n (X := M_X6_lead) (pc := 55) dX6_lead_55 rfl ?_
      refine ev_getRe (X := M_X6_lead) (pc := 56) dX6_lead_56 fl_X6_22_6 (lO_101 hL) rfl (lR_101_2 hL) ?_
      refine ev_iload_n (X := M_X6_lead) (pc := 59) dX6_lead_59 rfl ?_
      refine ev_iaload (X := M_X6_lead) (pc := 60) dX6_lead_60 (lS_119 hL) (by omega) ?_
      refine ev_iret (X := M_X6_lead) (pc := 61) dX6_lead_61 rfl ?_
      first
        | exact ⟨by rw [hne], rfl, fun _ _ => rfl, hO⟩
        | exact ⟨by rw [wr_row, up_self, hrd], rfl, fun c z => wr_off z, wst _ hrd.symm⟩
    · rw [if_pos h42] at hld
      have hrd := hld
      refine ev_iconst (X := M_X6_lead) (pc := 45) dX6_lead_45 ?_
      refine ev_goto (X := M_X6_lead) (pc := 46) (tgt := 54) dX6_lead_46 (by decide) ?_
      refine ev_iastore (X := M_X6_lead) (pc := 54) dX6_lead_54 (by decide) (lS_119 hL) (by omega) ?_
      refine ev_aload_n (X := M_X6_lead) (pc := 55) dX6_lead_55 rfl ?_
      refine ev_getRe (X := M_X6_lead) (pc := 56) dX6_lead_56 fl_X6_22_6 (lO_101 hL) rfl (lR_101_2 hL) ?_
      refine ev_iload_n (X := M_X6_lead) (pc := 59) dX6_lead_59 rfl ?_
      refine ev_iaload (X := M_X6_lead) (pc := 60) dX6_lead_60 (lS_119 hL) (by omega) ?_
      refine ev_iret (X := M_X6_lead) (pc := 61) dX6_lead_61 rfl ?_
      first
        | exact ⟨by rw [hne], rfl, fun _ _ => rfl, hO⟩
        | exact ⟨by rw [wr_row, up_self, hrd], rfl, fun c z => wr_off z, wst _ hrd.symm⟩
/-- one more is found -/
def fnd (V : Mm) (q far by' : Int) : Mm := wr (wr (wr (wr V 121 q far) 122 q by') 120 (V 101 6) q) 101 6 (V 101 6 + 1)
theorem c_find {γ : Gh} {K : Sk} {V : Mm} (hL : Lay K) {q far by' : Int} (hq : 0 ≤ q ∧ q < 455) (hn : 0 ≤ V 101 6 ∧ V 101 6 < 455) : Call γ M_X6_find 0 0 0 [vR 101, vI q, vI far, vI by'] K V (Rt none K (fnd V q far by')) := by
  refine call_of (by decide +kernel) (by intro v hv; simp only [List.mem_cons, List.not_mem_nil, or_false] at hv; rcases hv with rfl | rfl | rfl | rfl <;> exact fun q => by cases q) (Nat.le_of_ble_eq_true rfl) ?_
  refine ev_lsE (ls' := [_, _, _, _]) rfl ?_
  refine ev_aload_n (X := M_X6_find) (pc := 0) dX6_find_0 rfl ?_
  refine ev_getI (X := M_X6_find) (pc := 1) (ki := 6) dX6_find_1 fl_X6_74_6 (lO_101 hL) (by decide) rfl ?_
  refine ev_sipush (X := M_X6_find) (pc := 4) dX6_find_4 (by decide) ?_
  refine ev_icmp_ge (X := M_X6_find) (pc := 7) (tgt := 44) dX6_find_7 (by decide) (by omega) (by decide) (fun h7 => ?_) (fun h7 => ?_)
  · refine ev_vret (X := M_X6_find) (pc := 44) dX6_find_44 rfl ?_
    first
      | (exfalso; omega)
      | exact ⟨rfl, rfl, rfl⟩
  · refine ev_aload_n (X := M_X6_find) (pc := 10) dX6_find_10 rfl ?_
    refine ev_getRe (X := M_X6_find) (pc := 11) dX6_find_11 fl_X6_28_6 (lO_101 hL) rfl (lR_101_4 hL) ?_
    refine ev_iload_n (X := M_X6_find) (pc := 14) dX6_find_14 rfl ?_
    refine ev_iload_n (X := M_X6_find) (pc := 15) dX6_find_15 rfl ?_
    refine ev_iastore (X := M_X6_find) (pc := 16) dX6_find_16 (by decide) (lS_121 hL) (by omega) ?_
    refine ev_aload_n (X := M_X6_find) (pc := 17) dX6_find_17 rfl ?_
    refine ev_getRe (X := M_X6_find) (pc := 18) dX6_find_18 fl_X6_31_6 (lO_101 hL) rfl (lR_101_5 hL) ?_
    refine ev_iload_n (X := M_X6_find) (pc := 21) dX6_find_21 rfl ?_
    refine ev_iload_n (X := M_X6_find) (pc := 22) dX6_find_22 rfl ?_
    refine ev_iastore (X := M_X6_find) (pc := 23) dX6_find_23 (by decide) (lS_122 hL) (by omega) ?_
    refine ev_aload_n (X := M_X6_find) (pc := 24) dX6_find_24 rfl ?_
    refine ev_getRe (X := M_X6_find) (pc := 25) dX6_find_25 fl_X6_25_6 (lO_101 hL) rfl (lR_101_3 hL) ?_
    refine ev_aload_n (X := M_X6_find) (pc := 28) dX6_find_28 rfl ?_
    refine ev_getIe (X := M_X6_find) (pc := 29) (ki := 6) dX6_find_29 fl_X6_74_6 (lO_101 hL) (by decide) rfl (show _ = V 101 6 from rfl) ?_
    refine ev_iload_n (X := M_X6_find) (pc := 32) dX6_find_32 rfl ?_
    refine ev_iastore (X := M_X6_find) (pc := 33) dX6_find_33 (by decide) (lS_120 hL) (by omega) ?_
    refine ev_aload_n (X := M_X6_find) (pc := 34) dX6_find_34 rfl ?_
    refine ev_dup (X := M_X6_find) (pc := 35) dX6_find_35 (fun _ q => by cases q) ?_
    refine ev_getIe (X := M_X6_find) (pc := 36) (ki := 6) dX6_find_36 fl_X6_74_6 (lO_101 hL) (by decide) rfl (show _ = V 101 6 from rfl) ?_
    refine ev_iconst (X := M_X6_find) (pc := 39) dX6_find_39 ?_
    refine ev_iadd (X := M_X6_find) (pc := 40) dX6_find_40 ?_
    refine ev_putI (X := M_X6_find) (pc := 41) (ki := 6) dX6_find_41 fl_X6_74_6 (by decide) (lO_101 hL) (fun _ h q => by cases h; cases q) (Or.inl rfl) rfl ?_
    refine ev_vret (X := M_X6_find) (pc := 44) dX6_find_44 rfl ?_
    first
      | (exfalso; omega)
      | exact ⟨rfl, rfl, rfl⟩
