/-- the i-th pair of the first way -/
def wyP (B : BS) (t i : Int) : Int := B.2.2.2 (anc B t (B.1 t - 1 - i).toNat) % 6
def wyR (B : BS) (t i : Int) : Int := if isSt t ∧ 0 ≤ i then (if i < B.1 t then wyP B t i else -1000000002) else -1000000001
def wyE (B : BS) (t i : Int) (er : Int → Int) : Int → Int := if isSt t ∧ 0 ≤ i then (if i < B.1 t then er else up er 2 (er 2 + 1)) else up er 1 (er 1 + 1)
theorem CE_org {C : Int → Int} {F s0 e : Int} {W : Mm} {B : BS} (hI : BI s0 B) (hE : CE W B) {v : Int} (h1 : 1 ≤ B.1 v) : W 122 (pl v) = 6 * pl (par B v) + B.2.2.2 v % 6 := by
  obtain ⟨i, hi, rfl⟩ := reached_i hI (by omega) h1
  exact hE.2.2.2 i hi
theorem far_isSt {s0 : Int} {B : BS} (hI : BI s0 B) {v : Int} (h : B.1 v ≠ -1) : isSt v := by
  obtain ⟨i, hi, rfl⟩ := hI.2.2.2.1 v h
  exact hI.2.1 i hi
theorem c_pairOnWay {γ : Gh} {K : Sk} {V : Mm} (hL : Lay K) (hV : SV V) (hV2 : SV2 V) {C : Int → Int} {F s0 e t i : Int} {B : BS} (hI : BI s0 B) (hO : BO C F s0 e B) (hE : CE V B) (ht : isSt t) (hi : 0 ≤ i ∧ i < 2147483648) : Call γ M_X6_pairOnWay 2 0 0 [vR 101, vI t, vI i] K V (Rt (some (vI (if i < B.1 t then wyP B t i else -1))) K V) := by
  refine call_of (by decide +kernel) (by intro v hv; simp only [List.mem_cons, List.not_mem_nil, or_false] at hv; rcases hv with rfl | rfl | rfl <;> exact fun q => by cases q) (Nat.le_of_ble_eq_true rfl) ?_
  refine ev_lsE (ls' := [_, _, _, _, _, _]) rfl ?_
  obtain ⟨p0, p1, p2⟩ := pl_st ht
  have hfar := hI.far_r t
  have hd : V 121 (pl t) = B.1 t := by rw [hE.2.2.1 _ ⟨p0, p1⟩, p2]
  refine ev_iload_n (X := M_X6_pairOnWay) (pc := 0) dX6_pairOnWay_0 rfl ?_
  refine ev_staticR (X := M_X6_pairOnWay) (Y := M_X6_placeOf) (pc := 1) dX6_pairOnWay_1 mk_X6_placeOf kw_659 kw_660 (c_placeOf hL hV hV2 (isSt_lt ht)) rfl (by decide) rfl (Nat.le_of_ble_eq_true rfl) (Nat.zero_add _) (Nat.zero_add _) ?_
  refine ev_istore_nL (X := M_X6_pairOnWay) (pc := 4) (ls' := [_, _, _, _, _, _]) dX6_pairOnWay_4 (by decide) rfl ?_
  refine ev_aload_n (X := M_X6_pairOnWay) (pc := 5) dX6_pairOnWay_5 rfl ?_
  refine ev_getRe (X := M_X6_pairOnWay) (pc := 6) dX6_pairOnWay_6 fl_X6_28_6 (lO_101 hL) rfl (lR_101_4 hL) ?_
  refine ev_iload_n (X := M_X6_pairOnWay) (pc := 9) dX6_pairOnWay_9 rfl ?_
  refine ev_ialoadE (X := M_X6_pairOnWay) (pc := 10) dX6_pairOnWay_10 (lS_121 hL) (by omega) (hd) ?_
  refine ev_istoreL (X := M_X6_pairOnWay) (pc := 11) (ls' := [_, _, _, _, _, _]) dX6_pairOnWay_11 (by decide) rfl ?_
  refine ev_iload_n (X := M_X6_pairOnWay) (pc := 13) dX6_pairOnWay_13 rfl ?_
  refine ev_iload (X := M_X6_pairOnWay) (pc := 14) dX6_pairOnWay_14 rfl ?_
  refine ev_icmp_lt (X := M_X6_pairOnWay) (pc := 16) (tgt := 21) dX6_pairOnWay_16 (by decide) (by omega) (by omega) (fun h16 => ?_) (fun h16 => ?_)
  · refine ev_iload (X := M_X6_pairOnWay) (pc := 21) dX6_pairOnWay_21 rfl ?_
    refine ev_iconst (X := M_X6_pairOnWay) (pc := 23) dX6_pairOnWay_23 ?_
    refine ev_isub (X := M_X6_pairOnWay) (pc := 24) dX6_pairOnWay_24 ?_
    refine ev_istoreL (X := M_X6_pairOnWay) (pc := 25) (ls' := [_, _, _, _, _, _]) dX6_pairOnWay_25 (by decide) rfl ?_
    refine ev_weak (ev_while (σ := Int) (fun b => i ≤ b ∧ b < B.1 t) (fun b => (b - i).toNat) (fun b => [vR 101, vI t, vI i, vI (pl (anc B t (B.1 t - 1 - b).toNat)), vI (B.1 t), vI b]) (fun _ => K) (fun _ => V) ?_ (B.1 t - 1) ⟨by omega, by omega⟩) ⟨rfl, rfl, rfl, by rw [show B.1 t - 1 - (B.1 t - 1) = 0 by omega]; rfl, rfl, rfl, trivial⟩
    rintro b ⟨hb1, hb2⟩ ih
    try dsimp only at hb1 hb2 ih ⊢
    have haf := anc_far hI hO (t := t) (by omega) (B.1 t - 1 - b).toNat (by omega)
    have hag := CE_org (C := C) (F := F) (e := e) hI hE (v := anc B t (B.1 t - 1 - b).toNat) (by omega)
    have hpk := par_ok hI hO (v := anc B t (B.1 t - 1 - b).toNat) (by omega)
    have hpp : par B (anc B t (B.1 t - 1 - b).toNat) = anc B t (B.1 t - 1 - (b - 1)).toNat := by
      rw [show (B.1 t - 1 - (b - 1)).toNat = (B.1 t - 1 - b).toNat + 1 by omega]
      rfl
    obtain ⟨v0, v1, v2⟩ := pl_st (far_isSt hI (v := anc B t (B.1 t - 1 - b).toNat) (by omega))
    obtain ⟨w0, w1, w2⟩ := pl_st (far_isSt hI (v := par B (anc B t (B.1 t - 1 - b).toNat)) (by omega))
    generalize hv : anc B t (B.1 t - 1 - b).toNat = v at *
    refine ev_iload (X := M_X6_pairOnWay) (pc := 27) dX6_pairOnWay_27 rfl ?_
    refine ev_iload_n (X := M_X6_pairOnWay) (pc := 29) dX6_pairOnWay_29 rfl ?_
    refine ev_icmp_le (X := M_X6_pairOnWay) (pc := 30) (tgt := 49) dX6_pairOnWay_30 (by decide) (by omega) (by omega) (fun h30 => ?_) (fun h30 => ?_)
    · refine ev_aload_n (X := M_X6_pairOnWay) (pc := 49) dX6_pairOnWay_49 rfl ?_
      refine ev_getRe (X := M_X6_pairOnWay) (pc := 50) dX6_pairOnWay_50 fl_X6_31_6 (lO_101 hL) rfl (lR_101_5 hL) ?_
      refine ev_iload_n (X := M_X6_pairOnWay) (pc := 53) dX6_pairOnWay_53 rfl ?_
      refine ev_ialoadE (X := M_X6_pairOnWay) (pc := 54) dX6_pairOnWay_54 (lS_122 hL) (by omega) (hag) ?_
      refine ev_bipush (X := M_X6_pairOnWay) (pc := 55) dX6_pairOnWay_55 (by decide) ?_
      refine ev_irem (X := M_X6_pairOnWay) (pc := 57) dX6_pairOnWay_57 (by omega) (by omega) ?_
      refine ev_iret (X := M_X6_pairOnWay) (pc := 58) dX6_pairOnWay_58 rfl ?_
      refine ⟨?_, rfl, rfl⟩
      rw [if_pos (by omega)]
      unfold wyP
      rw [show i = b by omega, hv]
      congr 2
      omega
    · refine ev_aload_n (X := M_X6_pairOnWay) (pc := 33) dX6_pairOnWay_33 rfl ?_
      refine ev_getRe (X := M_X6_pairOnWay) (pc := 34) dX6_pairOnWay_34 fl_X6_31_6 (lO_101 hL) rfl (lR_101_5 hL) ?_
      refine ev_iload_n (X := M_X6_pairOnWay) (pc := 37) dX6_pairOnWay_37 rfl ?_
      refine ev_ialoadE (X := M_X6_pairOnWay) (pc := 38) dX6_pairOnWay_38 (lS_122 hL) (by omega) (hag) ?_
      refine ev_bipush (X := M_X6_pairOnWay) (pc := 39) dX6_pairOnWay_39 (by decide) ?_
      refine ev_idiv (X := M_X6_pairOnWay) (pc := 41) dX6_pairOnWay_41 (by omega) (by omega) ?_
      refine ev_istore_nL (X := M_X6_pairOnWay) (pc := 42) (ls' := [_, _, _, _, _, _]) dX6_pairOnWay_42 (by decide) rfl ?_
      refine ev_iincL (X := M_X6_pairOnWay) (pc := 43) (ls' := [_, _, _, _, _, _]) dX6_pairOnWay_43 rfl (by decide) rfl ?_
      refine ev_goto (X := M_X6_pairOnWay) (pc := 46) (tgt := 27) dX6_pairOnWay_46 (by decide) ?_
      refine ev_weak (ih (b - 1) ⟨by omega, by omega⟩ (by omega)) ⟨rfl, rfl, rfl, ?_, rfl, rfl, trivial⟩
      rw [← hpp]
      congr 2
      omega
  · refine ev_iconst (X := M_X6_pairOnWay) (pc := 19) dX6_pairOnWay_19 ?_
    refine ev_iret (X := M_X6_pairOnWay) (pc := 20) dX6_pairOnWay_20 rfl ?_
    exact ⟨by rw [if_neg (by omega)], rfl, rfl⟩
theorem c_way {γ : Gh} {K : Sk} {V : Mm} {C : Int → Int} {F s0 t i : Int} (h : SrP K V C F) (hs : isSt s0) (hn : V 102 4 = s0) (ht : -2147483648 ≤ t ∧ t < 2147483648) (hi : -2147483648 ≤ i ∧ i < 2147483648) : Call γ M_X11_way 5 0 0 [vR 100, vI t, vI i] K V (Qx (some (vI (wyR (bF C F s0) t i))) K (CS C F V (wyE (bF C F s0) t i (V 155)))) := by
  refine call_of (by decide +kernel) (by intro v hv; simp only [List.mem_cons, List.not_mem_nil, or_false] at hv; rcases hv with rfl | rfl | rfl <;> exact fun q => by cases q) (Nat.le_of_ble_eq_true rfl) ?_
  refine ev_lsE (ls' := [_, _, _]) rfl ?_
  have hL := h.1
  have hI := bF_I (F := F) h.2.2.2.1 hs
  have hB := bF_O (F := F) h.2.2.2.1 hs
  have hwr : 0 ≤ wyP (bF C F s0) t i ∧ wyP (bF C F s0) t i < 6 := by unfold wyP; omega
  have key : ¬ (isSt t ∧ 0 ≤ i) → Qx (some (vI (wyR (bF C F s0) t i))) K (CS C F V (wyE (bF C F s0) t i (V 155))) (some (vI (-1000000001))) K (err V 1) := fun z => by
    refine ⟨by unfold wyR; rw [if_neg z], rfl, ?_, ?_, frS.rf.er 1⟩
    · rw [err_119]; exact h.2.2.2.2.2.2.2
    · unfold wyE; rw [if_neg z]; exact err_155
  refine ev_iload_n (X := M_X11_way) (pc := 0) dX11_way_0 rfl ?_
  refine ev_staticR (X := M_X11_way) (Y := M_X11_isState) (pc := 1) dX11_way_1 mk_X11_isState kw_654 kw_178 (c_isState h.2.1 hL ht) rfl (by decide) rfl (Nat.le_of_ble_eq_true rfl) (Nat.zero_add _) (Nat.zero_add _) ?_
  refine ev_if_eq (X := M_X11_way) (pc := 4) (tgt := 11) dX11_way_4 (by decide) (by split <;> decide) (fun h4 => ?_) (fun h4 => ?_)
  · refine ev_aload_n (X := M_X11_way) (pc := 11) dX11_way_11 rfl ?_
    refine ev_ldc (X := M_X11_way) (pc := 12) (v := -1000000001) dX11_way_12 kw_318 (by decide) ?_
    refine ev_virtR (X := M_X11_way) (Y := M_X11_error) (pc := 14) (ci := 11) dX11_way_14 mk_X11_error rfl kw_319 kw_321 kp_0 (lO_100 hL) (c_error (k := 1) hL (by decide) (by decide)) rfl (by decide) rfl (Nat.le_of_ble_eq_true rfl) (Nat.zero_add _) (Nat.zero_add _) ?_
    refine ev_iret (X := M_X11_way) (pc := 17) dX11_way_17 rfl ?_
    refine key (fun z => ?_)
    first
      | (exfalso; omega)
      | (rw [if_pos z.1] at h4; exact absurd h4 (by decide))
  · have hst : isSt t := Decidable.byContradiction fun z => h4 (by rw [if_neg z])
    refine ev_iload_n (X := M_X11_way) (pc := 7) dX11_way_7 rfl ?_
    refine ev_if_ge (X := M_X11_way) (pc := 8) (tgt := 18) dX11_way_8 (by decide) (by omega) (fun h8 => ?_) (fun h8 => ?_)
    · refine ev_aload_n (X := M_X11_way) (pc := 18) dX11_way_18 rfl ?_
      refine ev_getRe (X := M_X11_way) (pc := 19) dX11_way_19 fl_X11_12_11 (lO_100 hL) rfl (lR_100_2 hL) ?_
      refine ev_virtY (X := M_X11_way) (Y := M_X6_explore) (pc := 22) (ci := 6) dX11_way_22 mk_X6_explore rfl kw_655 kw_656 kw_657 (lO_101 hL) (c_explore h hs hn) rfl (by decide) rfl (Nat.le_of_ble_eq_true rfl) (Nat.zero_add _) (Nat.zero_add _) (fun W hW => ?_)
      have hSr := h.fr hW.2.2 hW.2.1
      have hok : isSt t ∧ 0 ≤ i := ⟨hst, by omega⟩
      have h155 : W 155 = V 155 := hW.2.2 155 (by decide) (by decide) (by decide) (by decide) (by decide)
      refine ev_aload_n (X := M_X11_way) (pc := 25) dX11_way_25 rfl ?_
      refine ev_aload_n (X := M_X11_way) (pc := 26) dX11_way_26 rfl ?_
      refine ev_getRe (X := M_X11_way) (pc := 27) dX11_way_27 fl_X11_12_11 (lO_100 hL) rfl (lR_100_2 hL) ?_
      refine ev_iload_n (X := M_X11_way) (pc := 30) dX11_way_30 rfl ?_
      refine ev_iload_n (X := M_X11_way) (pc := 31) dX11_way_31 rfl ?_
      refine ev_virtR (X := M_X11_way) (Y := M_X6_pairOnWay) (pc := 32) (ci := 6) dX11_way_32 mk_X6_pairOnWay rfl kw_687 kw_688 kw_689 (lO_101 hL) (c_pairOnWay hL hSr.2.1 hSr.2.2.1 hI hB hW.1 hst ⟨hok.2, hi.2⟩) rfl (by decide) rfl (Nat.le_of_ble_eq_true rfl) (Nat.zero_add _) (Nat.zero_add _) ?_
      refine ev_virtR (X := M_X11_way) (Y := M_X11_orNone) (pc := 35) (ci := 11) dX11_way_35 mk_X11_orNone rfl kw_678 kw_680 kp_4 (lO_100 hL) (c_orNone hL (by split <;> omega)) rfl (by decide) rfl (Nat.le_of_ble_eq_true rfl) (Nat.zero_add _) (Nat.zero_add _) ?_
      refine ev_iret (X := M_X11_way) (pc := 38) dX11_way_38 rfl ?_
      by_cases z : i < (bF C F s0).1 t
      · refine ⟨by unfold wyR oNr; rw [if_pos hok, if_pos z, if_pos z, if_neg (by omega)], rfl, ?_, ?_, ?_⟩
        · unfold oNV; rw [if_pos z, if_neg (by omega)]; exact hW.2.1
        · unfold wyE oNV; rw [if_pos hok, if_pos z, if_pos z, if_neg (by omega)]; exact h155
        · unfold oNV; rw [if_pos z, if_neg (by omega)]; exact hW.2.2.S
      · refine ⟨by unfold wyR oNr; rw [if_pos hok, if_neg z, if_neg z, if_pos rfl], rfl, ?_, ?_, ?_⟩
        · unfold oNV; rw [if_neg z, if_pos rfl, err_119]; exact hW.2.1
        · unfold wyE oNV; rw [if_pos hok, if_neg z, if_neg z, if_pos rfl, err_155, h155]
        · unfold oNV; rw [if_neg z, if_pos rfl]; exact hW.2.2.S.er 2
    · refine ev_aload_n (X := M_X11_way) (pc := 11) dX11_way_11 rfl ?_
      refine ev_ldc (X := M_X11_way) (pc := 12) (v := -1000000001) dX11_way_12 kw_318 (by decide) ?_
      refine ev_virtR (X := M_X11_way) (Y := M_X11_error) (pc := 14) (ci := 11) dX11_way_14 mk_X11_error rfl kw_319 kw_321 kp_0 (lO_100 hL) (c_error (k := 1) hL (by decide) (by decide)) rfl (by decide) rfl (Nat.le_of_ble_eq_true rfl) (Nat.zero_add _) (Nat.zero_add _) ?_
      refine ev_iret (X := M_X11_way) (pc := 17) dX11_way_17 rfl ?_
      refine key (fun z => ?_)
      first
        | (exfalso; omega)
        | (rw [if_pos z.1] at h4; exact absurd h4 (by decide))
