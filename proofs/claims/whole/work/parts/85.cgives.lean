/-! ===== the class: gives, check, judge ===== -/
theorem c_check {γ : Gh} {K : Sk} {V : Mm} {D : Int → Int} (hS : SrP K V (comF D) (fS D)) (hct : DCnt D) (h25 : 0 ≤ D 25 ∧ D 25 ≤ 20) (hwt : ∀ i, 0 ≤ i → i < D 25 → R32 (D (28 + i))) (c4 : V 102 4 = nowS D) (cw : V 107 1 = D 25) (cv : ∀ i, 0 ≤ i → i < D 25 → V 108 i = D (28 + i)) : Call γ M_X11_check 4 0 0 [vR 100] K V (Rt (some (vI (ckG (comF D) (fS D) (fun i => D (28 + i)) (D 25) (D 25).toNat (nowS D) 0))) K (wr V 107 1 0)) := by
  refine call_of (by decide +kernel) (by intro v hv; simp only [List.mem_cons, List.not_mem_nil, or_false] at hv; rcases hv with rfl <;> exact fun q => by cases q) (Nat.le_of_ble_eq_true rfl) ?_
  refine ev_lsE (ls' := [_, _, _, _]) rfl ?_
  obtain ⟨hL, hV, hV2, hC, hF, hI, -, -⟩ := hS
  have hs0 := nowS_st hct
  have c4' : wr V 107 1 0 102 4 = nowS D := by rw [wr_off (by decide)]; exact c4
  have hV' : SV (wr V 107 1 0) := ⟨by rw [wr_off (by decide)]; exact hV.1, by rw [wr_off (by decide)]; exact hV.2.1, by rw [wr_off (by decide)]; exact hV.2.2⟩
  have hI' : IslD (wr V 107 1 0) (comF D) (fS D) := ⟨by rw [wr_off (by decide)]; exact hI.1, fun p hp => by rw [wr_off (by decide), wr_off (by decide)]; exact hI.2 p hp⟩
  obtain ⟨V1, hV1⟩ : ∃ V1, wr V 107 1 0 = V1 := ⟨_, rfl⟩
  have cv' : ∀ i, 0 ≤ i → i < D 25 → V1 108 i = D (28 + i) := fun i h0 h1 => by rw [← hV1, wr_off (by decide)]; exact cv i h0 h1
  rw [hV1] at c4' hV' hI'
  generalize comF D = C at *
  refine ev_aload_n (X := M_X11_check) (pc := 0) dX11_check_0 rfl ?_
  refine ev_getRe (X := M_X11_check) (pc := 1) dX11_check_1 fl_X11_20_11 (lO_100 hL) rfl (lR_100_0 hL) ?_
  refine ev_getRe (X := M_X11_check) (pc := 4) dX11_check_4 fl_X11_277_2 (lO_102 hL) rfl (lR_102_3 hL) ?_
  refine ev_getIe (X := M_X11_check) (pc := 7) (ki := 1) dX11_check_7 fl_X11_122_5 (lO_107 hL) (by decide) rfl (cw) ?_
  refine ev_istore_nL (X := M_X11_check) (pc := 10) (ls' := [_, _, _, _]) dX11_check_10 (by decide) rfl ?_
  refine ev_aload_n (X := M_X11_check) (pc := 11) dX11_check_11 rfl ?_
  refine ev_getRe (X := M_X11_check) (pc := 12) dX11_check_12 fl_X11_20_11 (lO_100 hL) rfl (lR_100_0 hL) ?_
  refine ev_getRe (X := M_X11_check) (pc := 15) dX11_check_15 fl_X11_277_2 (lO_102 hL) rfl (lR_102_3 hL) ?_
  refine ev_iconst (X := M_X11_check) (pc := 18) dX11_check_18 ?_
  refine ev_putI (X := M_X11_check) (pc := 19) (ki := 1) dX11_check_19 fl_X11_122_5 (by decide) (lO_107 hL) (fun _ h q => by cases h; cases q) (Or.inl rfl) rfl ?_
  rw [hV1]
  refine ev_aload_n (X := M_X11_check) (pc := 22) dX11_check_22 rfl ?_
  refine ev_getRe (X := M_X11_check) (pc := 23) dX11_check_23 fl_X11_20_11 (lO_100 hL) rfl (lR_100_0 hL) ?_
  refine ev_getIe (X := M_X11_check) (pc := 26) (ki := 4) dX11_check_26 fl_X11_61_2 (lO_102 hL) (by decide) rfl (c4') ?_
  refine ev_istore_nL (X := M_X11_check) (pc := 29) (ls' := [_, _, _, _]) dX11_check_29 (by decide) rfl ?_
  refine ev_iconst (X := M_X11_check) (pc := 30) dX11_check_30 ?_
  refine ev_istore_nL (X := M_X11_check) (pc := 31) (ls' := [_, _, _, _]) dX11_check_31 (by decide) rfl ?_
  obtain ⟨G, hG⟩ : ∃ G, G = ckG C (fS D) (fun i => D (28 + i)) (D 25) (D 25).toNat (nowS D) 0 := ⟨_, rfl⟩
  rw [← hG]
  refine ev_weak (ev_while (σ := Int × Int) (fun z => 0 ≤ z.1 ∧ z.1 ≤ D 25 ∧ isSt z.2 ∧ G = ckG C (fS D) (fun i => D (28 + i)) (D 25) (D 25 - z.1).toNat z.2 z.1) (fun z => (D 25 - z.1).toNat) (fun z => [vR 100, vI (D 25), vI z.2, vI z.1]) (fun _ => K) (fun _ => V1) ?_ (0, nowS D) ⟨Int.le_refl 0, h25.1, hs0, by rw [Int.sub_zero]; exact hG⟩) ⟨rfl, rfl, rfl, rfl, trivial⟩
  rintro ⟨i, s⟩ ⟨i0, i1, hs, hg⟩ ih
  dsimp only at i0 i1 hs hg ih ⊢
  have hgs : i < D 25 → G = if 0 ≤ D (28 + i) ∧ lds C (fS D) s (D (28 + i)) then ckG C (fS D) (fun i => D (28 + i)) (D 25) (D 25 - (i + 1)).toNat (D (28 + i)) (i + 1) else 1 + i := fun z => by
    rw [hg, show (D 25 - i).toNat = (D 25 - (i + 1)).toNat + 1 by omega]
    rfl
  have hwi := hwt i i0
  have hcv := cv' i i0
  have hsl := isSt_lt hs
  refine ev_iload_n (X := M_X11_check) (pc := 32) dX11_check_32 rfl ?_
  refine ev_iload_n (X := M_X11_check) (pc := 33) dX11_check_33 rfl ?_
  refine ev_icmp_ge (X := M_X11_check) (pc := 34) (tgt := 83) dX11_check_34 (by decide) (by omega) (by omega) (fun h34 => ?_) (fun h34 => ?_)
  · rw [show (D 25 - i).toNat = 0 by omega] at hg
    have hg2 : G = 0 := hg
    refine ev_iconst (X := M_X11_check) (pc := 83) dX11_check_83 ?_
    refine ev_iret (X := M_X11_check) (pc := 84) dX11_check_84 rfl ?_
    exact ⟨by rw [hg2], rfl, rfl⟩
  · have hgs2 := hgs (by omega)
    have hwi2 := hwi (by omega)
    have hcv2 := hcv (by omega)
    refine ev_aload_n (X := M_X11_check) (pc := 37) dX11_check_37 rfl ?_
    refine ev_getRe (X := M_X11_check) (pc := 38) dX11_check_38 fl_X11_20_11 (lO_100 hL) rfl (lR_100_0 hL) ?_
    refine ev_iload_n (X := M_X11_check) (pc := 41) dX11_check_41 rfl ?_
    refine ev_aload_n (X := M_X11_check) (pc := 42) dX11_check_42 rfl ?_
    refine ev_getRe (X := M_X11_check) (pc := 43) dX11_check_43 fl_X11_20_11 (lO_100 hL) rfl (lR_100_0 hL) ?_
    refine ev_getRe (X := M_X11_check) (pc := 46) dX11_check_46 fl_X11_277_2 (lO_102 hL) rfl (lR_102_3 hL) ?_
    refine ev_getRe (X := M_X11_check) (pc := 49) dX11_check_49 fl_X11_252_5 (lO_107 hL) rfl (lR_107_0 hL) ?_
    refine ev_iload_n (X := M_X11_check) (pc := 52) dX11_check_52 rfl ?_
    refine ev_ialoadE (X := M_X11_check) (pc := 53) dX11_check_53 (lS_108 hL) (by omega) (hcv2) ?_
    refine ev_virtR (X := M_X11_check) (Y := M_X2_leadsTo) (pc := 54) (ci := 2) dX11_check_54 mk_X2_leadsTo rfl kw_974 kw_975 kw_976 (lO_102 hL) (c_leadsTo hL hV' hC hF hI' (by omega) hwi2) rfl (by decide) rfl (Nat.le_of_ble_eq_true rfl) (Nat.zero_add _) (Nat.zero_add _) ?_
    refine ev_if_ne (X := M_X11_check) (pc := 57) (tgt := 64) dX11_check_57 (by decide) (by split <;> decide) (fun h57 => ?_) (fun h57 => ?_)
    · have hld : 0 ≤ D (28 + i) ∧ lds C (fS D) s (D (28 + i)) := Decidable.byContradiction fun z => h57 (by rw [if_neg z])
      rw [if_pos hld] at hgs2
      refine ev_aload_n (X := M_X11_check) (pc := 64) dX11_check_64 rfl ?_
      refine ev_getRe (X := M_X11_check) (pc := 65) dX11_check_65 fl_X11_20_11 (lO_100 hL) rfl (lR_100_0 hL) ?_
      refine ev_getRe (X := M_X11_check) (pc := 68) dX11_check_68 fl_X11_277_2 (lO_102 hL) rfl (lR_102_3 hL) ?_
      refine ev_getRe (X := M_X11_check) (pc := 71) dX11_check_71 fl_X11_252_5 (lO_107 hL) rfl (lR_107_0 hL) ?_
      refine ev_iload_n (X := M_X11_check) (pc := 74) dX11_check_74 rfl ?_
      refine ev_ialoadE (X := M_X11_check) (pc := 75) dX11_check_75 (lS_108 hL) (by omega) (hcv2) ?_
      refine ev_istore_nL (X := M_X11_check) (pc := 76) (ls' := [_, _, _, _]) dX11_check_76 (by decide) rfl ?_
      refine ev_iincL (X := M_X11_check) (pc := 77) (ls' := [_, _, _, _]) dX11_check_77 rfl (by decide) rfl ?_
      refine ev_goto (X := M_X11_check) (pc := 80) (tgt := 32) dX11_check_80 (by decide) ?_
      exact ev_weak (ih (i + 1, D (28 + i)) ⟨by omega, by omega, lds_st hC hs hld, hgs2⟩ (by show (D 25 - (i + 1)).toNat < (D 25 - i).toNat; omega)) ⟨rfl, rfl, rfl, rfl, trivial⟩
    · have hg2 : G = 1 + i := by rw [hgs2, if_neg (fun z => by rw [if_pos z] at h57; exact absurd h57 (by decide))]
      refine ev_iconst (X := M_X11_check) (pc := 60) dX11_check_60 ?_
      refine ev_iload_n (X := M_X11_check) (pc := 61) dX11_check_61 rfl ?_
      refine ev_iadd (X := M_X11_check) (pc := 62) dX11_check_62 ?_
      refine ev_iret (X := M_X11_check) (pc := 63) dX11_check_63 rfl ?_
      exact ⟨by rw [hg2], rfl, rfl⟩
theorem giv_0 {D : Int → Int} {a b c d : Int} (hT : TxOk D 0) (ha : R32 a) (hb : R32 b) (hc : R32 c) (hd : R32 d) : giv D 0 a b c d = giv D 0 a b c 0 := by
  unfold giv
  rw [gvv_0 hT ha hb hc hd (by decide : R32 0)]
theorem c_gives {γ : Gh} {K : Sk} {V : Mm} (hL : Lay K) {D : Int → Int} (hI0 : TI K V 104 D 0) (hI1 : TI K V 104 D 1) (hT0 : TxOk D 0) (hT1 : TxOk D 1) {u a b c d : Int} (hu : R32 u) (ha : R32 a) (hb : R32 b) (hc : R32 c) (hd : R32 d) : Call γ M_X11_gives 3 0 0 [vR 100, vI u, vI a, vI b, vI c, vI d] K V (Qx (some (vI (if u = 0 ∨ u = 1 then giv D u a b c d else -1000000001))) K (fun W => if u = 0 ∨ u = 1 then fT K 104 u V W else W = err V 1)) := by
  refine call_of (by decide +kernel) (by intro v hv; simp only [List.mem_cons, List.not_mem_nil, or_false] at hv; rcases hv with rfl | rfl | rfl | rfl | rfl | rfl <;> exact fun q => by cases q) (Nat.le_of_ble_eq_true rfl) ?_
  refine ev_lsE (ls' := [_, _, _, _, _, _]) rfl ?_
  refine ev_iload_n (X := M_X11_gives) (pc := 0) dX11_gives_0 rfl ?_
  refine ev_staticR (X := M_X11_gives) (Y := M_X11_isUse) (pc := 1) dX11_gives_1 mk_X11_isUse kw_457 kw_458 (c_isUse hu) rfl (by decide) rfl (Nat.le_of_ble_eq_true rfl) (Nat.zero_add _) (Nat.zero_add _) ?_
  refine ev_if_ne (X := M_X11_gives) (pc := 4) (tgt := 14) dX11_gives_4 (by decide) (by split <;> decide) (fun h4 => ?_) (fun h4 => ?_)
  · have hu2 : 0 ≤ u ∧ u < 2 := Decidable.byContradiction fun z => h4 (by rw [if_neg z])
    have hye : u = 0 ∨ u = 1 := by omega
    refine ev_iload_n (X := M_X11_gives) (pc := 14) dX11_gives_14 rfl ?_
    refine ev_if_ne (X := M_X11_gives) (pc := 15) (tgt := 32) dX11_gives_15 (by decide) (by omega) (fun h15 => ?_) (fun h15 => ?_)
    · have hu1 : u = 1 := by omega
      refine ev_aload_n (X := M_X11_gives) (pc := 32) dX11_gives_32 rfl ?_
      refine ev_getRe (X := M_X11_gives) (pc := 33) dX11_gives_33 fl_X11_20_11 (lO_100 hL) rfl (lR_100_0 hL) ?_
      refine ev_iload_n (X := M_X11_gives) (pc := 36) dX11_gives_36 rfl ?_
      refine ev_iload_n (X := M_X11_gives) (pc := 37) dX11_gives_37 rfl ?_
      refine ev_iload (X := M_X11_gives) (pc := 38) dX11_gives_38 rfl ?_
      refine ev_iload (X := M_X11_gives) (pc := 40) dX11_gives_40 rfl ?_
      refine ev_virtX (X := M_X11_gives) (Y := M_X2_priceGiven) (pc := 42) (ci := 2) dX11_gives_42 mk_X2_priceGiven rfl kw_615 kw_616 kw_617 (lO_102 hL) (c_priceGiven hL hI1 hT1 ha hb hc hd) rfl (by decide) rfl (Nat.le_of_ble_eq_true rfl) (Nat.zero_add _) (Nat.zero_add _) (fun W hW => ?_)
      refine ev_iret (X := M_X11_gives) (pc := 45) dX11_gives_45 rfl ?_
      rw [if_pos hye]
      first
        | (subst hu0
           exact ⟨by rw [giv_0 hT0 ha hb hc hd], rfl, (if_pos hye).mpr hW⟩)
        | (subst hu1
           exact ⟨rfl, rfl, (if_pos hye).mpr hW⟩)
    · have hu0 : u = 0 := by omega
      refine ev_aload_n (X := M_X11_gives) (pc := 18) dX11_gives_18 rfl ?_
      refine ev_getRe (X := M_X11_gives) (pc := 19) dX11_gives_19 fl_X11_20_11 (lO_100 hL) rfl (lR_100_0 hL) ?_
      refine ev_iload_n (X := M_X11_gives) (pc := 22) dX11_gives_22 rfl ?_
      refine ev_iload_n (X := M_X11_gives) (pc := 23) dX11_gives_23 rfl ?_
      refine ev_iload (X := M_X11_gives) (pc := 24) dX11_gives_24 rfl ?_
      refine ev_virtX (X := M_X11_gives) (Y := M_X2_sortGiven) (pc := 26) (ci := 2) dX11_gives_26 mk_X2_sortGiven rfl kw_614 kw_268 kw_269 (lO_102 hL) (c_sortGiven hL hI0 hT0 ha hb hc) rfl (by decide) rfl (Nat.le_of_ble_eq_true rfl) (Nat.zero_add _) (Nat.zero_add _) (fun W hW => ?_)
      refine ev_goto (X := M_X11_gives) (pc := 29) (tgt := 45) dX11_gives_29 (by decide) ?_
      refine ev_iret (X := M_X11_gives) (pc := 45) dX11_gives_45 rfl ?_
      rw [if_pos hye]
      first
        | (subst hu0
           exact ⟨by rw [giv_0 hT0 ha hb hc hd], rfl, (if_pos hye).mpr hW⟩)
        | (subst hu1
           exact ⟨rfl, rfl, (if_pos hye).mpr hW⟩)
  · have hno : ¬ (u = 0 ∨ u = 1) := fun z => by rw [if_pos (by omega)] at h4; exact absurd h4 (by decide)
    refine ev_aload_n (X := M_X11_gives) (pc := 7) dX11_gives_7 rfl ?_
    refine ev_ldc (X := M_X11_gives) (pc := 8) (v := -1000000001) dX11_gives_8 kw_318 (by decide) ?_
    refine ev_virtR (X := M_X11_gives) (Y := M_X11_error) (pc := 10) (ci := 11) dX11_gives_10 mk_X11_error rfl kw_319 kw_321 kp_0 (lO_100 hL) (c_error hL (k := 1) (by decide) rfl) rfl (by decide) rfl (Nat.le_of_ble_eq_true rfl) (Nat.zero_add _) (Nat.zero_add _) ?_
    refine ev_iret (X := M_X11_gives) (pc := 13) dX11_gives_13 rfl ?_
    rw [if_neg hno]
    exact ⟨rfl, rfl, (if_neg hno).mpr rfl⟩
