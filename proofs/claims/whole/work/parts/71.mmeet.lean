def jdG (C : Int → Int) (F : Int) (f : Int → Int) : Nat → Int → Int → Int
  | 0, _, i => i
  | m + 1, s, i => if (0 ≤ f i ∧ f i < 6) ∧ nx C F s (f i) ≠ -1 then jdG C F f m (nx C F s (f i)) (i + 1) else i
def jdK (b s : Int) : Int := if 0 ≤ s ∧ s < 4 then (if b = 0 then 2 else 0) else 1
theorem m_judge {γ : Gh} {K : Sk} {V : Mm} {D : Int → Int} (h : MQy K V D) {s : Int} (hsr : R32 s) (hb : 0 ≤ s → s < 4 → (0 ≤ V 174 s ∧ V 174 s ≤ 32) ∧ (0 ≤ V 175 s ∧ V 175 s ≤ 40) ∧ ∀ i, 0 ≤ i → i < V 175 s → R32 (V 176 (40 * s + i))) : Call γ M_X12_judge 42 0 0 [vR 156, vI s] K V (Qx (some (vI (aR (jdK (V 174 s) s) (jdG (comF D) (fS D) (fun i => V 176 (40 * s + i)) (V 175 s).toNat (nowS D) 0)))) K (MW V D (jdK (V 174 s) s))) := by
  refine call_of (by decide +kernel) (by intro v hv; simp only [List.mem_cons, List.not_mem_nil, or_false] at hv; rcases hv with rfl | rfl <;> exact fun q => by cases q) (Nat.le_of_ble_eq_true rfl) ?_
  refine ev_lsE (ls' := [_, _, _, _]) rfl ?_
  obtain ⟨hL, hD, hct, hK, hF, hZ⟩ := h
  have hC := comF_wf hK
  have hs0 := nowS_st hct
  have hF6 := fS_r hF
  refine ev_iload_n (X := M_X12_judge) (pc := 0) dX12_judge_0 rfl ?_
  refine ev_staticR (X := M_X12_judge) (Y := M_X12_isSheet) (pc := 1) dX12_judge_1 mk_X12_isSheet kw_1400 kw_1401 (m_isSheet hsr) rfl (by decide) rfl (Nat.le_of_ble_eq_true rfl) (Nat.zero_add _) (Nat.zero_add _) ?_
  refine ev_if_ne (X := M_X12_judge) (pc := 4) (tgt := 13) dX12_judge_4 (by decide) (by split <;> decide) (fun h4 => ?_) (fun h4 => ?_)
  · have hs4 : 0 ≤ s ∧ s ≤ 3 := Decidable.byContradiction fun z => h4 (by rw [if_neg z])
    obtain ⟨b1, b2, b3⟩ := hb hs4.1 (by omega)
    have hk0 : jdK (V 174 s) s = if V 174 s = 0 then 2 else 0 := by unfold jdK; rw [if_pos (by omega)]
    refine ev_aload_n (X := M_X12_judge) (pc := 13) dX12_judge_13 rfl ?_
    refine ev_getRe (X := M_X12_judge) (pc := 14) dX12_judge_14 fl_X12_63_12 (lO_156 hL) rfl (lR_156_26 hL) ?_
    refine ev_iload_n (X := M_X12_judge) (pc := 17) dX12_judge_17 rfl ?_
    refine ev_iaload (X := M_X12_judge) (pc := 18) dX12_judge_18 (lS_174 hL) (by omega) ?_
    refine ev_if_ne (X := M_X12_judge) (pc := 19) (tgt := 28) dX12_judge_19 (by decide) (by omega) (fun h19 => ?_) (fun h19 => ?_)
    · have hk : jdK (V 174 s) s = 0 := by rw [hk0, if_neg h19]
      rw [hk]
      refine ev_aload_n (X := M_X12_judge) (pc := 28) dX12_judge_28 rfl ?_
      refine ev_virtY (X := M_X12_judge) (Y := M_X12_findAll) (pc := 29) (ci := 12) dX12_judge_29 mk_X12_findAll rfl kw_1197 kw_1199 kp_19 (lO_156 hL) (m_findAll hL hD hK hZ) rfl (by decide) rfl (Nat.le_of_ble_eq_true rfl) (Nat.zero_add _) (Nat.zero_add _) (fun W1 hW1 => ?_)
      have hD1 : W1 157 = D := by rw [hW1.1.row (by decide) (by decide) (by decide)]; exact hD
      have hC1 := hW1.2
      have h175 : W1 175 = V 175 := hW1.1.row (by decide) (by decide) (by decide)
      have h176 : W1 176 = V 176 := hW1.1.row (by decide) (by decide) (by decide)
      have hMW : MW V D 0 W1 := (MS.com hW1.1 hW1.2).W hD
      clear hW1
      generalize comF D = C at *
      refine ev_aload_n (X := M_X12_judge) (pc := 32) dX12_judge_32 rfl ?_
      refine ev_virtR (X := M_X12_judge) (Y := M_X12_now) (pc := 33) (ci := 12) dX12_judge_33 mk_X12_now rfl kw_1168 kw_1170 kp_18 (lO_156 hL) (m_nowE hL hD1) rfl (by decide) rfl (Nat.le_of_ble_eq_true rfl) (Nat.zero_add _) (Nat.zero_add _) ?_
      refine ev_istore_nL (X := M_X12_judge) (pc := 36) (ls' := [_, _, _, _]) dX12_judge_36 (by decide) rfl ?_
      refine ev_iconst (X := M_X12_judge) (pc := 37) dX12_judge_37 ?_
      refine ev_istore_nL (X := M_X12_judge) (pc := 38) (ls' := [_, _, _, _]) dX12_judge_38 (by decide) rfl ?_
      obtain ⟨G, hG⟩ : ∃ G, G = jdG C (fS D) (fun i => V 176 (40 * s + i)) (V 175 s).toNat (nowS D) 0 := ⟨_, rfl⟩
      show Ev _ _ _ _ _ _ _ _ _ _ (Qx (some (vI (jdG C (fS D) (fun i => V 176 (40 * s + i)) (V 175 s).toNat (nowS D) 0))) _ _)
      rw [← hG]
      refine ev_weak (ev_while (σ := Int × Int) (fun z => 0 ≤ z.1 ∧ z.1 ≤ V 175 s ∧ isSt z.2 ∧ G = jdG C (fS D) (fun i => V 176 (40 * s + i)) (V 175 s - z.1).toNat z.2 z.1) (fun z => (V 175 s - z.1).toNat) (fun z => [vR 156, vI s, vI z.2, vI z.1]) (fun _ => K) (fun _ => W1) ?_ (0, nowS D) ⟨Int.le_refl 0, b2.1, hs0, by rw [Int.sub_zero]; exact hG⟩) ⟨rfl, rfl, rfl, rfl, trivial⟩
      rintro ⟨i, t⟩ ⟨i0, i1, hst, hg⟩ ih
      dsimp only at i0 i1 hst hg ih ⊢
      have hgs : i < V 175 s → G = if (0 ≤ V 176 (40 * s + i) ∧ V 176 (40 * s + i) < 6) ∧ nx C (fS D) t (V 176 (40 * s + i)) ≠ -1 then jdG C (fS D) (fun i => V 176 (40 * s + i)) (V 175 s - (i + 1)).toNat (nx C (fS D) t (V 176 (40 * s + i))) (i + 1) else i := fun z => by
        rw [hg, show (V 175 s - i).toNat = (V 175 s - (i + 1)).toNat + 1 by omega]
        rfl
      have hr3 := b3 i i0
      have hstl := isSt_lt hst
      refine ev_iload_n (X := M_X12_judge) (pc := 39) dX12_judge_39 rfl ?_
      refine ev_aload_n (X := M_X12_judge) (pc := 40) dX12_judge_40 rfl ?_
      refine ev_getRe (X := M_X12_judge) (pc := 41) dX12_judge_41 fl_X12_66_12 (lO_156 hL) rfl (lR_156_27 hL) ?_
      refine ev_iload_n (X := M_X12_judge) (pc := 44) dX12_judge_44 rfl ?_
      refine ev_ialoadE (X := M_X12_judge) (pc := 45) dX12_judge_45 (lS_175 hL) (by omega) (congrFun h175 _) ?_
      refine ev_icmp_ge (X := M_X12_judge) (pc := 46) (tgt := 112) dX12_judge_46 (by decide) (by omega) (by omega) (fun h46 => ?_) (fun h46 => ?_)
      · rw [show (V 175 s - i).toNat = 0 by omega] at hg
        have hg2 : G = i := hg
        refine ev_iload_n (X := M_X12_judge) (pc := 112) dX12_judge_112 rfl ?_
        refine ev_iret (X := M_X12_judge) (pc := 113) dX12_judge_113 rfl ?_
        exact ⟨by rw [hg2], rfl, hMW⟩
      · have hgs2 := hgs (by omega)
        have hr4 := hr3 (by omega)
        obtain ⟨x, hx⟩ : ∃ x, V 176 (40 * s + i) = x := ⟨_, rfl⟩
        rw [hx] at hgs2 hr4
        refine ev_aload_n (X := M_X12_judge) (pc := 49) dX12_judge_49 rfl ?_
        refine ev_getRe (X := M_X12_judge) (pc := 50) dX12_judge_50 fl_X12_69_12 (lO_156 hL) rfl (lR_156_28 hL) ?_
        refine ev_bipush (X := M_X12_judge) (pc := 53) dX12_judge_53 (by decide) ?_
        refine ev_iload_n (X := M_X12_judge) (pc := 55) dX12_judge_55 rfl ?_
        refine ev_imul (X := M_X12_judge) (pc := 56) dX12_judge_56 ?_
        refine ev_iload_n (X := M_X12_judge) (pc := 57) dX12_judge_57 rfl ?_
        refine ev_iadd (X := M_X12_judge) (pc := 58) dX12_judge_58 ?_
        refine ev_ialoadE (X := M_X12_judge) (pc := 59) dX12_judge_59 (lS_176 hL) (by omega) ((congrFun h176 _).trans hx) ?_
        refine ev_staticR (X := M_X12_judge) (Y := M_X12_isPair) (pc := 60) dX12_judge_60 mk_X12_isPair kw_1183 kw_1184 (m_isPair hr4) rfl (by decide) rfl (Nat.le_of_ble_eq_true rfl) (Nat.zero_add _) (Nat.zero_add _) ?_
        refine ev_if_eq (X := M_X12_judge) (pc := 63) (tgt := 112) dX12_judge_63 (by decide) (by split <;> decide) (fun h63 => ?_) (fun h63 => ?_)
        · have hg2 : G = i := by rw [hgs2, if_neg (fun z => by rw [if_pos (by omega)] at h63; exact absurd h63 (by decide))]
          refine ev_iload_n (X := M_X12_judge) (pc := 112) dX12_judge_112 rfl ?_
          refine ev_iret (X := M_X12_judge) (pc := 113) dX12_judge_113 rfl ?_
          exact ⟨by rw [hg2], rfl, hMW⟩
        · have hx5 : 0 ≤ x ∧ x ≤ 5 := Decidable.byContradiction fun z => h63 (by rw [if_neg z])
          have hx6 : 0 ≤ x ∧ x < 6 := by omega
          have hnn := nx_ne (F := fS D) hC hx6 hst
          refine ev_aload_n (X := M_X12_judge) (pc := 66) dX12_judge_66 rfl ?_
          refine ev_iload_n (X := M_X12_judge) (pc := 67) dX12_judge_67 rfl ?_
          refine ev_aload_n (X := M_X12_judge) (pc := 68) dX12_judge_68 rfl ?_
          refine ev_getRe (X := M_X12_judge) (pc := 69) dX12_judge_69 fl_X12_69_12 (lO_156 hL) rfl (lR_156_28 hL) ?_
          refine ev_bipush (X := M_X12_judge) (pc := 72) dX12_judge_72 (by decide) ?_
          refine ev_iload_n (X := M_X12_judge) (pc := 74) dX12_judge_74 rfl ?_
          refine ev_imul (X := M_X12_judge) (pc := 75) dX12_judge_75 ?_
          refine ev_iload_n (X := M_X12_judge) (pc := 76) dX12_judge_76 rfl ?_
          refine ev_iadd (X := M_X12_judge) (pc := 77) dX12_judge_77 ?_
          refine ev_ialoadE (X := M_X12_judge) (pc := 78) dX12_judge_78 (lS_176 hL) (by omega) ((congrFun h176 _).trans hx) ?_
          refine ev_aload_n (X := M_X12_judge) (pc := 79) dX12_judge_79 rfl ?_
          refine ev_virtR (X := M_X12_judge) (Y := M_X12_fencedNow) (pc := 80) (ci := 12) dX12_judge_80 mk_X12_fencedNow rfl kw_1215 kw_1217 kp_22 (lO_156 hL) (m_fencedE hL hD1 hF) rfl (by decide) rfl (Nat.le_of_ble_eq_true rfl) (Nat.zero_add _) (Nat.zero_add _) ?_
          refine ev_virtR (X := M_X12_judge) (Y := M_X12_mayMeet) (pc := 83) (ci := 12) dX12_judge_83 mk_X12_mayMeet rfl kw_1219 kw_1221 kp_23 (lO_156 hL) (m_mayMeet hL hC hC1 hx6 hstl hF6) rfl (by decide) rfl (Nat.le_of_ble_eq_true rfl) (Nat.zero_add _) (Nat.zero_add _) ?_
          refine ev_if_eq (X := M_X12_judge) (pc := 86) (tgt := 112) dX12_judge_86 (by decide) (by split <;> decide) (fun h86 => ?_) (fun h86 => ?_)
          · have hg2 : G = i := by rw [hgs2, if_neg (fun z => by rw [if_pos (hnn.mp z.2)] at h86; exact absurd h86 (by decide))]
            refine ev_iload_n (X := M_X12_judge) (pc := 112) dX12_judge_112 rfl ?_
            refine ev_iret (X := M_X12_judge) (pc := 113) dX12_judge_113 rfl ?_
            exact ⟨by rw [hg2], rfl, hMW⟩
          · have hm : may C (fS D) t x := Decidable.byContradiction fun z => h86 (by rw [if_neg z])
            have hnx : nx C (fS D) t x = aft C t x := by unfold nx; rw [if_pos hm]
            have hn1 := hnn.mpr hm
            rw [if_pos ⟨hx6, hn1⟩] at hgs2
            refine ev_aload_n (X := M_X12_judge) (pc := 89) dX12_judge_89 rfl ?_
            refine ev_iload_n (X := M_X12_judge) (pc := 90) dX12_judge_90 rfl ?_
            refine ev_aload_n (X := M_X12_judge) (pc := 91) dX12_judge_91 rfl ?_
            refine ev_getRe (X := M_X12_judge) (pc := 92) dX12_judge_92 fl_X12_69_12 (lO_156 hL) rfl (lR_156_28 hL) ?_
            refine ev_bipush (X := M_X12_judge) (pc := 95) dX12_judge_95 (by decide) ?_
            refine ev_iload_n (X := M_X12_judge) (pc := 97) dX12_judge_97 rfl ?_
            refine ev_imul (X := M_X12_judge) (pc := 98) dX12_judge_98 ?_
            refine ev_iload_n (X := M_X12_judge) (pc := 99) dX12_judge_99 rfl ?_
            refine ev_iadd (X := M_X12_judge) (pc := 100) dX12_judge_100 ?_
            refine ev_ialoadE (X := M_X12_judge) (pc := 101) dX12_judge_101 (lS_176 hL) (by omega) ((congrFun h176 _).trans hx) ?_
            refine ev_virtR (X := M_X12_judge) (Y := M_X12_after) (pc := 102) (ci := 12) dX12_judge_102 mk_X12_after rfl kw_1248 kw_1250 kp_26 (lO_156 hL) (m_after hL hC hC1 hx6) rfl (by decide) rfl (Nat.le_of_ble_eq_true rfl) (Nat.zero_add _) (Nat.zero_add _) ?_
            refine ev_istore_nL (X := M_X12_judge) (pc := 105) (ls' := [_, _, _, _]) dX12_judge_105 (by decide) rfl ?_
            refine ev_iincL (X := M_X12_judge) (pc := 106) (ls' := [_, _, _, _]) dX12_judge_106 rfl (by decide) rfl ?_
            refine ev_goto (X := M_X12_judge) (pc := 109) (tgt := 39) dX12_judge_109 (by decide) ?_
            refine ev_weak (ih (i + 1, nx C (fS D) t x) ⟨by omega, by omega, nx_st hC hx6 hst hn1, hgs2⟩ (by show (V 175 s - (i + 1)).toNat < (V 175 s - i).toNat; omega)) ⟨rfl, rfl, by rw [hnx], rfl, trivial⟩
    · have hk : jdK (V 174 s) s = 2 := by rw [hk0, if_pos h19]
      refine ev_aload_n (X := M_X12_judge) (pc := 22) dX12_judge_22 rfl ?_
      refine ev_iconst (X := M_X12_judge) (pc := 23) dX12_judge_23 ?_
      refine ev_virtR (X := M_X12_judge) (Y := M_X12_finds) (pc := 24) (ci := 12) dX12_judge_24 mk_X12_finds rfl kw_1092 kw_1094 kp_5 (lO_156 hL) (m_finds hL (by decide)) rfl (by decide) rfl (Nat.le_of_ble_eq_true rfl) (Nat.zero_add _) (Nat.zero_add _) ?_
      refine ev_iret (X := M_X12_judge) (pc := 27) dX12_judge_27 rfl ?_
      rw [hk]
      exact ⟨rfl, rfl, MW_e hZ hD (by decide)⟩
  · have hk : jdK (V 174 s) s = 1 := by unfold jdK; rw [if_neg (fun z => by rw [if_pos (by omega)] at h4; exact absurd h4 (by decide))]
    refine ev_aload_n (X := M_X12_judge) (pc := 7) dX12_judge_7 rfl ?_
    refine ev_iconst (X := M_X12_judge) (pc := 8) dX12_judge_8 ?_
    refine ev_virtR (X := M_X12_judge) (Y := M_X12_finds) (pc := 9) (ci := 12) dX12_judge_9 mk_X12_finds rfl kw_1092 kw_1094 kp_5 (lO_156 hL) (m_finds hL (by decide)) rfl (by decide) rfl (Nat.le_of_ble_eq_true rfl) (Nat.zero_add _) (Nat.zero_add _) ?_
    refine ev_iret (X := M_X12_judge) (pc := 12) dX12_judge_12 rfl ?_
    rw [hk]
    exact ⟨rfl, rfl, MW_e hZ hD (by decide)⟩
def bcD (D : Int → Int) (t : Int) : Int → Int := up (up (up D 0 (cnt t 0)) 1 (cnt t 1)) 2 (cnt t 2)
theorem m_becomes {γ : Gh} {K : Sk} {V : Mm} (hL : Lay K) {t : Int} (ht : 0 ≤ t ∧ t < 2197) : Call γ M_X12_becomes 1 0 0 [vR 156, vI t] K V (Rt none K (setr V 157 (bcD (V 157) t))) := by
  refine call_of (by decide +kernel) (by intro v hv; simp only [List.mem_cons, List.not_mem_nil, or_false] at hv; rcases hv with rfl | rfl <;> exact fun q => by cases q) (Nat.le_of_ble_eq_true rfl) ?_
  refine ev_lsE (ls' := [_, _, _]) rfl ?_
  obtain ⟨Db, hDb⟩ : ∃ Db : Int → Int → Int, Db = fun i => fun j => if 0 ≤ j ∧ j < i then cnt t j else V 157 j := ⟨_, rfl⟩
  refine ev_iconst (X := M_X12_becomes) (pc := 0) dX12_becomes_0 ?_
  refine ev_istore_nL (X := M_X12_becomes) (pc := 1) (ls' := [_, _, _]) dX12_becomes_1 (by decide) rfl ?_
  refine ev_weak (ev_while (σ := Int × Mm) (fun z => 0 ≤ z.1 ∧ z.1 ≤ 3 ∧ z.2 = setr V 157 (Db z.1)) (fun z => (3 - z.1).toNat) (fun z => [vR 156, vI t, vI z.1]) (fun _ => K) (fun z => z.2) ?_ (0, V) ⟨Int.le_refl 0, by show (0 : Int) ≤ 3; decide, ?_⟩) ⟨rfl, rfl, rfl, trivial⟩
  rotate_left
  · show V = setr V 157 (Db 0)
    have : Db 0 = V 157 := by
      rw [hDb]
      funext j
      show (if 0 ≤ j ∧ j < 0 then cnt t j else V 157 j) = V 157 j
      rw [if_neg (by omega)]
    rw [this, setr_id]
  rintro ⟨i, W⟩ ⟨i0, i1, hW⟩ ih
  dsimp only at i0 i1 hW ih ⊢
  refine ev_iload_n (X := M_X12_becomes) (pc := 2) dX12_becomes_2 rfl ?_
  refine ev_iconst (X := M_X12_becomes) (pc := 3) dX12_becomes_3 ?_
  refine ev_icmp_ge (X := M_X12_becomes) (pc := 4) (tgt := 26) dX12_becomes_4 (by decide) (by omega) (by omega) (fun h4 => ?_) (fun h4 => ?_)
  · refine ev_vret (X := M_X12_becomes) (pc := 26) dX12_becomes_26 rfl ?_
    refine ⟨rfl, rfl, ?_⟩
    rw [hW, show i = 3 by omega]
    have : Db 3 = bcD (V 157) t := by
      rw [hDb]
      funext j
      show (if 0 ≤ j ∧ j < 3 then cnt t j else V 157 j) = bcD (V 157) t j
      unfold bcD
      by_cases z2 : j = 2
      · subst z2; rw [up_self, if_pos (by decide)]
      rw [up_ne z2]
      by_cases z1 : j = 1
      · subst z1; rw [up_self, if_pos (by decide)]
      rw [up_ne z1]
      by_cases z0 : j = 0
      · subst z0; rw [up_self, if_pos (by decide)]
      rw [up_ne z0, if_neg (by omega)]
    rw [this]
  · refine ev_aload_n (X := M_X12_becomes) (pc := 7) dX12_becomes_7 rfl ?_
    refine ev_getRe (X := M_X12_becomes) (pc := 8) dX12_becomes_8 fl_X12_7_12 (lO_156 hL) rfl (lR_156_0 hL) ?_
    refine ev_iconst (X := M_X12_becomes) (pc := 11) dX12_becomes_11 ?_
    refine ev_iload_n (X := M_X12_becomes) (pc := 12) dX12_becomes_12 rfl ?_
    refine ev_iadd (X := M_X12_becomes) (pc := 13) dX12_becomes_13 ?_
    refine ev_iload_n (X := M_X12_becomes) (pc := 14) dX12_becomes_14 rfl ?_
    refine ev_iload_n (X := M_X12_becomes) (pc := 15) dX12_becomes_15 rfl ?_
    refine ev_staticR (X := M_X12_becomes) (Y := M_X12_countIn) (pc := 16) dX12_becomes_16 mk_X12_countIn kw_1223 kw_1224 (m_countIn ht (by omega)) rfl (by decide) rfl (Nat.le_of_ble_eq_true rfl) (Nat.zero_add _) (Nat.zero_add _) ?_
    refine ev_iastore (X := M_X12_becomes) (pc := 19) dX12_becomes_19 (by decide) (lS_157 hL) (by omega) ?_
    refine ev_iincL (X := M_X12_becomes) (pc := 20) (ls' := [_, _, _]) dX12_becomes_20 rfl (by decide) rfl ?_
    refine ev_goto (X := M_X12_becomes) (pc := 23) (tgt := 2) dX12_becomes_23 (by decide) ?_
    refine ev_weak (ih (i + 1, wr W 157 (0 + i) (cnt t i)) ⟨by omega, by omega, ?_⟩ (by show (3 - (i + 1)).toNat < (3 - i).toNat; omega)) ⟨rfl, rfl, rfl, trivial⟩
    show wr W 157 (0 + i) (cnt t i) = setr V 157 (Db (i + 1))
    rw [hW, wr_setr, Int.zero_add]
    have : up (Db i) i (cnt t i) = Db (i + 1) := by
      rw [hDb]
      funext j
      show up (fun j => if 0 ≤ j ∧ j < i then cnt t j else V 157 j) i (cnt t i) j = if 0 ≤ j ∧ j < i + 1 then cnt t j else V 157 j
      by_cases z : j = i
      · rw [z, up_self, if_pos (by omega)]
      · rw [up_ne z]
        by_cases y : 0 ≤ j ∧ j < i
        · rw [if_pos y, if_pos (by omega)]
        · rw [if_neg y, if_neg (by omega)]
    rw [this]
def spD (D : Int → Int) (p : Int) : Int := heldF (D 22 + giv D 1 (lesF p) (greF p) (D (3 + p)) (D 21)) (-99999) 99999
def meD (D : Int → Int) (p : Int) : Int → Int := bcD (up (up D 22 (spD D p)) 21 (D 21 + 1)) (aft (comF D) (nowS D) p)
theorem giv1_r {D : Int → Int} {a b c d : Int} : -99 ≤ giv D 1 a b c d ∧ giv D 1 a b c d ≤ 99 := by
  unfold giv
  rw [if_neg (by decide)]
  exact heldF_r (by decide)
/-- behind a meeting of the reference -/
def mM (V W : Mm) : Prop := ∀ c i, ¬ (c = 156 ∧ 4 ≤ i ∧ i ≤ 9) → c ≠ 157 → c ≠ 160 → W c i = V c i
theorem mM.row {V W : Mm} (h : mM V W) {c : Nat} (hc : c ≠ 156) (h2 : c ≠ 157) (h3 : c ≠ 160) : W c = V c := funext fun i => h c i (fun q => hc q.1) h2 h3
theorem m_meets {γ : Gh} {K : Sk} {V : Mm} (hL : Lay K) {D : Int → Int} (hD : V 157 = D) (hct : DCnt D) (hK : Kds D) (hT : TxOk D 1) (hC1 : V 161 = comF D) (h21 : 0 ≤ D 21 ∧ D 21 < 9999) (h22 : -99999 ≤ D 22 ∧ D 22 ≤ 99999) {F p : Int} (hp : 0 ≤ p ∧ p < 6) (hm : may (comF D) F (nowS D) p) : Call γ M_X12_meets 40 0 0 [vR 156, vI p] K V (Qx none K (fun W => mM V W ∧ W 157 = meD D p)) := by
  refine call_of (by decide +kernel) (by intro v hv; simp only [List.mem_cons, List.not_mem_nil, or_false] at hv; rcases hv with rfl | rfl <;> exact fun q => by cases q) (Nat.le_of_ble_eq_true rfl) ?_
  refine ev_lsE (ls' := [_, _, _]) rfl ?_
  have hC := comF_wf hK
  have hs0 := nowS_st hct
  have haf := isSt_lt (aft_st hC hp hs0 hm)
  have l1 := les_r p hp
  have l2 := gre_r p hp
  have hk3 := (hK.1 p hp.1 hp.2).1
  have hgr := giv1_r (D := D) (a := lesF p) (b := greF p) (c := D (3 + p)) (d := D 21)
  have hsp : heldF (D 22 + giv D 1 (lesF p) (greF p) (D (3 + p)) (D 21)) (-99999) 99999 = spD D p := rfl
  refine ev_aload_n (X := M_X12_meets) (pc := 0) dX12_meets_0 rfl ?_
  refine ev_iconst (X := M_X12_meets) (pc := 1) dX12_meets_1 ?_
  refine ev_iload_n (X := M_X12_meets) (pc := 2) dX12_meets_2 rfl ?_
  refine ev_staticR (X := M_X12_meets) (Y := M_X12_first) (pc := 3) dX12_meets_3 mk_X12_first kw_1205 kw_1206 (m_first (by omega)) rfl (by decide) rfl (Nat.le_of_ble_eq_true rfl) (Nat.zero_add _) (Nat.zero_add _) ?_
  refine ev_iload_n (X := M_X12_meets) (pc := 6) dX12_meets_6 rfl ?_
  refine ev_staticR (X := M_X12_meets) (Y := M_X12_second) (pc := 7) dX12_meets_7 mk_X12_second kw_1208 kw_1209 (m_second (by omega)) rfl (by decide) rfl (Nat.le_of_ble_eq_true rfl) (Nat.zero_add _) (Nat.zero_add _) ?_
  refine ev_aload_n (X := M_X12_meets) (pc := 10) dX12_meets_10 rfl ?_
  refine ev_getRe (X := M_X12_meets) (pc := 11) dX12_meets_11 fl_X12_7_12 (lO_156 hL) rfl (lR_156_0 hL) ?_
  refine ev_iconst (X := M_X12_meets) (pc := 14) dX12_meets_14 ?_
  refine ev_iload_n (X := M_X12_meets) (pc := 15) dX12_meets_15 rfl ?_
  refine ev_iadd (X := M_X12_meets) (pc := 16) dX12_meets_16 ?_
  refine ev_ialoadE (X := M_X12_meets) (pc := 17) dX12_meets_17 (lS_157 hL) (by omega) (congrFun hD _) ?_
  refine ev_aload_n (X := M_X12_meets) (pc := 18) dX12_meets_18 rfl ?_
  refine ev_getRe (X := M_X12_meets) (pc := 19) dX12_meets_19 fl_X12_7_12 (lO_156 hL) rfl (lR_156_0 hL) ?_
  refine ev_bipush (X := M_X12_meets) (pc := 22) dX12_meets_22 (by decide) ?_
  refine ev_ialoadE (X := M_X12_meets) (pc := 24) dX12_meets_24 (lS_157 hL) (by omega) (congrFun hD _) ?_
  refine ev_virtX (X := M_X12_meets) (Y := M_X12_given) (pc := 25) (ci := 12) dX12_meets_25 mk_X12_given rfl kw_1152 kw_1154 kp_17 (lO_156 hL) (m_given hL hD (Or.inr rfl) hT (by omega) (by omega) (by omega) (by omega)) rfl (by decide) rfl (Nat.le_of_ble_eq_true rfl) (Nat.zero_add _) (Nat.zero_add _) (fun W hW => ?_)
  have hD1 : W 157 = D := by rw [hW.row (by decide) (by decide)]; exact hD
  have hC2 : W 161 = comF D := by rw [hW.row (by decide) (by decide)]; exact hC1
  refine ev_istore_nL (X := M_X12_meets) (pc := 28) (ls' := [_, _, _]) dX12_meets_28 (by decide) rfl ?_
  refine ev_aload_n (X := M_X12_meets) (pc := 29) dX12_meets_29 rfl ?_
  refine ev_getRe (X := M_X12_meets) (pc := 30) dX12_meets_30 fl_X12_7_12 (lO_156 hL) rfl (lR_156_0 hL) ?_
  refine ev_bipush (X := M_X12_meets) (pc := 33) dX12_meets_33 (by decide) ?_
  refine ev_aload_n (X := M_X12_meets) (pc := 35) dX12_meets_35 rfl ?_
  refine ev_getRe (X := M_X12_meets) (pc := 36) dX12_meets_36 fl_X12_7_12 (lO_156 hL) rfl (lR_156_0 hL) ?_
  refine ev_bipush (X := M_X12_meets) (pc := 39) dX12_meets_39 (by decide) ?_
  refine ev_ialoadE (X := M_X12_meets) (pc := 41) dX12_meets_41 (lS_157 hL) (by omega) (congrFun hD1 _) ?_
  refine ev_iload_n (X := M_X12_meets) (pc := 42) dX12_meets_42 rfl ?_
  refine ev_iadd (X := M_X12_meets) (pc := 43) dX12_meets_43 ?_
  refine ev_ldc (X := M_X12_meets) (pc := 44) (v := -99999) dX12_meets_44 kw_1246 (by decide) ?_
  refine ev_ldc (X := M_X12_meets) (pc := 46) (v := 99999) dX12_meets_46 kw_1247 (by decide) ?_
  refine ev_staticR (X := M_X12_meets) (Y := M_X12_held) (pc := 48) dX12_meets_48 mk_X12_held kw_1156 kw_1157 (m_held (by omega) (by decide) (by decide)) rfl (by decide) rfl (Nat.le_of_ble_eq_true rfl) (Nat.zero_add _) (Nat.zero_add _) ?_
  rw [hsp]
  refine ev_iastore (X := M_X12_meets) (pc := 51) dX12_meets_51 (by decide) (lS_157 hL) (by omega) ?_
  refine ev_aload_n (X := M_X12_meets) (pc := 52) dX12_meets_52 rfl ?_
  refine ev_getRe (X := M_X12_meets) (pc := 53) dX12_meets_53 fl_X12_7_12 (lO_156 hL) rfl (lR_156_0 hL) ?_
  refine ev_bipush (X := M_X12_meets) (pc := 56) dX12_meets_56 (by decide) ?_
  refine ev_dup2 (X := M_X12_meets) (pc := 58) dX12_meets_58 (fun _ q => by cases q) (fun _ q => by cases q) ?_
  refine ev_iaload (X := M_X12_meets) (pc := 59) dX12_meets_59 (lS_157 hL) (by omega) ?_
  refine ev_iconst (X := M_X12_meets) (pc := 60) dX12_meets_60 ?_
  refine ev_iadd (X := M_X12_meets) (pc := 61) dX12_meets_61 ?_
  refine ev_iastore (X := M_X12_meets) (pc := 62) dX12_meets_62 (by decide) (lS_157 hL) (by omega) ?_
  generalize hW3 : wr (wr W 157 22 (spD D p)) 157 21 (wr W 157 22 (spD D p) 157 21 + 1) = W3
  have q157 : W3 157 = up (up D 22 (spD D p)) 21 (D 21 + 1) := by
    rw [← hW3, wr_row, wr_row, hD1, up_ne (by decide)]
  have qo : ∀ c, c ≠ 157 → W3 c = W c := fun c z => by rw [← hW3, wr_off z, wr_off z]
  have qn : nowS (up (up D 22 (spD D p)) 21 (D 21 + 1)) = nowS D := rfl
  have qC : W3 161 = comF D := by rw [qo 161 (by decide)]; exact hC2
  clear hW3
  refine ev_aload_n (X := M_X12_meets) (pc := 63) dX12_meets_63 rfl ?_
  refine ev_aload_n (X := M_X12_meets) (pc := 64) dX12_meets_64 rfl ?_
  refine ev_aload_n (X := M_X12_meets) (pc := 65) dX12_meets_65 rfl ?_
  refine ev_virtR (X := M_X12_meets) (Y := M_X12_now) (pc := 66) (ci := 12) dX12_meets_66 mk_X12_now rfl kw_1168 kw_1170 kp_18 (lO_156 hL) (m_nowE hL q157) rfl (by decide) rfl (Nat.le_of_ble_eq_true rfl) (Nat.zero_add _) (Nat.zero_add _) ?_
  rw [qn]
  refine ev_iload_n (X := M_X12_meets) (pc := 69) dX12_meets_69 rfl ?_
  refine ev_virtR (X := M_X12_meets) (Y := M_X12_after) (pc := 70) (ci := 12) dX12_meets_70 mk_X12_after rfl kw_1248 kw_1250 kp_26 (lO_156 hL) (m_after hL hC qC hp) rfl (by decide) rfl (Nat.le_of_ble_eq_true rfl) (Nat.zero_add _) (Nat.zero_add _) ?_
  refine ev_virtV (X := M_X12_meets) (Y := M_X12_becomes) (pc := 73) (ci := 12) dX12_meets_73 mk_X12_becomes rfl kw_1255 kw_1257 kp_27 (lO_156 hL) (m_becomes hL haf) rfl (by decide) rfl (Nat.le_of_ble_eq_true rfl) (Nat.zero_add _) (Nat.zero_add _) ?_
  refine ev_vret (X := M_X12_meets) (pc := 76) dX12_meets_76 rfl ?_
  refine ⟨rfl, rfl, fun c i z1 z2 z3 => ?_, ?_⟩
  · rw [setr_ne z2, qo c z2]
    exact hW c i z1 z3
  · rw [setr_self, q157]
    rfl
theorem bcD_at {D : Int → Int} {t i : Int} (h : ¬ (0 ≤ i ∧ i < 3)) : bcD D t i = D i := by
  unfold bcD
  rw [up_ne (by omega), up_ne (by omega), up_ne (by omega)]
theorem bcD_now {D : Int → Int} {t : Int} (ht : 0 ≤ t ∧ t < 2197) : nowS (bcD D t) = t := by
  have e0 : bcD D t 0 = cnt t 0 := by unfold bcD; rw [up_ne (by decide), up_ne (by decide), up_self]
  have e1 : bcD D t 1 = cnt t 1 := by unfold bcD; rw [up_ne (by decide), up_self]
  have e2 : bcD D t 2 = cnt t 2 := by unfold bcD; rw [up_self]
  unfold nowS
  rw [e0, e1, e2]
  exact (st_eq ht).symm
theorem bcD_ct {D : Int → Int} {t : Int} (ht : isSt t) : DCnt (bcD D t) := by
  have e0 : bcD D t 0 = cnt t 0 := by unfold bcD; rw [up_ne (by decide), up_ne (by decide), up_self]
  have e1 : bcD D t 1 = cnt t 1 := by unfold bcD; rw [up_ne (by decide), up_self]
  have e2 : bcD D t 2 = cnt t 2 := by unfold bcD; rw [up_self]
  unfold DCnt
  rw [e0, e1, e2]
  have hb := bei_eq (isSt_lt ht)
  have := ht.2.2
  have a := cnt_r t 0
  have b := cnt_r t 1
  have c := cnt_r t 2
  omega
theorem meD_at {D : Int → Int} {p i : Int} (h : ¬ (0 ≤ i ∧ i < 3)) (h1 : i ≠ 21) (h2 : i ≠ 22) : meD D p i = D i := by
  unfold meD
  rw [bcD_at h, up_ne h1, up_ne h2]
def mtK (D : Int → Int) (p : Int) : Int := if 0 ≤ p ∧ p < 6 then (if nx (comF D) (fS D) (nowS D) p = -1 ∨ D 21 = 9999 then 3 else 0) else 1
theorem m_meet {γ : Gh} {K : Sk} {V : Mm} {D : Int → Int} (h : MQy K V D) (hT : TxOk D 1) (h21 : 0 ≤ D 21 ∧ D 21 ≤ 9999) (h22 : -99999 ≤ D 22 ∧ D 22 ≤ 99999) {p : Int} (hpr : R32 p) : Call γ M_X12_meet 42 0 0 [vR 156, vI p] K V (Qx (some (vI (aR (mtK D p) (nx (comF D) (fS D) (nowS D) p)))) K (MW V (aD (mtK D p) D (meD D p)) (mtK D p))) := by
  refine call_of (by decide +kernel) (by intro v hv; simp only [List.mem_cons, List.not_mem_nil, or_false] at hv; rcases hv with rfl | rfl <;> exact fun q => by cases q) (Nat.le_of_ble_eq_true rfl) ?_
  refine ev_lsE (ls' := [_, _]) rfl ?_
  obtain ⟨hL, hD, hct, hK, hF, hZ⟩ := h
  have hC := comF_wf hK
  have hs0 := nowS_st hct
  have hsl := isSt_lt hs0
  refine ev_iload_n (X := M_X12_meet) (pc := 0) dX12_meet_0 rfl ?_
  refine ev_staticR (X := M_X12_meet) (Y := M_X12_isPair) (pc := 1) dX12_meet_1 mk_X12_isPair kw_1183 kw_1184 (m_isPair hpr) rfl (by decide) rfl (Nat.le_of_ble_eq_true rfl) (Nat.zero_add _) (Nat.zero_add _) ?_
  refine ev_if_ne (X := M_X12_meet) (pc := 4) (tgt := 13) dX12_meet_4 (by decide) (by split <;> decide) (fun h4 => ?_) (fun h4 => ?_)
  · have hp5 : 0 ≤ p ∧ p ≤ 5 := Decidable.byContradiction fun z => h4 (by rw [if_neg z])
    have hp6 : 0 ≤ p ∧ p < 6 := by omega
    have hk0 : mtK D p = if nx (comF D) (fS D) (nowS D) p = -1 ∨ D 21 = 9999 then 3 else 0 := by unfold mtK; rw [if_pos hp6]
    have hnn := nx_ne (F := fS D) hC hp6 hs0
    refine ev_aload_n (X := M_X12_meet) (pc := 13) dX12_meet_13 rfl ?_
    refine ev_virtY (X := M_X12_meet) (Y := M_X12_findAll) (pc := 14) (ci := 12) dX12_meet_14 mk_X12_findAll rfl kw_1197 kw_1199 kp_19 (lO_156 hL) (m_findAll hL hD hK hZ) rfl (by decide) rfl (Nat.le_of_ble_eq_true rfl) (Nat.zero_add _) (Nat.zero_add _) (fun W1 hW1 => ?_)
    have hD1 : W1 157 = D := by rw [hW1.1.row (by decide) (by decide) (by decide)]; exact hD
    have hC1 := hW1.2
    have hMS := MS.com hW1.1 hW1.2
    clear hW1
    refine ev_aload_n (X := M_X12_meet) (pc := 17) dX12_meet_17 rfl ?_
    refine ev_aload_n (X := M_X12_meet) (pc := 18) dX12_meet_18 rfl ?_
    refine ev_virtR (X := M_X12_meet) (Y := M_X12_now) (pc := 19) (ci := 12) dX12_meet_19 mk_X12_now rfl kw_1168 kw_1170 kp_18 (lO_156 hL) (m_nowE hL hD1) rfl (by decide) rfl (Nat.le_of_ble_eq_true rfl) (Nat.zero_add _) (Nat.zero_add _) ?_
    refine ev_iload_n (X := M_X12_meet) (pc := 22) dX12_meet_22 rfl ?_
    refine ev_aload_n (X := M_X12_meet) (pc := 23) dX12_meet_23 rfl ?_
    refine ev_virtR (X := M_X12_meet) (Y := M_X12_fencedNow) (pc := 24) (ci := 12) dX12_meet_24 mk_X12_fencedNow rfl kw_1215 kw_1217 kp_22 (lO_156 hL) (m_fencedE hL hD1 hF) rfl (by decide) rfl (Nat.le_of_ble_eq_true rfl) (Nat.zero_add _) (Nat.zero_add _) ?_
    refine ev_virtR (X := M_X12_meet) (Y := M_X12_mayMeet) (pc := 27) (ci := 12) dX12_meet_27 mk_X12_mayMeet rfl kw_1219 kw_1221 kp_23 (lO_156 hL) (m_mayMeet hL hC hC1 hp6 hsl (fS_r hF)) rfl (by decide) rfl (Nat.le_of_ble_eq_true rfl) (Nat.zero_add _) (Nat.zero_add _) ?_
    refine ev_if_eq (X := M_X12_meet) (pc := 30) (tgt := 46) dX12_meet_30 (by decide) (by split <;> decide) (fun h30 => ?_) (fun h30 => ?_)
    · have hk : mtK D p = 3 := by rw [hk0, if_pos (Or.inl (Decidable.byContradiction fun z => by rw [if_pos (hnn.mp z)] at h30; exact absurd h30 (by decide)))]
      refine ev_aload_n (X := M_X12_meet) (pc := 46) dX12_meet_46 rfl ?_
      refine ev_iconst (X := M_X12_meet) (pc := 47) dX12_meet_47 ?_
      refine ev_virtR (X := M_X12_meet) (Y := M_X12_finds) (pc := 48) (ci := 12) dX12_meet_48 mk_X12_finds rfl kw_1092 kw_1094 kp_5 (lO_156 hL) (m_finds hL (by decide)) rfl (by decide) rfl (Nat.le_of_ble_eq_true rfl) (Nat.zero_add _) (Nat.zero_add _) ?_
      refine ev_iret (X := M_X12_meet) (pc := 51) dX12_meet_51 rfl ?_
      rw [hk]
      have hM3 := hMS.er 3
      refine ⟨rfl, rfl, hM3.1, ?_, ?_, fun c i z1 _ z3 => hM3.2.2 c i z1 z3⟩
      · show wr W1 159 3 _ 157 = D
        rw [wr_off (by decide)]
        exact hD1
      · rw [hM3.2.1]
        rfl
    · have hm : may (comF D) (fS D) (nowS D) p := Decidable.byContradiction fun z => h30 (by rw [if_neg z])
      have hnx : nx (comF D) (fS D) (nowS D) p = aft (comF D) (nowS D) p := by unfold nx; rw [if_pos hm]
      refine ev_aload_n (X := M_X12_meet) (pc := 33) dX12_meet_33 rfl ?_
      refine ev_getRe (X := M_X12_meet) (pc := 34) dX12_meet_34 fl_X12_7_12 (lO_156 hL) rfl (lR_156_0 hL) ?_
      refine ev_bipush (X := M_X12_meet) (pc := 37) dX12_meet_37 (by decide) ?_
      refine ev_ialoadE (X := M_X12_meet) (pc := 39) dX12_meet_39 (lS_157 hL) (by omega) (congrFun hD1 _) ?_
      refine ev_sipush (X := M_X12_meet) (pc := 40) dX12_meet_40 (by decide) ?_
      refine ev_icmp_ne (X := M_X12_meet) (pc := 43) (tgt := 52) dX12_meet_43 (by decide) (by omega) (by decide) (fun h43 => ?_) (fun h43 => ?_)
      · have hk : mtK D p = 0 := by rw [hk0, if_neg (fun z => by rcases z with z | z; exact (hnn.mpr hm) z; exact h43 z)]
        refine ev_aload_n (X := M_X12_meet) (pc := 52) dX12_meet_52 rfl ?_
        refine ev_iload_n (X := M_X12_meet) (pc := 53) dX12_meet_53 rfl ?_
        refine ev_virtY (X := M_X12_meet) (Y := M_X12_meets) (pc := 54) (ci := 12) dX12_meet_54 mk_X12_meets rfl kw_1242 kw_1244 kp_25 (lO_156 hL) (m_meets hL hD1 hct hK hT hC1 (by omega) h22 hp6 hm) rfl (by decide) rfl (Nat.le_of_ble_eq_true rfl) (Nat.zero_add _) (Nat.zero_add _) (fun W2 hW2 => ?_)
        refine ev_aload_n (X := M_X12_meet) (pc := 57) dX12_meet_57 rfl ?_
        refine ev_virtR (X := M_X12_meet) (Y := M_X12_now) (pc := 58) (ci := 12) dX12_meet_58 mk_X12_now rfl kw_1168 kw_1170 kp_18 (lO_156 hL) (m_nowE hL hW2.2) rfl (by decide) rfl (Nat.le_of_ble_eq_true rfl) (Nat.zero_add _) (Nat.zero_add _) ?_
        refine ev_iret (X := M_X12_meet) (pc := 61) dX12_meet_61 rfl ?_
        rw [hk]
        have haf := isSt_lt (aft_st hC hp6 hs0 hm)
        have hnw : nowS (meD D p) = aft (comF D) (nowS D) p := bcD_now haf
        refine ⟨?_, rfl, ?_, hW2.2, ?_, fun c i z1 z2 z3 => ?_⟩
        · show some (vI (nowS (meD D p))) = some (vI (nx (comF D) (fS D) (nowS D) p))
          rw [hnw, hnx]
        · exact fun j z => by rw [hW2.1.row (by decide) (by decide) (by decide)]; exact hMS.1 j z
        · rw [hW2.1.row (by decide) (by decide) (by decide), hMS.2.1]
          rfl
        · rw [hW2.1 c i z1 z2 (by omega)]
          exact hMS.2.2 c i z1 z3
      · have hk : mtK D p = 3 := by rw [hk0, if_pos (Or.inr h43)]
        refine ev_aload_n (X := M_X12_meet) (pc := 46) dX12_meet_46 rfl ?_
        refine ev_iconst (X := M_X12_meet) (pc := 47) dX12_meet_47 ?_
        refine ev_virtR (X := M_X12_meet) (Y := M_X12_finds) (pc := 48) (ci := 12) dX12_meet_48 mk_X12_finds rfl kw_1092 kw_1094 kp_5 (lO_156 hL) (m_finds hL (by decide)) rfl (by decide) rfl (Nat.le_of_ble_eq_true rfl) (Nat.zero_add _) (Nat.zero_add _) ?_
        refine ev_iret (X := M_X12_meet) (pc := 51) dX12_meet_51 rfl ?_
        rw [hk]
        have hM3 := hMS.er 3
        refine ⟨rfl, rfl, hM3.1, ?_, ?_, fun c i z1 _ z3 => hM3.2.2 c i z1 z3⟩
        · show wr W1 159 3 _ 157 = D
          rw [wr_off (by decide)]
          exact hD1
        · rw [hM3.2.1]
          rfl
  · have hk : mtK D p = 1 := by unfold mtK; rw [if_neg (fun z => by rw [if_pos (by omega)] at h4; exact absurd h4 (by decide))]
    refine ev_aload_n (X := M_X12_meet) (pc := 7) dX12_meet_7 rfl ?_
    refine ev_iconst (X := M_X12_meet) (pc := 8) dX12_meet_8 ?_
    refine ev_virtR (X := M_X12_meet) (Y := M_X12_finds) (pc := 9) (ci := 12) dX12_meet_9 mk_X12_finds rfl kw_1092 kw_1094 kp_5 (lO_156 hL) (m_finds hL (by decide)) rfl (by decide) rfl (Nat.le_of_ble_eq_true rfl) (Nat.zero_add _) (Nat.zero_add _) ?_
    refine ev_iret (X := M_X12_meet) (pc := 12) dX12_meet_12 rfl ?_
    rw [hk]
    exact ⟨rfl, rfl, MW_e hZ hD (by decide)⟩
