/-! ===== the reference's questions: what they leave ===== -/
def MS (V : Mm) (er : Int → Int) (W : Mm) : Prop := Z161 W ∧ W 159 = er ∧ ∀ c i, ¬ (c = 156 ∧ 4 ≤ i ∧ i ≤ 9) → ¬ (159 ≤ c ∧ c ≤ 172) → W c i = V c i
def DCnt (D : Int → Int) : Prop := 0 ≤ D 0 ∧ 0 ≤ D 1 ∧ 0 ≤ D 2 ∧ D 0 + D 1 + D 2 ≤ 12
theorem nowS_st {D : Int → Int} (h : DCnt D) : isSt (nowS D) := (st_mk h.1 h.2.1 h.2.2.1 h.2.2.2).1
def MQy (K : Sk) (V : Mm) (D : Int → Int) : Prop := Lay K ∧ V 157 = D ∧ DCnt D ∧ Kds D ∧ wfF D ∧ Z161 V
theorem Z161_com {W : Mm} {D : Int → Int} (h : W 161 = comF D) : Z161 W := fun j z => by
  rw [h]
  unfold comF
  rw [if_neg z]
theorem MS.rf {V : Mm} (h : Z161 V) : MS V (V 159) V := ⟨h, rfl, fun _ _ _ _ => rfl⟩
theorem MS.er {V W : Mm} {er : Int → Int} (h : MS V er W) (k : Int) : MS V (up er k (er k + 1)) (wr W 159 k (W 159 k + 1)) :=
  ⟨fun j z => by rw [wr_off (by decide)]; exact h.1 j z, by rw [wr_row, h.2.1], fun c i z1 z2 => by rw [wr_off (by omega)]; exact h.2.2 c i z1 z2⟩
theorem MS.wk {V W U : Mm} {er : Int → Int} (h : MS V er W) (hf : ∀ c, ¬ (162 ≤ c ∧ c ≤ 172) → U c = W c) : MS V er U :=
  ⟨fun j z => by rw [hf 161 (by omega)]; exact h.1 j z, by rw [hf 159 (by omega)]; exact h.2.1, fun c i z1 z2 => by rw [hf c (by omega)]; exact h.2.2 c i z1 z2⟩
theorem MS.com {V W : Mm} {D : Int → Int} (h : mC V W) (hc : W 161 = comF D) : MS V (V 159) W :=
  ⟨Z161_com hc, h.row (by decide) (by decide) (by decide), fun c i z1 z2 => h c i z1 (by omega) (by omega)⟩
theorem MS.far {V W U : Mm} {D : Int → Int} (h : mC V W) (hc : W 161 = comF D) (hf : fr2 162 163 W U) : MS V (V 159) U :=
  (MS.com h hc).wk (fun c z => hf c (by omega) (by omega))
theorem MQy.mC {K : Sk} {V W : Mm} {D : Int → Int} (h : MQy K V D) (hW : mC V W) (hc : W 161 = comF D) : MQy K W D :=
  ⟨h.1, by rw [hW.row (by decide) (by decide) (by decide)]; exact h.2.1, h.2.2.1, h.2.2.2.1, h.2.2.2.2.1, Z161_com hc⟩
theorem m_nowE {γ : Gh} {K : Sk} {V : Mm} {D : Int → Int} (hL : Lay K) (hD : V 157 = D) : Call γ M_X12_now 0 0 0 [vR 156] K V (Rt (some (vI (nowS D))) K V) := by
  have := m_now (γ := γ) (V := V) hL
  rw [hD] at this
  exact this
theorem m_fencedE {γ : Gh} {K : Sk} {V : Mm} {D : Int → Int} (hL : Lay K) (hD : V 157 = D) (hF : wfF D) : Call γ M_X12_fencedNow 0 0 0 [vR 156] K V (Rt (some (vI (fS D))) K V) := by
  have := m_fencedNow (γ := γ) (V := V) hL (by rw [hD]; exact hF)
  rw [hD] at this
  exact this
theorem bD_I {K : Sk} {V : Mm} {D : Int → Int} (h : MQy K V D) : BI (nowS D) (bF (comF D) (fS D) (nowS D)) := bF_I (comF_wf h.2.2.2.1) (nowS_st h.2.2.1)
theorem m_reach {γ : Gh} {K : Sk} {V : Mm} {D : Int → Int} (h : MQy K V D) {t : Int} (ht : R32 t) : Call γ M_X12_reach 42 0 0 [vR 156, vI t] K V (Qx (some (vI (reR (bF (comF D) (fS D) (nowS D)) t))) K (MS V (reE (bF (comF D) (fS D) (nowS D)) t (V 159)))) := by
  refine call_of (by decide +kernel) (by intro v hv; simp only [List.mem_cons, List.not_mem_nil, or_false] at hv; rcases hv with rfl | rfl <;> exact fun q => by cases q) (Nat.le_of_ble_eq_true rfl) ?_
  refine ev_lsE (ls' := [_, _, _]) rfl ?_
  obtain ⟨hL, hD, hct, hK, hF, hZ⟩ := h
  have hI := bD_I (V := V) ⟨hL, hD, hct, hK, hF, hZ⟩
  have hfr := hI.far_r t
  refine ev_iload_n (X := M_X12_reach) (pc := 0) dX12_reach_0 rfl ?_
  refine ev_staticR (X := M_X12_reach) (Y := M_X12_isState) (pc := 1) dX12_reach_1 mk_X12_isState kw_1284 kw_1285 (m_isState ht) rfl (by decide) rfl (Nat.le_of_ble_eq_true rfl) (Nat.zero_add _) (Nat.zero_add _) ?_
  refine ev_if_ne (X := M_X12_reach) (pc := 4) (tgt := 13) dX12_reach_4 (by decide) (by split <;> decide) (fun h4 => ?_) (fun h4 => ?_)
  · have hye : isSt t := Decidable.byContradiction fun z => h4 (by rw [if_neg z])
    have hlt := isSt_lt hye
    refine ev_aload_n (X := M_X12_reach) (pc := 13) dX12_reach_13 rfl ?_
    refine ev_virtY (X := M_X12_reach) (Y := M_X12_findAll) (pc := 14) (ci := 12) dX12_reach_14 mk_X12_findAll rfl kw_1197 kw_1199 kp_19 (lO_156 hL) (m_findAll hL hD hK hZ) rfl (by decide) rfl (Nat.le_of_ble_eq_true rfl) (Nat.zero_add _) (Nat.zero_add _) (fun W1 hW1 => ?_)
    have hD1 : W1 157 = D := by rw [hW1.1.row (by decide) (by decide) (by decide)]; exact hD
    refine ev_aload_n (X := M_X12_reach) (pc := 17) dX12_reach_17 rfl ?_
    refine ev_aload_n (X := M_X12_reach) (pc := 18) dX12_reach_18 rfl ?_
    refine ev_virtR (X := M_X12_reach) (Y := M_X12_now) (pc := 19) (ci := 12) dX12_reach_19 mk_X12_now rfl kw_1168 kw_1170 kp_18 (lO_156 hL) (m_nowE hL hD1) rfl (by decide) rfl (Nat.le_of_ble_eq_true rfl) (Nat.zero_add _) (Nat.zero_add _) ?_
    refine ev_aload_n (X := M_X12_reach) (pc := 22) dX12_reach_22 rfl ?_
    refine ev_virtR (X := M_X12_reach) (Y := M_X12_fencedNow) (pc := 23) (ci := 12) dX12_reach_23 mk_X12_fencedNow rfl kw_1215 kw_1217 kp_22 (lO_156 hL) (m_fencedE hL hD1 hF) rfl (by decide) rfl (Nat.le_of_ble_eq_true rfl) (Nat.zero_add _) (Nat.zero_add _) ?_
    refine ev_virtX (X := M_X12_reach) (Y := M_X12_findFar) (pc := 26) (ci := 12) dX12_reach_26 mk_X12_findFar rfl kw_1288 kw_1290 kp_31 (lO_156 hL) (m_findFar hL (comF_wf hK) hW1.2 (nowS_st hct) (fS_r hF)) rfl (by decide) rfl (Nat.le_of_ble_eq_true rfl) (Nat.zero_add _) (Nat.zero_add _) (fun W2 hW2 => ?_)
    have hS := MS.far hW1.1 hW1.2 hW2.1
    have hM := hW2.2.1 t hlt
    refine ev_istore_nL (X := M_X12_reach) (pc := 29) (ls' := [_, _, _]) dX12_reach_29 (by decide) rfl ?_
    refine ev_aload_n (X := M_X12_reach) (pc := 30) dX12_reach_30 rfl ?_
    refine ev_getRe (X := M_X12_reach) (pc := 31) dX12_reach_31 fl_X12_25_12 (lO_156 hL) rfl (lR_156_12 hL) ?_
    refine ev_iload_n (X := M_X12_reach) (pc := 34) dX12_reach_34 rfl ?_
    refine ev_ialoadE (X := M_X12_reach) (pc := 35) dX12_reach_35 (lS_162 hL) (by omega) (hM) ?_
    refine ev_ldc (X := M_X12_reach) (pc := 36) (v := 1000000) dX12_reach_36 kw_1292 (by decide) ?_
    refine ev_icmp_ne (X := M_X12_reach) (pc := 38) (tgt := 49) dX12_reach_38 (by decide) (by split <;> omega) (by decide) (fun h38 => ?_) (fun h38 => ?_)
    · have hn : ¬ (bF (comF D) (fS D) (nowS D)).1 t = -1 := fun z => h38 (by rw [if_pos z])
      refine ev_aload_n (X := M_X12_reach) (pc := 49) dX12_reach_49 rfl ?_
      refine ev_getRe (X := M_X12_reach) (pc := 50) dX12_reach_50 fl_X12_25_12 (lO_156 hL) rfl (lR_156_12 hL) ?_
      refine ev_iload_n (X := M_X12_reach) (pc := 53) dX12_reach_53 rfl ?_
      refine ev_ialoadE (X := M_X12_reach) (pc := 54) dX12_reach_54 (lS_162 hL) (by omega) (hM) ?_
      refine ev_iret (X := M_X12_reach) (pc := 55) dX12_reach_55 rfl ?_
      unfold reR reE oNr
      rw [if_pos hye, if_pos hye]
      first
        | (rw [if_pos hn, if_pos hn]
           exact ⟨rfl, rfl, hS.er 2⟩)
        | (rw [if_neg hn, if_neg hn]
           exact ⟨by rw [if_neg hn], rfl, hS⟩)
    · have hn : (bF (comF D) (fS D) (nowS D)).1 t = -1 := Decidable.byContradiction fun z => by rw [if_neg z] at h38; omega
      refine ev_aload_n (X := M_X12_reach) (pc := 41) dX12_reach_41 rfl ?_
      refine ev_iconst (X := M_X12_reach) (pc := 42) dX12_reach_42 ?_
      refine ev_virtR (X := M_X12_reach) (Y := M_X12_finds) (pc := 43) (ci := 12) dX12_reach_43 mk_X12_finds rfl kw_1092 kw_1094 kp_5 (lO_156 hL) (m_finds hL (by decide)) rfl (by decide) rfl (Nat.le_of_ble_eq_true rfl) (Nat.zero_add _) (Nat.zero_add _) ?_
      refine ev_goto (X := M_X12_reach) (pc := 46) (tgt := 55) dX12_reach_46 (by decide) ?_
      refine ev_iret (X := M_X12_reach) (pc := 55) dX12_reach_55 rfl ?_
      unfold reR reE oNr
      rw [if_pos hye, if_pos hye]
      first
        | (rw [if_pos hn, if_pos hn]
           exact ⟨rfl, rfl, hS.er 2⟩)
        | (rw [if_neg hn, if_neg hn]
           exact ⟨by rw [if_neg hn], rfl, hS⟩)
  · have hno : ¬ isSt t := fun z => by rw [if_pos z] at h4; exact absurd h4 (by decide)
    refine ev_aload_n (X := M_X12_reach) (pc := 7) dX12_reach_7 rfl ?_
    refine ev_iconst (X := M_X12_reach) (pc := 8) dX12_reach_8 ?_
    refine ev_virtR (X := M_X12_reach) (Y := M_X12_finds) (pc := 9) (ci := 12) dX12_reach_9 mk_X12_finds rfl kw_1092 kw_1094 kp_5 (lO_156 hL) (m_finds hL (by decide)) rfl (by decide) rfl (Nat.le_of_ble_eq_true rfl) (Nat.zero_add _) (Nat.zero_add _) ?_
    refine ev_iret (X := M_X12_reach) (pc := 12) dX12_reach_12 rfl ?_
    unfold reR reE
    rw [if_neg hno, if_neg hno]
    exact ⟨rfl, rfl, (MS.rf hZ).er 1⟩
theorem m_reached {γ : Gh} {K : Sk} {V : Mm} {D : Int → Int} (h : MQy K V D) : Call γ M_X12_reached 42 0 0 [vR 156] K V (Qx (some (vI (bF (comF D) (fS D) (nowS D)).2.2.1)) K (MS V (V 159))) := by
  refine call_of (by decide +kernel) (by intro v hv; simp only [List.mem_cons, List.not_mem_nil, or_false] at hv; rcases hv with rfl <;> exact fun q => by cases q) (Nat.le_of_ble_eq_true rfl) ?_
  refine ev_lsE (ls' := [_]) rfl ?_
  obtain ⟨hL, hD, hct, hK, hF, hZ⟩ := h
  refine ev_aload_n (X := M_X12_reached) (pc := 0) dX12_reached_0 rfl ?_
  refine ev_virtY (X := M_X12_reached) (Y := M_X12_findAll) (pc := 1) (ci := 12) dX12_reached_1 mk_X12_findAll rfl kw_1197 kw_1199 kp_19 (lO_156 hL) (m_findAll hL hD hK hZ) rfl (by decide) rfl (Nat.le_of_ble_eq_true rfl) (Nat.zero_add _) (Nat.zero_add _) (fun W1 hW1 => ?_)
  have hD1 : W1 157 = D := by rw [hW1.1.row (by decide) (by decide) (by decide)]; exact hD
  refine ev_aload_n (X := M_X12_reached) (pc := 4) dX12_reached_4 rfl ?_
  refine ev_aload_n (X := M_X12_reached) (pc := 5) dX12_reached_5 rfl ?_
  refine ev_virtR (X := M_X12_reached) (Y := M_X12_now) (pc := 6) (ci := 12) dX12_reached_6 mk_X12_now rfl kw_1168 kw_1170 kp_18 (lO_156 hL) (m_nowE hL hD1) rfl (by decide) rfl (Nat.le_of_ble_eq_true rfl) (Nat.zero_add _) (Nat.zero_add _) ?_
  refine ev_aload_n (X := M_X12_reached) (pc := 9) dX12_reached_9 rfl ?_
  refine ev_virtR (X := M_X12_reached) (Y := M_X12_fencedNow) (pc := 10) (ci := 12) dX12_reached_10 mk_X12_fencedNow rfl kw_1215 kw_1217 kp_22 (lO_156 hL) (m_fencedE hL hD1 hF) rfl (by decide) rfl (Nat.le_of_ble_eq_true rfl) (Nat.zero_add _) (Nat.zero_add _) ?_
  refine ev_virtX (X := M_X12_reached) (Y := M_X12_findFar) (pc := 13) (ci := 12) dX12_reached_13 mk_X12_findFar rfl kw_1288 kw_1290 kp_31 (lO_156 hL) (m_findFar hL (comF_wf hK) hW1.2 (nowS_st hct) (fS_r hF)) rfl (by decide) rfl (Nat.le_of_ble_eq_true rfl) (Nat.zero_add _) (Nat.zero_add _) (fun W2 hW2 => ?_)
  refine ev_iret (X := M_X12_reached) (pc := 16) dX12_reached_16 rfl ?_
  exact ⟨rfl, rfl, MS.far hW1.1 hW1.2 hW2.1⟩
theorem one_wgt {k : Int} (hk : 0 ≤ k ∧ k < 3) : one k = wgtF k := by
  rcases (show k = 0 ∨ k = 1 ∨ k = 2 by omega) with z | z | z <;> subst z <;> decide
theorem m_nearestEnd {γ : Gh} {K : Sk} {V : Mm} (hL : Lay K) {s0 k : Int} {B : BS} (hI : BI s0 B) (hM : ∀ t, 0 ≤ t ∧ t < 2197 → V 162 t = if B.1 t = -1 then 1000000 else B.1 t) (hk : 0 ≤ k ∧ k < 3) : Call γ M_X12_nearestEnd 1 0 0 [vR 156, vI k] K V (Rt (some (vI (nE B.1 (wgtF k) 12))) K V) := by
  refine call_of (by decide +kernel) (by intro v hv; simp only [List.mem_cons, List.not_mem_nil, or_false] at hv; rcases hv with rfl | rfl <;> exact fun q => by cases q) (Nat.le_of_ble_eq_true rfl) ?_
  refine ev_lsE (ls' := [_, _, _, _, _]) rfl ?_
  refine ev_iconst (X := M_X12_nearestEnd) (pc := 0) dX12_nearestEnd_0 ?_
  refine ev_istore_nL (X := M_X12_nearestEnd) (pc := 1) (ls' := [_, _, _, _, _]) dX12_nearestEnd_1 (by decide) rfl ?_
  refine ev_iconst (X := M_X12_nearestEnd) (pc := 2) dX12_nearestEnd_2 ?_
  refine ev_istore_nL (X := M_X12_nearestEnd) (pc := 3) (ls' := [_, _, _, _, _]) dX12_nearestEnd_3 (by decide) rfl ?_
  refine ev_weak (ev_count 13 1 (fun i => [vR 156, vI k, vI (nE B.1 (wgtF k) (i - 1)), vI i, vU]) (by decide) ?_) ⟨rfl, rfl, rfl, rfl, trivial⟩
  intro i hi1 hi2 ih
  have hprev := nE_st (far := B.1) (v := i - 1) hk (by omega)
  have hst : i ≤ 12 → isSt (i * wgtF k) := fun z => end_st (by omega) hk
  have hfr := hI.far_r (i * wgtF k)
  have hstep := nE_s (far := B.1) (w := wgtF k) (v := i - 1) (by omega)
  rw [show i - 1 + 1 = i by omega] at hstep
  have hpr : nE B.1 (wgtF k) (i - 1) = -1 ∨ (0 ≤ nE B.1 (wgtF k) (i - 1) ∧ nE B.1 (wgtF k) (i - 1) < 2197) := by
    rcases hprev with z | z
    · exact Or.inl z
    · exact Or.inr (isSt_lt z.1)
  have hfp := hI.far_r (nE B.1 (wgtF k) (i - 1))
  refine ev_iload_n (X := M_X12_nearestEnd) (pc := 4) dX12_nearestEnd_4 rfl ?_
  refine ev_bipush (X := M_X12_nearestEnd) (pc := 5) dX12_nearestEnd_5 (by decide) ?_
  refine ev_icmp_gt (X := M_X12_nearestEnd) (pc := 7) (tgt := 63) dX12_nearestEnd_7 (by decide) (by omega) (by omega) (fun h7 => ?_) (fun h7 => ?_)
  · have hi13 : i = 13 := by omega
    subst hi13
    refine ev_iload_n (X := M_X12_nearestEnd) (pc := 63) dX12_nearestEnd_63 rfl ?_
    refine ev_iret (X := M_X12_nearestEnd) (pc := 64) dX12_nearestEnd_64 rfl ?_
    exact ⟨rfl, rfl, rfl⟩
  · have hlt := isSt_lt (hst (by omega))
    have hM1 := hM _ hlt
    refine ev_iload_n (X := M_X12_nearestEnd) (pc := 10) dX12_nearestEnd_10 rfl ?_
    refine ev_iload_n (X := M_X12_nearestEnd) (pc := 11) dX12_nearestEnd_11 rfl ?_
    refine ev_staticR (X := M_X12_nearestEnd) (Y := M_X12_one) (pc := 12) dX12_nearestEnd_12 mk_X12_one kw_1252 kw_1253 (m_one (by omega)) rfl (by decide) rfl (Nat.le_of_ble_eq_true rfl) (Nat.zero_add _) (Nat.zero_add _) ?_
    rw [one_wgt hk]
    refine ev_imul (X := M_X12_nearestEnd) (pc := 15) dX12_nearestEnd_15 ?_
    refine ev_istoreL (X := M_X12_nearestEnd) (pc := 16) (ls' := [_, _, _, _, _]) dX12_nearestEnd_16 (by decide) rfl ?_
    refine ev_aload_n (X := M_X12_nearestEnd) (pc := 18) dX12_nearestEnd_18 rfl ?_
    refine ev_getRe (X := M_X12_nearestEnd) (pc := 19) dX12_nearestEnd_19 fl_X12_25_12 (lO_156 hL) rfl (lR_156_12 hL) ?_
    refine ev_iload (X := M_X12_nearestEnd) (pc := 22) dX12_nearestEnd_22 rfl ?_
    refine ev_ialoadE (X := M_X12_nearestEnd) (pc := 24) dX12_nearestEnd_24 (lS_162 hL) (by omega) (hM1) ?_
    refine ev_ldc (X := M_X12_nearestEnd) (pc := 25) (v := 1000000) dX12_nearestEnd_25 kw_1292 (by decide) ?_
    refine ev_icmp_ge (X := M_X12_nearestEnd) (pc := 27) (tgt := 55) dX12_nearestEnd_27 (by decide) (by split <;> omega) (by decide) (fun h27 => ?_) (fun h27 => ?_)
    · have hn : B.1 (i * wgtF k) = -1 := Decidable.byContradiction fun z => by rw [if_neg z] at h27; omega
      rw [if_neg (fun z => z.1 hn)] at hstep
      refine ev_iload_n (X := M_X12_nearestEnd) (pc := 55) dX12_nearestEnd_55 rfl ?_
      refine ev_istore_nL (X := M_X12_nearestEnd) (pc := 56) (ls' := [_, _, _, _, _]) dX12_nearestEnd_56 (by decide) rfl ?_
      refine ev_iincL (X := M_X12_nearestEnd) (pc := 57) (ls' := [_, _, _, _, _]) dX12_nearestEnd_57 rfl (by decide) rfl ?_
      refine ev_goto (X := M_X12_nearestEnd) (pc := 60) (tgt := 4) dX12_nearestEnd_60 (by decide) ?_
      refine ev_weak (ih (by omega)) ⟨rfl, rfl, congrArg vI ?_, rfl, trivial⟩
      rw [show i + 1 - 1 = i by omega, hstep]
    · have hn : ¬ B.1 (i * wgtF k) = -1 := fun z => by rw [if_pos z] at h27; omega
      rw [if_neg hn] at hM1
      refine ev_iload_n (X := M_X12_nearestEnd) (pc := 30) dX12_nearestEnd_30 rfl ?_
      refine ev_if_lt (X := M_X12_nearestEnd) (pc := 31) (tgt := 50) dX12_nearestEnd_31 (by decide) (by omega) (fun h31 => ?_) (fun h31 => ?_)
      · rw [if_pos ⟨hn, by omega⟩] at hstep
        refine ev_iload (X := M_X12_nearestEnd) (pc := 50) dX12_nearestEnd_50 rfl ?_
        refine ev_goto (X := M_X12_nearestEnd) (pc := 52) (tgt := 56) dX12_nearestEnd_52 (by decide) ?_
        refine ev_istore_nL (X := M_X12_nearestEnd) (pc := 56) (ls' := [_, _, _, _, _]) dX12_nearestEnd_56 (by decide) rfl ?_
        refine ev_iincL (X := M_X12_nearestEnd) (pc := 57) (ls' := [_, _, _, _, _]) dX12_nearestEnd_57 rfl (by decide) rfl ?_
        refine ev_goto (X := M_X12_nearestEnd) (pc := 60) (tgt := 4) dX12_nearestEnd_60 (by decide) ?_
        refine ev_weak (ih (by omega)) ⟨rfl, rfl, congrArg vI ?_, rfl, trivial⟩
        rw [show i + 1 - 1 = i by omega, hstep]
      · have hp2 := hpr.resolve_left (by omega)
        have hfn : B.1 (nE B.1 (wgtF k) (i - 1)) ≠ -1 := (hprev.resolve_left (by omega)).2
        have hM2 := hM _ hp2
        rw [if_neg hfn] at hM2
        refine ev_aload_n (X := M_X12_nearestEnd) (pc := 34) dX12_nearestEnd_34 rfl ?_
        refine ev_getRe (X := M_X12_nearestEnd) (pc := 35) dX12_nearestEnd_35 fl_X12_25_12 (lO_156 hL) rfl (lR_156_12 hL) ?_
        refine ev_iload (X := M_X12_nearestEnd) (pc := 38) dX12_nearestEnd_38 rfl ?_
        refine ev_ialoadE (X := M_X12_nearestEnd) (pc := 40) dX12_nearestEnd_40 (lS_162 hL) (by omega) (hM1) ?_
        refine ev_aload_n (X := M_X12_nearestEnd) (pc := 41) dX12_nearestEnd_41 rfl ?_
        refine ev_getRe (X := M_X12_nearestEnd) (pc := 42) dX12_nearestEnd_42 fl_X12_25_12 (lO_156 hL) rfl (lR_156_12 hL) ?_
        refine ev_iload_n (X := M_X12_nearestEnd) (pc := 45) dX12_nearestEnd_45 rfl ?_
        refine ev_ialoadE (X := M_X12_nearestEnd) (pc := 46) dX12_nearestEnd_46 (lS_162 hL) (by omega) (hM2) ?_
        refine ev_icmp_ge (X := M_X12_nearestEnd) (pc := 47) (tgt := 55) dX12_nearestEnd_47 (by decide) (by omega) (by omega) (fun h47 => ?_) (fun h47 => ?_)
        · rw [if_neg (fun z => by have := z.2; omega)] at hstep
          refine ev_iload_n (X := M_X12_nearestEnd) (pc := 55) dX12_nearestEnd_55 rfl ?_
          refine ev_istore_nL (X := M_X12_nearestEnd) (pc := 56) (ls' := [_, _, _, _, _]) dX12_nearestEnd_56 (by decide) rfl ?_
          refine ev_iincL (X := M_X12_nearestEnd) (pc := 57) (ls' := [_, _, _, _, _]) dX12_nearestEnd_57 rfl (by decide) rfl ?_
          refine ev_goto (X := M_X12_nearestEnd) (pc := 60) (tgt := 4) dX12_nearestEnd_60 (by decide) ?_
          refine ev_weak (ih (by omega)) ⟨rfl, rfl, congrArg vI ?_, rfl, trivial⟩
          rw [show i + 1 - 1 = i by omega, hstep]
        · rw [if_pos ⟨hn, Or.inr (by omega)⟩] at hstep
          refine ev_iload (X := M_X12_nearestEnd) (pc := 50) dX12_nearestEnd_50 rfl ?_
          refine ev_goto (X := M_X12_nearestEnd) (pc := 52) (tgt := 56) dX12_nearestEnd_52 (by decide) ?_
          refine ev_istore_nL (X := M_X12_nearestEnd) (pc := 56) (ls' := [_, _, _, _, _]) dX12_nearestEnd_56 (by decide) rfl ?_
          refine ev_iincL (X := M_X12_nearestEnd) (pc := 57) (ls' := [_, _, _, _, _]) dX12_nearestEnd_57 rfl (by decide) rfl ?_
          refine ev_goto (X := M_X12_nearestEnd) (pc := 60) (tgt := 4) dX12_nearestEnd_60 (by decide) ?_
          refine ev_weak (ih (by omega)) ⟨rfl, rfl, congrArg vI ?_, rfl, trivial⟩
          rw [show i + 1 - 1 = i by omega, hstep]
theorem m_can {γ : Gh} {K : Sk} {V : Mm} {D : Int → Int} (h : MQy K V D) {k w : Int} (hk : R32 k) (hw : R32 w) : Call γ M_X12_can 42 0 0 [vR 156, vI k, vI w] K V (Qx (some (vI (caR (bF (comF D) (fS D) (nowS D)) k w))) K (MS V (caE (bF (comF D) (fS D) (nowS D)) k w (V 159)))) := by
  refine call_of (by decide +kernel) (by intro v hv; simp only [List.mem_cons, List.not_mem_nil, or_false] at hv; rcases hv with rfl | rfl | rfl <;> exact fun q => by cases q) (Nat.le_of_ble_eq_true rfl) ?_
  refine ev_lsE (ls' := [_, _, _, _, _]) rfl ?_
  obtain ⟨hL, hD, hct, hK, hF, hZ⟩ := h
  have hI := bD_I (V := V) ⟨hL, hD, hct, hK, hF, hZ⟩
  refine ev_iload_n (X := M_X12_can) (pc := 0) dX12_can_0 rfl ?_
  refine ev_staticR (X := M_X12_can) (Y := M_X12_isSort) (pc := 1) dX12_can_1 mk_X12_isSort kw_1163 kw_1164 (m_isSort hk) rfl (by decide) rfl (Nat.le_of_ble_eq_true rfl) (Nat.zero_add _) (Nat.zero_add _) ?_
  refine ev_if_eq (X := M_X12_can) (pc := 4) (tgt := 17) dX12_can_4 (by decide) (by split <;> decide) (fun h4 => ?_) (fun h4 => ?_)
  · have hno : ¬ ((0 ≤ k ∧ k < 3) ∧ 0 ≤ w ∧ w ≤ 1) := fun z => by rw [if_pos (by omega)] at h4; exact absurd h4 (by decide)
    refine ev_aload_n (X := M_X12_can) (pc := 17) dX12_can_17 rfl ?_
    refine ev_iconst (X := M_X12_can) (pc := 18) dX12_can_18 ?_
    refine ev_virtR (X := M_X12_can) (Y := M_X12_finds) (pc := 19) (ci := 12) dX12_can_19 mk_X12_finds rfl kw_1092 kw_1094 kp_5 (lO_156 hL) (m_finds hL (by decide)) rfl (by decide) rfl (Nat.le_of_ble_eq_true rfl) (Nat.zero_add _) (Nat.zero_add _) ?_
    refine ev_iret (X := M_X12_can) (pc := 22) dX12_can_22 rfl ?_
    unfold caR caE
    rw [if_neg hno, if_neg hno]
    exact ⟨rfl, rfl, (MS.rf hZ).er 1⟩
  · have hk3 : 0 ≤ k ∧ k < 3 := by
      have : 0 ≤ k ∧ k ≤ 2 := Decidable.byContradiction fun z => h4 (by rw [if_neg z])
      omega
    refine ev_iload_n (X := M_X12_can) (pc := 7) dX12_can_7 rfl ?_
    refine ev_i2l (X := M_X12_can) (pc := 8) dX12_can_8 (by omega) ?_
    refine ev_lconst (X := M_X12_can) (pc := 9) (v := 0) dX12_can_9 (by decide) ?_
    refine ev_lconst (X := M_X12_can) (pc := 10) (v := 1) dX12_can_10 (by decide) ?_
    refine ev_staticR (X := M_X12_can) (Y := M_X12_in) (pc := 11) dX12_can_11 mk_X12_in kw_1089 kw_1090 (m_in (by omega) (by decide) (by decide)) rfl (by decide) rfl (Nat.le_of_ble_eq_true rfl) (Nat.zero_add _) (Nat.zero_add _) ?_
    refine ev_if_ne (X := M_X12_can) (pc := 14) (tgt := 23) dX12_can_14 (by decide) (by split <;> decide) (fun h14 => ?_) (fun h14 => ?_)
    · have hye : (0 ≤ k ∧ k < 3) ∧ 0 ≤ w ∧ w ≤ 1 := ⟨hk3, Decidable.byContradiction fun z => h14 (by rw [if_neg z])⟩
      refine ev_aload_n (X := M_X12_can) (pc := 23) dX12_can_23 rfl ?_
      refine ev_virtY (X := M_X12_can) (Y := M_X12_findAll) (pc := 24) (ci := 12) dX12_can_24 mk_X12_findAll rfl kw_1197 kw_1199 kp_19 (lO_156 hL) (m_findAll hL hD hK hZ) rfl (by decide) rfl (Nat.le_of_ble_eq_true rfl) (Nat.zero_add _) (Nat.zero_add _) (fun W1 hW1 => ?_)
      have hD1 : W1 157 = D := by rw [hW1.1.row (by decide) (by decide) (by decide)]; exact hD
      refine ev_aload_n (X := M_X12_can) (pc := 27) dX12_can_27 rfl ?_
      refine ev_aload_n (X := M_X12_can) (pc := 28) dX12_can_28 rfl ?_
      refine ev_virtR (X := M_X12_can) (Y := M_X12_now) (pc := 29) (ci := 12) dX12_can_29 mk_X12_now rfl kw_1168 kw_1170 kp_18 (lO_156 hL) (m_nowE hL hD1) rfl (by decide) rfl (Nat.le_of_ble_eq_true rfl) (Nat.zero_add _) (Nat.zero_add _) ?_
      refine ev_aload_n (X := M_X12_can) (pc := 32) dX12_can_32 rfl ?_
      refine ev_virtR (X := M_X12_can) (Y := M_X12_fencedNow) (pc := 33) (ci := 12) dX12_can_33 mk_X12_fencedNow rfl kw_1215 kw_1217 kp_22 (lO_156 hL) (m_fencedE hL hD1 hF) rfl (by decide) rfl (Nat.le_of_ble_eq_true rfl) (Nat.zero_add _) (Nat.zero_add _) ?_
      refine ev_virtX (X := M_X12_can) (Y := M_X12_findFar) (pc := 36) (ci := 12) dX12_can_36 mk_X12_findFar rfl kw_1288 kw_1290 kp_31 (lO_156 hL) (m_findFar hL (comF_wf hK) hW1.2 (nowS_st hct) (fS_r hF)) rfl (by decide) rfl (Nat.le_of_ble_eq_true rfl) (Nat.zero_add _) (Nat.zero_add _) (fun W2 hW2 => ?_)
      have hS := MS.far hW1.1 hW1.2 hW2.1
      refine ev_istore_nL (X := M_X12_can) (pc := 39) (ls' := [_, _, _, _, _]) dX12_can_39 (by decide) rfl ?_
      refine ev_aload_n (X := M_X12_can) (pc := 40) dX12_can_40 rfl ?_
      refine ev_iload_n (X := M_X12_can) (pc := 41) dX12_can_41 rfl ?_
      refine ev_virtR (X := M_X12_can) (Y := M_X12_nearestEnd) (pc := 42) (ci := 12) dX12_can_42 mk_X12_nearestEnd rfl kw_1301 kw_1303 kp_32 (lO_156 hL) (m_nearestEnd hL hI hW2.2.1 hk3) rfl (by decide) rfl (Nat.le_of_ble_eq_true rfl) (Nat.zero_add _) (Nat.zero_add _) ?_
      have hst := nE_st (far := (bF (comF D) (fS D) (nowS D)).1) (v := 12) hk3 (by decide)
      have hfr := hI.far_r (nE (bF (comF D) (fS D) (nowS D)).1 (wgtF k) 12)
      have hrg : nE (bF (comF D) (fS D) (nowS D)).1 (wgtF k) 12 = -1 ∨ (0 ≤ nE (bF (comF D) (fS D) (nowS D)).1 (wgtF k) 12 ∧ nE (bF (comF D) (fS D) (nowS D)).1 (wgtF k) 12 < 2197) := by
        rcases hst with z | z
        · exact Or.inl z
        · exact Or.inr (isSt_lt z.1)
      unfold caR caE
      rw [if_pos hye, if_pos hye]
      generalize nE (bF (comF D) (fS D) (nowS D)).1 (wgtF k) 12 = en at *
      refine ev_istoreL (X := M_X12_can) (pc := 45) (ls' := [_, _, _, _, _]) dX12_can_45 (by decide) rfl ?_
      refine ev_iload (X := M_X12_can) (pc := 47) dX12_can_47 rfl ?_
      refine ev_if_ge (X := M_X12_can) (pc := 49) (tgt := 60) dX12_can_49 (by decide) (by omega) (fun h49 => ?_) (fun h49 => ?_)
      · have hn : ¬ en = -1 := by omega
        rw [if_neg hn, if_neg hn]
        have hM := hW2.2.1 en (hrg.resolve_left hn)
        rw [if_neg (hst.resolve_left hn).2] at hM
        refine ev_iload_n (X := M_X12_can) (pc := 60) dX12_can_60 rfl ?_
        refine ev_if_ne (X := M_X12_can) (pc := 61) (tgt := 74) dX12_can_61 (by decide) (by omega) (fun h61 => ?_) (fun h61 => ?_)
        · rw [if_neg h61]
          refine ev_iload (X := M_X12_can) (pc := 74) dX12_can_74 rfl ?_
          refine ev_iret (X := M_X12_can) (pc := 76) dX12_can_76 rfl ?_
          first
            | exact ⟨rfl, rfl, hS.er 2⟩
            | exact ⟨rfl, rfl, hS⟩
        · rw [if_pos h61]
          refine ev_aload_n (X := M_X12_can) (pc := 64) dX12_can_64 rfl ?_
          refine ev_getRe (X := M_X12_can) (pc := 65) dX12_can_65 fl_X12_25_12 (lO_156 hL) rfl (lR_156_12 hL) ?_
          refine ev_iload (X := M_X12_can) (pc := 68) dX12_can_68 rfl ?_
          refine ev_ialoadE (X := M_X12_can) (pc := 70) dX12_can_70 (lS_162 hL) (by omega) (hM) ?_
          refine ev_goto (X := M_X12_can) (pc := 71) (tgt := 76) dX12_can_71 (by decide) ?_
          refine ev_iret (X := M_X12_can) (pc := 76) dX12_can_76 rfl ?_
          first
            | exact ⟨rfl, rfl, hS.er 2⟩
            | exact ⟨rfl, rfl, hS⟩
      · have hn : en = -1 := by omega
        rw [if_pos hn, if_pos hn]
        refine ev_aload_n (X := M_X12_can) (pc := 52) dX12_can_52 rfl ?_
        refine ev_iconst (X := M_X12_can) (pc := 53) dX12_can_53 ?_
        refine ev_virtR (X := M_X12_can) (Y := M_X12_finds) (pc := 54) (ci := 12) dX12_can_54 mk_X12_finds rfl kw_1092 kw_1094 kp_5 (lO_156 hL) (m_finds hL (by decide)) rfl (by decide) rfl (Nat.le_of_ble_eq_true rfl) (Nat.zero_add _) (Nat.zero_add _) ?_
        refine ev_goto (X := M_X12_can) (pc := 57) (tgt := 76) dX12_can_57 (by decide) ?_
        refine ev_iret (X := M_X12_can) (pc := 76) dX12_can_76 rfl ?_
        first
          | exact ⟨rfl, rfl, hS.er 2⟩
          | exact ⟨rfl, rfl, hS⟩
    · have hno : ¬ ((0 ≤ k ∧ k < 3) ∧ 0 ≤ w ∧ w ≤ 1) := fun z => by rw [if_pos (by omega)] at h14; exact absurd h14 (by decide)
      refine ev_aload_n (X := M_X12_can) (pc := 17) dX12_can_17 rfl ?_
      refine ev_iconst (X := M_X12_can) (pc := 18) dX12_can_18 ?_
      refine ev_virtR (X := M_X12_can) (Y := M_X12_finds) (pc := 19) (ci := 12) dX12_can_19 mk_X12_finds rfl kw_1092 kw_1094 kp_5 (lO_156 hL) (m_finds hL (by decide)) rfl (by decide) rfl (Nat.le_of_ble_eq_true rfl) (Nat.zero_add _) (Nat.zero_add _) ?_
      refine ev_iret (X := M_X12_can) (pc := 22) dX12_can_22 rfl ?_
      unfold caR caE
      rw [if_neg hno, if_neg hno]
      exact ⟨rfl, rfl, (MS.rf hZ).er 1⟩
