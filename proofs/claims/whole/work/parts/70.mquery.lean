/-- behind an act of the reference: what is told, the errors; the rest stands -/
def MW (V : Mm) (D : Int → Int) (k : Int) (W : Mm) : Prop := Z161 W ∧ W 157 = D ∧ W 159 = erK (V 159) k ∧ ∀ c i, ¬ (c = 156 ∧ 4 ≤ i ∧ i ≤ 9) → c ≠ 157 → ¬ (159 ≤ c ∧ c ≤ 172) → W c i = V c i
theorem MW_e {V : Mm} {D : Int → Int} {k : Int} (hZ : Z161 V) (hD : V 157 = D) (hk : k ≠ 0) : MW V D k (wr V 159 k (V 159 k + 1)) :=
  ⟨fun j z => by rw [wr_off (by decide)]; exact hZ j z, by rw [wr_off (by decide)]; exact hD, by rw [wr_row]; unfold erK; rw [if_neg hk], fun c i _ _ z3 => by rw [wr_off (by omega)]⟩
theorem MS.W {V W : Mm} {D : Int → Int} (h : MS V (V 159) W) (hD : V 157 = D) : MW V D 0 W :=
  ⟨h.1, funext fun i => by rw [h.2.2 157 i (by omega) (by omega), hD], h.2.1, fun c i z1 _ z3 => h.2.2 c i z1 z3⟩
theorem MW_mU {V : Mm} {D : Int → Int} {k : Int} (hZ : Z161 V) : MW V D k (mU V D k) :=
  ⟨fun j z => by unfold mU; rw [setr_ne (by decide), setr_ne (by decide)]; exact hZ j z, by unfold mU; rw [setr_ne (by decide), setr_self], by unfold mU; rw [setr_self], fun c i _ z2 z3 => by unfold mU; rw [setr_ne (by omega), setr_ne z2]⟩
def opK (p w : Int) : Int := if (0 ≤ p ∧ p < 6) ∧ 0 ≤ w ∧ w ≤ 7 then 0 else 1
def opX (D : Int → Int) (p w : Int) : Int := if w = 0 then D (3 + p) else if w = 1 then D (9 + p) else if w = 2 then D (15 + p) else if w = 3 then (if nx (comF D) (fS D) (nowS D) p = -1 then 0 else 1) else if w = 4 then many (comF D) p else cmI D p (w - 5)
theorem m_ofPair {γ : Gh} {K : Sk} {V : Mm} {D : Int → Int} (h : MQy K V D) {p w : Int} (hp : R32 p) (hw : R32 w) : Call γ M_X12_ofPair 42 0 0 [vR 156, vI p, vI w] K V (Qx (some (vI (aR (opK p w) (opX D p w)))) K (MW V D (opK p w))) := by
  refine call_of (by decide +kernel) (by intro v hv; simp only [List.mem_cons, List.not_mem_nil, or_false] at hv; rcases hv with rfl | rfl | rfl <;> exact fun q => by cases q) (Nat.le_of_ble_eq_true rfl) ?_
  refine ev_lsE (ls' := [_, _, _]) rfl ?_
  obtain ⟨hL, hD, hct, hK, hF, hZ⟩ := h
  have hC := comF_wf hK
  have hs0 := nowS_st hct
  have hsl := isSt_lt hs0
  refine ev_iload_n (X := M_X12_ofPair) (pc := 0) dX12_ofPair_0 rfl ?_
  refine ev_staticR (X := M_X12_ofPair) (Y := M_X12_isPair) (pc := 1) dX12_ofPair_1 mk_X12_isPair kw_1183 kw_1184 (m_isPair hp) rfl (by decide) rfl (Nat.le_of_ble_eq_true rfl) (Nat.zero_add _) (Nat.zero_add _) ?_
  refine ev_if_eq (X := M_X12_ofPair) (pc := 4) (tgt := 19) dX12_ofPair_4 (by decide) (by split <;> decide) (fun h4 => ?_) (fun h4 => ?_)
  · have hk : opK p w = 1 := by unfold opK; rw [if_neg (fun z => by rw [if_pos (by omega)] at h4; exact absurd h4 (by decide))]
    refine ev_aload_n (X := M_X12_ofPair) (pc := 19) dX12_ofPair_19 rfl ?_
    refine ev_iconst (X := M_X12_ofPair) (pc := 20) dX12_ofPair_20 ?_
    refine ev_virtR (X := M_X12_ofPair) (Y := M_X12_finds) (pc := 21) (ci := 12) dX12_ofPair_21 mk_X12_finds rfl kw_1092 kw_1094 kp_5 (lO_156 hL) (m_finds hL (by decide)) rfl (by decide) rfl (Nat.le_of_ble_eq_true rfl) (Nat.zero_add _) (Nat.zero_add _) ?_
    refine ev_iret (X := M_X12_ofPair) (pc := 24) dX12_ofPair_24 rfl ?_
    rw [hk]
    exact ⟨rfl, rfl, MW_e hZ hD (by decide)⟩
  · have hs3 : 0 ≤ p ∧ p ≤ 5 := Decidable.byContradiction fun z => h4 (by rw [if_neg z])
    refine ev_iload_n (X := M_X12_ofPair) (pc := 7) dX12_ofPair_7 rfl ?_
    refine ev_i2l (X := M_X12_ofPair) (pc := 8) dX12_ofPair_8 (by omega) ?_
    refine ev_lconst (X := M_X12_ofPair) (pc := 9) (v := 0) dX12_ofPair_9 (by decide) ?_
    refine ev_ldc2 (X := M_X12_ofPair) (pc := 10) (v := 7) dX12_ofPair_10 kw_1196 (by decide) ?_
    refine ev_staticR (X := M_X12_ofPair) (Y := M_X12_in) (pc := 13) dX12_ofPair_13 mk_X12_in kw_1089 kw_1090 (m_in (by omega) (by decide) (by decide)) rfl (by decide) rfl (Nat.le_of_ble_eq_true rfl) (Nat.zero_add _) (Nat.zero_add _) ?_
    refine ev_if_ne (X := M_X12_ofPair) (pc := 16) (tgt := 25) dX12_ofPair_16 (by decide) (by split <;> decide) (fun h16 => ?_) (fun h16 => ?_)
    · have hv3 : 0 ≤ w ∧ w ≤ 7 := Decidable.byContradiction fun z => h16 (by rw [if_neg z])
      have hk : opK p w = 0 := by unfold opK; rw [if_pos (by omega)]
      have hp6 : 0 ≤ p ∧ p < 6 := by omega
      refine ev_aload_n (X := M_X12_ofPair) (pc := 25) dX12_ofPair_25 rfl ?_
      refine ev_virtY (X := M_X12_ofPair) (Y := M_X12_findAll) (pc := 26) (ci := 12) dX12_ofPair_26 mk_X12_findAll rfl kw_1197 kw_1199 kp_19 (lO_156 hL) (m_findAll hL hD hK hZ) rfl (by decide) rfl (Nat.le_of_ble_eq_true rfl) (Nat.zero_add _) (Nat.zero_add _) (fun W1 hW1 => ?_)
      have hD1 : W1 157 = D := by rw [hW1.1.row (by decide) (by decide) (by decide)]; exact hD
      have hC1 := hW1.2
      have hMW : MW V D 0 W1 := (MS.com hW1.1 hW1.2).W hD
      rw [hk]
      have hnn := nx_ne (F := fS D) hC hp6 hs0
      refine ev_iload_n (X := M_X12_ofPair) (pc := 29) dX12_ofPair_29 rfl ?_
      rcases (show w = 0 ∨ w = 1 ∨ w = 2 ∨ w = 3 ∨ w = 4 ∨ (w < 0 ∨ 4 < w) by omega) with h30 | h30 | h30 | h30 | h30 | h30
      · refine ev_tableIn (X := M_X12_ofPair) (pc := 30) (off := 34) (tgt := 64) dX12_ofPair_30 (by omega) (by omega) (by omega) (by rw [h30]; rfl) (by decide) ?_
        refine ev_aload_n (X := M_X12_ofPair) (pc := 64) dX12_ofPair_64 rfl ?_
        refine ev_getRe (X := M_X12_ofPair) (pc := 65) dX12_ofPair_65 fl_X12_7_12 (lO_156 hL) rfl (lR_156_0 hL) ?_
        refine ev_iconst (X := M_X12_ofPair) (pc := 68) dX12_ofPair_68 ?_
        refine ev_iload_n (X := M_X12_ofPair) (pc := 69) dX12_ofPair_69 rfl ?_
        refine ev_iadd (X := M_X12_ofPair) (pc := 70) dX12_ofPair_70 ?_
        refine ev_ialoadE (X := M_X12_ofPair) (pc := 71) dX12_ofPair_71 (lS_157 hL) (by omega) (congrFun hD1 _) ?_
        refine ev_iret (X := M_X12_ofPair) (pc := 72) dX12_ofPair_72 rfl ?_
        refine ⟨congrArg (fun z => some (vI z)) ?_, rfl, hMW⟩
        show _ = opX D p w
        first
          | (rw [h30]; exact hx.symm)
          | (rw [h30]; rfl)
          | (obtain ⟨e0, e1, e2⟩ := comF_at (D := D) hp6
             unfold opX
             rw [if_neg (by omega), if_neg (by omega), if_neg (by omega), if_neg (by omega), if_neg (by omega)]
             rcases (show w = 5 ∨ w = 6 ∨ w = 7 by omega) with z | z | z <;> subst z
             · rw [show 3 * p + 5 - 5 = 3 * p by omega]; exact e0
             · rw [show 3 * p + 6 - 5 = 3 * p + 1 by omega]; exact e1
             · rw [show 3 * p + 7 - 5 = 3 * p + 2 by omega]; exact e2)
      · refine ev_tableIn (X := M_X12_ofPair) (pc := 30) (off := 43) (tgt := 73) dX12_ofPair_30 (by omega) (by omega) (by omega) (by rw [h30]; rfl) (by decide) ?_
        refine ev_aload_n (X := M_X12_ofPair) (pc := 73) dX12_ofPair_73 rfl ?_
        refine ev_getRe (X := M_X12_ofPair) (pc := 74) dX12_ofPair_74 fl_X12_7_12 (lO_156 hL) rfl (lR_156_0 hL) ?_
        refine ev_bipush (X := M_X12_ofPair) (pc := 77) dX12_ofPair_77 (by decide) ?_
        refine ev_iload_n (X := M_X12_ofPair) (pc := 79) dX12_ofPair_79 rfl ?_
        refine ev_iadd (X := M_X12_ofPair) (pc := 80) dX12_ofPair_80 ?_
        refine ev_ialoadE (X := M_X12_ofPair) (pc := 81) dX12_ofPair_81 (lS_157 hL) (by omega) (congrFun hD1 _) ?_
        refine ev_iret (X := M_X12_ofPair) (pc := 82) dX12_ofPair_82 rfl ?_
        refine ⟨congrArg (fun z => some (vI z)) ?_, rfl, hMW⟩
        show _ = opX D p w
        first
          | (rw [h30]; exact hx.symm)
          | (rw [h30]; rfl)
          | (obtain ⟨e0, e1, e2⟩ := comF_at (D := D) hp6
             unfold opX
             rw [if_neg (by omega), if_neg (by omega), if_neg (by omega), if_neg (by omega), if_neg (by omega)]
             rcases (show w = 5 ∨ w = 6 ∨ w = 7 by omega) with z | z | z <;> subst z
             · rw [show 3 * p + 5 - 5 = 3 * p by omega]; exact e0
             · rw [show 3 * p + 6 - 5 = 3 * p + 1 by omega]; exact e1
             · rw [show 3 * p + 7 - 5 = 3 * p + 2 by omega]; exact e2)
      · refine ev_tableIn (X := M_X12_ofPair) (pc := 30) (off := 53) (tgt := 83) dX12_ofPair_30 (by omega) (by omega) (by omega) (by rw [h30]; rfl) (by decide) ?_
        refine ev_aload_n (X := M_X12_ofPair) (pc := 83) dX12_ofPair_83 rfl ?_
        refine ev_getRe (X := M_X12_ofPair) (pc := 84) dX12_ofPair_84 fl_X12_7_12 (lO_156 hL) rfl (lR_156_0 hL) ?_
        refine ev_bipush (X := M_X12_ofPair) (pc := 87) dX12_ofPair_87 (by decide) ?_
        refine ev_iload_n (X := M_X12_ofPair) (pc := 89) dX12_ofPair_89 rfl ?_
        refine ev_iadd (X := M_X12_ofPair) (pc := 90) dX12_ofPair_90 ?_
        refine ev_ialoadE (X := M_X12_ofPair) (pc := 91) dX12_ofPair_91 (lS_157 hL) (by omega) (congrFun hD1 _) ?_
        refine ev_iret (X := M_X12_ofPair) (pc := 92) dX12_ofPair_92 rfl ?_
        refine ⟨congrArg (fun z => some (vI z)) ?_, rfl, hMW⟩
        show _ = opX D p w
        first
          | (rw [h30]; exact hx.symm)
          | (rw [h30]; rfl)
          | (obtain ⟨e0, e1, e2⟩ := comF_at (D := D) hp6
             unfold opX
             rw [if_neg (by omega), if_neg (by omega), if_neg (by omega), if_neg (by omega), if_neg (by omega)]
             rcases (show w = 5 ∨ w = 6 ∨ w = 7 by omega) with z | z | z <;> subst z
             · rw [show 3 * p + 5 - 5 = 3 * p by omega]; exact e0
             · rw [show 3 * p + 6 - 5 = 3 * p + 1 by omega]; exact e1
             · rw [show 3 * p + 7 - 5 = 3 * p + 2 by omega]; exact e2)
      · refine ev_tableIn (X := M_X12_ofPair) (pc := 30) (off := 63) (tgt := 93) dX12_ofPair_30 (by omega) (by omega) (by omega) (by rw [h30]; rfl) (by decide) ?_
        refine ev_aload_n (X := M_X12_ofPair) (pc := 93) dX12_ofPair_93 rfl ?_
        refine ev_aload_n (X := M_X12_ofPair) (pc := 94) dX12_ofPair_94 rfl ?_
        refine ev_virtR (X := M_X12_ofPair) (Y := M_X12_now) (pc := 95) (ci := 12) dX12_ofPair_95 mk_X12_now rfl kw_1168 kw_1170 kp_18 (lO_156 hL) (m_nowE hL hD1) rfl (by decide) rfl (Nat.le_of_ble_eq_true rfl) (Nat.zero_add _) (Nat.zero_add _) ?_
        refine ev_iload_n (X := M_X12_ofPair) (pc := 98) dX12_ofPair_98 rfl ?_
        refine ev_aload_n (X := M_X12_ofPair) (pc := 99) dX12_ofPair_99 rfl ?_
        refine ev_virtR (X := M_X12_ofPair) (Y := M_X12_fencedNow) (pc := 100) (ci := 12) dX12_ofPair_100 mk_X12_fencedNow rfl kw_1215 kw_1217 kp_22 (lO_156 hL) (m_fencedE hL hD1 hF) rfl (by decide) rfl (Nat.le_of_ble_eq_true rfl) (Nat.zero_add _) (Nat.zero_add _) ?_
        refine ev_virtR (X := M_X12_ofPair) (Y := M_X12_mayMeet) (pc := 103) (ci := 12) dX12_ofPair_103 mk_X12_mayMeet rfl kw_1219 kw_1221 kp_23 (lO_156 hL) (m_mayMeet hL hC hC1 hp6 hsl (fS_r hF)) rfl (by decide) rfl (Nat.le_of_ble_eq_true rfl) (Nat.zero_add _) (Nat.zero_add _) ?_
        refine ev_if_eq (X := M_X12_ofPair) (pc := 106) (tgt := 113) dX12_ofPair_106 (by decide) (by split <;> decide) (fun h106 => ?_) (fun h106 => ?_)
        · have hx : opX D p 3 = 0 := by
            show (if nx (comF D) (fS D) (nowS D) p = -1 then (0 : Int) else 1) = 0
            rw [if_pos]
            exact Decidable.byContradiction fun z => by rw [if_pos (hnn.mp z)] at h106; exact absurd h106 (by decide)
          refine ev_iconst (X := M_X12_ofPair) (pc := 113) dX12_ofPair_113 ?_
          refine ev_iret (X := M_X12_ofPair) (pc := 114) dX12_ofPair_114 rfl ?_
          refine ⟨congrArg (fun z => some (vI z)) ?_, rfl, hMW⟩
          show _ = opX D p w
          first
            | (rw [h30]; exact hx.symm)
            | (rw [h30]; rfl)
            | (obtain ⟨e0, e1, e2⟩ := comF_at (D := D) hp6
               unfold opX
               rw [if_neg (by omega), if_neg (by omega), if_neg (by omega), if_neg (by omega), if_neg (by omega)]
               rcases (show w = 5 ∨ w = 6 ∨ w = 7 by omega) with z | z | z <;> subst z
               · rw [show 3 * p + 5 - 5 = 3 * p by omega]; exact e0
               · rw [show 3 * p + 6 - 5 = 3 * p + 1 by omega]; exact e1
               · rw [show 3 * p + 7 - 5 = 3 * p + 2 by omega]; exact e2)
        · have hx : opX D p 3 = 1 := by
            show (if nx (comF D) (fS D) (nowS D) p = -1 then (0 : Int) else 1) = 1
            rw [if_neg]
            exact hnn.mpr (Decidable.byContradiction fun z => h106 (by rw [if_neg z]))
          refine ev_iconst (X := M_X12_ofPair) (pc := 109) dX12_ofPair_109 ?_
          refine ev_goto (X := M_X12_ofPair) (pc := 110) (tgt := 114) dX12_ofPair_110 (by decide) ?_
          refine ev_iret (X := M_X12_ofPair) (pc := 114) dX12_ofPair_114 rfl ?_
          refine ⟨congrArg (fun z => some (vI z)) ?_, rfl, hMW⟩
          show _ = opX D p w
          first
            | (rw [h30]; exact hx.symm)
            | (rw [h30]; rfl)
            | (obtain ⟨e0, e1, e2⟩ := comF_at (D := D) hp6
               unfold opX
               rw [if_neg (by omega), if_neg (by omega), if_neg (by omega), if_neg (by omega), if_neg (by omega)]
               rcases (show w = 5 ∨ w = 6 ∨ w = 7 by omega) with z | z | z <;> subst z
               · rw [show 3 * p + 5 - 5 = 3 * p by omega]; exact e0
               · rw [show 3 * p + 6 - 5 = 3 * p + 1 by omega]; exact e1
               · rw [show 3 * p + 7 - 5 = 3 * p + 2 by omega]; exact e2)
      · refine ev_tableIn (X := M_X12_ofPair) (pc := 30) (off := 85) (tgt := 115) dX12_ofPair_30 (by omega) (by omega) (by omega) (by rw [h30]; rfl) (by decide) ?_
        refine ev_aload_n (X := M_X12_ofPair) (pc := 115) dX12_ofPair_115 rfl ?_
        refine ev_iload_n (X := M_X12_ofPair) (pc := 116) dX12_ofPair_116 rfl ?_
        refine ev_virtR (X := M_X12_ofPair) (Y := M_X12_manyOf) (pc := 117) (ci := 12) dX12_ofPair_117 mk_X12_manyOf rfl kw_1226 kw_1228 kp_24 (lO_156 hL) (m_manyOf hL hC hC1 hp6) rfl (by decide) rfl (Nat.le_of_ble_eq_true rfl) (Nat.zero_add _) (Nat.zero_add _) ?_
        refine ev_iret (X := M_X12_ofPair) (pc := 120) dX12_ofPair_120 rfl ?_
        refine ⟨congrArg (fun z => some (vI z)) ?_, rfl, hMW⟩
        show _ = opX D p w
        first
          | (rw [h30]; exact hx.symm)
          | (rw [h30]; rfl)
          | (obtain ⟨e0, e1, e2⟩ := comF_at (D := D) hp6
             unfold opX
             rw [if_neg (by omega), if_neg (by omega), if_neg (by omega), if_neg (by omega), if_neg (by omega)]
             rcases (show w = 5 ∨ w = 6 ∨ w = 7 by omega) with z | z | z <;> subst z
             · rw [show 3 * p + 5 - 5 = 3 * p by omega]; exact e0
             · rw [show 3 * p + 6 - 5 = 3 * p + 1 by omega]; exact e1
             · rw [show 3 * p + 7 - 5 = 3 * p + 2 by omega]; exact e2)
      · refine ev_tableOut (X := M_X12_ofPair) (pc := 30) (tgt := 121) dX12_ofPair_30 (by omega) (by omega) (by decide) ?_
        refine ev_aload_n (X := M_X12_ofPair) (pc := 121) dX12_ofPair_121 rfl ?_
        refine ev_getRe (X := M_X12_ofPair) (pc := 122) dX12_ofPair_122 fl_X12_22_12 (lO_156 hL) rfl (lR_156_11 hL) ?_
        refine ev_iconst (X := M_X12_ofPair) (pc := 125) dX12_ofPair_125 ?_
        refine ev_iload_n (X := M_X12_ofPair) (pc := 126) dX12_ofPair_126 rfl ?_
        refine ev_imul (X := M_X12_ofPair) (pc := 127) dX12_ofPair_127 ?_
        refine ev_iload_n (X := M_X12_ofPair) (pc := 128) dX12_ofPair_128 rfl ?_
        refine ev_iadd (X := M_X12_ofPair) (pc := 129) dX12_ofPair_129 ?_
        refine ev_iconst (X := M_X12_ofPair) (pc := 130) dX12_ofPair_130 ?_
        refine ev_isub (X := M_X12_ofPair) (pc := 131) dX12_ofPair_131 ?_
        refine ev_ialoadE (X := M_X12_ofPair) (pc := 132) dX12_ofPair_132 (lS_161 hL) (by omega) (congrFun hC1 _) ?_
        refine ev_iret (X := M_X12_ofPair) (pc := 133) dX12_ofPair_133 rfl ?_
        refine ⟨congrArg (fun z => some (vI z)) ?_, rfl, hMW⟩
        show _ = opX D p w
        first
          | (rw [h30]; exact hx.symm)
          | (rw [h30]; rfl)
          | (obtain ⟨e0, e1, e2⟩ := comF_at (D := D) hp6
             unfold opX
             rw [if_neg (by omega), if_neg (by omega), if_neg (by omega), if_neg (by omega), if_neg (by omega)]
             rcases (show w = 5 ∨ w = 6 ∨ w = 7 by omega) with z | z | z <;> subst z
             · rw [show 3 * p + 5 - 5 = 3 * p by omega]; exact e0
             · rw [show 3 * p + 6 - 5 = 3 * p + 1 by omega]; exact e1
             · rw [show 3 * p + 7 - 5 = 3 * p + 2 by omega]; exact e2)
    · have hk : opK p w = 1 := by unfold opK; rw [if_neg (fun z => by rw [if_pos (by omega)] at h16; exact absurd h16 (by decide))]
      refine ev_aload_n (X := M_X12_ofPair) (pc := 19) dX12_ofPair_19 rfl ?_
      refine ev_iconst (X := M_X12_ofPair) (pc := 20) dX12_ofPair_20 ?_
      refine ev_virtR (X := M_X12_ofPair) (Y := M_X12_finds) (pc := 21) (ci := 12) dX12_ofPair_21 mk_X12_finds rfl kw_1092 kw_1094 kp_5 (lO_156 hL) (m_finds hL (by decide)) rfl (by decide) rfl (Nat.le_of_ble_eq_true rfl) (Nat.zero_add _) (Nat.zero_add _) ?_
      refine ev_iret (X := M_X12_ofPair) (pc := 24) dX12_ofPair_24 rfl ?_
      rw [hk]
      exact ⟨rfl, rfl, MW_e hZ hD (by decide)⟩
theorem m_comesOf {γ : Gh} {K : Sk} {V : Mm} (hL : Lay K) {D C : Int → Int} (hD : V 157 = D) (hF : wfF D) (hC : wfC C) (hC1 : V 161 = C) {s t : Int} (hs : isSt s) (ht : R32 t) : Call γ M_X12_comesOf 2 0 0 [vR 156, vI s, vI t] K V (Rt (some (vI (if 0 ≤ t ∧ lds C (fS D) s t then 1 else 0))) K V) := by
  refine call_of (by decide +kernel) (by intro v hv; simp only [List.mem_cons, List.not_mem_nil, or_false] at hv; rcases hv with rfl | rfl | rfl <;> exact fun q => by cases q) (Nat.le_of_ble_eq_true rfl) ?_
  refine ev_lsE (ls' := [_, _, _, _]) rfl ?_
  have hsl := isSt_lt hs
  refine ev_iconst (X := M_X12_comesOf) (pc := 0) dX12_comesOf_0 ?_
  refine ev_istore_nL (X := M_X12_comesOf) (pc := 1) (ls' := [_, _, _, _]) dX12_comesOf_1 (by decide) rfl ?_
  refine ev_weak (ev_countI 6 0 (fun i => ∀ p, 0 ≤ p → p < i → ¬ (0 ≤ t ∧ nx C (fS D) s p = t)) (fun i => [vR 156, vI s, vI t, vI i]) (by decide) (fun p h0 h1 => by omega) ?_) ⟨rfl, rfl, rfl, rfl, trivial⟩
  intro p p0 p1 hI ih
  refine ev_iload_n (X := M_X12_comesOf) (pc := 2) dX12_comesOf_2 rfl ?_
  refine ev_bipush (X := M_X12_comesOf) (pc := 3) dX12_comesOf_3 (by decide) ?_
  refine ev_icmp_ge (X := M_X12_comesOf) (pc := 5) (tgt := 39) dX12_comesOf_5 (by decide) (by omega) (by omega) (fun h5 => ?_) (fun h5 => ?_)
  · refine ev_iconst (X := M_X12_comesOf) (pc := 39) dX12_comesOf_39 ?_
    refine ev_bret (X := M_X12_comesOf) (pc := 40) dX12_comesOf_40 rfl (by decide) ?_
    refine ⟨?_, rfl, rfl⟩
    rw [if_neg]
    rintro ⟨z1, z2⟩
    exact lds_no (fun p h0 h1 => fun y => hI p h0 (by omega) ⟨z1, y⟩) z2
  · have hp6 : 0 ≤ p ∧ p < 6 := by omega
    have hnn := nx_ne (F := fS D) hC hp6 hs
    refine ev_aload_n (X := M_X12_comesOf) (pc := 8) dX12_comesOf_8 rfl ?_
    refine ev_iload_n (X := M_X12_comesOf) (pc := 9) dX12_comesOf_9 rfl ?_
    refine ev_iload_n (X := M_X12_comesOf) (pc := 10) dX12_comesOf_10 rfl ?_
    refine ev_aload_n (X := M_X12_comesOf) (pc := 11) dX12_comesOf_11 rfl ?_
    refine ev_virtR (X := M_X12_comesOf) (Y := M_X12_fencedNow) (pc := 12) (ci := 12) dX12_comesOf_12 mk_X12_fencedNow rfl kw_1215 kw_1217 kp_22 (lO_156 hL) (m_fencedE hL hD hF) rfl (by decide) rfl (Nat.le_of_ble_eq_true rfl) (Nat.zero_add _) (Nat.zero_add _) ?_
    refine ev_virtR (X := M_X12_comesOf) (Y := M_X12_mayMeet) (pc := 15) (ci := 12) dX12_comesOf_15 mk_X12_mayMeet rfl kw_1219 kw_1221 kp_23 (lO_156 hL) (m_mayMeet hL hC hC1 hp6 hsl (fS_r hF)) rfl (by decide) rfl (Nat.le_of_ble_eq_true rfl) (Nat.zero_add _) (Nat.zero_add _) ?_
    refine ev_if_eq (X := M_X12_comesOf) (pc := 18) (tgt := 33) dX12_comesOf_18 (by decide) (by split <;> decide) (fun h18 => ?_) (fun h18 => ?_)
    · have hm : ¬ may C (fS D) s p := fun z => by rw [if_pos z] at h18; exact absurd h18 (by decide)
      have hno : ¬ (0 ≤ t ∧ nx C (fS D) s p = t) := fun z => by
        have : nx C (fS D) s p = -1 := by unfold nx; rw [if_neg hm]
        omega
      refine ev_iincL (X := M_X12_comesOf) (pc := 33) (ls' := [_, _, _, _]) dX12_comesOf_33 rfl (by decide) rfl ?_
      refine ev_goto (X := M_X12_comesOf) (pc := 36) (tgt := 2) dX12_comesOf_36 (by decide) ?_
      refine ev_weak (ih (by omega) (fun q h0 h1 => ?_)) ⟨rfl, rfl, rfl, rfl, trivial⟩
      by_cases z : q = p
      · rw [z]; exact hno
      · exact hI q h0 (by omega)
    · have hm : may C (fS D) s p := Decidable.byContradiction fun z => h18 (by rw [if_neg z])
      have hnx : nx C (fS D) s p = aft C s p := by unfold nx; rw [if_pos hm]
      have hns := isSt_lt (nx_st hC hp6 hs (hnn.mpr hm))
      rw [hnx] at hns
      refine ev_aload_n (X := M_X12_comesOf) (pc := 21) dX12_comesOf_21 rfl ?_
      refine ev_iload_n (X := M_X12_comesOf) (pc := 22) dX12_comesOf_22 rfl ?_
      refine ev_iload_n (X := M_X12_comesOf) (pc := 23) dX12_comesOf_23 rfl ?_
      refine ev_virtR (X := M_X12_comesOf) (Y := M_X12_after) (pc := 24) (ci := 12) dX12_comesOf_24 mk_X12_after rfl kw_1248 kw_1250 kp_26 (lO_156 hL) (m_after hL hC hC1 hp6) rfl (by decide) rfl (Nat.le_of_ble_eq_true rfl) (Nat.zero_add _) (Nat.zero_add _) ?_
      refine ev_iload_n (X := M_X12_comesOf) (pc := 27) dX12_comesOf_27 rfl ?_
      refine ev_icmp_ne (X := M_X12_comesOf) (pc := 28) (tgt := 33) dX12_comesOf_28 (by decide) (by omega) (by omega) (fun h28 => ?_) (fun h28 => ?_)
      · have hno : ¬ (0 ≤ t ∧ nx C (fS D) s p = t) := fun z => h28 (by rw [← hnx]; exact z.2)
        refine ev_iincL (X := M_X12_comesOf) (pc := 33) (ls' := [_, _, _, _]) dX12_comesOf_33 rfl (by decide) rfl ?_
        refine ev_goto (X := M_X12_comesOf) (pc := 36) (tgt := 2) dX12_comesOf_36 (by decide) ?_
        refine ev_weak (ih (by omega) (fun q h0 h1 => ?_)) ⟨rfl, rfl, rfl, rfl, trivial⟩
        by_cases z : q = p
        · rw [z]; exact hno
        · exact hI q h0 (by omega)
      · have hye : 0 ≤ t ∧ lds C (fS D) s t := ⟨by omega, lds_of hp6 (by rw [hnx]; exact h28)⟩
        refine ev_iconst (X := M_X12_comesOf) (pc := 31) dX12_comesOf_31 ?_
        refine ev_bret (X := M_X12_comesOf) (pc := 32) dX12_comesOf_32 rfl (by decide) ?_
        exact ⟨by rw [if_pos hye], rfl, rfl⟩
/-- the place of the first that doesn't come -/
def ckG (C : Int → Int) (F : Int) (f : Int → Int) (n : Int) : Nat → Int → Int → Int
  | 0, _, _ => 0
  | m + 1, s, i => if 0 ≤ f i ∧ lds C F s (f i) then ckG C F f n m (f i) (i + 1) else 1 + i
theorem lds_st {C : Int → Int} {F s t : Int} (hC : wfC C) (hs : isSt s) (h : 0 ≤ t ∧ lds C F s t) : isSt t := by
  have key : ∀ p, 0 ≤ p → p < 6 → nx C F s p = t → isSt t := fun p h0 h1 z => by
    rw [← z]
    exact nx_st hC ⟨h0, h1⟩ hs (by rw [z]; omega)
  rcases h.2 with z | z | z | z | z | z
  · exact key 0 (by decide) (by decide) z
  · exact key 1 (by decide) (by decide) z
  · exact key 2 (by decide) (by decide) z
  · exact key 3 (by decide) (by decide) z
  · exact key 4 (by decide) (by decide) z
  · exact key 5 (by decide) (by decide) z
theorem comF_cg {D D' : Int → Int} (h : ∀ i, (3 ≤ i ∧ i < 15) ∨ i = 26 ∨ (48 ≤ i ∧ i < 98) → D' i = D i) (h6 : D 26 ≤ 50) : comF D' = comF D := by
  have t1 : D' 26 = D 26 := h 26 (by omega)
  have t2 : tfD D' 0 = tfD D 0 := by
    unfold tfD
    rw [show D' (26 + 0) = D (26 + 0) from t1]
    exact rs_eq (fun i h0 h1 => by have : i < D 26 := h1; exact h _ (by omega))
  have hg : ∀ a b c d, giv D' 0 a b c d = giv D 0 a b c d := fun a b c d => by
    unfold giv gvv
    rw [show D' (26 + 0) = D (26 + 0) from t1, t2]
  have hp3 : ∀ p, 0 ≤ p → p < 6 → D' (3 + p) = D (3 + p) := fun p h0 h1 => h _ (by omega)
  have hp9 : ∀ p, 0 ≤ p → p < 6 → D' (9 + p) = D (9 + p) := fun p h0 h1 => h _ (by omega)
  funext j
  unfold comF
  by_cases z : 0 ≤ j ∧ j < 18
  · rw [if_pos z, if_pos z]
    unfold cm0 cm1 cm2
    rw [hp3 (j / 3) (by omega) (by omega), hp9 (j / 3) (by omega) (by omega), hg]
  · rw [if_neg z, if_neg z]
theorem fS_cg {D D' : Int → Int} (h : ∀ i, 15 ≤ i → i < 21 → D' i = D i) : fS D' = fS D := by
  unfold fS
  rw [h 15 (by omega) (by omega), h 16 (by omega) (by omega), h 17 (by omega) (by omega), h 18 (by omega) (by omega), h 19 (by omega) (by omega), h 20 (by omega) (by omega)]
theorem Kds_cg {D D' : Int → Int} (h : ∀ i, (3 ≤ i ∧ i < 15) ∨ i = 26 ∨ (48 ≤ i ∧ i < 98) → D' i = D i) (hK : Kds D) : Kds D' := by
  have t1 : D' (26 + 0) = D (26 + 0) := h 26 (by omega)
  have t0 : 0 ≤ D (26 + 0) ∧ D (26 + 0) ≤ 50 := hK.2.1
  have t2 : tfD D' 0 = tfD D 0 := by
    unfold tfD
    rw [t1]
    exact rs_eq (fun i h0 h1 => h _ (by omega))
  refine ⟨fun p h0 h1 => ?_, by rw [t1]; exact hK.2.1, fun z => ?_⟩
  · rw [h (3 + p) (by omega), h (9 + p) (by omega)]
    exact hK.1 p h0 h1
  · rw [t1] at z ⊢
    rw [t2]
    obtain ⟨a, b⟩ := hK.2.2 z
    refine ⟨a, fun i i0 i1 => ?_⟩
    rw [h (48 + 50 * 0 + i) (by omega)]
    exact b i i0 i1
theorem m_check {γ : Gh} {K : Sk} {V : Mm} {D : Int → Int} (h : MQy K V D) (h25 : 0 ≤ D 25 ∧ D 25 ≤ 20) (hwt : ∀ i, 0 ≤ i → i < D 25 → R32 (D (28 + i))) : Call γ M_X12_check 42 0 0 [vR 156] K V (Qx (some (vI (ckG (comF D) (fS D) (fun i => D (28 + i)) (D 25) (D 25).toNat (nowS D) 0))) K (MW V (up D 25 0) 0)) := by
  refine call_of (by decide +kernel) (by intro v hv; simp only [List.mem_cons, List.not_mem_nil, or_false] at hv; rcases hv with rfl <;> exact fun q => by cases q) (Nat.le_of_ble_eq_true rfl) ?_
  refine ev_lsE (ls' := [_, _, _, _]) rfl ?_
  obtain ⟨hL, hD, hct, hK, hF, hZ⟩ := h
  have hC := comF_wf hK
  have hs0 := nowS_st hct
  have t0 : 0 ≤ D (26 + 0) ∧ D (26 + 0) ≤ 50 := hK.2.1
  have hup : ∀ i, i ≠ 25 → up D 25 0 i = D i := fun i z => up_ne z
  have hK2 : Kds (up D 25 0) := Kds_cg (fun i z => hup i (by omega)) hK
  have hc2 : comF (up D 25 0) = comF D := comF_cg (fun i z => hup i (by omega)) t0.2
  have hf2 : fS (up D 25 0) = fS D := fS_cg (fun i _ _ => hup i (by omega))
  have hF2 : wfF (up D 25 0) := fun p hp => by rw [hup _ (by omega)]; exact hF p hp
  have hn2 : nowS (up D 25 0) = nowS D := rfl
  have hd25 := congrFun hD 25
  have hD0 : wr V 157 25 0 157 = up D 25 0 := by rw [wr_row, hD]
  have hZ0 : Z161 (wr V 157 25 0) := fun j z => by rw [wr_off (by decide)]; exact hZ j z
  refine ev_aload_n (X := M_X12_check) (pc := 0) dX12_check_0 rfl ?_
  refine ev_getRe (X := M_X12_check) (pc := 1) dX12_check_1 fl_X12_7_12 (lO_156 hL) rfl (lR_156_0 hL) ?_
  refine ev_bipush (X := M_X12_check) (pc := 4) dX12_check_4 (by decide) ?_
  refine ev_ialoadE (X := M_X12_check) (pc := 6) dX12_check_6 (lS_157 hL) (by omega) (hd25) ?_
  refine ev_istore_nL (X := M_X12_check) (pc := 7) (ls' := [_, _, _, _]) dX12_check_7 (by decide) rfl ?_
  refine ev_aload_n (X := M_X12_check) (pc := 8) dX12_check_8 rfl ?_
  refine ev_getRe (X := M_X12_check) (pc := 9) dX12_check_9 fl_X12_7_12 (lO_156 hL) rfl (lR_156_0 hL) ?_
  refine ev_bipush (X := M_X12_check) (pc := 12) dX12_check_12 (by decide) ?_
  refine ev_iconst (X := M_X12_check) (pc := 14) dX12_check_14 ?_
  refine ev_iastore (X := M_X12_check) (pc := 15) dX12_check_15 (by decide) (lS_157 hL) (by omega) ?_
  refine ev_aload_n (X := M_X12_check) (pc := 16) dX12_check_16 rfl ?_
  refine ev_virtY (X := M_X12_check) (Y := M_X12_findAll) (pc := 17) (ci := 12) dX12_check_17 mk_X12_findAll rfl kw_1197 kw_1199 kp_19 (lO_156 hL) (m_findAll hL hD0 hK2 hZ0) rfl (by decide) rfl (Nat.le_of_ble_eq_true rfl) (Nat.zero_add _) (Nat.zero_add _) (fun W1 hW1 => ?_)
  have hD1 : W1 157 = up D 25 0 := by rw [hW1.1.row (by decide) (by decide) (by decide)]; exact hD0
  have hC1 : W1 161 = comF D := by rw [hW1.2, hc2]
  have hMW : MW V (up D 25 0) 0 W1 := by
    obtain ⟨a1, a2, a3⟩ := MS.com hW1.1 hW1.2
    refine ⟨a1, hD1, by rw [a2, wr_off (by decide)]; rfl, fun c i z1 z2 z3 => ?_⟩
    rw [a3 c i z1 z3, wr_off z2]
  clear hW1
  refine ev_aload_n (X := M_X12_check) (pc := 20) dX12_check_20 rfl ?_
  refine ev_virtR (X := M_X12_check) (Y := M_X12_now) (pc := 21) (ci := 12) dX12_check_21 mk_X12_now rfl kw_1168 kw_1170 kp_18 (lO_156 hL) (m_nowE hL hD1) rfl (by decide) rfl (Nat.le_of_ble_eq_true rfl) (Nat.zero_add _) (Nat.zero_add _) ?_
  rw [hn2]
  refine ev_istore_nL (X := M_X12_check) (pc := 24) (ls' := [_, _, _, _]) dX12_check_24 (by decide) rfl ?_
  refine ev_iconst (X := M_X12_check) (pc := 25) dX12_check_25 ?_
  refine ev_istore_nL (X := M_X12_check) (pc := 26) (ls' := [_, _, _, _]) dX12_check_26 (by decide) rfl ?_
  obtain ⟨G, hG⟩ : ∃ G, G = ckG (comF D) (fS D) (fun i => D (28 + i)) (D 25) (D 25).toNat (nowS D) 0 := ⟨_, rfl⟩
  rw [← hG]
  refine ev_weak (ev_while (σ := Int × Int) (fun z => 0 ≤ z.1 ∧ z.1 ≤ D 25 ∧ isSt z.2 ∧ G = ckG (comF D) (fS D) (fun i => D (28 + i)) (D 25) (D 25 - z.1).toNat z.2 z.1) (fun z => (D 25 - z.1).toNat) (fun z => [vR 156, vI (D 25), vI z.2, vI z.1]) (fun _ => K) (fun _ => W1) ?_ (0, nowS D) ⟨Int.le_refl 0, h25.1, hs0, by rw [Int.sub_zero]; exact hG⟩) ⟨rfl, rfl, rfl, rfl, trivial⟩
  rintro ⟨i, s⟩ ⟨i0, i1, hs, hg⟩ ih
  dsimp only at i0 i1 hs hg ih ⊢
  have hgs : i < D 25 → G = if 0 ≤ D (28 + i) ∧ lds (comF D) (fS D) s (D (28 + i)) then ckG (comF D) (fS D) (fun i => D (28 + i)) (D 25) (D 25 - (i + 1)).toNat (D (28 + i)) (i + 1) else 1 + i := fun z => by
    rw [hg, show (D 25 - i).toNat = (D 25 - (i + 1)).toNat + 1 by omega]
    rfl
  have hwi := hwt i i0
  have hdi : W1 157 (28 + i) = D (28 + i) := by rw [hD1, hup _ (by omega)]
  refine ev_iload_n (X := M_X12_check) (pc := 27) dX12_check_27 rfl ?_
  refine ev_iload_n (X := M_X12_check) (pc := 28) dX12_check_28 rfl ?_
  refine ev_icmp_ge (X := M_X12_check) (pc := 29) (tgt := 69) dX12_check_29 (by decide) (by omega) (by omega) (fun h29 => ?_) (fun h29 => ?_)
  · rw [show (D 25 - i).toNat = 0 by omega] at hg
    have hg2 : G = 0 := hg
    refine ev_iconst (X := M_X12_check) (pc := 69) dX12_check_69 ?_
    refine ev_iret (X := M_X12_check) (pc := 70) dX12_check_70 rfl ?_
    exact ⟨by rw [hg2], rfl, hMW⟩
  · have hgs2 := hgs (by omega)
    have hwi2 := hwi (by omega)
    refine ev_aload_n (X := M_X12_check) (pc := 32) dX12_check_32 rfl ?_
    refine ev_iload_n (X := M_X12_check) (pc := 33) dX12_check_33 rfl ?_
    refine ev_aload_n (X := M_X12_check) (pc := 34) dX12_check_34 rfl ?_
    refine ev_getRe (X := M_X12_check) (pc := 35) dX12_check_35 fl_X12_7_12 (lO_156 hL) rfl (lR_156_0 hL) ?_
    refine ev_bipush (X := M_X12_check) (pc := 38) dX12_check_38 (by decide) ?_
    refine ev_iload_n (X := M_X12_check) (pc := 40) dX12_check_40 rfl ?_
    refine ev_iadd (X := M_X12_check) (pc := 41) dX12_check_41 ?_
    refine ev_ialoadE (X := M_X12_check) (pc := 42) dX12_check_42 (lS_157 hL) (by omega) (hdi) ?_
    refine ev_virtR (X := M_X12_check) (Y := M_X12_comesOf) (pc := 43) (ci := 12) dX12_check_43 mk_X12_comesOf rfl kw_1434 kw_1436 kp_43 (lO_156 hL) ((by have := m_comesOf (γ := γ) hL hD1 hF2 hC hC1 hs hwi2; rw [hf2] at this; exact this)) rfl (by decide) rfl (Nat.le_of_ble_eq_true rfl) (Nat.zero_add _) (Nat.zero_add _) ?_
    refine ev_if_ne (X := M_X12_check) (pc := 46) (tgt := 53) dX12_check_46 (by decide) (by split <;> decide) (fun h46 => ?_) (fun h46 => ?_)
    · have hye : 0 ≤ D (28 + i) ∧ lds (comF D) (fS D) s (D (28 + i)) := Decidable.byContradiction fun z => h46 (by rw [if_neg z])
      rw [if_pos hye] at hgs2
      refine ev_aload_n (X := M_X12_check) (pc := 53) dX12_check_53 rfl ?_
      refine ev_getRe (X := M_X12_check) (pc := 54) dX12_check_54 fl_X12_7_12 (lO_156 hL) rfl (lR_156_0 hL) ?_
      refine ev_bipush (X := M_X12_check) (pc := 57) dX12_check_57 (by decide) ?_
      refine ev_iload_n (X := M_X12_check) (pc := 59) dX12_check_59 rfl ?_
      refine ev_iadd (X := M_X12_check) (pc := 60) dX12_check_60 ?_
      refine ev_ialoadE (X := M_X12_check) (pc := 61) dX12_check_61 (lS_157 hL) (by omega) (hdi) ?_
      refine ev_istore_nL (X := M_X12_check) (pc := 62) (ls' := [_, _, _, _]) dX12_check_62 (by decide) rfl ?_
      refine ev_iincL (X := M_X12_check) (pc := 63) (ls' := [_, _, _, _]) dX12_check_63 rfl (by decide) rfl ?_
      refine ev_goto (X := M_X12_check) (pc := 66) (tgt := 27) dX12_check_66 (by decide) ?_
      exact ev_weak (ih (i + 1, D (28 + i)) ⟨by omega, by omega, lds_st hC hs hye, hgs2⟩ (by show (D 25 - (i + 1)).toNat < (D 25 - i).toNat; omega)) ⟨rfl, rfl, rfl, rfl, trivial⟩
    · have hno : ¬ (0 ≤ D (28 + i) ∧ lds (comF D) (fS D) s (D (28 + i))) := fun z => by rw [if_pos z] at h46; exact absurd h46 (by decide)
      rw [if_neg hno] at hgs2
      refine ev_iconst (X := M_X12_check) (pc := 49) dX12_check_49 ?_
      refine ev_iload_n (X := M_X12_check) (pc := 50) dX12_check_50 rfl ?_
      refine ev_iadd (X := M_X12_check) (pc := 51) dX12_check_51 ?_
      refine ev_iret (X := M_X12_check) (pc := 52) dX12_check_52 rfl ?_
      exact ⟨by rw [hgs2], rfl, hMW⟩
