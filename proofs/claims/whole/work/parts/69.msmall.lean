/-! ===== the reference's small acts ===== -/
def erK (er : Int → Int) (k : Int) : Int → Int := if k = 0 then er else up er k (er k + 1)
def mU (V : Mm) (D : Int → Int) (k : Int) : Mm := setr (setr V 157 D) 159 (erK (V 159) k)
abbrev aR (k x : Int) : Int := if k = 0 then x else -1000000000 - k
abbrev aD (k : Int) (D D' : Int → Int) : Int → Int := if k = 0 then D' else D
theorem mU_e {V : Mm} {D D' : Int → Int} {k : Int} (hD : V 157 = D) (hk : k ≠ 0) : wr V 159 k (V 159 k + 1) = mU V (aD k D D') k := by
  unfold mU aD erK
  rw [if_neg hk, if_neg hk, ← hD, setr_id]
  rfl
theorem mU_o {V W : Mm} {D D' : Int → Int} (hW : W = setr V 157 D') : W = mU V (aD 0 D D') 0 := by
  unfold mU aD erK
  rw [if_pos rfl, if_pos rfl, hW]
  funext c
  by_cases z : c = 159
  · rw [z, setr_self, setr_ne (by decide)]
  · rw [setr_ne z]
theorem mU_n {V : Mm} {D : Int → Int} (hD : V 157 = D) : V = mU V (aD 0 D D) 0 := mU_o (by rw [← hD, setr_id])
def beK (D : Int → Int) (s v : Int) : Int := if (0 ≤ s ∧ s < 3) ∧ 0 ≤ v ∧ v ≤ 12 then (if 12 < D 0 + D 1 + D 2 - D s + v then 4 else 0) else 1
theorem m_be {γ : Gh} {K : Sk} {V : Mm} (hL : Lay K) {D : Int → Int} (hD : V 157 = D) (hct : DCnt D) {s v : Int} (hs : R32 s) (hv : R32 v) : Call γ M_X12_be 2 0 0 [vR 156, vI s, vI v] K V (Rt (some (vI (aR (beK D s v) (D s)))) K (mU V (aD (beK D s v) D (up D s v)) (beK D s v))) := by
  refine call_of (by decide +kernel) (by intro v hv; simp only [List.mem_cons, List.not_mem_nil, or_false] at hv; rcases hv with rfl | rfl | rfl <;> exact fun q => by cases q) (Nat.le_of_ble_eq_true rfl) ?_
  refine ev_lsE (ls' := [_, _, _, _]) rfl ?_
  have hct2 : 0 ≤ D 0 ∧ 0 ≤ D 1 ∧ 0 ≤ D 2 ∧ D 0 + D 1 + D 2 ≤ 12 := hct
  obtain ⟨n0, n1, n2, n3⟩ := nowS_cnt hct
  have hst := nowS_st hct
  have hsl := isSt_lt hst
  refine ev_iload_n (X := M_X12_be) (pc := 0) dX12_be_0 rfl ?_
  refine ev_staticR (X := M_X12_be) (Y := M_X12_isSort) (pc := 1) dX12_be_1 mk_X12_isSort kw_1163 kw_1164 (m_isSort hs) rfl (by decide) rfl (Nat.le_of_ble_eq_true rfl) (Nat.zero_add _) (Nat.zero_add _) ?_
  refine ev_if_eq (X := M_X12_be) (pc := 4) (tgt := 19) dX12_be_4 (by decide) (by split <;> decide) (fun h4 => ?_) (fun h4 => ?_)
  · have hk : beK D s v = 1 := by unfold beK; rw [if_neg (fun z => by rw [if_pos (by omega)] at h4; exact absurd h4 (by decide))]
    refine ev_aload_n (X := M_X12_be) (pc := 19) dX12_be_19 rfl ?_
    refine ev_iconst (X := M_X12_be) (pc := 20) dX12_be_20 ?_
    refine ev_virtR (X := M_X12_be) (Y := M_X12_finds) (pc := 21) (ci := 12) dX12_be_21 mk_X12_finds rfl kw_1092 kw_1094 kp_5 (lO_156 hL) (m_finds hL (by decide)) rfl (by decide) rfl (Nat.le_of_ble_eq_true rfl) (Nat.zero_add _) (Nat.zero_add _) ?_
    refine ev_iret (X := M_X12_be) (pc := 24) dX12_be_24 rfl ?_
    rw [hk]
    exact ⟨rfl, rfl, mU_e hD (by decide)⟩
  · have hs3 : 0 ≤ s ∧ s ≤ 2 := Decidable.byContradiction fun z => h4 (by rw [if_neg z])
    refine ev_iload_n (X := M_X12_be) (pc := 7) dX12_be_7 rfl ?_
    refine ev_i2l (X := M_X12_be) (pc := 8) dX12_be_8 (by omega) ?_
    refine ev_lconst (X := M_X12_be) (pc := 9) (v := 0) dX12_be_9 (by decide) ?_
    refine ev_ldc2 (X := M_X12_be) (pc := 10) (v := 12) dX12_be_10 kw_1167 (by decide) ?_
    refine ev_staticR (X := M_X12_be) (Y := M_X12_in) (pc := 13) dX12_be_13 mk_X12_in kw_1089 kw_1090 (m_in (by omega) (by decide) (by decide)) rfl (by decide) rfl (Nat.le_of_ble_eq_true rfl) (Nat.zero_add _) (Nat.zero_add _) ?_
    refine ev_if_ne (X := M_X12_be) (pc := 16) (tgt := 25) dX12_be_16 (by decide) (by split <;> decide) (fun h16 => ?_) (fun h16 => ?_)
    · have hv3 : 0 ≤ v ∧ v ≤ 12 := Decidable.byContradiction fun z => h16 (by rw [if_neg z])
      have hDs : 0 ≤ D s ∧ D s ≤ 12 := by rcases (show s = 0 ∨ s = 1 ∨ s = 2 by omega) with z | z | z <;> subst z <;> omega
      have hDe : V 157 (0 + s) = D s := by rw [hD, Int.zero_add]
      have hk0 : beK D s v = if 12 < D 0 + D 1 + D 2 - D s + v then 4 else 0 := by unfold beK; rw [if_pos (by omega)]
      refine ev_aload_n (X := M_X12_be) (pc := 25) dX12_be_25 rfl ?_
      refine ev_getRe (X := M_X12_be) (pc := 26) dX12_be_26 fl_X12_7_12 (lO_156 hL) rfl (lR_156_0 hL) ?_
      refine ev_iconst (X := M_X12_be) (pc := 29) dX12_be_29 ?_
      refine ev_iload_n (X := M_X12_be) (pc := 30) dX12_be_30 rfl ?_
      refine ev_iadd (X := M_X12_be) (pc := 31) dX12_be_31 ?_
      refine ev_ialoadE (X := M_X12_be) (pc := 32) dX12_be_32 (lS_157 hL) (by omega) (hDe) ?_
      refine ev_istore_nL (X := M_X12_be) (pc := 33) (ls' := [_, _, _, _]) dX12_be_33 (by decide) rfl ?_
      refine ev_aload_n (X := M_X12_be) (pc := 34) dX12_be_34 rfl ?_
      refine ev_virtR (X := M_X12_be) (Y := M_X12_now) (pc := 35) (ci := 12) dX12_be_35 mk_X12_now rfl kw_1168 kw_1170 kp_18 (lO_156 hL) (m_nowE hL hD) rfl (by decide) rfl (Nat.le_of_ble_eq_true rfl) (Nat.zero_add _) (Nat.zero_add _) ?_
      refine ev_staticR (X := M_X12_be) (Y := M_X12_allIn) (pc := 38) dX12_be_38 mk_X12_allIn kw_1172 kw_1173 (m_allIn (by omega)) rfl (by decide) rfl (Nat.le_of_ble_eq_true rfl) (Nat.zero_add _) (Nat.zero_add _) ?_
      rw [n3]
      refine ev_iload_n (X := M_X12_be) (pc := 41) dX12_be_41 rfl ?_
      refine ev_isub (X := M_X12_be) (pc := 42) dX12_be_42 ?_
      refine ev_iload_n (X := M_X12_be) (pc := 43) dX12_be_43 rfl ?_
      refine ev_iadd (X := M_X12_be) (pc := 44) dX12_be_44 ?_
      refine ev_bipush (X := M_X12_be) (pc := 45) dX12_be_45 (by decide) ?_
      refine ev_icmp_le (X := M_X12_be) (pc := 47) (tgt := 56) dX12_be_47 (by decide) (by omega) (by decide) (fun h47 => ?_) (fun h47 => ?_)
      · have hk : beK D s v = 0 := by rw [hk0, if_neg (by omega)]
        refine ev_aload_n (X := M_X12_be) (pc := 56) dX12_be_56 rfl ?_
        refine ev_getRe (X := M_X12_be) (pc := 57) dX12_be_57 fl_X12_7_12 (lO_156 hL) rfl (lR_156_0 hL) ?_
        refine ev_iconst (X := M_X12_be) (pc := 60) dX12_be_60 ?_
        refine ev_iload_n (X := M_X12_be) (pc := 61) dX12_be_61 rfl ?_
        refine ev_iadd (X := M_X12_be) (pc := 62) dX12_be_62 ?_
        refine ev_iload_n (X := M_X12_be) (pc := 63) dX12_be_63 rfl ?_
        refine ev_iastore (X := M_X12_be) (pc := 64) dX12_be_64 (by decide) (lS_157 hL) (by omega) ?_
        refine ev_iload_n (X := M_X12_be) (pc := 65) dX12_be_65 rfl ?_
        refine ev_iret (X := M_X12_be) (pc := 66) dX12_be_66 rfl ?_
        rw [hk]
        exact ⟨rfl, rfl, mU_o (by rw [← hD, Int.zero_add]; rfl)⟩
      · have hk : beK D s v = 4 := by rw [hk0, if_pos (by omega)]
        refine ev_aload_n (X := M_X12_be) (pc := 50) dX12_be_50 rfl ?_
        refine ev_iconst (X := M_X12_be) (pc := 51) dX12_be_51 ?_
        refine ev_virtR (X := M_X12_be) (Y := M_X12_finds) (pc := 52) (ci := 12) dX12_be_52 mk_X12_finds rfl kw_1092 kw_1094 kp_5 (lO_156 hL) (m_finds hL (by decide)) rfl (by decide) rfl (Nat.le_of_ble_eq_true rfl) (Nat.zero_add _) (Nat.zero_add _) ?_
        refine ev_iret (X := M_X12_be) (pc := 55) dX12_be_55 rfl ?_
        rw [hk]
        exact ⟨rfl, rfl, mU_e hD (by decide)⟩
    · have hk : beK D s v = 1 := by unfold beK; rw [if_neg (fun z => by rw [if_pos (by omega)] at h16; exact absurd h16 (by decide))]
      refine ev_aload_n (X := M_X12_be) (pc := 19) dX12_be_19 rfl ?_
      refine ev_iconst (X := M_X12_be) (pc := 20) dX12_be_20 ?_
      refine ev_virtR (X := M_X12_be) (Y := M_X12_finds) (pc := 21) (ci := 12) dX12_be_21 mk_X12_finds rfl kw_1092 kw_1094 kp_5 (lO_156 hL) (m_finds hL (by decide)) rfl (by decide) rfl (Nat.le_of_ble_eq_true rfl) (Nat.zero_add _) (Nat.zero_add _) ?_
      refine ev_iret (X := M_X12_be) (pc := 24) dX12_be_24 rfl ?_
      rw [hk]
      exact ⟨rfl, rfl, mU_e hD (by decide)⟩
def sK (s : Int) : Int := if 0 ≤ s ∧ s < 3 then 0 else 1
theorem m_of {γ : Gh} {K : Sk} {V : Mm} (hL : Lay K) {D : Int → Int} (hD : V 157 = D) {s : Int} (hs : R32 s) : Call γ M_X12_of 2 0 0 [vR 156, vI s] K V (Rt (some (vI (aR (sK s) (D s)))) K (mU V (aD (sK s) D D) (sK s))) := by
  refine call_of (by decide +kernel) (by intro v hv; simp only [List.mem_cons, List.not_mem_nil, or_false] at hv; rcases hv with rfl | rfl <;> exact fun q => by cases q) (Nat.le_of_ble_eq_true rfl) ?_
  refine ev_lsE (ls' := [_, _]) rfl ?_
  refine ev_iload_n (X := M_X12_of) (pc := 0) dX12_of_0 rfl ?_
  refine ev_staticR (X := M_X12_of) (Y := M_X12_isSort) (pc := 1) dX12_of_1 mk_X12_isSort kw_1163 kw_1164 (m_isSort hs) rfl (by decide) rfl (Nat.le_of_ble_eq_true rfl) (Nat.zero_add _) (Nat.zero_add _) ?_
  refine ev_if_eq (X := M_X12_of) (pc := 4) (tgt := 18) dX12_of_4 (by decide) (by split <;> decide) (fun h4 => ?_) (fun h4 => ?_)
  · have hk : sK s = 1 := by unfold sK; rw [if_neg (fun z => by rw [if_pos (by omega)] at h4; exact absurd h4 (by decide))]
    refine ev_aload_n (X := M_X12_of) (pc := 18) dX12_of_18 rfl ?_
    refine ev_iconst (X := M_X12_of) (pc := 19) dX12_of_19 ?_
    refine ev_virtR (X := M_X12_of) (Y := M_X12_finds) (pc := 20) (ci := 12) dX12_of_20 mk_X12_finds rfl kw_1092 kw_1094 kp_5 (lO_156 hL) (m_finds hL (by decide)) rfl (by decide) rfl (Nat.le_of_ble_eq_true rfl) (Nat.zero_add _) (Nat.zero_add _) ?_
    refine ev_iret (X := M_X12_of) (pc := 23) dX12_of_23 rfl ?_
    rw [hk]
    first
      | exact ⟨rfl, rfl, mU_e hD (by decide)⟩
      | exact ⟨rfl, rfl, mU_n hD⟩
  · have hs3 : 0 ≤ s ∧ s ≤ 2 := Decidable.byContradiction fun z => h4 (by rw [if_neg z])
    have hDe : V 157 (0 + s) = D s := by rw [hD, Int.zero_add]
    have hk : sK s = 0 := by unfold sK; rw [if_pos (by omega)]
    refine ev_aload_n (X := M_X12_of) (pc := 7) dX12_of_7 rfl ?_
    refine ev_getRe (X := M_X12_of) (pc := 8) dX12_of_8 fl_X12_7_12 (lO_156 hL) rfl (lR_156_0 hL) ?_
    refine ev_iconst (X := M_X12_of) (pc := 11) dX12_of_11 ?_
    refine ev_iload_n (X := M_X12_of) (pc := 12) dX12_of_12 rfl ?_
    refine ev_iadd (X := M_X12_of) (pc := 13) dX12_of_13 ?_
    refine ev_ialoadE (X := M_X12_of) (pc := 14) dX12_of_14 (lS_157 hL) (by omega) (hDe) ?_
    refine ev_goto (X := M_X12_of) (pc := 15) (tgt := 23) dX12_of_15 (by decide) ?_
    refine ev_iret (X := M_X12_of) (pc := 23) dX12_of_23 rfl ?_
    rw [hk]
    first
      | exact ⟨rfl, rfl, mU_e hD (by decide)⟩
      | exact ⟨rfl, rfl, mU_n hD⟩
def laK (p km : Int) : Int := if (0 ≤ p ∧ p < 6) ∧ 0 ≤ km ∧ km ≤ 69 then 0 else 1
theorem m_law {γ : Gh} {K : Sk} {V : Mm} (hL : Lay K) {D : Int → Int} (hD : V 157 = D) {p km : Int} (hp : R32 p) (hm : R32 km) : Call γ M_X12_law 2 0 0 [vR 156, vI p, vI km] K V (Rt (some (vI (aR (laK p km) (10 * D (3 + p) + D (9 + p))))) K (mU V (aD (laK p km) D (up (up D (3 + p) (km / 10)) (9 + p) (km % 10))) (laK p km))) := by
  refine call_of (by decide +kernel) (by intro v hv; simp only [List.mem_cons, List.not_mem_nil, or_false] at hv; rcases hv with rfl | rfl | rfl <;> exact fun q => by cases q) (Nat.le_of_ble_eq_true rfl) ?_
  refine ev_lsE (ls' := [_, _, _, _]) rfl ?_
  refine ev_iload_n (X := M_X12_law) (pc := 0) dX12_law_0 rfl ?_
  refine ev_staticR (X := M_X12_law) (Y := M_X12_isPair) (pc := 1) dX12_law_1 mk_X12_isPair kw_1183 kw_1184 (m_isPair hp) rfl (by decide) rfl (Nat.le_of_ble_eq_true rfl) (Nat.zero_add _) (Nat.zero_add _) ?_
  refine ev_if_eq (X := M_X12_law) (pc := 4) (tgt := 19) dX12_law_4 (by decide) (by split <;> decide) (fun h4 => ?_) (fun h4 => ?_)
  · have hk : laK p km = 1 := by unfold laK; rw [if_neg (fun z => by rw [if_pos (by omega)] at h4; exact absurd h4 (by decide))]
    refine ev_aload_n (X := M_X12_law) (pc := 19) dX12_law_19 rfl ?_
    refine ev_iconst (X := M_X12_law) (pc := 20) dX12_law_20 ?_
    refine ev_virtR (X := M_X12_law) (Y := M_X12_finds) (pc := 21) (ci := 12) dX12_law_21 mk_X12_finds rfl kw_1092 kw_1094 kp_5 (lO_156 hL) (m_finds hL (by decide)) rfl (by decide) rfl (Nat.le_of_ble_eq_true rfl) (Nat.zero_add _) (Nat.zero_add _) ?_
    refine ev_iret (X := M_X12_law) (pc := 24) dX12_law_24 rfl ?_
    rw [hk]
    exact ⟨rfl, rfl, mU_e hD (by decide)⟩
  · have hs3 : 0 ≤ p ∧ p ≤ 5 := Decidable.byContradiction fun z => h4 (by rw [if_neg z])
    refine ev_iload_n (X := M_X12_law) (pc := 7) dX12_law_7 rfl ?_
    refine ev_i2l (X := M_X12_law) (pc := 8) dX12_law_8 (by omega) ?_
    refine ev_lconst (X := M_X12_law) (pc := 9) (v := 0) dX12_law_9 (by decide) ?_
    refine ev_ldc2 (X := M_X12_law) (pc := 10) (v := 69) dX12_law_10 kw_1187 (by decide) ?_
    refine ev_staticR (X := M_X12_law) (Y := M_X12_in) (pc := 13) dX12_law_13 mk_X12_in kw_1089 kw_1090 (m_in (by omega) (by decide) (by decide)) rfl (by decide) rfl (Nat.le_of_ble_eq_true rfl) (Nat.zero_add _) (Nat.zero_add _) ?_
    refine ev_if_ne (X := M_X12_law) (pc := 16) (tgt := 25) dX12_law_16 (by decide) (by split <;> decide) (fun h16 => ?_) (fun h16 => ?_)
    · have hv3 : 0 ≤ km ∧ km ≤ 69 := Decidable.byContradiction fun z => h16 (by rw [if_neg z])
      have hk : laK p km = 0 := by unfold laK; rw [if_pos (by omega)]
      refine ev_bipush (X := M_X12_law) (pc := 25) dX12_law_25 (by decide) ?_
      refine ev_aload_n (X := M_X12_law) (pc := 27) dX12_law_27 rfl ?_
      refine ev_getRe (X := M_X12_law) (pc := 28) dX12_law_28 fl_X12_7_12 (lO_156 hL) rfl (lR_156_0 hL) ?_
      refine ev_iconst (X := M_X12_law) (pc := 31) dX12_law_31 ?_
      refine ev_iload_n (X := M_X12_law) (pc := 32) dX12_law_32 rfl ?_
      refine ev_iadd (X := M_X12_law) (pc := 33) dX12_law_33 ?_
      refine ev_ialoadE (X := M_X12_law) (pc := 34) dX12_law_34 (lS_157 hL) (by omega) (congrFun hD _) ?_
      refine ev_imul (X := M_X12_law) (pc := 35) dX12_law_35 ?_
      refine ev_aload_n (X := M_X12_law) (pc := 36) dX12_law_36 rfl ?_
      refine ev_getRe (X := M_X12_law) (pc := 37) dX12_law_37 fl_X12_7_12 (lO_156 hL) rfl (lR_156_0 hL) ?_
      refine ev_bipush (X := M_X12_law) (pc := 40) dX12_law_40 (by decide) ?_
      refine ev_iload_n (X := M_X12_law) (pc := 42) dX12_law_42 rfl ?_
      refine ev_iadd (X := M_X12_law) (pc := 43) dX12_law_43 ?_
      refine ev_ialoadE (X := M_X12_law) (pc := 44) dX12_law_44 (lS_157 hL) (by omega) (congrFun hD _) ?_
      refine ev_iadd (X := M_X12_law) (pc := 45) dX12_law_45 ?_
      refine ev_istore_nL (X := M_X12_law) (pc := 46) (ls' := [_, _, _, _]) dX12_law_46 (by decide) rfl ?_
      refine ev_aload_n (X := M_X12_law) (pc := 47) dX12_law_47 rfl ?_
      refine ev_getRe (X := M_X12_law) (pc := 48) dX12_law_48 fl_X12_7_12 (lO_156 hL) rfl (lR_156_0 hL) ?_
      refine ev_iconst (X := M_X12_law) (pc := 51) dX12_law_51 ?_
      refine ev_iload_n (X := M_X12_law) (pc := 52) dX12_law_52 rfl ?_
      refine ev_iadd (X := M_X12_law) (pc := 53) dX12_law_53 ?_
      refine ev_iload_n (X := M_X12_law) (pc := 54) dX12_law_54 rfl ?_
      refine ev_bipush (X := M_X12_law) (pc := 55) dX12_law_55 (by decide) ?_
      refine ev_idiv (X := M_X12_law) (pc := 57) dX12_law_57 (by omega) (by decide) ?_
      refine ev_iastore (X := M_X12_law) (pc := 58) dX12_law_58 (by decide) (lS_157 hL) (by omega) ?_
      refine ev_aload_n (X := M_X12_law) (pc := 59) dX12_law_59 rfl ?_
      refine ev_getRe (X := M_X12_law) (pc := 60) dX12_law_60 fl_X12_7_12 (lO_156 hL) rfl (lR_156_0 hL) ?_
      refine ev_bipush (X := M_X12_law) (pc := 63) dX12_law_63 (by decide) ?_
      refine ev_iload_n (X := M_X12_law) (pc := 65) dX12_law_65 rfl ?_
      refine ev_iadd (X := M_X12_law) (pc := 66) dX12_law_66 ?_
      refine ev_iload_n (X := M_X12_law) (pc := 67) dX12_law_67 rfl ?_
      refine ev_bipush (X := M_X12_law) (pc := 68) dX12_law_68 (by decide) ?_
      refine ev_irem (X := M_X12_law) (pc := 70) dX12_law_70 (by omega) (by decide) ?_
      refine ev_iastore (X := M_X12_law) (pc := 71) dX12_law_71 (by decide) (lS_157 hL) (by omega) ?_
      refine ev_iload_n (X := M_X12_law) (pc := 72) dX12_law_72 rfl ?_
      refine ev_iret (X := M_X12_law) (pc := 73) dX12_law_73 rfl ?_
      rw [hk]
      refine ⟨rfl, rfl, mU_o ?_⟩
      rw [← hD]
      unfold wr
      rw [setr_self, setr_set]
    · have hk : laK p km = 1 := by unfold laK; rw [if_neg (fun z => by rw [if_pos (by omega)] at h16; exact absurd h16 (by decide))]
      refine ev_aload_n (X := M_X12_law) (pc := 19) dX12_law_19 rfl ?_
      refine ev_iconst (X := M_X12_law) (pc := 20) dX12_law_20 ?_
      refine ev_virtR (X := M_X12_law) (Y := M_X12_finds) (pc := 21) (ci := 12) dX12_law_21 mk_X12_finds rfl kw_1092 kw_1094 kp_5 (lO_156 hL) (m_finds hL (by decide)) rfl (by decide) rfl (Nat.le_of_ble_eq_true rfl) (Nat.zero_add _) (Nat.zero_add _) ?_
      refine ev_iret (X := M_X12_law) (pc := 24) dX12_law_24 rfl ?_
      rw [hk]
      exact ⟨rfl, rfl, mU_e hD (by decide)⟩
def fnK (p v : Int) : Int := if (0 ≤ p ∧ p < 6) ∧ 0 ≤ v ∧ v ≤ 1 then 0 else 1
theorem m_fence {γ : Gh} {K : Sk} {V : Mm} (hL : Lay K) {D : Int → Int} (hD : V 157 = D) {p v : Int} (hp : R32 p) (hv : R32 v) : Call γ M_X12_fence 2 0 0 [vR 156, vI p, vI v] K V (Rt (some (vI (aR (fnK p v) (D (15 + p))))) K (mU V (aD (fnK p v) D (up D (15 + p) v)) (fnK p v))) := by
  refine call_of (by decide +kernel) (by intro v hv; simp only [List.mem_cons, List.not_mem_nil, or_false] at hv; rcases hv with rfl | rfl | rfl <;> exact fun q => by cases q) (Nat.le_of_ble_eq_true rfl) ?_
  refine ev_lsE (ls' := [_, _, _, _]) rfl ?_
  refine ev_iload_n (X := M_X12_fence) (pc := 0) dX12_fence_0 rfl ?_
  refine ev_staticR (X := M_X12_fence) (Y := M_X12_isPair) (pc := 1) dX12_fence_1 mk_X12_isPair kw_1183 kw_1184 (m_isPair hp) rfl (by decide) rfl (Nat.le_of_ble_eq_true rfl) (Nat.zero_add _) (Nat.zero_add _) ?_
  refine ev_if_eq (X := M_X12_fence) (pc := 4) (tgt := 17) dX12_fence_4 (by decide) (by split <;> decide) (fun h4 => ?_) (fun h4 => ?_)
  · have hk : fnK p v = 1 := by unfold fnK; rw [if_neg (fun z => by rw [if_pos (by omega)] at h4; exact absurd h4 (by decide))]
    refine ev_aload_n (X := M_X12_fence) (pc := 17) dX12_fence_17 rfl ?_
    refine ev_iconst (X := M_X12_fence) (pc := 18) dX12_fence_18 ?_
    refine ev_virtR (X := M_X12_fence) (Y := M_X12_finds) (pc := 19) (ci := 12) dX12_fence_19 mk_X12_finds rfl kw_1092 kw_1094 kp_5 (lO_156 hL) (m_finds hL (by decide)) rfl (by decide) rfl (Nat.le_of_ble_eq_true rfl) (Nat.zero_add _) (Nat.zero_add _) ?_
    refine ev_iret (X := M_X12_fence) (pc := 22) dX12_fence_22 rfl ?_
    rw [hk]
    exact ⟨rfl, rfl, mU_e hD (by decide)⟩
  · have hs3 : 0 ≤ p ∧ p ≤ 5 := Decidable.byContradiction fun z => h4 (by rw [if_neg z])
    refine ev_iload_n (X := M_X12_fence) (pc := 7) dX12_fence_7 rfl ?_
    refine ev_i2l (X := M_X12_fence) (pc := 8) dX12_fence_8 (by omega) ?_
    refine ev_lconst (X := M_X12_fence) (pc := 9) (v := 0) dX12_fence_9 (by decide) ?_
    refine ev_lconst (X := M_X12_fence) (pc := 10) (v := 1) dX12_fence_10 (by decide) ?_
    refine ev_staticR (X := M_X12_fence) (Y := M_X12_in) (pc := 11) dX12_fence_11 mk_X12_in kw_1089 kw_1090 (m_in (by omega) (by decide) (by decide)) rfl (by decide) rfl (Nat.le_of_ble_eq_true rfl) (Nat.zero_add _) (Nat.zero_add _) ?_
    refine ev_if_ne (X := M_X12_fence) (pc := 14) (tgt := 23) dX12_fence_14 (by decide) (by split <;> decide) (fun h14 => ?_) (fun h14 => ?_)
    · have hv3 : 0 ≤ v ∧ v ≤ 1 := Decidable.byContradiction fun z => h14 (by rw [if_neg z])
      have hk : fnK p v = 0 := by unfold fnK; rw [if_pos (by omega)]
      refine ev_aload_n (X := M_X12_fence) (pc := 23) dX12_fence_23 rfl ?_
      refine ev_getRe (X := M_X12_fence) (pc := 24) dX12_fence_24 fl_X12_7_12 (lO_156 hL) rfl (lR_156_0 hL) ?_
      refine ev_bipush (X := M_X12_fence) (pc := 27) dX12_fence_27 (by decide) ?_
      refine ev_iload_n (X := M_X12_fence) (pc := 29) dX12_fence_29 rfl ?_
      refine ev_iadd (X := M_X12_fence) (pc := 30) dX12_fence_30 ?_
      refine ev_ialoadE (X := M_X12_fence) (pc := 31) dX12_fence_31 (lS_157 hL) (by omega) (congrFun hD _) ?_
      refine ev_istore_nL (X := M_X12_fence) (pc := 32) (ls' := [_, _, _, _]) dX12_fence_32 (by decide) rfl ?_
      refine ev_aload_n (X := M_X12_fence) (pc := 33) dX12_fence_33 rfl ?_
      refine ev_getRe (X := M_X12_fence) (pc := 34) dX12_fence_34 fl_X12_7_12 (lO_156 hL) rfl (lR_156_0 hL) ?_
      refine ev_bipush (X := M_X12_fence) (pc := 37) dX12_fence_37 (by decide) ?_
      refine ev_iload_n (X := M_X12_fence) (pc := 39) dX12_fence_39 rfl ?_
      refine ev_iadd (X := M_X12_fence) (pc := 40) dX12_fence_40 ?_
      refine ev_iload_n (X := M_X12_fence) (pc := 41) dX12_fence_41 rfl ?_
      refine ev_iastore (X := M_X12_fence) (pc := 42) dX12_fence_42 (by decide) (lS_157 hL) (by omega) ?_
      refine ev_iload_n (X := M_X12_fence) (pc := 43) dX12_fence_43 rfl ?_
      refine ev_iret (X := M_X12_fence) (pc := 44) dX12_fence_44 rfl ?_
      rw [hk]
      exact ⟨rfl, rfl, mU_o (by rw [← hD]; rfl)⟩
    · have hk : fnK p v = 1 := by unfold fnK; rw [if_neg (fun z => by rw [if_pos (by omega)] at h14; exact absurd h14 (by decide))]
      refine ev_aload_n (X := M_X12_fence) (pc := 17) dX12_fence_17 rfl ?_
      refine ev_iconst (X := M_X12_fence) (pc := 18) dX12_fence_18 ?_
      refine ev_virtR (X := M_X12_fence) (Y := M_X12_finds) (pc := 19) (ci := 12) dX12_fence_19 mk_X12_finds rfl kw_1092 kw_1094 kp_5 (lO_156 hL) (m_finds hL (by decide)) rfl (by decide) rfl (Nat.le_of_ble_eq_true rfl) (Nat.zero_add _) (Nat.zero_add _) ?_
      refine ev_iret (X := M_X12_fence) (pc := 22) dX12_fence_22 rfl ?_
      rw [hk]
      exact ⟨rfl, rfl, mU_e hD (by decide)⟩
theorem m_seed {γ : Gh} {K : Sk} {V : Mm} (hL : Lay K) {D : Int → Int} (hD : V 157 = D) {v : Int} : Call γ M_X12_seed 0 0 0 [vR 156, vI v] K V (Rt (some (vI (aR 0 (D 23)))) K (mU V (aD 0 D (up D 23 v)) 0)) := by
  refine call_of (by decide +kernel) (by intro v hv; simp only [List.mem_cons, List.not_mem_nil, or_false] at hv; rcases hv with rfl | rfl <;> exact fun q => by cases q) (Nat.le_of_ble_eq_true rfl) ?_
  refine ev_lsE (ls' := [_, _, _]) rfl ?_
  refine ev_aload_n (X := M_X12_seed) (pc := 0) dX12_seed_0 rfl ?_
  refine ev_getRe (X := M_X12_seed) (pc := 1) dX12_seed_1 fl_X12_7_12 (lO_156 hL) rfl (lR_156_0 hL) ?_
  refine ev_bipush (X := M_X12_seed) (pc := 4) dX12_seed_4 (by decide) ?_
  refine ev_ialoadE (X := M_X12_seed) (pc := 6) dX12_seed_6 (lS_157 hL) (by omega) (congrFun hD _) ?_
  refine ev_istore_nL (X := M_X12_seed) (pc := 7) (ls' := [_, _, _]) dX12_seed_7 (by decide) rfl ?_
  refine ev_aload_n (X := M_X12_seed) (pc := 8) dX12_seed_8 rfl ?_
  refine ev_getRe (X := M_X12_seed) (pc := 9) dX12_seed_9 fl_X12_7_12 (lO_156 hL) rfl (lR_156_0 hL) ?_
  refine ev_bipush (X := M_X12_seed) (pc := 12) dX12_seed_12 (by decide) ?_
  refine ev_iload_n (X := M_X12_seed) (pc := 14) dX12_seed_14 rfl ?_
  refine ev_iastore (X := M_X12_seed) (pc := 15) dX12_seed_15 (by decide) (lS_157 hL) (by omega) ?_
  refine ev_iload_n (X := M_X12_seed) (pc := 16) dX12_seed_16 rfl ?_
  refine ev_iret (X := M_X12_seed) (pc := 17) dX12_seed_17 rfl ?_
  exact ⟨rfl, rfl, mU_o (by rw [← hD]; rfl)⟩
def teK (D : Int → Int) : Int := if D 25 = 20 then 4 else 0
theorem m_tell {γ : Gh} {K : Sk} {V : Mm} (hL : Lay K) {D : Int → Int} (hD : V 157 = D) (h25 : 0 ≤ D 25 ∧ D 25 ≤ 20) {v : Int} : Call γ M_X12_tell 1 0 0 [vR 156, vI v] K V (Rt (some (vI (aR (teK D) (D 25 + 1)))) K (mU V (aD (teK D) D (up (up D (28 + D 25) v) 25 (D 25 + 1))) (teK D))) := by
  refine call_of (by decide +kernel) (by intro v hv; simp only [List.mem_cons, List.not_mem_nil, or_false] at hv; rcases hv with rfl | rfl <;> exact fun q => by cases q) (Nat.le_of_ble_eq_true rfl) ?_
  refine ev_lsE (ls' := [_, _]) rfl ?_
  have hd25 := congrFun hD 25
  have hx : wr V 157 (28 + D 25) v 157 25 = D 25 := by rw [wr_row, up_ne (by omega)]; exact hd25
  refine ev_aload_n (X := M_X12_tell) (pc := 0) dX12_tell_0 rfl ?_
  refine ev_getRe (X := M_X12_tell) (pc := 1) dX12_tell_1 fl_X12_7_12 (lO_156 hL) rfl (lR_156_0 hL) ?_
  refine ev_bipush (X := M_X12_tell) (pc := 4) dX12_tell_4 (by decide) ?_
  refine ev_ialoadE (X := M_X12_tell) (pc := 6) dX12_tell_6 (lS_157 hL) (by omega) (hd25) ?_
  refine ev_bipush (X := M_X12_tell) (pc := 7) dX12_tell_7 (by decide) ?_
  refine ev_icmp_ne (X := M_X12_tell) (pc := 9) (tgt := 18) dX12_tell_9 (by decide) (by omega) (by decide) (fun h9 => ?_) (fun h9 => ?_)
  · have hk : teK D = 0 := by unfold teK; rw [if_neg h9]
    refine ev_aload_n (X := M_X12_tell) (pc := 18) dX12_tell_18 rfl ?_
    refine ev_getRe (X := M_X12_tell) (pc := 19) dX12_tell_19 fl_X12_7_12 (lO_156 hL) rfl (lR_156_0 hL) ?_
    refine ev_bipush (X := M_X12_tell) (pc := 22) dX12_tell_22 (by decide) ?_
    refine ev_aload_n (X := M_X12_tell) (pc := 24) dX12_tell_24 rfl ?_
    refine ev_getRe (X := M_X12_tell) (pc := 25) dX12_tell_25 fl_X12_7_12 (lO_156 hL) rfl (lR_156_0 hL) ?_
    refine ev_bipush (X := M_X12_tell) (pc := 28) dX12_tell_28 (by decide) ?_
    refine ev_ialoadE (X := M_X12_tell) (pc := 30) dX12_tell_30 (lS_157 hL) (by omega) (hd25) ?_
    refine ev_iadd (X := M_X12_tell) (pc := 31) dX12_tell_31 ?_
    refine ev_iload_n (X := M_X12_tell) (pc := 32) dX12_tell_32 rfl ?_
    refine ev_iastore (X := M_X12_tell) (pc := 33) dX12_tell_33 (by decide) (lS_157 hL) (by omega) ?_
    refine ev_aload_n (X := M_X12_tell) (pc := 34) dX12_tell_34 rfl ?_
    refine ev_getRe (X := M_X12_tell) (pc := 35) dX12_tell_35 fl_X12_7_12 (lO_156 hL) rfl (lR_156_0 hL) ?_
    refine ev_bipush (X := M_X12_tell) (pc := 38) dX12_tell_38 (by decide) ?_
    refine ev_dup2 (X := M_X12_tell) (pc := 40) dX12_tell_40 (fun _ q => by cases q) (fun _ q => by cases q) ?_
    refine ev_ialoadE (X := M_X12_tell) (pc := 41) dX12_tell_41 (lS_157 hL) (by omega) (hx) ?_
    refine ev_iconst (X := M_X12_tell) (pc := 42) dX12_tell_42 ?_
    refine ev_iadd (X := M_X12_tell) (pc := 43) dX12_tell_43 ?_
    refine ev_iastore (X := M_X12_tell) (pc := 44) dX12_tell_44 (by decide) (lS_157 hL) (by omega) ?_
    refine ev_aload_n (X := M_X12_tell) (pc := 45) dX12_tell_45 rfl ?_
    refine ev_getRe (X := M_X12_tell) (pc := 46) dX12_tell_46 fl_X12_7_12 (lO_156 hL) rfl (lR_156_0 hL) ?_
    refine ev_bipush (X := M_X12_tell) (pc := 49) dX12_tell_49 (by decide) ?_
    refine ev_ialoadE (X := M_X12_tell) (pc := 51) dX12_tell_51 (lS_157 hL) (by omega) (wr_self) ?_
    refine ev_iret (X := M_X12_tell) (pc := 52) dX12_tell_52 rfl ?_
    rw [hk]
    refine ⟨rfl, rfl, mU_o ?_⟩
    rw [← hD]
    unfold wr
    rw [setr_self, setr_set]
  · have hk : teK D = 4 := by unfold teK; rw [if_pos h9]
    refine ev_aload_n (X := M_X12_tell) (pc := 12) dX12_tell_12 rfl ?_
    refine ev_iconst (X := M_X12_tell) (pc := 13) dX12_tell_13 ?_
    refine ev_virtR (X := M_X12_tell) (Y := M_X12_finds) (pc := 14) (ci := 12) dX12_tell_14 mk_X12_finds rfl kw_1092 kw_1094 kp_5 (lO_156 hL) (m_finds hL (by decide)) rfl (by decide) rfl (Nat.le_of_ble_eq_true rfl) (Nat.zero_add _) (Nat.zero_add _) ?_
    refine ev_iret (X := M_X12_tell) (pc := 17) dX12_tell_17 rfl ?_
    rw [hk]
    exact ⟨rfl, rfl, mU_e hD (by decide)⟩
def coK (w : Int) : Int := if 0 ≤ w ∧ w ≤ 7 then 0 else 1
def coX (D : Int → Int) (tm w : Int) : Int := if w = 0 then nowS D else if w = 1 then D 0 + D 1 + D 2 else if w = 2 then D 21 else if w = 3 then D 22 else if w = 4 then D 24 else if w = 5 then D 25 else if w = 6 then tm else D 23
theorem m_count {γ : Gh} {K : Sk} {V : Mm} (hL : Lay K) {D : Int → Int} (hD : V 157 = D) (hct : DCnt D) {tm w : Int} (htm : V 156 24 = tm) (hw : R32 w) : Call γ M_X12_count 1 0 0 [vR 156, vI w] K V (Rt (some (vI (aR (coK w) (coX D tm w)))) K (mU V (aD (coK w) D D) (coK w))) := by
  refine call_of (by decide +kernel) (by intro v hv; simp only [List.mem_cons, List.not_mem_nil, or_false] at hv; rcases hv with rfl | rfl <;> exact fun q => by cases q) (Nat.le_of_ble_eq_true rfl) ?_
  refine ev_lsE (ls' := [_, _]) rfl ?_
  obtain ⟨n0, n1, n2, n3⟩ := nowS_cnt hct
  have hsl := isSt_lt (nowS_st hct)
  refine ev_iload_n (X := M_X12_count) (pc := 0) dX12_count_0 rfl ?_
  rcases (show w = 0 ∨ w = 1 ∨ w = 2 ∨ w = 3 ∨ w = 4 ∨ w = 5 ∨ w = 6 ∨ w = 7 ∨ (w < 0 ∨ 7 < w) by omega) with h1 | h1 | h1 | h1 | h1 | h1 | h1 | h1 | h1
  · refine ev_tableIn (X := M_X12_count) (pc := 1) (off := 47) (tgt := 48) dX12_count_1 (by omega) (by omega) (by omega) (by rw [h1]; rfl) (by decide) ?_
    refine ev_aload_n (X := M_X12_count) (pc := 48) dX12_count_48 rfl ?_
    refine ev_virtR (X := M_X12_count) (Y := M_X12_now) (pc := 49) (ci := 12) dX12_count_49 mk_X12_now rfl kw_1168 kw_1170 kp_18 (lO_156 hL) (m_nowE hL hD) rfl (by decide) rfl (Nat.le_of_ble_eq_true rfl) (Nat.zero_add _) (Nat.zero_add _) ?_
    refine ev_iret (X := M_X12_count) (pc := 52) dX12_count_52 rfl ?_
    first
      | (have hk : coK w = 0 := by unfold coK; rw [if_pos (by omega)]
         rw [hk]
         refine ⟨congrArg (fun z => some (vI z)) ?_, rfl, mU_n hD⟩
         show _ = coX D tm w
         rw [h1]
         first
           | rfl
           | exact n3)
      | (have hk : coK w = 1 := by unfold coK; rw [if_neg (by omega)]
         rw [hk]
         exact ⟨rfl, rfl, mU_e hD (by decide)⟩)
  · refine ev_tableIn (X := M_X12_count) (pc := 1) (off := 52) (tgt := 53) dX12_count_1 (by omega) (by omega) (by omega) (by rw [h1]; rfl) (by decide) ?_
    refine ev_aload_n (X := M_X12_count) (pc := 53) dX12_count_53 rfl ?_
    refine ev_virtR (X := M_X12_count) (Y := M_X12_now) (pc := 54) (ci := 12) dX12_count_54 mk_X12_now rfl kw_1168 kw_1170 kp_18 (lO_156 hL) (m_nowE hL hD) rfl (by decide) rfl (Nat.le_of_ble_eq_true rfl) (Nat.zero_add _) (Nat.zero_add _) ?_
    refine ev_staticR (X := M_X12_count) (Y := M_X12_allIn) (pc := 57) dX12_count_57 mk_X12_allIn kw_1172 kw_1173 (m_allIn (by omega)) rfl (by decide) rfl (Nat.le_of_ble_eq_true rfl) (Nat.zero_add _) (Nat.zero_add _) ?_
    refine ev_iret (X := M_X12_count) (pc := 60) dX12_count_60 rfl ?_
    first
      | (have hk : coK w = 0 := by unfold coK; rw [if_pos (by omega)]
         rw [hk]
         refine ⟨congrArg (fun z => some (vI z)) ?_, rfl, mU_n hD⟩
         show _ = coX D tm w
         rw [h1]
         first
           | rfl
           | exact n3)
      | (have hk : coK w = 1 := by unfold coK; rw [if_neg (by omega)]
         rw [hk]
         exact ⟨rfl, rfl, mU_e hD (by decide)⟩)
  · refine ev_tableIn (X := M_X12_count) (pc := 1) (off := 60) (tgt := 61) dX12_count_1 (by omega) (by omega) (by omega) (by rw [h1]; rfl) (by decide) ?_
    refine ev_aload_n (X := M_X12_count) (pc := 61) dX12_count_61 rfl ?_
    refine ev_getRe (X := M_X12_count) (pc := 62) dX12_count_62 fl_X12_7_12 (lO_156 hL) rfl (lR_156_0 hL) ?_
    refine ev_bipush (X := M_X12_count) (pc := 65) dX12_count_65 (by decide) ?_
    refine ev_ialoadE (X := M_X12_count) (pc := 67) dX12_count_67 (lS_157 hL) (by omega) (congrFun hD _) ?_
    refine ev_iret (X := M_X12_count) (pc := 68) dX12_count_68 rfl ?_
    first
      | (have hk : coK w = 0 := by unfold coK; rw [if_pos (by omega)]
         rw [hk]
         refine ⟨congrArg (fun z => some (vI z)) ?_, rfl, mU_n hD⟩
         show _ = coX D tm w
         rw [h1]
         first
           | rfl
           | exact n3)
      | (have hk : coK w = 1 := by unfold coK; rw [if_neg (by omega)]
         rw [hk]
         exact ⟨rfl, rfl, mU_e hD (by decide)⟩)
  · refine ev_tableIn (X := M_X12_count) (pc := 1) (off := 68) (tgt := 69) dX12_count_1 (by omega) (by omega) (by omega) (by rw [h1]; rfl) (by decide) ?_
    refine ev_aload_n (X := M_X12_count) (pc := 69) dX12_count_69 rfl ?_
    refine ev_getRe (X := M_X12_count) (pc := 70) dX12_count_70 fl_X12_7_12 (lO_156 hL) rfl (lR_156_0 hL) ?_
    refine ev_bipush (X := M_X12_count) (pc := 73) dX12_count_73 (by decide) ?_
    refine ev_ialoadE (X := M_X12_count) (pc := 75) dX12_count_75 (lS_157 hL) (by omega) (congrFun hD _) ?_
    refine ev_iret (X := M_X12_count) (pc := 76) dX12_count_76 rfl ?_
    first
      | (have hk : coK w = 0 := by unfold coK; rw [if_pos (by omega)]
         rw [hk]
         refine ⟨congrArg (fun z => some (vI z)) ?_, rfl, mU_n hD⟩
         show _ = coX D tm w
         rw [h1]
         first
           | rfl
           | exact n3)
      | (have hk : coK w = 1 := by unfold coK; rw [if_neg (by omega)]
         rw [hk]
         exact ⟨rfl, rfl, mU_e hD (by decide)⟩)
  · refine ev_tableIn (X := M_X12_count) (pc := 1) (off := 76) (tgt := 77) dX12_count_1 (by omega) (by omega) (by omega) (by rw [h1]; rfl) (by decide) ?_
    refine ev_aload_n (X := M_X12_count) (pc := 77) dX12_count_77 rfl ?_
    refine ev_getRe (X := M_X12_count) (pc := 78) dX12_count_78 fl_X12_7_12 (lO_156 hL) rfl (lR_156_0 hL) ?_
    refine ev_bipush (X := M_X12_count) (pc := 81) dX12_count_81 (by decide) ?_
    refine ev_ialoadE (X := M_X12_count) (pc := 83) dX12_count_83 (lS_157 hL) (by omega) (congrFun hD _) ?_
    refine ev_iret (X := M_X12_count) (pc := 84) dX12_count_84 rfl ?_
    first
      | (have hk : coK w = 0 := by unfold coK; rw [if_pos (by omega)]
         rw [hk]
         refine ⟨congrArg (fun z => some (vI z)) ?_, rfl, mU_n hD⟩
         show _ = coX D tm w
         rw [h1]
         first
           | rfl
           | exact n3)
      | (have hk : coK w = 1 := by unfold coK; rw [if_neg (by omega)]
         rw [hk]
         exact ⟨rfl, rfl, mU_e hD (by decide)⟩)
  · refine ev_tableIn (X := M_X12_count) (pc := 1) (off := 84) (tgt := 85) dX12_count_1 (by omega) (by omega) (by omega) (by rw [h1]; rfl) (by decide) ?_
    refine ev_aload_n (X := M_X12_count) (pc := 85) dX12_count_85 rfl ?_
    refine ev_getRe (X := M_X12_count) (pc := 86) dX12_count_86 fl_X12_7_12 (lO_156 hL) rfl (lR_156_0 hL) ?_
    refine ev_bipush (X := M_X12_count) (pc := 89) dX12_count_89 (by decide) ?_
    refine ev_ialoadE (X := M_X12_count) (pc := 91) dX12_count_91 (lS_157 hL) (by omega) (congrFun hD _) ?_
    refine ev_iret (X := M_X12_count) (pc := 92) dX12_count_92 rfl ?_
    first
      | (have hk : coK w = 0 := by unfold coK; rw [if_pos (by omega)]
         rw [hk]
         refine ⟨congrArg (fun z => some (vI z)) ?_, rfl, mU_n hD⟩
         show _ = coX D tm w
         rw [h1]
         first
           | rfl
           | exact n3)
      | (have hk : coK w = 1 := by unfold coK; rw [if_neg (by omega)]
         rw [hk]
         exact ⟨rfl, rfl, mU_e hD (by decide)⟩)
  · refine ev_tableIn (X := M_X12_count) (pc := 1) (off := 92) (tgt := 93) dX12_count_1 (by omega) (by omega) (by omega) (by rw [h1]; rfl) (by decide) ?_
    refine ev_aload_n (X := M_X12_count) (pc := 93) dX12_count_93 rfl ?_
    refine ev_getIe (X := M_X12_count) (pc := 94) (ki := 24) dX12_count_94 fl_X12_274_12 (lO_156 hL) (by decide) rfl (htm) ?_
    refine ev_iret (X := M_X12_count) (pc := 97) dX12_count_97 rfl ?_
    first
      | (have hk : coK w = 0 := by unfold coK; rw [if_pos (by omega)]
         rw [hk]
         refine ⟨congrArg (fun z => some (vI z)) ?_, rfl, mU_n hD⟩
         show _ = coX D tm w
         rw [h1]
         first
           | rfl
           | exact n3)
      | (have hk : coK w = 1 := by unfold coK; rw [if_neg (by omega)]
         rw [hk]
         exact ⟨rfl, rfl, mU_e hD (by decide)⟩)
  · refine ev_tableIn (X := M_X12_count) (pc := 1) (off := 97) (tgt := 98) dX12_count_1 (by omega) (by omega) (by omega) (by rw [h1]; rfl) (by decide) ?_
    refine ev_aload_n (X := M_X12_count) (pc := 98) dX12_count_98 rfl ?_
    refine ev_getRe (X := M_X12_count) (pc := 99) dX12_count_99 fl_X12_7_12 (lO_156 hL) rfl (lR_156_0 hL) ?_
    refine ev_bipush (X := M_X12_count) (pc := 102) dX12_count_102 (by decide) ?_
    refine ev_ialoadE (X := M_X12_count) (pc := 104) dX12_count_104 (lS_157 hL) (by omega) (congrFun hD _) ?_
    refine ev_iret (X := M_X12_count) (pc := 105) dX12_count_105 rfl ?_
    first
      | (have hk : coK w = 0 := by unfold coK; rw [if_pos (by omega)]
         rw [hk]
         refine ⟨congrArg (fun z => some (vI z)) ?_, rfl, mU_n hD⟩
         show _ = coX D tm w
         rw [h1]
         first
           | rfl
           | exact n3)
      | (have hk : coK w = 1 := by unfold coK; rw [if_neg (by omega)]
         rw [hk]
         exact ⟨rfl, rfl, mU_e hD (by decide)⟩)
  · refine ev_tableOut (X := M_X12_count) (pc := 1) (tgt := 106) dX12_count_1 (by omega) (by omega) (by decide) ?_
    refine ev_aload_n (X := M_X12_count) (pc := 106) dX12_count_106 rfl ?_
    refine ev_iconst (X := M_X12_count) (pc := 107) dX12_count_107 ?_
    refine ev_virtR (X := M_X12_count) (Y := M_X12_finds) (pc := 108) (ci := 12) dX12_count_108 mk_X12_finds rfl kw_1092 kw_1094 kp_5 (lO_156 hL) (m_finds hL (by decide)) rfl (by decide) rfl (Nat.le_of_ble_eq_true rfl) (Nat.zero_add _) (Nat.zero_add _) ?_
    refine ev_iret (X := M_X12_count) (pc := 111) dX12_count_111 rfl ?_
    first
      | (have hk : coK w = 0 := by unfold coK; rw [if_pos (by omega)]
         rw [hk]
         refine ⟨congrArg (fun z => some (vI z)) ?_, rfl, mU_n hD⟩
         show _ = coX D tm w
         rw [h1]
         first
           | rfl
           | exact n3)
      | (have hk : coK w = 1 := by unfold coK; rw [if_neg (by omega)]
         rw [hk]
         exact ⟨rfl, rfl, mU_e hD (by decide)⟩)
def toK (k : Int) : Int := if 1 ≤ k ∧ k ≤ 5 then 0 else 1
theorem m_told {γ : Gh} {K : Sk} {V : Mm} (hL : Lay K) {D : Int → Int} (hD : V 157 = D) {k : Int} (hk : R32 k) : Call γ M_X12_told 1 0 0 [vR 156, vI k] K V (Rt (some (vI (aR (toK k) (V 159 k)))) K (mU V (aD (toK k) D D) (toK k))) := by
  refine call_of (by decide +kernel) (by intro v hv; simp only [List.mem_cons, List.not_mem_nil, or_false] at hv; rcases hv with rfl | rfl <;> exact fun q => by cases q) (Nat.le_of_ble_eq_true rfl) ?_
  refine ev_lsE (ls' := [_, _]) rfl ?_
  refine ev_iload_n (X := M_X12_told) (pc := 0) dX12_told_0 rfl ?_
  refine ev_i2l (X := M_X12_told) (pc := 1) dX12_told_1 (by omega) ?_
  refine ev_lconst (X := M_X12_told) (pc := 2) (v := 1) dX12_told_2 (by decide) ?_
  refine ev_ldc2 (X := M_X12_told) (pc := 3) (v := 5) dX12_told_3 kw_1186 (by decide) ?_
  refine ev_staticR (X := M_X12_told) (Y := M_X12_in) (pc := 6) dX12_told_6 mk_X12_in kw_1089 kw_1090 (m_in (by omega) (by decide) (by decide)) rfl (by decide) rfl (Nat.le_of_ble_eq_true rfl) (Nat.zero_add _) (Nat.zero_add _) ?_
  refine ev_if_eq (X := M_X12_told) (pc := 9) (tgt := 21) dX12_told_9 (by decide) (by split <;> decide) (fun h9 => ?_) (fun h9 => ?_)
  · have hk1 : toK k = 1 := by unfold toK; rw [if_neg (fun z => by rw [if_pos z] at h9; exact absurd h9 (by decide))]
    refine ev_aload_n (X := M_X12_told) (pc := 21) dX12_told_21 rfl ?_
    refine ev_iconst (X := M_X12_told) (pc := 22) dX12_told_22 ?_
    refine ev_virtR (X := M_X12_told) (Y := M_X12_finds) (pc := 23) (ci := 12) dX12_told_23 mk_X12_finds rfl kw_1092 kw_1094 kp_5 (lO_156 hL) (m_finds hL (by decide)) rfl (by decide) rfl (Nat.le_of_ble_eq_true rfl) (Nat.zero_add _) (Nat.zero_add _) ?_
    refine ev_iret (X := M_X12_told) (pc := 26) dX12_told_26 rfl ?_
    rw [hk1]
    first
      | exact ⟨rfl, rfl, mU_e hD (by decide)⟩
      | exact ⟨rfl, rfl, mU_n hD⟩
  · have hk3 : 1 ≤ k ∧ k ≤ 5 := Decidable.byContradiction fun z => h9 (by rw [if_neg z])
    have hk1 : toK k = 0 := by unfold toK; rw [if_pos hk3]
    refine ev_aload_n (X := M_X12_told) (pc := 12) dX12_told_12 rfl ?_
    refine ev_getRe (X := M_X12_told) (pc := 13) dX12_told_13 fl_X12_16_12 (lO_156 hL) rfl (lR_156_3 hL) ?_
    refine ev_iload_n (X := M_X12_told) (pc := 16) dX12_told_16 rfl ?_
    refine ev_iaload (X := M_X12_told) (pc := 17) dX12_told_17 (lS_159 hL) (by omega) ?_
    refine ev_goto (X := M_X12_told) (pc := 18) (tgt := 26) dX12_told_18 (by decide) ?_
    refine ev_iret (X := M_X12_told) (pc := 26) dX12_told_26 rfl ?_
    rw [hk1]
    first
      | exact ⟨rfl, rfl, mU_e hD (by decide)⟩
      | exact ⟨rfl, rfl, mU_n hD⟩
def abv (k : Int) : Int := if k = 4 then 1 else if k = 5 then 2 else if k = 6 then 3 else 0
theorem m_above {γ : Gh} {K : Sk} {V : Mm} {k : Int} (hk : R32 k) : Call γ M_X12_above 0 0 0 [vI k] K V (Rt (some (vI (abv k))) K V) := by
  refine call_of (by decide +kernel) (by intro v hv; simp only [List.mem_cons, List.not_mem_nil, or_false] at hv; rcases hv with rfl <;> exact fun q => by cases q) (Nat.le_of_ble_eq_true rfl) ?_
  refine ev_lsE (ls' := [_]) rfl ?_
  refine ev_iload_n (X := M_X12_above) (pc := 0) dX12_above_0 rfl ?_
  refine ev_iconst (X := M_X12_above) (pc := 1) dX12_above_1 ?_
  refine ev_icmp_ne (X := M_X12_above) (pc := 2) (tgt := 9) dX12_above_2 (by decide) (by omega) (by omega) (fun h2 => ?_) (fun h2 => ?_)
  · refine ev_iload_n (X := M_X12_above) (pc := 9) dX12_above_9 rfl ?_
    refine ev_iconst (X := M_X12_above) (pc := 10) dX12_above_10 ?_
    refine ev_icmp_ne (X := M_X12_above) (pc := 11) (tgt := 18) dX12_above_11 (by decide) (by omega) (by omega) (fun h11 => ?_) (fun h11 => ?_)
    · refine ev_iload_n (X := M_X12_above) (pc := 18) dX12_above_18 rfl ?_
      refine ev_bipush (X := M_X12_above) (pc := 19) dX12_above_19 (by decide) ?_
      refine ev_icmp_ne (X := M_X12_above) (pc := 21) (tgt := 28) dX12_above_21 (by decide) (by omega) (by omega) (fun h21 => ?_) (fun h21 => ?_)
      · refine ev_iconst (X := M_X12_above) (pc := 28) dX12_above_28 ?_
        refine ev_iret (X := M_X12_above) (pc := 29) dX12_above_29 rfl ?_
        refine ⟨congrArg (fun z => some (vI z)) ?_, rfl, rfl⟩
        unfold abv
        repeat' split
        all_goals omega
      · refine ev_iconst (X := M_X12_above) (pc := 24) dX12_above_24 ?_
        refine ev_goto (X := M_X12_above) (pc := 25) (tgt := 29) dX12_above_25 (by decide) ?_
        refine ev_iret (X := M_X12_above) (pc := 29) dX12_above_29 rfl ?_
        refine ⟨congrArg (fun z => some (vI z)) ?_, rfl, rfl⟩
        unfold abv
        repeat' split
        all_goals omega
    · refine ev_iconst (X := M_X12_above) (pc := 14) dX12_above_14 ?_
      refine ev_goto (X := M_X12_above) (pc := 15) (tgt := 29) dX12_above_15 (by decide) ?_
      refine ev_iret (X := M_X12_above) (pc := 29) dX12_above_29 rfl ?_
      refine ⟨congrArg (fun z => some (vI z)) ?_, rfl, rfl⟩
      unfold abv
      repeat' split
      all_goals omega
  · refine ev_iconst (X := M_X12_above) (pc := 5) dX12_above_5 ?_
    refine ev_goto (X := M_X12_above) (pc := 6) (tgt := 29) dX12_above_6 (by decide) ?_
    refine ev_iret (X := M_X12_above) (pc := 29) dX12_above_29 rfl ?_
    refine ⟨congrArg (fun z => some (vI z)) ?_, rfl, rfl⟩
    unfold abv
    repeat' split
    all_goals omega
def asK (D : Int → Int) (p k : Int) : Int := if (0 ≤ p ∧ p < 6) ∧ 0 ≤ k ∧ k ≤ 6 then (if k = 0 ∨ k = D (3 + p) ∨ k = abv (D (3 + p)) then 0 else 5) else 1
theorem m_as {γ : Gh} {K : Sk} {V : Mm} (hL : Lay K) {D : Int → Int} (hD : V 157 = D) (hK : Kds D) {p k : Int} (hp : R32 p) (hkr : R32 k) : Call γ M_X12_as 2 0 0 [vR 156, vI p, vI k] K V (Rt (some (vI (aR (asK D p k) (D (9 + p))))) K (mU V (aD (asK D p k) D D) (asK D p k))) := by
  refine call_of (by decide +kernel) (by intro v hv; simp only [List.mem_cons, List.not_mem_nil, or_false] at hv; rcases hv with rfl | rfl | rfl <;> exact fun q => by cases q) (Nat.le_of_ble_eq_true rfl) ?_
  refine ev_lsE (ls' := [_, _, _, _]) rfl ?_
  refine ev_iload_n (X := M_X12_as) (pc := 0) dX12_as_0 rfl ?_
  refine ev_staticR (X := M_X12_as) (Y := M_X12_isPair) (pc := 1) dX12_as_1 mk_X12_isPair kw_1183 kw_1184 (m_isPair hp) rfl (by decide) rfl (Nat.le_of_ble_eq_true rfl) (Nat.zero_add _) (Nat.zero_add _) ?_
  refine ev_if_eq (X := M_X12_as) (pc := 4) (tgt := 19) dX12_as_4 (by decide) (by split <;> decide) (fun h4 => ?_) (fun h4 => ?_)
  · have hk : asK D p k = 1 := by unfold asK; rw [if_neg (fun z => by rw [if_pos (by omega)] at h4; exact absurd h4 (by decide))]
    refine ev_aload_n (X := M_X12_as) (pc := 19) dX12_as_19 rfl ?_
    refine ev_iconst (X := M_X12_as) (pc := 20) dX12_as_20 ?_
    refine ev_virtR (X := M_X12_as) (Y := M_X12_finds) (pc := 21) (ci := 12) dX12_as_21 mk_X12_finds rfl kw_1092 kw_1094 kp_5 (lO_156 hL) (m_finds hL (by decide)) rfl (by decide) rfl (Nat.le_of_ble_eq_true rfl) (Nat.zero_add _) (Nat.zero_add _) ?_
    refine ev_iret (X := M_X12_as) (pc := 24) dX12_as_24 rfl ?_
    rw [hk]
    exact ⟨rfl, rfl, mU_e hD (by decide)⟩
  · have hs3 : 0 ≤ p ∧ p ≤ 5 := Decidable.byContradiction fun z => h4 (by rw [if_neg z])
    refine ev_iload_n (X := M_X12_as) (pc := 7) dX12_as_7 rfl ?_
    refine ev_i2l (X := M_X12_as) (pc := 8) dX12_as_8 (by omega) ?_
    refine ev_lconst (X := M_X12_as) (pc := 9) (v := 0) dX12_as_9 (by decide) ?_
    refine ev_ldc2 (X := M_X12_as) (pc := 10) (v := 6) dX12_as_10 kw_1234 (by decide) ?_
    refine ev_staticR (X := M_X12_as) (Y := M_X12_in) (pc := 13) dX12_as_13 mk_X12_in kw_1089 kw_1090 (m_in (by omega) (by decide) (by decide)) rfl (by decide) rfl (Nat.le_of_ble_eq_true rfl) (Nat.zero_add _) (Nat.zero_add _) ?_
    refine ev_if_ne (X := M_X12_as) (pc := 16) (tgt := 25) dX12_as_16 (by decide) (by split <;> decide) (fun h16 => ?_) (fun h16 => ?_)
    · have hv3 : 0 ≤ k ∧ k ≤ 6 := Decidable.byContradiction fun z => h16 (by rw [if_neg z])
      have hk0 : asK D p k = if k = 0 ∨ k = D (3 + p) ∨ k = abv (D (3 + p)) then 0 else 5 := by unfold asK; rw [if_pos (by omega)]
      have hd3 := (hK.1 p hs3.1 (by omega)).1
      have hab : 0 ≤ abv (D (3 + p)) ∧ abv (D (3 + p)) ≤ 3 := by
        unfold abv
        repeat' split
        all_goals decide
      refine ev_aload_n (X := M_X12_as) (pc := 25) dX12_as_25 rfl ?_
      refine ev_getRe (X := M_X12_as) (pc := 26) dX12_as_26 fl_X12_7_12 (lO_156 hL) rfl (lR_156_0 hL) ?_
      refine ev_iconst (X := M_X12_as) (pc := 29) dX12_as_29 ?_
      refine ev_iload_n (X := M_X12_as) (pc := 30) dX12_as_30 rfl ?_
      refine ev_iadd (X := M_X12_as) (pc := 31) dX12_as_31 ?_
      refine ev_ialoadE (X := M_X12_as) (pc := 32) dX12_as_32 (lS_157 hL) (by omega) (congrFun hD _) ?_
      refine ev_istore_nL (X := M_X12_as) (pc := 33) (ls' := [_, _, _, _]) dX12_as_33 (by decide) rfl ?_
      refine ev_iload_n (X := M_X12_as) (pc := 34) dX12_as_34 rfl ?_
      refine ev_if_eq (X := M_X12_as) (pc := 35) (tgt := 51) dX12_as_35 (by decide) (by omega) (fun h35 => ?_) (fun h35 => ?_)
      · have hk : asK D p k = 0 := by rw [hk0, if_pos (Or.inl h35)]
        refine ev_aload_n (X := M_X12_as) (pc := 51) dX12_as_51 rfl ?_
        refine ev_getRe (X := M_X12_as) (pc := 52) dX12_as_52 fl_X12_7_12 (lO_156 hL) rfl (lR_156_0 hL) ?_
        refine ev_bipush (X := M_X12_as) (pc := 55) dX12_as_55 (by decide) ?_
        refine ev_iload_n (X := M_X12_as) (pc := 57) dX12_as_57 rfl ?_
        refine ev_iadd (X := M_X12_as) (pc := 58) dX12_as_58 ?_
        refine ev_ialoadE (X := M_X12_as) (pc := 59) dX12_as_59 (lS_157 hL) (by omega) (congrFun hD _) ?_
        refine ev_goto (X := M_X12_as) (pc := 60) (tgt := 68) dX12_as_60 (by decide) ?_
        refine ev_iret (X := M_X12_as) (pc := 68) dX12_as_68 rfl ?_
        rw [hk]
        first
          | exact ⟨rfl, rfl, mU_e hD (by decide)⟩
          | exact ⟨rfl, rfl, mU_n hD⟩
      · refine ev_iload_n (X := M_X12_as) (pc := 38) dX12_as_38 rfl ?_
        refine ev_iload_n (X := M_X12_as) (pc := 39) dX12_as_39 rfl ?_
        refine ev_icmp_eq (X := M_X12_as) (pc := 40) (tgt := 51) dX12_as_40 (by decide) (by omega) (by omega) (fun h40 => ?_) (fun h40 => ?_)
        · have hk : asK D p k = 0 := by rw [hk0, if_pos (Or.inr (Or.inl h40))]
          refine ev_aload_n (X := M_X12_as) (pc := 51) dX12_as_51 rfl ?_
          refine ev_getRe (X := M_X12_as) (pc := 52) dX12_as_52 fl_X12_7_12 (lO_156 hL) rfl (lR_156_0 hL) ?_
          refine ev_bipush (X := M_X12_as) (pc := 55) dX12_as_55 (by decide) ?_
          refine ev_iload_n (X := M_X12_as) (pc := 57) dX12_as_57 rfl ?_
          refine ev_iadd (X := M_X12_as) (pc := 58) dX12_as_58 ?_
          refine ev_ialoadE (X := M_X12_as) (pc := 59) dX12_as_59 (lS_157 hL) (by omega) (congrFun hD _) ?_
          refine ev_goto (X := M_X12_as) (pc := 60) (tgt := 68) dX12_as_60 (by decide) ?_
          refine ev_iret (X := M_X12_as) (pc := 68) dX12_as_68 rfl ?_
          rw [hk]
          first
            | exact ⟨rfl, rfl, mU_e hD (by decide)⟩
            | exact ⟨rfl, rfl, mU_n hD⟩
        · refine ev_iload_n (X := M_X12_as) (pc := 43) dX12_as_43 rfl ?_
          refine ev_iload_n (X := M_X12_as) (pc := 44) dX12_as_44 rfl ?_
          refine ev_staticR (X := M_X12_as) (Y := M_X12_above) (pc := 45) dX12_as_45 mk_X12_above kw_1235 kw_1236 (m_above (by omega)) rfl (by decide) rfl (Nat.le_of_ble_eq_true rfl) (Nat.zero_add _) (Nat.zero_add _) ?_
          refine ev_icmp_ne (X := M_X12_as) (pc := 48) (tgt := 63) dX12_as_48 (by decide) (by omega) (by omega) (fun h48 => ?_) (fun h48 => ?_)
          · have hk : asK D p k = 5 := by rw [hk0, if_neg (fun z => by rcases z with z | z | z <;> omega)]
            refine ev_aload_n (X := M_X12_as) (pc := 63) dX12_as_63 rfl ?_
            refine ev_iconst (X := M_X12_as) (pc := 64) dX12_as_64 ?_
            refine ev_virtR (X := M_X12_as) (Y := M_X12_finds) (pc := 65) (ci := 12) dX12_as_65 mk_X12_finds rfl kw_1092 kw_1094 kp_5 (lO_156 hL) (m_finds hL (by decide)) rfl (by decide) rfl (Nat.le_of_ble_eq_true rfl) (Nat.zero_add _) (Nat.zero_add _) ?_
            refine ev_iret (X := M_X12_as) (pc := 68) dX12_as_68 rfl ?_
            rw [hk]
            first
              | exact ⟨rfl, rfl, mU_e hD (by decide)⟩
              | exact ⟨rfl, rfl, mU_n hD⟩
          · have hk : asK D p k = 0 := by rw [hk0, if_pos (Or.inr (Or.inr h48))]
            refine ev_aload_n (X := M_X12_as) (pc := 51) dX12_as_51 rfl ?_
            refine ev_getRe (X := M_X12_as) (pc := 52) dX12_as_52 fl_X12_7_12 (lO_156 hL) rfl (lR_156_0 hL) ?_
            refine ev_bipush (X := M_X12_as) (pc := 55) dX12_as_55 (by decide) ?_
            refine ev_iload_n (X := M_X12_as) (pc := 57) dX12_as_57 rfl ?_
            refine ev_iadd (X := M_X12_as) (pc := 58) dX12_as_58 ?_
            refine ev_ialoadE (X := M_X12_as) (pc := 59) dX12_as_59 (lS_157 hL) (by omega) (congrFun hD _) ?_
            refine ev_goto (X := M_X12_as) (pc := 60) (tgt := 68) dX12_as_60 (by decide) ?_
            refine ev_iret (X := M_X12_as) (pc := 68) dX12_as_68 rfl ?_
            rw [hk]
            first
              | exact ⟨rfl, rfl, mU_e hD (by decide)⟩
              | exact ⟨rfl, rfl, mU_n hD⟩
    · have hk : asK D p k = 1 := by unfold asK; rw [if_neg (fun z => by rw [if_pos (by omega)] at h16; exact absurd h16 (by decide))]
      refine ev_aload_n (X := M_X12_as) (pc := 19) dX12_as_19 rfl ?_
      refine ev_iconst (X := M_X12_as) (pc := 20) dX12_as_20 ?_
      refine ev_virtR (X := M_X12_as) (Y := M_X12_finds) (pc := 21) (ci := 12) dX12_as_21 mk_X12_finds rfl kw_1092 kw_1094 kp_5 (lO_156 hL) (m_finds hL (by decide)) rfl (by decide) rfl (Nat.le_of_ble_eq_true rfl) (Nat.zero_add _) (Nat.zero_add _) ?_
      refine ev_iret (X := M_X12_as) (pc := 24) dX12_as_24 rfl ?_
      rw [hk]
      exact ⟨rfl, rfl, mU_e hD (by decide)⟩
