/-! ===== what comes of a pair ===== -/
def cm0 (D : Int → Int) (p : Int) : Int := if D (3 + p) = 1 then (if lesF p = greF p then lesF p else 3 - lesF p - greF p) else if D (3 + p) = 2 then greF p else if D (3 + p) = 3 then lesF p else if D (3 + p) = 4 then greF p else if D (3 + p) = 5 then (lesF p + greF p + D (9 + p)) % 3 else if D (3 + p) = 6 then giv D 0 (lesF p) (greF p) (D (9 + p)) 0 else lesF p
def cm1 (D : Int → Int) (p : Int) : Int := if D (3 + p) = 1 then (if lesF p = greF p then greF p else 3 - lesF p - greF p) else if D (3 + p) = 2 then -1 else if D (3 + p) = 3 then greF p else if D (3 + p) = 4 then greF p else if D (3 + p) = 5 then -1 else if D (3 + p) = 6 then giv D 0 (lesF p) (greF p) (D (9 + p)) 0 else greF p
def cm2 (D : Int → Int) (p : Int) : Int := if D (3 + p) = 3 then D (9 + p) % 3 else if D (3 + p) = 6 then (if 4 < D (9 + p) then D (9 + p) % 3 else -1) else -1
def comF (D : Int → Int) : Int → Int := fun j => if 0 ≤ j ∧ j < 18 then (if j % 3 = 0 then cm0 D (j / 3) else if j % 3 = 1 then cm1 D (j / 3) else cm2 D (j / 3)) else 0
def Kds (D : Int → Int) : Prop := (∀ p, 0 ≤ p → p < 6 → (0 ≤ D (3 + p) ∧ D (3 + p) ≤ 6) ∧ 0 ≤ D (9 + p) ∧ D (9 + p) ≤ 9) ∧ TxOk D 0
theorem giv0_r {D : Int → Int} {a b c d : Int} : 0 ≤ giv D 0 a b c d ∧ giv D 0 a b c d ≤ 2 := by
  unfold giv
  rw [if_pos rfl]
  exact heldF_r (by decide)
theorem comF_wf {D : Int → Int} (h : Kds D) : wfC (comF D) := by
  intro p hp
  have h1 := h.1 p hp.1 hp.2
  have h2 := les_r p hp
  have h3 := gre_r p hp
  have h4 := giv0_r (D := D) (a := lesF p) (b := greF p) (c := D (9 + p)) (d := 0)
  have hlg : lesF p + greF p ≤ 3 ∨ lesF p = greF p := by
    unfold lesF greF
    repeat' split
    all_goals omega
  unfold comF
  rw [if_pos (show 0 ≤ 3 * p ∧ 3 * p < 18 by omega), if_pos (show 3 * p % 3 = 0 by omega), show 3 * p / 3 = p by omega]
  rw [if_pos (show 0 ≤ 3 * p + 1 ∧ 3 * p + 1 < 18 by omega), if_neg (show ¬ (3 * p + 1) % 3 = 0 by omega), if_pos (show (3 * p + 1) % 3 = 1 by omega), show (3 * p + 1) / 3 = p by omega]
  rw [if_pos (show 0 ≤ 3 * p + 2 ∧ 3 * p + 2 < 18 by omega), if_neg (show ¬ (3 * p + 2) % 3 = 0 by omega), if_neg (show ¬ (3 * p + 2) % 3 = 1 by omega), show (3 * p + 2) / 3 = p by omega]
  refine ⟨?_, ?_, ?_⟩
  · unfold cm0
    repeat' split
    all_goals omega
  · unfold cm1
    repeat' split
    all_goals omega
  · unfold cm2
    repeat' split
    all_goals omega
def mC (V W : Mm) : Prop := ∀ c i, ¬ (c = 156 ∧ 4 ≤ i ∧ i ≤ 9) → c ≠ 160 → c ≠ 161 → W c i = V c i
theorem mC.rf {V : Mm} : mC V V := fun _ _ _ _ _ => rfl
theorem mC.tr {U V W : Mm} (h : mC U V) (g : mC V W) : mC U W := fun c i z y x => by rw [g c i z y x, h c i z y x]
theorem mC.row {V W : Mm} (h : mC V W) {c : Nat} (hc : c ≠ 156) (h2 : c ≠ 160) (h3 : c ≠ 161) : W c = V c := funext fun i => h c i (fun q => hc q.1) h2 h3
def p3 (f : Int → Int) (p a b c : Int) : Int → Int := up (up (up f (3 * p) a) (3 * p + 1) b) (3 * p + 2) c
theorem m_put3 {γ : Gh} {K : Sk} {V : Mm} (hL : Lay K) {p a b c : Int} (hp : 0 ≤ p ∧ p < 6) : Call γ M_X12_put3 0 0 0 [vR 156, vI p, vI a, vI b, vI c] K V (Rt none K (setr V 161 (p3 (V 161) p a b c))) := by
  refine call_of (by decide +kernel) (by intro v hv; simp only [List.mem_cons, List.not_mem_nil, or_false] at hv; rcases hv with rfl | rfl | rfl | rfl | rfl <;> exact fun q => by cases q) (Nat.le_of_ble_eq_true rfl) ?_
  refine ev_lsE (ls' := [_, _, _, _, _]) rfl ?_
  refine ev_aload_n (X := M_X12_put3) (pc := 0) dX12_put3_0 rfl ?_
  refine ev_getRe (X := M_X12_put3) (pc := 1) dX12_put3_1 fl_X12_22_12 (lO_156 hL) rfl (lR_156_11 hL) ?_
  refine ev_iconst (X := M_X12_put3) (pc := 4) dX12_put3_4 ?_
  refine ev_iload_n (X := M_X12_put3) (pc := 5) dX12_put3_5 rfl ?_
  refine ev_imul (X := M_X12_put3) (pc := 6) dX12_put3_6 ?_
  refine ev_iload_n (X := M_X12_put3) (pc := 7) dX12_put3_7 rfl ?_
  refine ev_iastore (X := M_X12_put3) (pc := 8) dX12_put3_8 (by decide) (lS_161 hL) (by omega) ?_
  refine ev_aload_n (X := M_X12_put3) (pc := 9) dX12_put3_9 rfl ?_
  refine ev_getRe (X := M_X12_put3) (pc := 10) dX12_put3_10 fl_X12_22_12 (lO_156 hL) rfl (lR_156_11 hL) ?_
  refine ev_iconst (X := M_X12_put3) (pc := 13) dX12_put3_13 ?_
  refine ev_iload_n (X := M_X12_put3) (pc := 14) dX12_put3_14 rfl ?_
  refine ev_imul (X := M_X12_put3) (pc := 15) dX12_put3_15 ?_
  refine ev_iconst (X := M_X12_put3) (pc := 16) dX12_put3_16 ?_
  refine ev_iadd (X := M_X12_put3) (pc := 17) dX12_put3_17 ?_
  refine ev_iload_n (X := M_X12_put3) (pc := 18) dX12_put3_18 rfl ?_
  refine ev_iastore (X := M_X12_put3) (pc := 19) dX12_put3_19 (by decide) (lS_161 hL) (by omega) ?_
  refine ev_aload_n (X := M_X12_put3) (pc := 20) dX12_put3_20 rfl ?_
  refine ev_getRe (X := M_X12_put3) (pc := 21) dX12_put3_21 fl_X12_22_12 (lO_156 hL) rfl (lR_156_11 hL) ?_
  refine ev_iconst (X := M_X12_put3) (pc := 24) dX12_put3_24 ?_
  refine ev_iload_n (X := M_X12_put3) (pc := 25) dX12_put3_25 rfl ?_
  refine ev_imul (X := M_X12_put3) (pc := 26) dX12_put3_26 ?_
  refine ev_iconst (X := M_X12_put3) (pc := 27) dX12_put3_27 ?_
  refine ev_iadd (X := M_X12_put3) (pc := 28) dX12_put3_28 ?_
  refine ev_iload (X := M_X12_put3) (pc := 29) dX12_put3_29 rfl ?_
  refine ev_iastore (X := M_X12_put3) (pc := 31) dX12_put3_31 (by decide) (lS_161 hL) (by omega) ?_
  refine ev_vret (X := M_X12_put3) (pc := 32) dX12_put3_32 rfl ?_
  refine ⟨rfl, rfl, ?_⟩
  unfold p3 wr
  rw [setr_self, setr_set, setr_self, setr_set]
theorem mC.s161 {V W : Mm} (h : mC V W) (g : Int → Int) : mC V (setr W 161 g) := fun c i z y x => by rw [setr_ne x]; exact h c i z y x
theorem m_findComes {γ : Gh} {K : Sk} {V : Mm} (hL : Lay K) {D : Int → Int} (hD : V 157 = D) (hK : Kds D) {p : Int} (hp : 0 ≤ p ∧ p < 6) : Call γ M_X12_findComes 40 0 0 [vR 156, vI p] K V (Qx none K (fun W => mC V W ∧ W 161 = p3 (V 161) p (cm0 D p) (cm1 D p) (cm2 D p))) := by
  refine call_of (by decide +kernel) (by intro v hv; simp only [List.mem_cons, List.not_mem_nil, or_false] at hv; rcases hv with rfl | rfl <;> exact fun q => by cases q) (Nat.le_of_ble_eq_true rfl) ?_
  refine ev_lsE (ls' := [_, _, _, _, _, _]) rfl ?_
  have hT := hK.2
  have h1 := hK.1 p hp.1 hp.2
  have h2 := les_r p hp
  have h3 := gre_r p hp
  have hm := congrFun hD (9 + p)
  have hk := congrFun hD (3 + p)
  have fin : ∀ W a b c, mC V W → W 161 = V 161 → cm0 D p = a → cm1 D p = b → cm2 D p = c → Qx none K (fun W => mC V W ∧ W 161 = p3 (V 161) p (cm0 D p) (cm1 D p) (cm2 D p)) none K (setr W 161 (p3 (W 161) p a b c)) := by
    intro W a b c w1 w2 w3 w4 w5
    refine ⟨rfl, rfl, w1.s161 _, ?_⟩
    rw [setr_self, w2, w3, w4, w5]
  refine ev_iload_n (X := M_X12_findComes) (pc := 0) dX12_findComes_0 rfl ?_
  refine ev_staticR (X := M_X12_findComes) (Y := M_X12_first) (pc := 1) dX12_findComes_1 mk_X12_first kw_1205 kw_1206 (m_first (by omega)) rfl (by decide) rfl (Nat.le_of_ble_eq_true rfl) (Nat.zero_add _) (Nat.zero_add _) ?_
  refine ev_istore_nL (X := M_X12_findComes) (pc := 4) (ls' := [_, _, _, _, _, _]) dX12_findComes_4 (by decide) rfl ?_
  refine ev_iload_n (X := M_X12_findComes) (pc := 5) dX12_findComes_5 rfl ?_
  refine ev_staticR (X := M_X12_findComes) (Y := M_X12_second) (pc := 6) dX12_findComes_6 mk_X12_second kw_1208 kw_1209 (m_second (by omega)) rfl (by decide) rfl (Nat.le_of_ble_eq_true rfl) (Nat.zero_add _) (Nat.zero_add _) ?_
  refine ev_istore_nL (X := M_X12_findComes) (pc := 9) (ls' := [_, _, _, _, _, _]) dX12_findComes_9 (by decide) rfl ?_
  refine ev_aload_n (X := M_X12_findComes) (pc := 10) dX12_findComes_10 rfl ?_
  refine ev_getRe (X := M_X12_findComes) (pc := 11) dX12_findComes_11 fl_X12_7_12 (lO_156 hL) rfl (lR_156_0 hL) ?_
  refine ev_bipush (X := M_X12_findComes) (pc := 14) dX12_findComes_14 (by decide) ?_
  refine ev_iload_n (X := M_X12_findComes) (pc := 16) dX12_findComes_16 rfl ?_
  refine ev_iadd (X := M_X12_findComes) (pc := 17) dX12_findComes_17 ?_
  refine ev_ialoadE (X := M_X12_findComes) (pc := 18) dX12_findComes_18 (lS_157 hL) (by omega) (hm) ?_
  refine ev_istoreL (X := M_X12_findComes) (pc := 19) (ls' := [_, _, _, _, _, _]) dX12_findComes_19 (by decide) rfl ?_
  refine ev_iconst (X := M_X12_findComes) (pc := 21) dX12_findComes_21 ?_
  refine ev_istoreL (X := M_X12_findComes) (pc := 22) (ls' := [_, _, _, _, _, _]) dX12_findComes_22 (by decide) rfl ?_
  refine ev_aload_n (X := M_X12_findComes) (pc := 24) dX12_findComes_24 rfl ?_
  refine ev_getRe (X := M_X12_findComes) (pc := 25) dX12_findComes_25 fl_X12_7_12 (lO_156 hL) rfl (lR_156_0 hL) ?_
  refine ev_iconst (X := M_X12_findComes) (pc := 28) dX12_findComes_28 ?_
  refine ev_iload_n (X := M_X12_findComes) (pc := 29) dX12_findComes_29 rfl ?_
  refine ev_iadd (X := M_X12_findComes) (pc := 30) dX12_findComes_30 ?_
  refine ev_ialoadE (X := M_X12_findComes) (pc := 31) dX12_findComes_31 (lS_157 hL) (by omega) (hk) ?_
  rcases (show D (3 + p) = 1 ∨ D (3 + p) = 2 ∨ D (3 + p) = 3 ∨ D (3 + p) = 4 ∨ D (3 + p) = 5 ∨ D (3 + p) = 6 ∨ (D (3 + p) < 1 ∨ 6 < D (3 + p)) by omega) with h32 | h32 | h32 | h32 | h32 | h32 | h32
  · refine ev_tableIn (X := M_X12_findComes) (pc := 32) (off := 40) (tgt := 72) dX12_findComes_32 (by omega) (by omega) (by omega) (by rw [h32]; rfl) (by decide) ?_
    refine ev_aload_n (X := M_X12_findComes) (pc := 72) dX12_findComes_72 rfl ?_
    refine ev_iload_n (X := M_X12_findComes) (pc := 73) dX12_findComes_73 rfl ?_
    refine ev_iload_n (X := M_X12_findComes) (pc := 74) dX12_findComes_74 rfl ?_
    refine ev_iload_n (X := M_X12_findComes) (pc := 75) dX12_findComes_75 rfl ?_
    refine ev_icmp_ne (X := M_X12_findComes) (pc := 76) (tgt := 83) dX12_findComes_76 (by decide) (by omega) (by omega) (fun h76 => ?_) (fun h76 => ?_)
    · refine ev_iconst (X := M_X12_findComes) (pc := 83) dX12_findComes_83 ?_
      refine ev_iload_n (X := M_X12_findComes) (pc := 84) dX12_findComes_84 rfl ?_
      refine ev_isub (X := M_X12_findComes) (pc := 85) dX12_findComes_85 ?_
      refine ev_iload_n (X := M_X12_findComes) (pc := 86) dX12_findComes_86 rfl ?_
      refine ev_isub (X := M_X12_findComes) (pc := 87) dX12_findComes_87 ?_
      refine ev_iload_n (X := M_X12_findComes) (pc := 88) dX12_findComes_88 rfl ?_
      refine ev_iload_n (X := M_X12_findComes) (pc := 89) dX12_findComes_89 rfl ?_
      refine ev_icmp_ne (X := M_X12_findComes) (pc := 90) (tgt := 97) dX12_findComes_90 (by decide) (by omega) (by omega) (fun h90 => ?_) (fun h90 => ?_)
      · refine ev_iconst (X := M_X12_findComes) (pc := 97) dX12_findComes_97 ?_
        refine ev_iload_n (X := M_X12_findComes) (pc := 98) dX12_findComes_98 rfl ?_
        refine ev_isub (X := M_X12_findComes) (pc := 99) dX12_findComes_99 ?_
        refine ev_iload_n (X := M_X12_findComes) (pc := 100) dX12_findComes_100 rfl ?_
        refine ev_isub (X := M_X12_findComes) (pc := 101) dX12_findComes_101 ?_
        refine ev_iconst (X := M_X12_findComes) (pc := 102) dX12_findComes_102 ?_
        refine ev_virtV (X := M_X12_findComes) (Y := M_X12_put3) (pc := 103) (ci := 12) dX12_findComes_103 mk_X12_put3 rfl kw_1211 kw_1213 kp_21 (lO_156 hL) (m_put3 hL hp) rfl (by decide) rfl (Nat.le_of_ble_eq_true rfl) (Nat.zero_add _) (Nat.zero_add _) ?_
        refine ev_goto (X := M_X12_findComes) (pc := 106) (tgt := 209) dX12_findComes_106 (by decide) ?_
        refine ev_vret (X := M_X12_findComes) (pc := 209) dX12_findComes_209 rfl ?_
        first
          | exact fin V _ _ _ mC.rf rfl (by unfold cm0; (repeat' split) <;> first | rfl | omega) (by unfold cm1; (repeat' split) <;> first | rfl | omega) (by unfold cm2; (repeat' split) <;> first | rfl | omega)
          | exact fin W _ _ _ (fun e i z y _ => hW e i z y) (hW.row (by decide) (by decide)) (by unfold cm0; (repeat' split) <;> first | rfl | omega) (by unfold cm1; (repeat' split) <;> first | rfl | omega) (by unfold cm2; (repeat' split) <;> first | rfl | omega)
      · refine ev_iload_n (X := M_X12_findComes) (pc := 93) dX12_findComes_93 rfl ?_
        refine ev_goto (X := M_X12_findComes) (pc := 94) (tgt := 102) dX12_findComes_94 (by decide) ?_
        refine ev_iconst (X := M_X12_findComes) (pc := 102) dX12_findComes_102 ?_
        refine ev_virtV (X := M_X12_findComes) (Y := M_X12_put3) (pc := 103) (ci := 12) dX12_findComes_103 mk_X12_put3 rfl kw_1211 kw_1213 kp_21 (lO_156 hL) (m_put3 hL hp) rfl (by decide) rfl (Nat.le_of_ble_eq_true rfl) (Nat.zero_add _) (Nat.zero_add _) ?_
        refine ev_goto (X := M_X12_findComes) (pc := 106) (tgt := 209) dX12_findComes_106 (by decide) ?_
        refine ev_vret (X := M_X12_findComes) (pc := 209) dX12_findComes_209 rfl ?_
        first
          | exact fin V _ _ _ mC.rf rfl (by unfold cm0; (repeat' split) <;> first | rfl | omega) (by unfold cm1; (repeat' split) <;> first | rfl | omega) (by unfold cm2; (repeat' split) <;> first | rfl | omega)
          | exact fin W _ _ _ (fun e i z y _ => hW e i z y) (hW.row (by decide) (by decide)) (by unfold cm0; (repeat' split) <;> first | rfl | omega) (by unfold cm1; (repeat' split) <;> first | rfl | omega) (by unfold cm2; (repeat' split) <;> first | rfl | omega)
    · refine ev_iload_n (X := M_X12_findComes) (pc := 79) dX12_findComes_79 rfl ?_
      refine ev_goto (X := M_X12_findComes) (pc := 80) (tgt := 88) dX12_findComes_80 (by decide) ?_
      refine ev_iload_n (X := M_X12_findComes) (pc := 88) dX12_findComes_88 rfl ?_
      refine ev_iload_n (X := M_X12_findComes) (pc := 89) dX12_findComes_89 rfl ?_
      refine ev_icmp_ne (X := M_X12_findComes) (pc := 90) (tgt := 97) dX12_findComes_90 (by decide) (by omega) (by omega) (fun h90 => ?_) (fun h90 => ?_)
      · refine ev_iconst (X := M_X12_findComes) (pc := 97) dX12_findComes_97 ?_
        refine ev_iload_n (X := M_X12_findComes) (pc := 98) dX12_findComes_98 rfl ?_
        refine ev_isub (X := M_X12_findComes) (pc := 99) dX12_findComes_99 ?_
        refine ev_iload_n (X := M_X12_findComes) (pc := 100) dX12_findComes_100 rfl ?_
        refine ev_isub (X := M_X12_findComes) (pc := 101) dX12_findComes_101 ?_
        refine ev_iconst (X := M_X12_findComes) (pc := 102) dX12_findComes_102 ?_
        refine ev_virtV (X := M_X12_findComes) (Y := M_X12_put3) (pc := 103) (ci := 12) dX12_findComes_103 mk_X12_put3 rfl kw_1211 kw_1213 kp_21 (lO_156 hL) (m_put3 hL hp) rfl (by decide) rfl (Nat.le_of_ble_eq_true rfl) (Nat.zero_add _) (Nat.zero_add _) ?_
        refine ev_goto (X := M_X12_findComes) (pc := 106) (tgt := 209) dX12_findComes_106 (by decide) ?_
        refine ev_vret (X := M_X12_findComes) (pc := 209) dX12_findComes_209 rfl ?_
        first
          | exact fin V _ _ _ mC.rf rfl (by unfold cm0; (repeat' split) <;> first | rfl | omega) (by unfold cm1; (repeat' split) <;> first | rfl | omega) (by unfold cm2; (repeat' split) <;> first | rfl | omega)
          | exact fin W _ _ _ (fun e i z y _ => hW e i z y) (hW.row (by decide) (by decide)) (by unfold cm0; (repeat' split) <;> first | rfl | omega) (by unfold cm1; (repeat' split) <;> first | rfl | omega) (by unfold cm2; (repeat' split) <;> first | rfl | omega)
      · refine ev_iload_n (X := M_X12_findComes) (pc := 93) dX12_findComes_93 rfl ?_
        refine ev_goto (X := M_X12_findComes) (pc := 94) (tgt := 102) dX12_findComes_94 (by decide) ?_
        refine ev_iconst (X := M_X12_findComes) (pc := 102) dX12_findComes_102 ?_
        refine ev_virtV (X := M_X12_findComes) (Y := M_X12_put3) (pc := 103) (ci := 12) dX12_findComes_103 mk_X12_put3 rfl kw_1211 kw_1213 kp_21 (lO_156 hL) (m_put3 hL hp) rfl (by decide) rfl (Nat.le_of_ble_eq_true rfl) (Nat.zero_add _) (Nat.zero_add _) ?_
        refine ev_goto (X := M_X12_findComes) (pc := 106) (tgt := 209) dX12_findComes_106 (by decide) ?_
        refine ev_vret (X := M_X12_findComes) (pc := 209) dX12_findComes_209 rfl ?_
        first
          | exact fin V _ _ _ mC.rf rfl (by unfold cm0; (repeat' split) <;> first | rfl | omega) (by unfold cm1; (repeat' split) <;> first | rfl | omega) (by unfold cm2; (repeat' split) <;> first | rfl | omega)
          | exact fin W _ _ _ (fun e i z y _ => hW e i z y) (hW.row (by decide) (by decide)) (by unfold cm0; (repeat' split) <;> first | rfl | omega) (by unfold cm1; (repeat' split) <;> first | rfl | omega) (by unfold cm2; (repeat' split) <;> first | rfl | omega)
  · refine ev_tableIn (X := M_X12_findComes) (pc := 32) (off := 77) (tgt := 109) dX12_findComes_32 (by omega) (by omega) (by omega) (by rw [h32]; rfl) (by decide) ?_
    refine ev_aload_n (X := M_X12_findComes) (pc := 109) dX12_findComes_109 rfl ?_
    refine ev_iload_n (X := M_X12_findComes) (pc := 110) dX12_findComes_110 rfl ?_
    refine ev_iload_n (X := M_X12_findComes) (pc := 111) dX12_findComes_111 rfl ?_
    refine ev_iconst (X := M_X12_findComes) (pc := 112) dX12_findComes_112 ?_
    refine ev_iconst (X := M_X12_findComes) (pc := 113) dX12_findComes_113 ?_
    refine ev_virtV (X := M_X12_findComes) (Y := M_X12_put3) (pc := 114) (ci := 12) dX12_findComes_114 mk_X12_put3 rfl kw_1211 kw_1213 kp_21 (lO_156 hL) (m_put3 hL hp) rfl (by decide) rfl (Nat.le_of_ble_eq_true rfl) (Nat.zero_add _) (Nat.zero_add _) ?_
    refine ev_goto (X := M_X12_findComes) (pc := 117) (tgt := 209) dX12_findComes_117 (by decide) ?_
    refine ev_vret (X := M_X12_findComes) (pc := 209) dX12_findComes_209 rfl ?_
    first
      | exact fin V _ _ _ mC.rf rfl (by unfold cm0; (repeat' split) <;> first | rfl | omega) (by unfold cm1; (repeat' split) <;> first | rfl | omega) (by unfold cm2; (repeat' split) <;> first | rfl | omega)
      | exact fin W _ _ _ (fun e i z y _ => hW e i z y) (hW.row (by decide) (by decide)) (by unfold cm0; (repeat' split) <;> first | rfl | omega) (by unfold cm1; (repeat' split) <;> first | rfl | omega) (by unfold cm2; (repeat' split) <;> first | rfl | omega)
  · refine ev_tableIn (X := M_X12_findComes) (pc := 32) (off := 88) (tgt := 120) dX12_findComes_32 (by omega) (by omega) (by omega) (by rw [h32]; rfl) (by decide) ?_
    refine ev_aload_n (X := M_X12_findComes) (pc := 120) dX12_findComes_120 rfl ?_
    refine ev_iload_n (X := M_X12_findComes) (pc := 121) dX12_findComes_121 rfl ?_
    refine ev_iload_n (X := M_X12_findComes) (pc := 122) dX12_findComes_122 rfl ?_
    refine ev_iload_n (X := M_X12_findComes) (pc := 123) dX12_findComes_123 rfl ?_
    refine ev_iload (X := M_X12_findComes) (pc := 124) dX12_findComes_124 rfl ?_
    refine ev_iconst (X := M_X12_findComes) (pc := 126) dX12_findComes_126 ?_
    refine ev_irem (X := M_X12_findComes) (pc := 127) dX12_findComes_127 (by omega) (by omega) ?_
    refine ev_virtV (X := M_X12_findComes) (Y := M_X12_put3) (pc := 128) (ci := 12) dX12_findComes_128 mk_X12_put3 rfl kw_1211 kw_1213 kp_21 (lO_156 hL) (m_put3 hL hp) rfl (by decide) rfl (Nat.le_of_ble_eq_true rfl) (Nat.zero_add _) (Nat.zero_add _) ?_
    refine ev_goto (X := M_X12_findComes) (pc := 131) (tgt := 209) dX12_findComes_131 (by decide) ?_
    refine ev_vret (X := M_X12_findComes) (pc := 209) dX12_findComes_209 rfl ?_
    first
      | exact fin V _ _ _ mC.rf rfl (by unfold cm0; (repeat' split) <;> first | rfl | omega) (by unfold cm1; (repeat' split) <;> first | rfl | omega) (by unfold cm2; (repeat' split) <;> first | rfl | omega)
      | exact fin W _ _ _ (fun e i z y _ => hW e i z y) (hW.row (by decide) (by decide)) (by unfold cm0; (repeat' split) <;> first | rfl | omega) (by unfold cm1; (repeat' split) <;> first | rfl | omega) (by unfold cm2; (repeat' split) <;> first | rfl | omega)
  · refine ev_tableIn (X := M_X12_findComes) (pc := 32) (off := 102) (tgt := 134) dX12_findComes_32 (by omega) (by omega) (by omega) (by rw [h32]; rfl) (by decide) ?_
    refine ev_aload_n (X := M_X12_findComes) (pc := 134) dX12_findComes_134 rfl ?_
    refine ev_iload_n (X := M_X12_findComes) (pc := 135) dX12_findComes_135 rfl ?_
    refine ev_iload_n (X := M_X12_findComes) (pc := 136) dX12_findComes_136 rfl ?_
    refine ev_iload_n (X := M_X12_findComes) (pc := 137) dX12_findComes_137 rfl ?_
    refine ev_iconst (X := M_X12_findComes) (pc := 138) dX12_findComes_138 ?_
    refine ev_virtV (X := M_X12_findComes) (Y := M_X12_put3) (pc := 139) (ci := 12) dX12_findComes_139 mk_X12_put3 rfl kw_1211 kw_1213 kp_21 (lO_156 hL) (m_put3 hL hp) rfl (by decide) rfl (Nat.le_of_ble_eq_true rfl) (Nat.zero_add _) (Nat.zero_add _) ?_
    refine ev_goto (X := M_X12_findComes) (pc := 142) (tgt := 209) dX12_findComes_142 (by decide) ?_
    refine ev_vret (X := M_X12_findComes) (pc := 209) dX12_findComes_209 rfl ?_
    first
      | exact fin V _ _ _ mC.rf rfl (by unfold cm0; (repeat' split) <;> first | rfl | omega) (by unfold cm1; (repeat' split) <;> first | rfl | omega) (by unfold cm2; (repeat' split) <;> first | rfl | omega)
      | exact fin W _ _ _ (fun e i z y _ => hW e i z y) (hW.row (by decide) (by decide)) (by unfold cm0; (repeat' split) <;> first | rfl | omega) (by unfold cm1; (repeat' split) <;> first | rfl | omega) (by unfold cm2; (repeat' split) <;> first | rfl | omega)
  · refine ev_tableIn (X := M_X12_findComes) (pc := 32) (off := 113) (tgt := 145) dX12_findComes_32 (by omega) (by omega) (by omega) (by rw [h32]; rfl) (by decide) ?_
    refine ev_aload_n (X := M_X12_findComes) (pc := 145) dX12_findComes_145 rfl ?_
    refine ev_iload_n (X := M_X12_findComes) (pc := 146) dX12_findComes_146 rfl ?_
    refine ev_iload_n (X := M_X12_findComes) (pc := 147) dX12_findComes_147 rfl ?_
    refine ev_iload_n (X := M_X12_findComes) (pc := 148) dX12_findComes_148 rfl ?_
    refine ev_iadd (X := M_X12_findComes) (pc := 149) dX12_findComes_149 ?_
    refine ev_iload (X := M_X12_findComes) (pc := 150) dX12_findComes_150 rfl ?_
    refine ev_iadd (X := M_X12_findComes) (pc := 152) dX12_findComes_152 ?_
    refine ev_iconst (X := M_X12_findComes) (pc := 153) dX12_findComes_153 ?_
    refine ev_irem (X := M_X12_findComes) (pc := 154) dX12_findComes_154 (by omega) (by omega) ?_
    refine ev_iconst (X := M_X12_findComes) (pc := 155) dX12_findComes_155 ?_
    refine ev_iconst (X := M_X12_findComes) (pc := 156) dX12_findComes_156 ?_
    refine ev_virtV (X := M_X12_findComes) (Y := M_X12_put3) (pc := 157) (ci := 12) dX12_findComes_157 mk_X12_put3 rfl kw_1211 kw_1213 kp_21 (lO_156 hL) (m_put3 hL hp) rfl (by decide) rfl (Nat.le_of_ble_eq_true rfl) (Nat.zero_add _) (Nat.zero_add _) ?_
    refine ev_goto (X := M_X12_findComes) (pc := 160) (tgt := 209) dX12_findComes_160 (by decide) ?_
    refine ev_vret (X := M_X12_findComes) (pc := 209) dX12_findComes_209 rfl ?_
    first
      | exact fin V _ _ _ mC.rf rfl (by unfold cm0; (repeat' split) <;> first | rfl | omega) (by unfold cm1; (repeat' split) <;> first | rfl | omega) (by unfold cm2; (repeat' split) <;> first | rfl | omega)
      | exact fin W _ _ _ (fun e i z y _ => hW e i z y) (hW.row (by decide) (by decide)) (by unfold cm0; (repeat' split) <;> first | rfl | omega) (by unfold cm1; (repeat' split) <;> first | rfl | omega) (by unfold cm2; (repeat' split) <;> first | rfl | omega)
  · refine ev_tableIn (X := M_X12_findComes) (pc := 32) (off := 131) (tgt := 163) dX12_findComes_32 (by omega) (by omega) (by omega) (by rw [h32]; rfl) (by decide) ?_
    refine ev_aload_n (X := M_X12_findComes) (pc := 163) dX12_findComes_163 rfl ?_
    refine ev_iconst (X := M_X12_findComes) (pc := 164) dX12_findComes_164 ?_
    refine ev_iload_n (X := M_X12_findComes) (pc := 165) dX12_findComes_165 rfl ?_
    refine ev_iload_n (X := M_X12_findComes) (pc := 166) dX12_findComes_166 rfl ?_
    refine ev_iload (X := M_X12_findComes) (pc := 167) dX12_findComes_167 rfl ?_
    refine ev_iconst (X := M_X12_findComes) (pc := 169) dX12_findComes_169 ?_
    refine ev_virtX (X := M_X12_findComes) (Y := M_X12_given) (pc := 170) (ci := 12) dX12_findComes_170 mk_X12_given rfl kw_1152 kw_1154 kp_17 (lO_156 hL) (m_given hL hD (Or.inl rfl) hT (by omega) (by omega) (by omega) (by decide)) rfl (by decide) rfl (Nat.le_of_ble_eq_true rfl) (Nat.zero_add _) (Nat.zero_add _) (fun W hW => ?_)
    refine ev_istoreL (X := M_X12_findComes) (pc := 173) (ls' := [_, _, _, _, _, _]) dX12_findComes_173 (by decide) rfl ?_
    refine ev_aload_n (X := M_X12_findComes) (pc := 175) dX12_findComes_175 rfl ?_
    refine ev_iload_n (X := M_X12_findComes) (pc := 176) dX12_findComes_176 rfl ?_
    refine ev_iload (X := M_X12_findComes) (pc := 177) dX12_findComes_177 rfl ?_
    refine ev_iload (X := M_X12_findComes) (pc := 179) dX12_findComes_179 rfl ?_
    refine ev_iload (X := M_X12_findComes) (pc := 181) dX12_findComes_181 rfl ?_
    refine ev_iconst (X := M_X12_findComes) (pc := 183) dX12_findComes_183 ?_
    refine ev_icmp_le (X := M_X12_findComes) (pc := 184) (tgt := 194) dX12_findComes_184 (by decide) (by omega) (by omega) (fun h184 => ?_) (fun h184 => ?_)
    · refine ev_iconst (X := M_X12_findComes) (pc := 194) dX12_findComes_194 ?_
      refine ev_virtV (X := M_X12_findComes) (Y := M_X12_put3) (pc := 195) (ci := 12) dX12_findComes_195 mk_X12_put3 rfl kw_1211 kw_1213 kp_21 (lO_156 hL) (m_put3 hL hp) rfl (by decide) rfl (Nat.le_of_ble_eq_true rfl) (Nat.zero_add _) (Nat.zero_add _) ?_
      refine ev_goto (X := M_X12_findComes) (pc := 198) (tgt := 209) dX12_findComes_198 (by decide) ?_
      refine ev_vret (X := M_X12_findComes) (pc := 209) dX12_findComes_209 rfl ?_
      first
        | exact fin V _ _ _ mC.rf rfl (by unfold cm0; (repeat' split) <;> first | rfl | omega) (by unfold cm1; (repeat' split) <;> first | rfl | omega) (by unfold cm2; (repeat' split) <;> first | rfl | omega)
        | exact fin W _ _ _ (fun e i z y _ => hW e i z y) (hW.row (by decide) (by decide)) (by unfold cm0; (repeat' split) <;> first | rfl | omega) (by unfold cm1; (repeat' split) <;> first | rfl | omega) (by unfold cm2; (repeat' split) <;> first | rfl | omega)
    · refine ev_iload (X := M_X12_findComes) (pc := 187) dX12_findComes_187 rfl ?_
      refine ev_iconst (X := M_X12_findComes) (pc := 189) dX12_findComes_189 ?_
      refine ev_irem (X := M_X12_findComes) (pc := 190) dX12_findComes_190 (by omega) (by omega) ?_
      refine ev_goto (X := M_X12_findComes) (pc := 191) (tgt := 195) dX12_findComes_191 (by decide) ?_
      refine ev_virtV (X := M_X12_findComes) (Y := M_X12_put3) (pc := 195) (ci := 12) dX12_findComes_195 mk_X12_put3 rfl kw_1211 kw_1213 kp_21 (lO_156 hL) (m_put3 hL hp) rfl (by decide) rfl (Nat.le_of_ble_eq_true rfl) (Nat.zero_add _) (Nat.zero_add _) ?_
      refine ev_goto (X := M_X12_findComes) (pc := 198) (tgt := 209) dX12_findComes_198 (by decide) ?_
      refine ev_vret (X := M_X12_findComes) (pc := 209) dX12_findComes_209 rfl ?_
      first
        | exact fin V _ _ _ mC.rf rfl (by unfold cm0; (repeat' split) <;> first | rfl | omega) (by unfold cm1; (repeat' split) <;> first | rfl | omega) (by unfold cm2; (repeat' split) <;> first | rfl | omega)
        | exact fin W _ _ _ (fun e i z y _ => hW e i z y) (hW.row (by decide) (by decide)) (by unfold cm0; (repeat' split) <;> first | rfl | omega) (by unfold cm1; (repeat' split) <;> first | rfl | omega) (by unfold cm2; (repeat' split) <;> first | rfl | omega)
  · refine ev_tableOut (X := M_X12_findComes) (pc := 32) (tgt := 201) dX12_findComes_32 (by omega) (by omega) (by decide) ?_
    refine ev_aload_n (X := M_X12_findComes) (pc := 201) dX12_findComes_201 rfl ?_
    refine ev_iload_n (X := M_X12_findComes) (pc := 202) dX12_findComes_202 rfl ?_
    refine ev_iload_n (X := M_X12_findComes) (pc := 203) dX12_findComes_203 rfl ?_
    refine ev_iload_n (X := M_X12_findComes) (pc := 204) dX12_findComes_204 rfl ?_
    refine ev_iconst (X := M_X12_findComes) (pc := 205) dX12_findComes_205 ?_
    refine ev_virtV (X := M_X12_findComes) (Y := M_X12_put3) (pc := 206) (ci := 12) dX12_findComes_206 mk_X12_put3 rfl kw_1211 kw_1213 kp_21 (lO_156 hL) (m_put3 hL hp) rfl (by decide) rfl (Nat.le_of_ble_eq_true rfl) (Nat.zero_add _) (Nat.zero_add _) ?_
    refine ev_vret (X := M_X12_findComes) (pc := 209) dX12_findComes_209 rfl ?_
    first
      | exact fin V _ _ _ mC.rf rfl (by unfold cm0; (repeat' split) <;> first | rfl | omega) (by unfold cm1; (repeat' split) <;> first | rfl | omega) (by unfold cm2; (repeat' split) <;> first | rfl | omega)
      | exact fin W _ _ _ (fun e i z y _ => hW e i z y) (hW.row (by decide) (by decide)) (by unfold cm0; (repeat' split) <;> first | rfl | omega) (by unfold cm1; (repeat' split) <;> first | rfl | omega) (by unfold cm2; (repeat' split) <;> first | rfl | omega)
theorem p3_com {D f g : Int → Int} {p : Int} (hp : 0 ≤ p ∧ p < 6) (h : ∀ j, f j = if 0 ≤ j ∧ j < 3 * p then comF D j else g j) (j : Int) : p3 f p (cm0 D p) (cm1 D p) (cm2 D p) j = if 0 ≤ j ∧ j < 3 * (p + 1) then comF D j else g j := by
  unfold p3
  by_cases z2 : j = 3 * p + 2
  · rw [z2, up_self, if_pos (by omega)]
    unfold comF
    rw [if_pos (by omega), if_neg (by omega), if_neg (by omega), show (3 * p + 2) / 3 = p by omega]
  rw [up_ne z2]
  by_cases z1 : j = 3 * p + 1
  · rw [z1, up_self, if_pos (by omega)]
    unfold comF
    rw [if_pos (by omega), if_neg (by omega), if_pos (by omega), show (3 * p + 1) / 3 = p by omega]
  rw [up_ne z1]
  by_cases z0 : j = 3 * p
  · rw [z0, up_self, if_pos (by omega)]
    unfold comF
    rw [if_pos (by omega), if_pos (by omega), show 3 * p / 3 = p by omega]
  rw [up_ne z0, h j]
  by_cases z : 0 ≤ j ∧ j < 3 * p
  · rw [if_pos z, if_pos (by omega)]
  · rw [if_neg z, if_neg (by omega)]
def Z161 (V : Mm) : Prop := ∀ j, ¬ (0 ≤ j ∧ j < 18) → V 161 j = 0
theorem m_findAll {γ : Gh} {K : Sk} {V : Mm} (hL : Lay K) {D : Int → Int} (hD : V 157 = D) (hK : Kds D) (hZ : Z161 V) : Call γ M_X12_findAll 41 0 0 [vR 156] K V (Qx none K (fun W => mC V W ∧ W 161 = comF D)) := by
  refine call_of (by decide +kernel) (by intro v hv; simp only [List.mem_cons, List.not_mem_nil, or_false] at hv; rcases hv with rfl <;> exact fun q => by cases q) (Nat.le_of_ble_eq_true rfl) ?_
  refine ev_lsE (ls' := [_, _]) rfl ?_
  refine ev_iconst (X := M_X12_findAll) (pc := 0) dX12_findAll_0 ?_
  refine ev_istore_nL (X := M_X12_findAll) (pc := 1) (ls' := [_, _]) dX12_findAll_1 (by decide) rfl ?_
  refine ev_weak (ev_while (σ := Int × Mm) (fun s => 0 ≤ s.1 ∧ s.1 ≤ 6 ∧ mC V s.2 ∧ ∀ j, s.2 161 j = if 0 ≤ j ∧ j < 3 * s.1 then comF D j else V 161 j) (fun s => (6 - s.1).toNat) (fun s => [vR 156, vI s.1]) (fun _ => K) (fun s => s.2) ?_ (0, V) ⟨Int.le_refl 0, by show (0 : Int) ≤ 6; decide, mC.rf, fun j => by rw [if_neg (by omega)]⟩) ⟨rfl, rfl, trivial⟩
  rintro ⟨p, W⟩ ⟨hp0, hp1, hW, hW2⟩ ih
  dsimp only at hp0 hp1 hW hW2 ih ⊢
  refine ev_iload_n (X := M_X12_findAll) (pc := 2) dX12_findAll_2 rfl ?_
  refine ev_bipush (X := M_X12_findAll) (pc := 3) dX12_findAll_3 (by decide) ?_
  refine ev_icmp_ge (X := M_X12_findAll) (pc := 5) (tgt := 19) dX12_findAll_5 (by decide) (by omega) (by omega) (fun h5 => ?_) (fun h5 => ?_)
  · refine ev_vret (X := M_X12_findAll) (pc := 19) dX12_findAll_19 rfl ?_
    refine ⟨rfl, rfl, hW, funext fun j => ?_⟩
    rw [hW2 j]
    by_cases z : 0 ≤ j ∧ j < 18
    · rw [if_pos (by omega)]
    · rw [if_neg (by omega), hZ j z]
      unfold comF
      rw [if_neg z]
  · refine ev_aload_n (X := M_X12_findAll) (pc := 8) dX12_findAll_8 rfl ?_
    refine ev_iload_n (X := M_X12_findAll) (pc := 9) dX12_findAll_9 rfl ?_
    refine ev_virtY (X := M_X12_findAll) (Y := M_X12_findComes) (pc := 10) (ci := 12) dX12_findAll_10 mk_X12_findComes rfl kw_1201 kw_1203 kp_20 (lO_156 hL) (m_findComes hL (D := D) (by rw [hW.row (by decide) (by decide) (by decide)]; exact hD) hK (p := p) (by omega)) rfl (by decide) rfl (Nat.le_of_ble_eq_true rfl) (Nat.zero_add _) (Nat.zero_add _) (fun W2 hW3 => ?_)
    refine ev_iincL (X := M_X12_findAll) (pc := 13) (ls' := [_, _]) dX12_findAll_13 rfl (by decide) rfl ?_
    refine ev_goto (X := M_X12_findAll) (pc := 16) (tgt := 2) dX12_findAll_16 (by decide) ?_
    refine ev_weak (ih (p + 1, W2) ⟨by omega, by omega, hW.tr hW3.1, fun j => ?_⟩ (by show (6 - (p + 1)).toNat < (6 - p).toNat; omega)) ⟨rfl, rfl, trivial⟩
    show W2 161 j = if 0 ≤ j ∧ j < 3 * (p + 1) then comF D j else V 161 j
    rw [hW3.2]
    exact p3_com (by omega) hW2 j
