section LEN
theorem metL_n (k : Int) : (metL k).length ≤ 2 := by unfold metL; split <;> decide
theorem stL_n (k : Int) : (stL' k).length ≤ 3 := by unfold stL'; (repeat' split) <;> decide
theorem tuL_n (k o : Int) : (tuL k o).length ≤ 8 := by
  have a := metL_n o
  have b := stL_n o
  unfold tuL
  repeat' split
  all_goals simp only [List.length_append, List.length_cons, List.length_nil]
  all_goals omega
theorem te0L_n (o : Int) : (te0L o).length ≤ 12 := by
  have a := tuL_n o o
  have b := stL_n o
  unfold te0L
  simp only [List.length_append, List.length_cons, List.length_nil]
  omega
theorem teL_n (k o : Int) : (teL k o).length ≤ 24 := by
  have a := metL_n o
  have b := te0L_n o
  have c := tuL_n o o
  unfold teL
  repeat' split
  all_goals (try simp only [List.length_append, List.length_cons, List.length_nil])
  all_goals omega
end LEN
def MTrn (γ : Gh) (K : Sk) (D : Int → Int) (n k : Int) : Prop := ∃ d : Nat, d ≤ 6 ∧ ∀ (V : Mm) (x : Int), PV' K V D n 8 → Call γ M_X12_turns d 0 0 [vR 156, vI k, vI x] K V (Rt (some (vI (tuF k (D (3 + n)) n (D (9 + n)) x))) K (trW V (tuL k (D (3 + n)))))
theorem m_turns0 {γ : Gh} {K : Sk} {V : Mm} {D : Int → Int} {n x : Int} (ho : 0 ≤ D (3 + n) ∧ D (3 + n) ≤ 6) (h : PV' K V D n 3) : Call γ M_X12_turns 4 0 0 [vR 156, vI 0, vI x] K V (Rt (some (vI (metF (D (3 + n)) n x * 2))) K (trW V ([11] ++ metL (D (3 + n))))) := by
  refine call_of (by decide +kernel) (by intro v hv; simp only [List.mem_cons, List.not_mem_nil, or_false] at hv; rcases hv with rfl | rfl | rfl <;> exact fun q => by cases q) (Nat.le_of_ble_eq_true rfl) ?_
  refine ev_lsE (ls' := [_, _, _, _]) rfl ?_
  have hL := h.1
  have ht := h.2.2.2.2
  have h2 : PV' K (trW V [11]) D n 2 := h.tr (by decide)
  obtain ⟨d, hd, hm⟩ := m_metA (γ := γ) (K := K) (D := D) (n := n) ho
  obtain ⟨kz, hkz⟩ : ∃ kz : Int, kz = 0 := ⟨_, rfl⟩
  rw [← hkz]
  refine ev_iload_n (X := M_X12_turns) (pc := 0) dX12_turns_0 rfl ?_
  rcases (show kz = 0 by omega) with h1
  · refine ev_tableIn (X := M_X12_turns) (pc := 1) (off := 35) (tgt := 36) dX12_turns_1 (by omega) (by omega) (by omega) (by rw [h1]; rfl) (by decide) ?_
    refine ev_aload_n (X := M_X12_turns) (pc := 36) dX12_turns_36 rfl ?_
    refine ev_bipush (X := M_X12_turns) (pc := 37) dX12_turns_37 (by decide) ?_
    refine ev_virtV (X := M_X12_turns) (Y := M_X12_ran) (pc := 39) (ci := 12) dX12_turns_39 mk_X12_ran rfl kw_1376 kw_1378 kp_39 (lO_156 hL) (m_ran hL (by omega)) rfl (by decide) rfl (Nat.le_of_ble_eq_true rfl) (Nat.zero_add _) (Nat.zero_add _) ?_
    refine ev_aload_n (X := M_X12_turns) (pc := 42) dX12_turns_42 rfl ?_
    refine ev_aload_n (X := M_X12_turns) (pc := 43) dX12_turns_43 rfl ?_
    refine ev_virtR (X := M_X12_turns) (Y := M_X12_own) (pc := 44) (ci := 12) dX12_turns_44 mk_X12_own rfl kw_1368 kw_1370 kp_37 (lO_156 hL) (m_own h2) rfl (by decide) rfl (Nat.le_of_ble_eq_true rfl) (Nat.zero_add _) (Nat.zero_add _) ?_
    refine ev_iload_n (X := M_X12_turns) (pc := 47) dX12_turns_47 rfl ?_
    refine ev_virtR (X := M_X12_turns) (Y := M_X12_met) (pc := 48) (ci := 12) dX12_turns_48 mk_X12_met rfl kw_1372 kw_1374 kp_38 (lO_156 hL) (hm _ x h2) rfl (by omega) rfl (Nat.le_of_ble_eq_true rfl) (Nat.zero_add _) (Nat.zero_add _) ?_
    refine ev_iconst (X := M_X12_turns) (pc := 51) dX12_turns_51 ?_
    refine ev_imul (X := M_X12_turns) (pc := 52) dX12_turns_52 ?_
    refine ev_iret (X := M_X12_turns) (pc := 53) dX12_turns_53 rfl ?_
    exact ⟨rfl, rfl, by rw [trW_app]⟩
theorem m_turns1 {γ : Gh} {K : Sk} {V : Mm} {D : Int → Int} {n x : Int} (ho : 0 ≤ D (3 + n) ∧ D (3 + n) ≤ 6) (h : PV' K V D n 7) : Call γ M_X12_turns 5 0 0 [vR 156, vI 1, vI x] K V (Rt (some (vI (metF (D (3 + n)) n x * 2 - stF' (D (3 + n)) n (D (9 + n)) 1))) K (trW V ([20, 11] ++ metL (D (3 + n)) ++ stL' (D (3 + n))))) := by
  refine call_of (by decide +kernel) (by intro v hv; simp only [List.mem_cons, List.not_mem_nil, or_false] at hv; rcases hv with rfl | rfl | rfl <;> exact fun q => by cases q) (Nat.le_of_ble_eq_true rfl) ?_
  refine ev_lsE (ls' := [_, _, _, _]) rfl ?_
  have hL := h.1
  have ht := h.2.2.2.2
  have hml := metL_n (D (3 + n))
  have h2 : PV' K (trW V [20]) D n 6 := h.tr (by decide)
  have h3 : PV' K (trW (trW V [20]) ([11] ++ metL (D (3 + n)))) D n 3 := h2.tr (by simp only [List.length_append, List.length_cons, List.length_nil]; omega)
  obtain ⟨d, hd, hm⟩ := m_stayA (γ := γ) (K := K) (D := D) (n := n) ho
  refine ev_iload_n (X := M_X12_turns) (pc := 0) dX12_turns_0 rfl ?_
  rcases (show (1 : Int) = 1 by omega) with h1
  · refine ev_tableIn (X := M_X12_turns) (pc := 1) (off := 53) (tgt := 54) dX12_turns_1 (by omega) (by omega) (by omega) (by rw [h1]; rfl) (by decide) ?_
    refine ev_aload_n (X := M_X12_turns) (pc := 54) dX12_turns_54 rfl ?_
    refine ev_bipush (X := M_X12_turns) (pc := 55) dX12_turns_55 (by decide) ?_
    refine ev_virtV (X := M_X12_turns) (Y := M_X12_ran) (pc := 57) (ci := 12) dX12_turns_57 mk_X12_ran rfl kw_1376 kw_1378 kp_39 (lO_156 hL) (m_ran hL (by omega)) rfl (by decide) rfl (Nat.le_of_ble_eq_true rfl) (Nat.zero_add _) (Nat.zero_add _) ?_
    refine ev_aload_n (X := M_X12_turns) (pc := 60) dX12_turns_60 rfl ?_
    refine ev_iconst (X := M_X12_turns) (pc := 61) dX12_turns_61 ?_
    refine ev_staticR (X := M_X12_turns) (Y := M_X12_above) (pc := 62) dX12_turns_62 mk_X12_above kw_1235 kw_1236 (m_above (by decide)) rfl (by decide) rfl (Nat.le_of_ble_eq_true rfl) (Nat.zero_add _) (Nat.zero_add _) ?_
    refine ev_iload_n (X := M_X12_turns) (pc := 65) dX12_turns_65 rfl ?_
    refine ev_virtR (X := M_X12_turns) (Y := M_X12_turns) (pc := 66) (ci := 12) dX12_turns_66 mk_X12_turns rfl kw_1380 kw_1382 kp_40 (lO_156 hL) (m_turns0 ho (h2.le (by decide))) rfl (by decide) rfl (Nat.le_of_ble_eq_true rfl) (Nat.zero_add _) (Nat.zero_add _) ?_
    refine ev_istore_nL (X := M_X12_turns) (pc := 69) (ls' := [_, _, _, _]) dX12_turns_69 (by decide) rfl ?_
    refine ev_iload_n (X := M_X12_turns) (pc := 70) dX12_turns_70 rfl ?_
    refine ev_aload_n (X := M_X12_turns) (pc := 71) dX12_turns_71 rfl ?_
    refine ev_aload_n (X := M_X12_turns) (pc := 72) dX12_turns_72 rfl ?_
    refine ev_virtR (X := M_X12_turns) (Y := M_X12_own) (pc := 73) (ci := 12) dX12_turns_73 mk_X12_own rfl kw_1368 kw_1370 kp_37 (lO_156 hL) (m_own h3) rfl (by decide) rfl (Nat.le_of_ble_eq_true rfl) (Nat.zero_add _) (Nat.zero_add _) ?_
    refine ev_iconst (X := M_X12_turns) (pc := 76) dX12_turns_76 ?_
    refine ev_virtR (X := M_X12_turns) (Y := M_X12_stay) (pc := 77) (ci := 12) dX12_turns_77 mk_X12_stay rfl kw_1384 kw_1386 kp_41 (lO_156 hL) (hm _ 1 h3) rfl (by omega) rfl (Nat.le_of_ble_eq_true rfl) (Nat.zero_add _) (Nat.zero_add _) ?_
    refine ev_isub (X := M_X12_turns) (pc := 80) dX12_turns_80 ?_
    refine ev_iret (X := M_X12_turns) (pc := 81) dX12_turns_81 rfl ?_
    refine ⟨rfl, rfl, ?_⟩
    rw [trW_app ([20, 11] ++ metL (D (3 + n))), ← trW_app [20]]
    rfl
theorem m_turns4 {γ : Gh} {K : Sk} {V : Mm} {D : Int → Int} {n x : Int} (ho : 0 ≤ D (3 + n) ∧ D (3 + n) ≤ 6) (h : PV' K V D n 8) : Call γ M_X12_turns 6 0 0 [vR 156, vI 4, vI x] K V (Rt (some (vI (metF (D (3 + n)) n (x + 1) * 2 - stF' (D (3 + n)) n (D (9 + n)) 1))) K (trW V ([50, 20, 11] ++ metL (D (3 + n)) ++ stL' (D (3 + n))))) := by
  refine call_of (by decide +kernel) (by intro v hv; simp only [List.mem_cons, List.not_mem_nil, or_false] at hv; rcases hv with rfl | rfl | rfl <;> exact fun q => by cases q) (Nat.le_of_ble_eq_true rfl) ?_
  refine ev_lsE (ls' := [_, _, _, _]) rfl ?_
  have hL := h.1
  have ht := h.2.2.2.2
  have h2 : PV' K (trW V [50]) D n 7 := h.tr (by decide)
  obtain ⟨kz, hkz⟩ : ∃ kz : Int, kz = 4 := ⟨_, rfl⟩
  rw [← hkz]
  refine ev_iload_n (X := M_X12_turns) (pc := 0) dX12_turns_0 rfl ?_
  rcases (show kz = 4 by omega) with h1
  · refine ev_tableIn (X := M_X12_turns) (pc := 1) (off := 81) (tgt := 82) dX12_turns_1 (by omega) (by omega) (by omega) (by rw [h1]; rfl) (by decide) ?_
    refine ev_aload_n (X := M_X12_turns) (pc := 82) dX12_turns_82 rfl ?_
    refine ev_bipush (X := M_X12_turns) (pc := 83) dX12_turns_83 (by decide) ?_
    refine ev_virtV (X := M_X12_turns) (Y := M_X12_ran) (pc := 85) (ci := 12) dX12_turns_85 mk_X12_ran rfl kw_1376 kw_1378 kp_39 (lO_156 hL) (m_ran hL (by omega)) rfl (by decide) rfl (Nat.le_of_ble_eq_true rfl) (Nat.zero_add _) (Nat.zero_add _) ?_
    refine ev_aload_n (X := M_X12_turns) (pc := 88) dX12_turns_88 rfl ?_
    refine ev_iconst (X := M_X12_turns) (pc := 89) dX12_turns_89 ?_
    refine ev_staticR (X := M_X12_turns) (Y := M_X12_above) (pc := 90) dX12_turns_90 mk_X12_above kw_1235 kw_1236 (m_above (by decide)) rfl (by decide) rfl (Nat.le_of_ble_eq_true rfl) (Nat.zero_add _) (Nat.zero_add _) ?_
    refine ev_iload_n (X := M_X12_turns) (pc := 93) dX12_turns_93 rfl ?_
    refine ev_iconst (X := M_X12_turns) (pc := 94) dX12_turns_94 ?_
    refine ev_iadd (X := M_X12_turns) (pc := 95) dX12_turns_95 ?_
    refine ev_virtR (X := M_X12_turns) (Y := M_X12_turns) (pc := 96) (ci := 12) dX12_turns_96 mk_X12_turns rfl kw_1380 kw_1382 kp_40 (lO_156 hL) (m_turns1 ho h2) rfl (by decide) rfl (Nat.le_of_ble_eq_true rfl) (Nat.zero_add _) (Nat.zero_add _) ?_
    refine ev_iret (X := M_X12_turns) (pc := 99) dX12_turns_99 rfl ?_
    exact ⟨rfl, rfl, by rw [← trW_app]; rfl⟩
theorem m_turnsS {γ : Gh} {K : Sk} {V : Mm} {d : Nat} {D : Int → Int} {n k x : Int} {y : Int} {l : List Int} (hk : k = 2 ∨ k = 3 ∨ k = 5 ∨ k = 6) (ih : Call γ M_X12_turns d 0 0 [vR 156, vI (abv k), vI x] K V (Rt (some (vI y)) K (trW V l))) (h : PV' K V D n 8) : Call γ M_X12_turns (d+1) 0 0 [vR 156, vI k, vI x] K V (Rt (some (vI y)) K (trW V l)) := by
  refine call_of (by decide +kernel) (by intro v hv; simp only [List.mem_cons, List.not_mem_nil, or_false] at hv; rcases hv with rfl | rfl | rfl <;> exact fun q => by cases q) (Nat.le_of_ble_eq_true rfl) ?_
  refine ev_lsE (ls' := [_, _, _, _]) rfl ?_
  have hL := h.1
  refine ev_iload_n (X := M_X12_turns) (pc := 0) dX12_turns_0 rfl ?_
  rcases (show k = 2 ∨ k = 3 ∨ (k < 0 ∨ 4 < k) by omega) with h1 | h1 | h1
  · refine ev_tableIn (X := M_X12_turns) (pc := 1) (off := 99) (tgt := 100) dX12_turns_1 (by omega) (by omega) (by omega) (by rw [h1]; rfl) (by decide) ?_
    refine ev_aload_n (X := M_X12_turns) (pc := 100) dX12_turns_100 rfl ?_
    refine ev_iload_n (X := M_X12_turns) (pc := 101) dX12_turns_101 rfl ?_
    refine ev_staticR (X := M_X12_turns) (Y := M_X12_above) (pc := 102) dX12_turns_102 mk_X12_above kw_1235 kw_1236 (m_above (by omega)) rfl (by omega) rfl (Nat.le_of_ble_eq_true rfl) (Nat.zero_add _) (Nat.zero_add _) ?_
    refine ev_iload_n (X := M_X12_turns) (pc := 105) dX12_turns_105 rfl ?_
    refine ev_virtR (X := M_X12_turns) (Y := M_X12_turns) (pc := 106) (ci := 12) dX12_turns_106 mk_X12_turns rfl kw_1380 kw_1382 kp_40 (lO_156 hL) (ih) rfl (by omega) rfl (Nat.le_of_ble_eq_true rfl) (Nat.zero_add _) (Nat.zero_add _) ?_
    refine ev_iret (X := M_X12_turns) (pc := 109) dX12_turns_109 rfl ?_
    exact ⟨rfl, rfl, rfl⟩
  · refine ev_tableIn (X := M_X12_turns) (pc := 1) (off := 99) (tgt := 100) dX12_turns_1 (by omega) (by omega) (by omega) (by rw [h1]; rfl) (by decide) ?_
    refine ev_aload_n (X := M_X12_turns) (pc := 100) dX12_turns_100 rfl ?_
    refine ev_iload_n (X := M_X12_turns) (pc := 101) dX12_turns_101 rfl ?_
    refine ev_staticR (X := M_X12_turns) (Y := M_X12_above) (pc := 102) dX12_turns_102 mk_X12_above kw_1235 kw_1236 (m_above (by omega)) rfl (by omega) rfl (Nat.le_of_ble_eq_true rfl) (Nat.zero_add _) (Nat.zero_add _) ?_
    refine ev_iload_n (X := M_X12_turns) (pc := 105) dX12_turns_105 rfl ?_
    refine ev_virtR (X := M_X12_turns) (Y := M_X12_turns) (pc := 106) (ci := 12) dX12_turns_106 mk_X12_turns rfl kw_1380 kw_1382 kp_40 (lO_156 hL) (ih) rfl (by omega) rfl (Nat.le_of_ble_eq_true rfl) (Nat.zero_add _) (Nat.zero_add _) ?_
    refine ev_iret (X := M_X12_turns) (pc := 109) dX12_turns_109 rfl ?_
    exact ⟨rfl, rfl, rfl⟩
  · refine ev_tableOut (X := M_X12_turns) (pc := 1) (tgt := 100) dX12_turns_1 (by omega) (by omega) (by decide) ?_
    refine ev_aload_n (X := M_X12_turns) (pc := 100) dX12_turns_100 rfl ?_
    refine ev_iload_n (X := M_X12_turns) (pc := 101) dX12_turns_101 rfl ?_
    refine ev_staticR (X := M_X12_turns) (Y := M_X12_above) (pc := 102) dX12_turns_102 mk_X12_above kw_1235 kw_1236 (m_above (by omega)) rfl (by omega) rfl (Nat.le_of_ble_eq_true rfl) (Nat.zero_add _) (Nat.zero_add _) ?_
    refine ev_iload_n (X := M_X12_turns) (pc := 105) dX12_turns_105 rfl ?_
    refine ev_virtR (X := M_X12_turns) (Y := M_X12_turns) (pc := 106) (ci := 12) dX12_turns_106 mk_X12_turns rfl kw_1380 kw_1382 kp_40 (lO_156 hL) (ih) rfl (by omega) rfl (Nat.le_of_ble_eq_true rfl) (Nat.zero_add _) (Nat.zero_add _) ?_
    refine ev_iret (X := M_X12_turns) (pc := 109) dX12_turns_109 rfl ?_
    exact ⟨rfl, rfl, rfl⟩
theorem m_turnsA {γ : Gh} {K : Sk} {D : Int → Int} {n k : Int} (ho : 0 ≤ D (3 + n) ∧ D (3 + n) ≤ 6) (hk : 0 ≤ k ∧ k ≤ 6) : MTrn γ K D n k := by
  have m0 : ∀ (V : Mm) (x : Int), PV' K V D n 8 → Call γ M_X12_turns 4 0 0 [vR 156, vI 0, vI x] K V (Rt (some (vI (metF (D (3 + n)) n x * 2))) K (trW V ([11] ++ metL (D (3 + n))))) := fun V x h => m_turns0 ho (h.le (by decide))
  have m2 : ∀ (V : Mm) (x : Int), PV' K V D n 8 → Call γ M_X12_turns 5 0 0 [vR 156, vI 2, vI x] K V (Rt (some (vI (metF (D (3 + n)) n x * 2))) K (trW V ([11] ++ metL (D (3 + n))))) := fun V x h => m_turnsS (Or.inl rfl) (m0 V x h) h
  have m3 : ∀ (V : Mm) (x : Int), PV' K V D n 8 → Call γ M_X12_turns 5 0 0 [vR 156, vI 3, vI x] K V (Rt (some (vI (metF (D (3 + n)) n x * 2))) K (trW V ([11] ++ metL (D (3 + n))))) := fun V x h => m_turnsS (Or.inr (Or.inl rfl)) (m0 V x h) h
  rcases (show k = 0 ∨ k = 1 ∨ k = 2 ∨ k = 3 ∨ k = 4 ∨ k = 5 ∨ k = 6 by omega) with z | z | z | z | z | z | z <;> subst z
  · exact ⟨4, by decide, m0⟩
  · exact ⟨5, by decide, fun V x h => m_turns1 ho (h.le (by decide))⟩
  · exact ⟨5, by decide, m2⟩
  · exact ⟨5, by decide, m3⟩
  · exact ⟨6, by decide, fun V x h => m_turns4 ho h⟩
  · exact ⟨6, by decide, fun V x h => m_turnsS (Or.inr (Or.inr (Or.inl rfl))) (m2 V x h) h⟩
  · exact ⟨6, by decide, fun V x h => m_turnsS (Or.inr (Or.inr (Or.inr rfl))) (m3 V x h) h⟩
def MTel (γ : Gh) (K : Sk) (D : Int → Int) (n k : Int) : Prop := ∃ d : Nat, d ≤ 9 ∧ ∀ (V : Mm) (x : Int), PV' K V D n 24 → Call γ M_X12_tells d 0 0 [vR 156, vI k, vI x] K V (Rt (some (vI (teF k (D (3 + n)) n (D (9 + n)) x))) K (trW V (teL k (D (3 + n)))))
theorem m_tells0 {γ : Gh} {K : Sk} {V : Mm} {D : Int → Int} {n x : Int} (ho : 0 ≤ D (3 + n) ∧ D (3 + n) ≤ 6) (h : PV' K V D n 12) : Call γ M_X12_tells 7 0 0 [vR 156, vI 0, vI x] K V (Rt (some (vI (te0 (D (3 + n)) n (D (9 + n)) x))) K (trW V (te0L (D (3 + n))))) := by
  refine call_of (by decide +kernel) (by intro v hv; simp only [List.mem_cons, List.not_mem_nil, or_false] at hv; rcases hv with rfl | rfl | rfl <;> exact fun q => by cases q) (Nat.le_of_ble_eq_true rfl) ?_
  refine ev_lsE (ls' := [_, _, _, _]) rfl ?_
  have hL := h.1
  have ht := h.2.2.2.2
  have hml := tuL_n (D (3 + n)) (D (3 + n))
  have h2 : PV' K (trW V [13]) D n 11 := h.tr (by decide)
  have h3 : PV' K (trW (trW V [13]) (tuL (D (3 + n)) (D (3 + n)))) D n 3 := h2.tr (by omega)
  obtain ⟨d1, hd1, hm1⟩ := m_turnsA (γ := γ) (K := K) (D := D) (n := n) ho ho
  obtain ⟨d2, hd2, hm2⟩ := m_stayA (γ := γ) (K := K) (D := D) (n := n) ho
  obtain ⟨kz, hkz⟩ : ∃ kz : Int, kz = 0 := ⟨_, rfl⟩
  rw [← hkz]
  refine ev_iload_n (X := M_X12_tells) (pc := 0) dX12_tells_0 rfl ?_
  rcases (show kz = 0 by omega) with h1
  · refine ev_lookup (X := M_X12_tells) (pc := 1) (off := 35) (tgt := 36) dX12_tells_1 (by omega) (by decide) (by rw [h1]; rfl) (by decide) ?_
    refine ev_aload_n (X := M_X12_tells) (pc := 36) dX12_tells_36 rfl ?_
    refine ev_bipush (X := M_X12_tells) (pc := 37) dX12_tells_37 (by decide) ?_
    refine ev_virtV (X := M_X12_tells) (Y := M_X12_ran) (pc := 39) (ci := 12) dX12_tells_39 mk_X12_ran rfl kw_1376 kw_1378 kp_39 (lO_156 hL) (m_ran hL (by omega)) rfl (by decide) rfl (Nat.le_of_ble_eq_true rfl) (Nat.zero_add _) (Nat.zero_add _) ?_
    refine ev_aload_n (X := M_X12_tells) (pc := 42) dX12_tells_42 rfl ?_
    refine ev_aload_n (X := M_X12_tells) (pc := 43) dX12_tells_43 rfl ?_
    refine ev_virtR (X := M_X12_tells) (Y := M_X12_own) (pc := 44) (ci := 12) dX12_tells_44 mk_X12_own rfl kw_1368 kw_1370 kp_37 (lO_156 hL) (m_own h2) rfl (by decide) rfl (Nat.le_of_ble_eq_true rfl) (Nat.zero_add _) (Nat.zero_add _) ?_
    refine ev_iload_n (X := M_X12_tells) (pc := 47) dX12_tells_47 rfl ?_
    refine ev_virtR (X := M_X12_tells) (Y := M_X12_turns) (pc := 48) (ci := 12) dX12_tells_48 mk_X12_turns rfl kw_1380 kw_1382 kp_40 (lO_156 hL) (hm1 _ x (h2.le (by decide))) rfl (by omega) rfl (Nat.le_of_ble_eq_true rfl) (Nat.zero_add _) (Nat.zero_add _) ?_
    refine ev_istore_nL (X := M_X12_tells) (pc := 51) (ls' := [_, _, _, _]) dX12_tells_51 (by decide) rfl ?_
    refine ev_iload_n (X := M_X12_tells) (pc := 52) dX12_tells_52 rfl ?_
    refine ev_aload_n (X := M_X12_tells) (pc := 53) dX12_tells_53 rfl ?_
    refine ev_aload_n (X := M_X12_tells) (pc := 54) dX12_tells_54 rfl ?_
    refine ev_virtR (X := M_X12_tells) (Y := M_X12_own) (pc := 55) (ci := 12) dX12_tells_55 mk_X12_own rfl kw_1368 kw_1370 kp_37 (lO_156 hL) (m_own h3) rfl (by decide) rfl (Nat.le_of_ble_eq_true rfl) (Nat.zero_add _) (Nat.zero_add _) ?_
    refine ev_iload_n (X := M_X12_tells) (pc := 58) dX12_tells_58 rfl ?_
    refine ev_virtR (X := M_X12_tells) (Y := M_X12_stay) (pc := 59) (ci := 12) dX12_tells_59 mk_X12_stay rfl kw_1384 kw_1386 kp_41 (lO_156 hL) (hm2 _ x h3) rfl (by omega) rfl (Nat.le_of_ble_eq_true rfl) (Nat.zero_add _) (Nat.zero_add _) ?_
    refine ev_ixor (X := M_X12_tells) (pc := 62) dX12_tells_62 ?_
    refine ev_iret (X := M_X12_tells) (pc := 63) dX12_tells_63 rfl ?_
    refine ⟨rfl, rfl, ?_⟩
    unfold te0L
    rw [trW_app ([13] ++ tuL (D (3 + n)) (D (3 + n))), trW_app [13]]
theorem m_tellsS {γ : Gh} {K : Sk} {V : Mm} {d : Nat} {D : Int → Int} {n k x : Int} {y : Int} {l : List Int} (hk : k = 1 ∨ k = 2 ∨ k = 3 ∨ k = 4) (ih : Call γ M_X12_tells d 0 0 [vR 156, vI (abv k), vI x] K V (Rt (some (vI y)) K (trW V l))) (h : PV' K V D n 12) : Call γ M_X12_tells (d+1) 0 0 [vR 156, vI k, vI x] K V (Rt (some (vI y)) K (trW V l)) := by
  refine call_of (by decide +kernel) (by intro v hv; simp only [List.mem_cons, List.not_mem_nil, or_false] at hv; rcases hv with rfl | rfl | rfl <;> exact fun q => by cases q) (Nat.le_of_ble_eq_true rfl) ?_
  refine ev_lsE (ls' := [_, _, _, _]) rfl ?_
  have hL := h.1
  refine ev_iload_n (X := M_X12_tells) (pc := 0) dX12_tells_0 rfl ?_
  rcases (show k = 1 ∨ k = 2 ∨ k = 3 ∨ k = 4 by omega) with h1 | h1 | h1 | h1
  · refine ev_lookup (X := M_X12_tells) (pc := 1) (off := 120) (tgt := 121) dX12_tells_1 (by omega) (by decide) (by rw [h1]; rfl) (by decide) ?_
    refine ev_aload_n (X := M_X12_tells) (pc := 121) dX12_tells_121 rfl ?_
    refine ev_iload_n (X := M_X12_tells) (pc := 122) dX12_tells_122 rfl ?_
    refine ev_staticR (X := M_X12_tells) (Y := M_X12_above) (pc := 123) dX12_tells_123 mk_X12_above kw_1235 kw_1236 (m_above (by omega)) rfl (by omega) rfl (Nat.le_of_ble_eq_true rfl) (Nat.zero_add _) (Nat.zero_add _) ?_
    refine ev_iload_n (X := M_X12_tells) (pc := 126) dX12_tells_126 rfl ?_
    refine ev_virtR (X := M_X12_tells) (Y := M_X12_tells) (pc := 127) (ci := 12) dX12_tells_127 mk_X12_tells rfl kw_1388 kw_1390 kp_42 (lO_156 hL) (ih) rfl (by omega) rfl (Nat.le_of_ble_eq_true rfl) (Nat.zero_add _) (Nat.zero_add _) ?_
    refine ev_iret (X := M_X12_tells) (pc := 130) dX12_tells_130 rfl ?_
    exact ⟨rfl, rfl, rfl⟩
  · refine ev_lookup (X := M_X12_tells) (pc := 1) (off := 120) (tgt := 121) dX12_tells_1 (by omega) (by decide) (by rw [h1]; rfl) (by decide) ?_
    refine ev_aload_n (X := M_X12_tells) (pc := 121) dX12_tells_121 rfl ?_
    refine ev_iload_n (X := M_X12_tells) (pc := 122) dX12_tells_122 rfl ?_
    refine ev_staticR (X := M_X12_tells) (Y := M_X12_above) (pc := 123) dX12_tells_123 mk_X12_above kw_1235 kw_1236 (m_above (by omega)) rfl (by omega) rfl (Nat.le_of_ble_eq_true rfl) (Nat.zero_add _) (Nat.zero_add _) ?_
    refine ev_iload_n (X := M_X12_tells) (pc := 126) dX12_tells_126 rfl ?_
    refine ev_virtR (X := M_X12_tells) (Y := M_X12_tells) (pc := 127) (ci := 12) dX12_tells_127 mk_X12_tells rfl kw_1388 kw_1390 kp_42 (lO_156 hL) (ih) rfl (by omega) rfl (Nat.le_of_ble_eq_true rfl) (Nat.zero_add _) (Nat.zero_add _) ?_
    refine ev_iret (X := M_X12_tells) (pc := 130) dX12_tells_130 rfl ?_
    exact ⟨rfl, rfl, rfl⟩
  · refine ev_lookup (X := M_X12_tells) (pc := 1) (off := 120) (tgt := 121) dX12_tells_1 (by omega) (by decide) (by rw [h1]; rfl) (by decide) ?_
    refine ev_aload_n (X := M_X12_tells) (pc := 121) dX12_tells_121 rfl ?_
    refine ev_iload_n (X := M_X12_tells) (pc := 122) dX12_tells_122 rfl ?_
    refine ev_staticR (X := M_X12_tells) (Y := M_X12_above) (pc := 123) dX12_tells_123 mk_X12_above kw_1235 kw_1236 (m_above (by omega)) rfl (by omega) rfl (Nat.le_of_ble_eq_true rfl) (Nat.zero_add _) (Nat.zero_add _) ?_
    refine ev_iload_n (X := M_X12_tells) (pc := 126) dX12_tells_126 rfl ?_
    refine ev_virtR (X := M_X12_tells) (Y := M_X12_tells) (pc := 127) (ci := 12) dX12_tells_127 mk_X12_tells rfl kw_1388 kw_1390 kp_42 (lO_156 hL) (ih) rfl (by omega) rfl (Nat.le_of_ble_eq_true rfl) (Nat.zero_add _) (Nat.zero_add _) ?_
    refine ev_iret (X := M_X12_tells) (pc := 130) dX12_tells_130 rfl ?_
    exact ⟨rfl, rfl, rfl⟩
  · refine ev_lookup (X := M_X12_tells) (pc := 1) (off := 120) (tgt := 121) dX12_tells_1 (by omega) (by decide) (by rw [h1]; rfl) (by decide) ?_
    refine ev_aload_n (X := M_X12_tells) (pc := 121) dX12_tells_121 rfl ?_
    refine ev_iload_n (X := M_X12_tells) (pc := 122) dX12_tells_122 rfl ?_
    refine ev_staticR (X := M_X12_tells) (Y := M_X12_above) (pc := 123) dX12_tells_123 mk_X12_above kw_1235 kw_1236 (m_above (by omega)) rfl (by omega) rfl (Nat.le_of_ble_eq_true rfl) (Nat.zero_add _) (Nat.zero_add _) ?_
    refine ev_iload_n (X := M_X12_tells) (pc := 126) dX12_tells_126 rfl ?_
    refine ev_virtR (X := M_X12_tells) (Y := M_X12_tells) (pc := 127) (ci := 12) dX12_tells_127 mk_X12_tells rfl kw_1388 kw_1390 kp_42 (lO_156 hL) (ih) rfl (by omega) rfl (Nat.le_of_ble_eq_true rfl) (Nat.zero_add _) (Nat.zero_add _) ?_
    refine ev_iret (X := M_X12_tells) (pc := 130) dX12_tells_130 rfl ?_
    exact ⟨rfl, rfl, rfl⟩
theorem m_tells5 {γ : Gh} {K : Sk} {V : Mm} {D : Int → Int} {n x : Int} (ho : 0 ≤ D (3 + n) ∧ D (3 + n) ≤ 6) (h : PV' K V D n 24) : Call γ M_X12_tells 9 0 0 [vR 156, vI 5, vI x] K V (Rt (some (vI (te0 (D (3 + n)) n (D (9 + n)) x - metF (D (3 + n)) n 2))) K (trW V ([60] ++ te0L (D (3 + n)) ++ metL (D (3 + n))))) := by
  refine call_of (by decide +kernel) (by intro v hv; simp only [List.mem_cons, List.not_mem_nil, or_false] at hv; rcases hv with rfl | rfl | rfl <;> exact fun q => by cases q) (Nat.le_of_ble_eq_true rfl) ?_
  refine ev_lsE (ls' := [_, _, _, _]) rfl ?_
  have hL := h.1
  have ht := h.2.2.2.2
  have hml := te0L_n (D (3 + n))
  have h2 : PV' K (trW V [60]) D n 23 := h.tr (by decide)
  have h3 : PV' K (trW (trW V [60]) (te0L (D (3 + n)))) D n 2 := h2.tr (by omega)
  obtain ⟨d2, hd2, hm2⟩ := m_metA (γ := γ) (K := K) (D := D) (n := n) ho
  have hin : Call γ M_X12_tells 8 0 0 [vR 156, vI 2, vI x] K (trW V [60]) (Rt (some (vI (te0 (D (3 + n)) n (D (9 + n)) x))) K (trW (trW V [60]) (te0L (D (3 + n))))) := m_tellsS (Or.inr (Or.inl rfl)) (m_tells0 ho (h2.le (by decide))) (h2.le (by decide))
  refine ev_iload_n (X := M_X12_tells) (pc := 0) dX12_tells_0 rfl ?_
  rcases (show (5 : Int) = 5 by omega) with h1
  · refine ev_lookup (X := M_X12_tells) (pc := 1) (off := 63) (tgt := 64) dX12_tells_1 (by omega) (by decide) (by rw [h1]; rfl) (by decide) ?_
    refine ev_aload_n (X := M_X12_tells) (pc := 64) dX12_tells_64 rfl ?_
    refine ev_bipush (X := M_X12_tells) (pc := 65) dX12_tells_65 (by decide) ?_
    refine ev_virtV (X := M_X12_tells) (Y := M_X12_ran) (pc := 67) (ci := 12) dX12_tells_67 mk_X12_ran rfl kw_1376 kw_1378 kp_39 (lO_156 hL) (m_ran hL (by omega)) rfl (by decide) rfl (Nat.le_of_ble_eq_true rfl) (Nat.zero_add _) (Nat.zero_add _) ?_
    refine ev_aload_n (X := M_X12_tells) (pc := 70) dX12_tells_70 rfl ?_
    refine ev_iconst (X := M_X12_tells) (pc := 71) dX12_tells_71 ?_
    refine ev_staticR (X := M_X12_tells) (Y := M_X12_above) (pc := 72) dX12_tells_72 mk_X12_above kw_1235 kw_1236 (m_above (by decide)) rfl (by decide) rfl (Nat.le_of_ble_eq_true rfl) (Nat.zero_add _) (Nat.zero_add _) ?_
    refine ev_iload_n (X := M_X12_tells) (pc := 75) dX12_tells_75 rfl ?_
    refine ev_virtR (X := M_X12_tells) (Y := M_X12_tells) (pc := 76) (ci := 12) dX12_tells_76 mk_X12_tells rfl kw_1388 kw_1390 kp_42 (lO_156 hL) (hin) rfl (by decide) rfl (Nat.le_of_ble_eq_true rfl) (Nat.zero_add _) (Nat.zero_add _) ?_
    refine ev_istore_nL (X := M_X12_tells) (pc := 79) (ls' := [_, _, _, _]) dX12_tells_79 (by decide) rfl ?_
    refine ev_iload_n (X := M_X12_tells) (pc := 80) dX12_tells_80 rfl ?_
    refine ev_aload_n (X := M_X12_tells) (pc := 81) dX12_tells_81 rfl ?_
    refine ev_aload_n (X := M_X12_tells) (pc := 82) dX12_tells_82 rfl ?_
    refine ev_virtR (X := M_X12_tells) (Y := M_X12_own) (pc := 83) (ci := 12) dX12_tells_83 mk_X12_own rfl kw_1368 kw_1370 kp_37 (lO_156 hL) (m_own h3) rfl (by decide) rfl (Nat.le_of_ble_eq_true rfl) (Nat.zero_add _) (Nat.zero_add _) ?_
    refine ev_iconst (X := M_X12_tells) (pc := 86) dX12_tells_86 ?_
    refine ev_virtR (X := M_X12_tells) (Y := M_X12_met) (pc := 87) (ci := 12) dX12_tells_87 mk_X12_met rfl kw_1372 kw_1374 kp_38 (lO_156 hL) (hm2 _ 2 h3) rfl (by omega) rfl (Nat.le_of_ble_eq_true rfl) (Nat.zero_add _) (Nat.zero_add _) ?_
    refine ev_isub (X := M_X12_tells) (pc := 90) dX12_tells_90 ?_
    refine ev_iret (X := M_X12_tells) (pc := 91) dX12_tells_91 rfl ?_
    refine ⟨rfl, rfl, ?_⟩
    rw [trW_app ([60] ++ te0L (D (3 + n))), trW_app [60]]
theorem m_tells6 {γ : Gh} {K : Sk} {V : Mm} {D : Int → Int} {n x : Int} (ho : 0 ≤ D (3 + n) ∧ D (3 + n) ≤ 6) (h : PV' K V D n 24) : Call γ M_X12_tells 9 0 0 [vR 156, vI 6, vI x] K V (Rt (some (vI (tuF (D (3 + n)) (D (3 + n)) n (D (9 + n)) x - te0 (D (3 + n)) n (D (9 + n)) x))) K (trW V ([71] ++ tuL (D (3 + n)) (D (3 + n)) ++ te0L (D (3 + n))))) := by
  refine call_of (by decide +kernel) (by intro v hv; simp only [List.mem_cons, List.not_mem_nil, or_false] at hv; rcases hv with rfl | rfl | rfl <;> exact fun q => by cases q) (Nat.le_of_ble_eq_true rfl) ?_
  refine ev_lsE (ls' := [_, _, _, _]) rfl ?_
  have hL := h.1
  have ht := h.2.2.2.2
  have hml := tuL_n (D (3 + n)) (D (3 + n))
  have h2 : PV' K (trW V [71]) D n 23 := h.tr (by decide)
  have h3 : PV' K (trW (trW V [71]) (tuL (D (3 + n)) (D (3 + n)))) D n 12 := h2.tr (by omega)
  obtain ⟨d1, hd1, hm1⟩ := m_turnsA (γ := γ) (K := K) (D := D) (n := n) ho ho
  have hin : Call γ M_X12_tells 8 0 0 [vR 156, vI 3, vI x] K (trW (trW V [71]) (tuL (D (3 + n)) (D (3 + n)))) (Rt (some (vI (te0 (D (3 + n)) n (D (9 + n)) x))) K (trW (trW (trW V [71]) (tuL (D (3 + n)) (D (3 + n)))) (te0L (D (3 + n))))) := m_tellsS (Or.inr (Or.inr (Or.inl rfl))) (m_tells0 ho h3) h3
  refine ev_iload_n (X := M_X12_tells) (pc := 0) dX12_tells_0 rfl ?_
  rcases (show (6 : Int) = 6 by omega) with h1
  · refine ev_lookup (X := M_X12_tells) (pc := 1) (off := 91) (tgt := 92) dX12_tells_1 (by omega) (by decide) (by rw [h1]; rfl) (by decide) ?_
    refine ev_aload_n (X := M_X12_tells) (pc := 92) dX12_tells_92 rfl ?_
    refine ev_bipush (X := M_X12_tells) (pc := 93) dX12_tells_93 (by decide) ?_
    refine ev_virtV (X := M_X12_tells) (Y := M_X12_ran) (pc := 95) (ci := 12) dX12_tells_95 mk_X12_ran rfl kw_1376 kw_1378 kp_39 (lO_156 hL) (m_ran hL (by omega)) rfl (by decide) rfl (Nat.le_of_ble_eq_true rfl) (Nat.zero_add _) (Nat.zero_add _) ?_
    refine ev_aload_n (X := M_X12_tells) (pc := 98) dX12_tells_98 rfl ?_
    refine ev_aload_n (X := M_X12_tells) (pc := 99) dX12_tells_99 rfl ?_
    refine ev_virtR (X := M_X12_tells) (Y := M_X12_own) (pc := 100) (ci := 12) dX12_tells_100 mk_X12_own rfl kw_1368 kw_1370 kp_37 (lO_156 hL) (m_own h2) rfl (by decide) rfl (Nat.le_of_ble_eq_true rfl) (Nat.zero_add _) (Nat.zero_add _) ?_
    refine ev_iload_n (X := M_X12_tells) (pc := 103) dX12_tells_103 rfl ?_
    refine ev_virtR (X := M_X12_tells) (Y := M_X12_turns) (pc := 104) (ci := 12) dX12_tells_104 mk_X12_turns rfl kw_1380 kw_1382 kp_40 (lO_156 hL) (hm1 _ x (h2.le (by decide))) rfl (by omega) rfl (Nat.le_of_ble_eq_true rfl) (Nat.zero_add _) (Nat.zero_add _) ?_
    refine ev_istore_nL (X := M_X12_tells) (pc := 107) (ls' := [_, _, _, _]) dX12_tells_107 (by decide) rfl ?_
    refine ev_iload_n (X := M_X12_tells) (pc := 108) dX12_tells_108 rfl ?_
    refine ev_aload_n (X := M_X12_tells) (pc := 109) dX12_tells_109 rfl ?_
    refine ev_bipush (X := M_X12_tells) (pc := 110) dX12_tells_110 (by decide) ?_
    refine ev_staticR (X := M_X12_tells) (Y := M_X12_above) (pc := 112) dX12_tells_112 mk_X12_above kw_1235 kw_1236 (m_above (by decide)) rfl (by decide) rfl (Nat.le_of_ble_eq_true rfl) (Nat.zero_add _) (Nat.zero_add _) ?_
    refine ev_iload_n (X := M_X12_tells) (pc := 115) dX12_tells_115 rfl ?_
    refine ev_virtR (X := M_X12_tells) (Y := M_X12_tells) (pc := 116) (ci := 12) dX12_tells_116 mk_X12_tells rfl kw_1388 kw_1390 kp_42 (lO_156 hL) (hin) rfl (by decide) rfl (Nat.le_of_ble_eq_true rfl) (Nat.zero_add _) (Nat.zero_add _) ?_
    refine ev_isub (X := M_X12_tells) (pc := 119) dX12_tells_119 ?_
    refine ev_iret (X := M_X12_tells) (pc := 120) dX12_tells_120 rfl ?_
    refine ⟨rfl, rfl, ?_⟩
    rw [trW_app ([71] ++ tuL (D (3 + n)) (D (3 + n))), trW_app [71]]
theorem m_tellsA {γ : Gh} {K : Sk} {D : Int → Int} {n k : Int} (ho : 0 ≤ D (3 + n) ∧ D (3 + n) ≤ 6) (hk : 0 ≤ k ∧ k ≤ 6) : MTel γ K D n k := by
  have m0 : ∀ (V : Mm) (x : Int), PV' K V D n 24 → Call γ M_X12_tells 7 0 0 [vR 156, vI 0, vI x] K V (Rt (some (vI (te0 (D (3 + n)) n (D (9 + n)) x))) K (trW V (te0L (D (3 + n))))) := fun V x h => m_tells0 ho (h.le (by decide))
  have m1 : ∀ (V : Mm) (x : Int), PV' K V D n 24 → Call γ M_X12_tells 8 0 0 [vR 156, vI 1, vI x] K V (Rt (some (vI (te0 (D (3 + n)) n (D (9 + n)) x))) K (trW V (te0L (D (3 + n))))) := fun V x h => m_tellsS (Or.inl rfl) (m0 V x h) (h.le (by decide))
  rcases (show k = 0 ∨ k = 1 ∨ k = 2 ∨ k = 3 ∨ k = 4 ∨ k = 5 ∨ k = 6 by omega) with z | z | z | z | z | z | z <;> subst z
  · exact ⟨7, by decide, m0⟩
  · exact ⟨8, by decide, m1⟩
  · exact ⟨8, by decide, fun V x h => m_tellsS (Or.inr (Or.inl rfl)) (m0 V x h) (h.le (by decide))⟩
  · exact ⟨8, by decide, fun V x h => m_tellsS (Or.inr (Or.inr (Or.inl rfl))) (m0 V x h) (h.le (by decide))⟩
  · exact ⟨9, by decide, fun V x h => m_tellsS (Or.inr (Or.inr (Or.inr rfl))) (m1 V x h) (h.le (by decide))⟩
  · exact ⟨9, by decide, fun V x h => m_tells5 ho h⟩
  · exact ⟨9, by decide, fun V x h => m_tells6 ho h⟩
