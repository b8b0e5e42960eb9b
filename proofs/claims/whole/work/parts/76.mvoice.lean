/-! ===== voices ===== -/
def metF (k n x : Int) : Int := if k = 2 ∨ k = 5 then (x + n) * 3 else x + n
def metL (k : Int) : List Int := if k = 2 ∨ k = 5 then [30, 10] else [10]
def stF' (k n m x : Int) : Int := if k = 3 then -(x - m) else if k = 6 then op_ixor (-(x - m)) n else x - m
def stL' (k : Int) : List Int := if k = 3 then [40, 12] else if k = 6 then [70, 40, 12] else [12]
def tuF (k o n m x : Int) : Int := if k = 1 then metF o n x * 2 - stF' o n m 1 else if k = 4 then metF o n (x + 1) * 2 - stF' o n m 1 else metF o n x * 2
def tuL (k o : Int) : List Int := if k = 1 then [20, 11] ++ metL o ++ stL' o else if k = 4 then [50, 20, 11] ++ metL o ++ stL' o else [11] ++ metL o
def te0 (o n m x : Int) : Int := op_ixor (tuF o o n m x) (stF' o n m x)
def te0L (o : Int) : List Int := [13] ++ tuL o o ++ stL' o
def teF (k o n m x : Int) : Int := if k = 5 then te0 o n m x - metF o n 2 else if k = 6 then tuF o o n m x - te0 o n m x else te0 o n m x
def teL (k o : Int) : List Int := if k = 5 then [60] ++ te0L o ++ metL o else if k = 6 then [71] ++ tuL o o ++ te0L o else te0L o
/-- the reference's trace, with these behind it -/
def trW (V : Mm) : List Int → Mm
  | [] => V
  | b :: l => trW (wr (wr V 173 (V 156 24) b) 156 24 (V 156 24 + 1)) l
theorem trW_app : ∀ (l m : List Int) (V : Mm), trW V (l ++ m) = trW (trW V l) m
  | [], m, V => rfl
  | b :: l, m, V => trW_app l m _
theorem trW_o : ∀ (l : List Int) (V : Mm) (c : Nat) (i : Int), c ≠ 173 → ¬ (c = 156 ∧ i = 24) → trW V l c i = V c i
  | [], V, c, i, _, _ => rfl
  | b :: l, V, c, i, h1, h2 => by
    show trW (wr (wr V 173 (V 156 24) b) 156 24 (V 156 24 + 1)) l c i = V c i
    rw [trW_o l _ c i h1 h2, wr_ne h2, wr_off h1]
theorem trW_n : ∀ (l : List Int) (V : Mm), trW V l 156 24 = V 156 24 + l.length
  | [], V => by show V 156 24 = V 156 24 + ((0 : Nat) : Int); omega
  | b :: l, V => by
    show trW (wr (wr V 173 (V 156 24) b) 156 24 (V 156 24 + 1)) l 156 24 = _
    rw [trW_n l, wr_self]
    simp only [List.length_cons]
    omega
theorem trW_row {l : List Int} {V : Mm} {c : Nat} (h1 : c ≠ 173) (h2 : c ≠ 156) : trW V l c = V c := funext fun i => trW_o l V c i h1 (fun z => h2 z.1)
theorem m_ran {γ : Gh} {K : Sk} {V : Mm} (hL : Lay K) {b : Int} (ht : 0 ≤ V 156 24 ∧ V 156 24 < 40) : Call γ M_X12_ran 0 0 0 [vR 156, vI b] K V (Rt none K (trW V [b])) := by
  refine call_of (by decide +kernel) (by intro v hv; simp only [List.mem_cons, List.not_mem_nil, or_false] at hv; rcases hv with rfl | rfl <;> exact fun q => by cases q) (Nat.le_of_ble_eq_true rfl) ?_
  refine ev_lsE (ls' := [_, _]) rfl ?_
  refine ev_aload_n (X := M_X12_ran) (pc := 0) dX12_ran_0 rfl ?_
  refine ev_getI (X := M_X12_ran) (pc := 1) (ki := 24) dX12_ran_1 fl_X12_274_12 (lO_156 hL) (by decide) rfl ?_
  refine ev_bipush (X := M_X12_ran) (pc := 4) dX12_ran_4 (by decide) ?_
  refine ev_icmp_ge (X := M_X12_ran) (pc := 6) (tgt := 29) dX12_ran_6 (by decide) (by omega) (by omega) (fun h6 => ?_) (fun h6 => ?_)
  · exact absurd h6 (by omega)
  · refine ev_aload_n (X := M_X12_ran) (pc := 9) dX12_ran_9 rfl ?_
    refine ev_getRe (X := M_X12_ran) (pc := 10) dX12_ran_10 fl_X12_60_12 (lO_156 hL) rfl (lR_156_23 hL) ?_
    refine ev_aload_n (X := M_X12_ran) (pc := 13) dX12_ran_13 rfl ?_
    refine ev_getI (X := M_X12_ran) (pc := 14) (ki := 24) dX12_ran_14 fl_X12_274_12 (lO_156 hL) (by decide) rfl ?_
    refine ev_iload_n (X := M_X12_ran) (pc := 17) dX12_ran_17 rfl ?_
    refine ev_iastore (X := M_X12_ran) (pc := 18) dX12_ran_18 (by decide) (lS_173 hL) (by omega) ?_
    refine ev_aload_n (X := M_X12_ran) (pc := 19) dX12_ran_19 rfl ?_
    refine ev_dup (X := M_X12_ran) (pc := 20) dX12_ran_20 (fun _ q => by cases q) ?_
    refine ev_getIe (X := M_X12_ran) (pc := 21) (ki := 24) dX12_ran_21 fl_X12_274_12 (lO_156 hL) (by decide) rfl (congrFun (wr_off (show (156 : Nat) ≠ 173 by decide)) 24) ?_
    refine ev_iconst (X := M_X12_ran) (pc := 24) dX12_ran_24 ?_
    refine ev_iadd (X := M_X12_ran) (pc := 25) dX12_ran_25 ?_
    refine ev_putI (X := M_X12_ran) (pc := 26) (ki := 24) dX12_ran_26 fl_X12_274_12 (by decide) (lO_156 hL) (fun _ h q => by cases h; cases q) (Or.inl rfl) rfl ?_
    refine ev_vret (X := M_X12_ran) (pc := 29) dX12_ran_29 rfl ?_
    exact ⟨rfl, rfl, rfl⟩
def PV' (K : Sk) (V : Mm) (D : Int → Int) (n L : Int) : Prop := Lay K ∧ V 157 = D ∧ V 156 25 = n ∧ (0 ≤ n ∧ n < 6) ∧ 0 ≤ V 156 24 ∧ V 156 24 + L ≤ 40
theorem PV'.tr {K : Sk} {V : Mm} {D : Int → Int} {n L L' : Int} {l : List Int} (h : PV' K V D n L) (hl : L' + l.length ≤ L) : PV' K (trW V l) D n L' := by
  obtain ⟨a, b, c, d, e, f⟩ := h
  refine ⟨a, by rw [trW_row (by decide) (by decide)]; exact b, by rw [trW_o l V 156 25 (by decide) (by decide)]; exact c, d, ?_, ?_⟩
  · rw [trW_n]; omega
  · rw [trW_n]; omega
theorem m_own {γ : Gh} {K : Sk} {V : Mm} {D : Int → Int} {n L : Int} (h : PV' K V D n L) : Call γ M_X12_own 0 0 0 [vR 156] K V (Rt (some (vI (D (3 + n)))) K V) := by
  refine call_of (by decide +kernel) (by intro v hv; simp only [List.mem_cons, List.not_mem_nil, or_false] at hv; rcases hv with rfl <;> exact fun q => by cases q) (Nat.le_of_ble_eq_true rfl) ?_
  refine ev_lsE (ls' := [_]) rfl ?_
  obtain ⟨hL, hD, hn, hn6, ht0, ht1⟩ := h
  refine ev_aload_n (X := M_X12_own) (pc := 0) dX12_own_0 rfl ?_
  refine ev_getRe (X := M_X12_own) (pc := 1) dX12_own_1 fl_X12_7_12 (lO_156 hL) rfl (lR_156_0 hL) ?_
  refine ev_iconst (X := M_X12_own) (pc := 4) dX12_own_4 ?_
  refine ev_aload_n (X := M_X12_own) (pc := 5) dX12_own_5 rfl ?_
  refine ev_getIe (X := M_X12_own) (pc := 6) (ki := 25) dX12_own_6 fl_X12_277_12 (lO_156 hL) (by decide) rfl (hn) ?_
  refine ev_iadd (X := M_X12_own) (pc := 9) dX12_own_9 ?_
  refine ev_ialoadE (X := M_X12_own) (pc := 10) dX12_own_10 (lS_157 hL) (by omega) (congrFun hD _) ?_
  refine ev_iret (X := M_X12_own) (pc := 11) dX12_own_11 rfl ?_
  exact ⟨rfl, rfl, rfl⟩
def MMet (γ : Gh) (K : Sk) (D : Int → Int) (n k : Int) : Prop := ∃ d : Nat, d ≤ 3 ∧ ∀ (V : Mm) (x : Int), PV' K V D n 2 → Call γ M_X12_met d 0 0 [vR 156, vI k, vI x] K V (Rt (some (vI (metF k n x))) K (trW V (metL k)))
theorem m_met0 {γ : Gh} {K : Sk} {V : Mm} {D : Int → Int} {n x : Int} (h : PV' K V D n 1) : Call γ M_X12_met 1 0 0 [vR 156, vI 0, vI x] K V (Rt (some (vI (x + n))) K (trW V [10])) := by
  refine call_of (by decide +kernel) (by intro v hv; simp only [List.mem_cons, List.not_mem_nil, or_false] at hv; rcases hv with rfl | rfl | rfl <;> exact fun q => by cases q) (Nat.le_of_ble_eq_true rfl) ?_
  refine ev_lsE (ls' := [_, _, _]) rfl ?_
  have hL := h.1
  have hn : trW V [10] 156 25 = n := by rw [trW_o [10] V 156 25 (by decide) (by decide)]; exact h.2.2.1
  have ht := h.2.2.2.2
  obtain ⟨kz, hkz⟩ : ∃ kz : Int, kz = 0 := ⟨_, rfl⟩
  rw [← hkz]
  refine ev_iload_n (X := M_X12_met) (pc := 0) dX12_met_0 rfl ?_
  rcases (show kz = 0 by omega) with h1
  · refine ev_lookup (X := M_X12_met) (pc := 1) (off := 27) (tgt := 28) dX12_met_1 (by omega) (by decide) (by rw [h1]; rfl) (by decide) ?_
    refine ev_aload_n (X := M_X12_met) (pc := 28) dX12_met_28 rfl ?_
    refine ev_bipush (X := M_X12_met) (pc := 29) dX12_met_29 (by decide) ?_
    refine ev_virtV (X := M_X12_met) (Y := M_X12_ran) (pc := 31) (ci := 12) dX12_met_31 mk_X12_ran rfl kw_1376 kw_1378 kp_39 (lO_156 hL) (m_ran hL (by omega)) rfl (by decide) rfl (Nat.le_of_ble_eq_true rfl) (Nat.zero_add _) (Nat.zero_add _) ?_
    refine ev_iload_n (X := M_X12_met) (pc := 34) dX12_met_34 rfl ?_
    refine ev_aload_n (X := M_X12_met) (pc := 35) dX12_met_35 rfl ?_
    refine ev_getIe (X := M_X12_met) (pc := 36) (ki := 25) dX12_met_36 fl_X12_277_12 (lO_156 hL) (by decide) rfl (hn) ?_
    refine ev_iadd (X := M_X12_met) (pc := 39) dX12_met_39 ?_
    refine ev_iret (X := M_X12_met) (pc := 40) dX12_met_40 rfl ?_
    exact ⟨rfl, rfl, rfl⟩
theorem m_met2 {γ : Gh} {K : Sk} {V : Mm} {D : Int → Int} {n x : Int} (h : PV' K V D n 2) : Call γ M_X12_met 2 0 0 [vR 156, vI 2, vI x] K V (Rt (some (vI ((x + n) * 3))) K (trW V [30, 10])) := by
  refine call_of (by decide +kernel) (by intro v hv; simp only [List.mem_cons, List.not_mem_nil, or_false] at hv; rcases hv with rfl | rfl | rfl <;> exact fun q => by cases q) (Nat.le_of_ble_eq_true rfl) ?_
  refine ev_lsE (ls' := [_, _, _]) rfl ?_
  have hL := h.1
  have ht := h.2.2.2.2
  have h2 : PV' K (trW V [30]) D n 1 := h.tr (by decide)
  obtain ⟨kz, hkz⟩ : ∃ kz : Int, kz = 2 := ⟨_, rfl⟩
  rw [← hkz]
  refine ev_iload_n (X := M_X12_met) (pc := 0) dX12_met_0 rfl ?_
  rcases (show kz = 2 by omega) with h1
  · refine ev_lookup (X := M_X12_met) (pc := 1) (off := 40) (tgt := 41) dX12_met_1 (by omega) (by decide) (by rw [h1]; rfl) (by decide) ?_
    refine ev_aload_n (X := M_X12_met) (pc := 41) dX12_met_41 rfl ?_
    refine ev_bipush (X := M_X12_met) (pc := 42) dX12_met_42 (by decide) ?_
    refine ev_virtV (X := M_X12_met) (Y := M_X12_ran) (pc := 44) (ci := 12) dX12_met_44 mk_X12_ran rfl kw_1376 kw_1378 kp_39 (lO_156 hL) (m_ran hL (by omega)) rfl (by decide) rfl (Nat.le_of_ble_eq_true rfl) (Nat.zero_add _) (Nat.zero_add _) ?_
    refine ev_aload_n (X := M_X12_met) (pc := 47) dX12_met_47 rfl ?_
    refine ev_iconst (X := M_X12_met) (pc := 48) dX12_met_48 ?_
    refine ev_staticR (X := M_X12_met) (Y := M_X12_above) (pc := 49) dX12_met_49 mk_X12_above kw_1235 kw_1236 (m_above (by decide)) rfl (by decide) rfl (Nat.le_of_ble_eq_true rfl) (Nat.zero_add _) (Nat.zero_add _) ?_
    refine ev_iload_n (X := M_X12_met) (pc := 52) dX12_met_52 rfl ?_
    refine ev_virtR (X := M_X12_met) (Y := M_X12_met) (pc := 53) (ci := 12) dX12_met_53 mk_X12_met rfl kw_1372 kw_1374 kp_38 (lO_156 hL) (m_met0 h2) rfl (by decide) rfl (Nat.le_of_ble_eq_true rfl) (Nat.zero_add _) (Nat.zero_add _) ?_
    refine ev_iconst (X := M_X12_met) (pc := 56) dX12_met_56 ?_
    refine ev_imul (X := M_X12_met) (pc := 57) dX12_met_57 ?_
    refine ev_iret (X := M_X12_met) (pc := 58) dX12_met_58 rfl ?_
    exact ⟨rfl, rfl, rfl⟩
theorem m_metS {γ : Gh} {K : Sk} {V : Mm} {d : Nat} {D : Int → Int} {n k x : Int} (hk : k = 1 ∨ k = 3 ∨ k = 4 ∨ k = 5 ∨ k = 6) (ih : ∀ (V : Mm) (x : Int), PV' K V D n 2 → Call γ M_X12_met d 0 0 [vR 156, vI (abv k), vI x] K V (Rt (some (vI (metF (abv k) n x))) K (trW V (metL (abv k))))) (h : PV' K V D n 2) : Call γ M_X12_met (d+1) 0 0 [vR 156, vI k, vI x] K V (Rt (some (vI (metF k n x))) K (trW V (metL k))) := by
  refine call_of (by decide +kernel) (by intro v hv; simp only [List.mem_cons, List.not_mem_nil, or_false] at hv; rcases hv with rfl | rfl | rfl <;> exact fun q => by cases q) (Nat.le_of_ble_eq_true rfl) ?_
  refine ev_lsE (ls' := [_, _, _]) rfl ?_
  have hL := h.1
  have e1 : metF (abv k) n x = metF k n x := by rcases hk with z | z | z | z | z <;> subst z <;> rfl
  have e2 : metL (abv k) = metL k := by rcases hk with z | z | z | z | z <;> subst z <;> rfl
  refine ev_iload_n (X := M_X12_met) (pc := 0) dX12_met_0 rfl ?_
  rcases (show k = 1 ∨ k = 3 ∨ k = 4 ∨ k = 5 ∨ k = 6 by omega) with h1 | h1 | h1 | h1 | h1
  · refine ev_lookup (X := M_X12_met) (pc := 1) (off := 58) (tgt := 59) dX12_met_1 (by omega) (by decide) (by rw [h1]; rfl) (by decide) ?_
    refine ev_aload_n (X := M_X12_met) (pc := 59) dX12_met_59 rfl ?_
    refine ev_iload_n (X := M_X12_met) (pc := 60) dX12_met_60 rfl ?_
    refine ev_staticR (X := M_X12_met) (Y := M_X12_above) (pc := 61) dX12_met_61 mk_X12_above kw_1235 kw_1236 (m_above (by omega)) rfl (by omega) rfl (Nat.le_of_ble_eq_true rfl) (Nat.zero_add _) (Nat.zero_add _) ?_
    refine ev_iload_n (X := M_X12_met) (pc := 64) dX12_met_64 rfl ?_
    refine ev_virtR (X := M_X12_met) (Y := M_X12_met) (pc := 65) (ci := 12) dX12_met_65 mk_X12_met rfl kw_1372 kw_1374 kp_38 (lO_156 hL) (ih V x h) rfl (by omega) rfl (Nat.le_of_ble_eq_true rfl) (Nat.zero_add _) (Nat.zero_add _) ?_
    refine ev_iret (X := M_X12_met) (pc := 68) dX12_met_68 rfl ?_
    exact ⟨by rw [e1], rfl, by rw [e2]⟩
  · refine ev_lookup (X := M_X12_met) (pc := 1) (off := 58) (tgt := 59) dX12_met_1 (by omega) (by decide) (by rw [h1]; rfl) (by decide) ?_
    refine ev_aload_n (X := M_X12_met) (pc := 59) dX12_met_59 rfl ?_
    refine ev_iload_n (X := M_X12_met) (pc := 60) dX12_met_60 rfl ?_
    refine ev_staticR (X := M_X12_met) (Y := M_X12_above) (pc := 61) dX12_met_61 mk_X12_above kw_1235 kw_1236 (m_above (by omega)) rfl (by omega) rfl (Nat.le_of_ble_eq_true rfl) (Nat.zero_add _) (Nat.zero_add _) ?_
    refine ev_iload_n (X := M_X12_met) (pc := 64) dX12_met_64 rfl ?_
    refine ev_virtR (X := M_X12_met) (Y := M_X12_met) (pc := 65) (ci := 12) dX12_met_65 mk_X12_met rfl kw_1372 kw_1374 kp_38 (lO_156 hL) (ih V x h) rfl (by omega) rfl (Nat.le_of_ble_eq_true rfl) (Nat.zero_add _) (Nat.zero_add _) ?_
    refine ev_iret (X := M_X12_met) (pc := 68) dX12_met_68 rfl ?_
    exact ⟨by rw [e1], rfl, by rw [e2]⟩
  · refine ev_lookup (X := M_X12_met) (pc := 1) (off := 58) (tgt := 59) dX12_met_1 (by omega) (by decide) (by rw [h1]; rfl) (by decide) ?_
    refine ev_aload_n (X := M_X12_met) (pc := 59) dX12_met_59 rfl ?_
    refine ev_iload_n (X := M_X12_met) (pc := 60) dX12_met_60 rfl ?_
    refine ev_staticR (X := M_X12_met) (Y := M_X12_above) (pc := 61) dX12_met_61 mk_X12_above kw_1235 kw_1236 (m_above (by omega)) rfl (by omega) rfl (Nat.le_of_ble_eq_true rfl) (Nat.zero_add _) (Nat.zero_add _) ?_
    refine ev_iload_n (X := M_X12_met) (pc := 64) dX12_met_64 rfl ?_
    refine ev_virtR (X := M_X12_met) (Y := M_X12_met) (pc := 65) (ci := 12) dX12_met_65 mk_X12_met rfl kw_1372 kw_1374 kp_38 (lO_156 hL) (ih V x h) rfl (by omega) rfl (Nat.le_of_ble_eq_true rfl) (Nat.zero_add _) (Nat.zero_add _) ?_
    refine ev_iret (X := M_X12_met) (pc := 68) dX12_met_68 rfl ?_
    exact ⟨by rw [e1], rfl, by rw [e2]⟩
  · refine ev_lookup (X := M_X12_met) (pc := 1) (off := 58) (tgt := 59) dX12_met_1 (by omega) (by decide) (by rw [h1]; rfl) (by decide) ?_
    refine ev_aload_n (X := M_X12_met) (pc := 59) dX12_met_59 rfl ?_
    refine ev_iload_n (X := M_X12_met) (pc := 60) dX12_met_60 rfl ?_
    refine ev_staticR (X := M_X12_met) (Y := M_X12_above) (pc := 61) dX12_met_61 mk_X12_above kw_1235 kw_1236 (m_above (by omega)) rfl (by omega) rfl (Nat.le_of_ble_eq_true rfl) (Nat.zero_add _) (Nat.zero_add _) ?_
    refine ev_iload_n (X := M_X12_met) (pc := 64) dX12_met_64 rfl ?_
    refine ev_virtR (X := M_X12_met) (Y := M_X12_met) (pc := 65) (ci := 12) dX12_met_65 mk_X12_met rfl kw_1372 kw_1374 kp_38 (lO_156 hL) (ih V x h) rfl (by omega) rfl (Nat.le_of_ble_eq_true rfl) (Nat.zero_add _) (Nat.zero_add _) ?_
    refine ev_iret (X := M_X12_met) (pc := 68) dX12_met_68 rfl ?_
    exact ⟨by rw [e1], rfl, by rw [e2]⟩
  · refine ev_lookup (X := M_X12_met) (pc := 1) (off := 58) (tgt := 59) dX12_met_1 (by omega) (by decide) (by rw [h1]; rfl) (by decide) ?_
    refine ev_aload_n (X := M_X12_met) (pc := 59) dX12_met_59 rfl ?_
    refine ev_iload_n (X := M_X12_met) (pc := 60) dX12_met_60 rfl ?_
    refine ev_staticR (X := M_X12_met) (Y := M_X12_above) (pc := 61) dX12_met_61 mk_X12_above kw_1235 kw_1236 (m_above (by omega)) rfl (by omega) rfl (Nat.le_of_ble_eq_true rfl) (Nat.zero_add _) (Nat.zero_add _) ?_
    refine ev_iload_n (X := M_X12_met) (pc := 64) dX12_met_64 rfl ?_
    refine ev_virtR (X := M_X12_met) (Y := M_X12_met) (pc := 65) (ci := 12) dX12_met_65 mk_X12_met rfl kw_1372 kw_1374 kp_38 (lO_156 hL) (ih V x h) rfl (by omega) rfl (Nat.le_of_ble_eq_true rfl) (Nat.zero_add _) (Nat.zero_add _) ?_
    refine ev_iret (X := M_X12_met) (pc := 68) dX12_met_68 rfl ?_
    exact ⟨by rw [e1], rfl, by rw [e2]⟩
theorem m_metA {γ : Gh} {K : Sk} {D : Int → Int} {n k : Int} (hk : 0 ≤ k ∧ k ≤ 6) : MMet γ K D n k := by
  have m0 : ∀ (V : Mm) (x : Int), PV' K V D n 2 → Call γ M_X12_met 1 0 0 [vR 156, vI 0, vI x] K V (Rt (some (vI (metF 0 n x))) K (trW V (metL 0))) := fun V x h => m_met0 ⟨h.1, h.2.1, h.2.2.1, h.2.2.2.1, h.2.2.2.2.1, by have := h.2.2.2.2.2; omega⟩
  have m2 : ∀ (V : Mm) (x : Int), PV' K V D n 2 → Call γ M_X12_met 2 0 0 [vR 156, vI 2, vI x] K V (Rt (some (vI (metF 2 n x))) K (trW V (metL 2))) := fun V x h => m_met2 h
  have m1 : ∀ (V : Mm) (x : Int), PV' K V D n 2 → Call γ M_X12_met 2 0 0 [vR 156, vI 1, vI x] K V (Rt (some (vI (metF 1 n x))) K (trW V (metL 1))) := fun V x h => m_metS (Or.inl rfl) m0 h
  have m3 : ∀ (V : Mm) (x : Int), PV' K V D n 2 → Call γ M_X12_met 2 0 0 [vR 156, vI 3, vI x] K V (Rt (some (vI (metF 3 n x))) K (trW V (metL 3))) := fun V x h => m_metS (Or.inr (Or.inl rfl)) m0 h
  have m4 : ∀ (V : Mm) (x : Int), PV' K V D n 2 → Call γ M_X12_met 3 0 0 [vR 156, vI 4, vI x] K V (Rt (some (vI (metF 4 n x))) K (trW V (metL 4))) := fun V x h => m_metS (Or.inr (Or.inr (Or.inl rfl))) m1 h
  have m5 : ∀ (V : Mm) (x : Int), PV' K V D n 2 → Call γ M_X12_met 3 0 0 [vR 156, vI 5, vI x] K V (Rt (some (vI (metF 5 n x))) K (trW V (metL 5))) := fun V x h => m_metS (Or.inr (Or.inr (Or.inr (Or.inl rfl)))) m2 h
  have m6 : ∀ (V : Mm) (x : Int), PV' K V D n 2 → Call γ M_X12_met 3 0 0 [vR 156, vI 6, vI x] K V (Rt (some (vI (metF 6 n x))) K (trW V (metL 6))) := fun V x h => m_metS (Or.inr (Or.inr (Or.inr (Or.inr rfl)))) m3 h
  rcases (show k = 0 ∨ k = 1 ∨ k = 2 ∨ k = 3 ∨ k = 4 ∨ k = 5 ∨ k = 6 by omega) with z | z | z | z | z | z | z <;> subst z
  · exact ⟨1, by decide, m0⟩
  · exact ⟨2, by decide, m1⟩
  · exact ⟨2, by decide, m2⟩
  · exact ⟨2, by decide, m3⟩
  · exact ⟨3, by decide, m4⟩
  · exact ⟨3, by decide, m5⟩
  · exact ⟨3, by decide, m6⟩
def MSty (γ : Gh) (K : Sk) (D : Int → Int) (n k : Int) : Prop := ∃ d : Nat, d ≤ 3 ∧ ∀ (V : Mm) (x : Int), PV' K V D n 3 → Call γ M_X12_stay d 0 0 [vR 156, vI k, vI x] K V (Rt (some (vI (stF' k n (D (9 + n)) x))) K (trW V (stL' k)))
theorem m_stay0 {γ : Gh} {K : Sk} {V : Mm} {D : Int → Int} {n x : Int} (h : PV' K V D n 1) : Call γ M_X12_stay 1 0 0 [vR 156, vI 0, vI x] K V (Rt (some (vI (x - D (9 + n)))) K (trW V [12])) := by
  refine call_of (by decide +kernel) (by intro v hv; simp only [List.mem_cons, List.not_mem_nil, or_false] at hv; rcases hv with rfl | rfl | rfl <;> exact fun q => by cases q) (Nat.le_of_ble_eq_true rfl) ?_
  refine ev_lsE (ls' := [_, _, _]) rfl ?_
  have hL := h.1
  have hn : trW V [12] 156 25 = n := by rw [trW_o [12] V 156 25 (by decide) (by decide)]; exact h.2.2.1
  have hD : trW V [12] 157 = D := by rw [trW_row (by decide) (by decide)]; exact h.2.1
  have ht := h.2.2.2.2
  have hn6 := h.2.2.2.1
  obtain ⟨kz, hkz⟩ : ∃ kz : Int, kz = 0 := ⟨_, rfl⟩
  rw [← hkz]
  refine ev_iload_n (X := M_X12_stay) (pc := 0) dX12_stay_0 rfl ?_
  rcases (show kz = 0 by omega) with h1
  · refine ev_lookup (X := M_X12_stay) (pc := 1) (off := 35) (tgt := 36) dX12_stay_1 (by omega) (by decide) (by rw [h1]; rfl) (by decide) ?_
    refine ev_aload_n (X := M_X12_stay) (pc := 36) dX12_stay_36 rfl ?_
    refine ev_bipush (X := M_X12_stay) (pc := 37) dX12_stay_37 (by decide) ?_
    refine ev_virtV (X := M_X12_stay) (Y := M_X12_ran) (pc := 39) (ci := 12) dX12_stay_39 mk_X12_ran rfl kw_1376 kw_1378 kp_39 (lO_156 hL) (m_ran hL (by omega)) rfl (by decide) rfl (Nat.le_of_ble_eq_true rfl) (Nat.zero_add _) (Nat.zero_add _) ?_
    refine ev_iload_n (X := M_X12_stay) (pc := 42) dX12_stay_42 rfl ?_
    refine ev_aload_n (X := M_X12_stay) (pc := 43) dX12_stay_43 rfl ?_
    refine ev_getRe (X := M_X12_stay) (pc := 44) dX12_stay_44 fl_X12_7_12 (lO_156 hL) rfl (lR_156_0 hL) ?_
    refine ev_bipush (X := M_X12_stay) (pc := 47) dX12_stay_47 (by decide) ?_
    refine ev_aload_n (X := M_X12_stay) (pc := 49) dX12_stay_49 rfl ?_
    refine ev_getIe (X := M_X12_stay) (pc := 50) (ki := 25) dX12_stay_50 fl_X12_277_12 (lO_156 hL) (by decide) rfl (hn) ?_
    refine ev_iadd (X := M_X12_stay) (pc := 53) dX12_stay_53 ?_
    refine ev_ialoadE (X := M_X12_stay) (pc := 54) dX12_stay_54 (lS_157 hL) (by omega) (congrFun hD _) ?_
    refine ev_isub (X := M_X12_stay) (pc := 55) dX12_stay_55 ?_
    refine ev_iret (X := M_X12_stay) (pc := 56) dX12_stay_56 rfl ?_
    exact ⟨rfl, rfl, rfl⟩
theorem m_stay3 {γ : Gh} {K : Sk} {V : Mm} {D : Int → Int} {n x : Int} (h : PV' K V D n 2) : Call γ M_X12_stay 2 0 0 [vR 156, vI 3, vI x] K V (Rt (some (vI (-(x - D (9 + n))))) K (trW V [40, 12])) := by
  refine call_of (by decide +kernel) (by intro v hv; simp only [List.mem_cons, List.not_mem_nil, or_false] at hv; rcases hv with rfl | rfl | rfl <;> exact fun q => by cases q) (Nat.le_of_ble_eq_true rfl) ?_
  refine ev_lsE (ls' := [_, _, _]) rfl ?_
  have hL := h.1
  have ht := h.2.2.2.2
  have h2 : PV' K (trW V [40]) D n 1 := h.tr (by decide)
  obtain ⟨kz, hkz⟩ : ∃ kz : Int, kz = 3 := ⟨_, rfl⟩
  rw [← hkz]
  refine ev_iload_n (X := M_X12_stay) (pc := 0) dX12_stay_0 rfl ?_
  rcases (show kz = 3 by omega) with h1
  · refine ev_lookup (X := M_X12_stay) (pc := 1) (off := 56) (tgt := 57) dX12_stay_1 (by omega) (by decide) (by rw [h1]; rfl) (by decide) ?_
    refine ev_aload_n (X := M_X12_stay) (pc := 57) dX12_stay_57 rfl ?_
    refine ev_bipush (X := M_X12_stay) (pc := 58) dX12_stay_58 (by decide) ?_
    refine ev_virtV (X := M_X12_stay) (Y := M_X12_ran) (pc := 60) (ci := 12) dX12_stay_60 mk_X12_ran rfl kw_1376 kw_1378 kp_39 (lO_156 hL) (m_ran hL (by omega)) rfl (by decide) rfl (Nat.le_of_ble_eq_true rfl) (Nat.zero_add _) (Nat.zero_add _) ?_
    refine ev_aload_n (X := M_X12_stay) (pc := 63) dX12_stay_63 rfl ?_
    refine ev_iconst (X := M_X12_stay) (pc := 64) dX12_stay_64 ?_
    refine ev_staticR (X := M_X12_stay) (Y := M_X12_above) (pc := 65) dX12_stay_65 mk_X12_above kw_1235 kw_1236 (m_above (by decide)) rfl (by decide) rfl (Nat.le_of_ble_eq_true rfl) (Nat.zero_add _) (Nat.zero_add _) ?_
    refine ev_iload_n (X := M_X12_stay) (pc := 68) dX12_stay_68 rfl ?_
    refine ev_virtR (X := M_X12_stay) (Y := M_X12_stay) (pc := 69) (ci := 12) dX12_stay_69 mk_X12_stay rfl kw_1384 kw_1386 kp_41 (lO_156 hL) (m_stay0 h2) rfl (by decide) rfl (Nat.le_of_ble_eq_true rfl) (Nat.zero_add _) (Nat.zero_add _) ?_
    refine ev_ineg (X := M_X12_stay) (pc := 72) dX12_stay_72 ?_
    refine ev_iret (X := M_X12_stay) (pc := 73) dX12_stay_73 rfl ?_
    exact ⟨rfl, rfl, rfl⟩
theorem m_stay6 {γ : Gh} {K : Sk} {V : Mm} {D : Int → Int} {n x : Int} (h : PV' K V D n 3) : Call γ M_X12_stay 3 0 0 [vR 156, vI 6, vI x] K V (Rt (some (vI (op_ixor (-(x - D (9 + n))) n))) K (trW V [70, 40, 12])) := by
  refine call_of (by decide +kernel) (by intro v hv; simp only [List.mem_cons, List.not_mem_nil, or_false] at hv; rcases hv with rfl | rfl | rfl <;> exact fun q => by cases q) (Nat.le_of_ble_eq_true rfl) ?_
  refine ev_lsE (ls' := [_, _, _]) rfl ?_
  have hL := h.1
  have ht := h.2.2.2.2
  have h2 : PV' K (trW V [70]) D n 2 := h.tr (by decide)
  have hn : trW (trW V [70]) [40, 12] 156 25 = n := by rw [trW_o _ _ 156 25 (by decide) (by decide), trW_o _ _ 156 25 (by decide) (by decide)]; exact h.2.2.1
  obtain ⟨kz, hkz⟩ : ∃ kz : Int, kz = 6 := ⟨_, rfl⟩
  rw [← hkz]
  refine ev_iload_n (X := M_X12_stay) (pc := 0) dX12_stay_0 rfl ?_
  rcases (show kz = 6 by omega) with h1
  · refine ev_lookup (X := M_X12_stay) (pc := 1) (off := 73) (tgt := 74) dX12_stay_1 (by omega) (by decide) (by rw [h1]; rfl) (by decide) ?_
    refine ev_aload_n (X := M_X12_stay) (pc := 74) dX12_stay_74 rfl ?_
    refine ev_bipush (X := M_X12_stay) (pc := 75) dX12_stay_75 (by decide) ?_
    refine ev_virtV (X := M_X12_stay) (Y := M_X12_ran) (pc := 77) (ci := 12) dX12_stay_77 mk_X12_ran rfl kw_1376 kw_1378 kp_39 (lO_156 hL) (m_ran hL (by omega)) rfl (by decide) rfl (Nat.le_of_ble_eq_true rfl) (Nat.zero_add _) (Nat.zero_add _) ?_
    refine ev_aload_n (X := M_X12_stay) (pc := 80) dX12_stay_80 rfl ?_
    refine ev_bipush (X := M_X12_stay) (pc := 81) dX12_stay_81 (by decide) ?_
    refine ev_staticR (X := M_X12_stay) (Y := M_X12_above) (pc := 83) dX12_stay_83 mk_X12_above kw_1235 kw_1236 (m_above (by decide)) rfl (by decide) rfl (Nat.le_of_ble_eq_true rfl) (Nat.zero_add _) (Nat.zero_add _) ?_
    refine ev_iload_n (X := M_X12_stay) (pc := 86) dX12_stay_86 rfl ?_
    refine ev_virtR (X := M_X12_stay) (Y := M_X12_stay) (pc := 87) (ci := 12) dX12_stay_87 mk_X12_stay rfl kw_1384 kw_1386 kp_41 (lO_156 hL) (m_stay3 h2) rfl (by decide) rfl (Nat.le_of_ble_eq_true rfl) (Nat.zero_add _) (Nat.zero_add _) ?_
    refine ev_aload_n (X := M_X12_stay) (pc := 90) dX12_stay_90 rfl ?_
    refine ev_getIe (X := M_X12_stay) (pc := 91) (ki := 25) dX12_stay_91 fl_X12_277_12 (lO_156 hL) (by decide) rfl (hn) ?_
    refine ev_ixor (X := M_X12_stay) (pc := 94) dX12_stay_94 ?_
    refine ev_iret (X := M_X12_stay) (pc := 95) dX12_stay_95 rfl ?_
    exact ⟨rfl, rfl, rfl⟩
theorem m_stayS {γ : Gh} {K : Sk} {V : Mm} {d : Nat} {D : Int → Int} {n k x : Int} (hk : k = 1 ∨ k = 2 ∨ k = 4 ∨ k = 5) (ih : ∀ (V : Mm) (x : Int), PV' K V D n 3 → Call γ M_X12_stay d 0 0 [vR 156, vI (abv k), vI x] K V (Rt (some (vI (x - D (9 + n)))) K (trW V [12]))) (h : PV' K V D n 3) : Call γ M_X12_stay (d+1) 0 0 [vR 156, vI k, vI x] K V (Rt (some (vI (x - D (9 + n)))) K (trW V [12])) := by
  refine call_of (by decide +kernel) (by intro v hv; simp only [List.mem_cons, List.not_mem_nil, or_false] at hv; rcases hv with rfl | rfl | rfl <;> exact fun q => by cases q) (Nat.le_of_ble_eq_true rfl) ?_
  refine ev_lsE (ls' := [_, _, _]) rfl ?_
  have hL := h.1
  refine ev_iload_n (X := M_X12_stay) (pc := 0) dX12_stay_0 rfl ?_
  rcases (show k = 1 ∨ k = 2 ∨ k = 4 ∨ k = 5 by omega) with h1 | h1 | h1 | h1
  · refine ev_lookup (X := M_X12_stay) (pc := 1) (off := 95) (tgt := 96) dX12_stay_1 (by omega) (by decide) (by rw [h1]; rfl) (by decide) ?_
    refine ev_aload_n (X := M_X12_stay) (pc := 96) dX12_stay_96 rfl ?_
    refine ev_iload_n (X := M_X12_stay) (pc := 97) dX12_stay_97 rfl ?_
    refine ev_staticR (X := M_X12_stay) (Y := M_X12_above) (pc := 98) dX12_stay_98 mk_X12_above kw_1235 kw_1236 (m_above (by omega)) rfl (by omega) rfl (Nat.le_of_ble_eq_true rfl) (Nat.zero_add _) (Nat.zero_add _) ?_
    refine ev_iload_n (X := M_X12_stay) (pc := 101) dX12_stay_101 rfl ?_
    refine ev_virtR (X := M_X12_stay) (Y := M_X12_stay) (pc := 102) (ci := 12) dX12_stay_102 mk_X12_stay rfl kw_1384 kw_1386 kp_41 (lO_156 hL) (ih V x h) rfl (by omega) rfl (Nat.le_of_ble_eq_true rfl) (Nat.zero_add _) (Nat.zero_add _) ?_
    refine ev_iret (X := M_X12_stay) (pc := 105) dX12_stay_105 rfl ?_
    exact ⟨rfl, rfl, rfl⟩
  · refine ev_lookup (X := M_X12_stay) (pc := 1) (off := 95) (tgt := 96) dX12_stay_1 (by omega) (by decide) (by rw [h1]; rfl) (by decide) ?_
    refine ev_aload_n (X := M_X12_stay) (pc := 96) dX12_stay_96 rfl ?_
    refine ev_iload_n (X := M_X12_stay) (pc := 97) dX12_stay_97 rfl ?_
    refine ev_staticR (X := M_X12_stay) (Y := M_X12_above) (pc := 98) dX12_stay_98 mk_X12_above kw_1235 kw_1236 (m_above (by omega)) rfl (by omega) rfl (Nat.le_of_ble_eq_true rfl) (Nat.zero_add _) (Nat.zero_add _) ?_
    refine ev_iload_n (X := M_X12_stay) (pc := 101) dX12_stay_101 rfl ?_
    refine ev_virtR (X := M_X12_stay) (Y := M_X12_stay) (pc := 102) (ci := 12) dX12_stay_102 mk_X12_stay rfl kw_1384 kw_1386 kp_41 (lO_156 hL) (ih V x h) rfl (by omega) rfl (Nat.le_of_ble_eq_true rfl) (Nat.zero_add _) (Nat.zero_add _) ?_
    refine ev_iret (X := M_X12_stay) (pc := 105) dX12_stay_105 rfl ?_
    exact ⟨rfl, rfl, rfl⟩
  · refine ev_lookup (X := M_X12_stay) (pc := 1) (off := 95) (tgt := 96) dX12_stay_1 (by omega) (by decide) (by rw [h1]; rfl) (by decide) ?_
    refine ev_aload_n (X := M_X12_stay) (pc := 96) dX12_stay_96 rfl ?_
    refine ev_iload_n (X := M_X12_stay) (pc := 97) dX12_stay_97 rfl ?_
    refine ev_staticR (X := M_X12_stay) (Y := M_X12_above) (pc := 98) dX12_stay_98 mk_X12_above kw_1235 kw_1236 (m_above (by omega)) rfl (by omega) rfl (Nat.le_of_ble_eq_true rfl) (Nat.zero_add _) (Nat.zero_add _) ?_
    refine ev_iload_n (X := M_X12_stay) (pc := 101) dX12_stay_101 rfl ?_
    refine ev_virtR (X := M_X12_stay) (Y := M_X12_stay) (pc := 102) (ci := 12) dX12_stay_102 mk_X12_stay rfl kw_1384 kw_1386 kp_41 (lO_156 hL) (ih V x h) rfl (by omega) rfl (Nat.le_of_ble_eq_true rfl) (Nat.zero_add _) (Nat.zero_add _) ?_
    refine ev_iret (X := M_X12_stay) (pc := 105) dX12_stay_105 rfl ?_
    exact ⟨rfl, rfl, rfl⟩
  · refine ev_lookup (X := M_X12_stay) (pc := 1) (off := 95) (tgt := 96) dX12_stay_1 (by omega) (by decide) (by rw [h1]; rfl) (by decide) ?_
    refine ev_aload_n (X := M_X12_stay) (pc := 96) dX12_stay_96 rfl ?_
    refine ev_iload_n (X := M_X12_stay) (pc := 97) dX12_stay_97 rfl ?_
    refine ev_staticR (X := M_X12_stay) (Y := M_X12_above) (pc := 98) dX12_stay_98 mk_X12_above kw_1235 kw_1236 (m_above (by omega)) rfl (by omega) rfl (Nat.le_of_ble_eq_true rfl) (Nat.zero_add _) (Nat.zero_add _) ?_
    refine ev_iload_n (X := M_X12_stay) (pc := 101) dX12_stay_101 rfl ?_
    refine ev_virtR (X := M_X12_stay) (Y := M_X12_stay) (pc := 102) (ci := 12) dX12_stay_102 mk_X12_stay rfl kw_1384 kw_1386 kp_41 (lO_156 hL) (ih V x h) rfl (by omega) rfl (Nat.le_of_ble_eq_true rfl) (Nat.zero_add _) (Nat.zero_add _) ?_
    refine ev_iret (X := M_X12_stay) (pc := 105) dX12_stay_105 rfl ?_
    exact ⟨rfl, rfl, rfl⟩
theorem PV'.le {K : Sk} {V : Mm} {D : Int → Int} {n L L' : Int} (h : PV' K V D n L) (hl : L' ≤ L) : PV' K V D n L' := ⟨h.1, h.2.1, h.2.2.1, h.2.2.2.1, h.2.2.2.2.1, by have := h.2.2.2.2.2; omega⟩
theorem m_stayA {γ : Gh} {K : Sk} {D : Int → Int} {n k : Int} (hk : 0 ≤ k ∧ k ≤ 6) : MSty γ K D n k := by
  have m0 : ∀ (V : Mm) (x : Int), PV' K V D n 3 → Call γ M_X12_stay 1 0 0 [vR 156, vI 0, vI x] K V (Rt (some (vI (x - D (9 + n)))) K (trW V [12])) := fun V x h => m_stay0 (h.le (by decide))
  have m1 : ∀ (V : Mm) (x : Int), PV' K V D n 3 → Call γ M_X12_stay 2 0 0 [vR 156, vI 1, vI x] K V (Rt (some (vI (x - D (9 + n)))) K (trW V [12])) := fun V x h => m_stayS (Or.inl rfl) m0 h
  have m2 : ∀ (V : Mm) (x : Int), PV' K V D n 3 → Call γ M_X12_stay 2 0 0 [vR 156, vI 2, vI x] K V (Rt (some (vI (x - D (9 + n)))) K (trW V [12])) := fun V x h => m_stayS (Or.inr (Or.inl rfl)) m0 h
  have m4 : ∀ (V : Mm) (x : Int), PV' K V D n 3 → Call γ M_X12_stay 3 0 0 [vR 156, vI 4, vI x] K V (Rt (some (vI (x - D (9 + n)))) K (trW V [12])) := fun V x h => m_stayS (Or.inr (Or.inr (Or.inl rfl))) m1 h
  have m5 : ∀ (V : Mm) (x : Int), PV' K V D n 3 → Call γ M_X12_stay 3 0 0 [vR 156, vI 5, vI x] K V (Rt (some (vI (x - D (9 + n)))) K (trW V [12])) := fun V x h => m_stayS (Or.inr (Or.inr (Or.inr rfl))) m2 h
  rcases (show k = 0 ∨ k = 1 ∨ k = 2 ∨ k = 3 ∨ k = 4 ∨ k = 5 ∨ k = 6 by omega) with z | z | z | z | z | z | z <;> subst z
  · exact ⟨1, by decide, m0⟩
  · exact ⟨2, by decide, m1⟩
  · exact ⟨2, by decide, m2⟩
  · exact ⟨2, by decide, fun V x h => m_stay3 (h.le (by decide))⟩
  · exact ⟨3, by decide, m4⟩
  · exact ⟨3, by decide, m5⟩
  · exact ⟨3, by decide, fun V x h => m_stay6 h⟩
