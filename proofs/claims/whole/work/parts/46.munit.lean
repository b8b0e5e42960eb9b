theorem m_unit {γ : Gh} {K : Sk} {V : Mm} {f nm : Int → Int} {n u : Int} {k : Nat} (hk5 : k ≤ 5) (ihS : ∀ k', k = k' + 1 → MUn γ K f nm n u k') (ihL : ∀ k', k = k' + 1 → MLv M_X12_either γ K f nm n u k' 5) (h : MT K V f nm n u) (hq : 0 ≤ V 156 5 ∧ V 156 5 ≤ n) (ha : V 156 7 = -1) (ho : V 156 8 = 5 - k) : Call γ M_X12_unit (2+6*k) 0 0 [vR 156] K V (Qz K (PM V nm n (prS f n u k (V 156 5)))) := by
  refine call_of (by decide +kernel) (by intro v hv; simp only [List.mem_cons, List.not_mem_nil, or_false] at hv; rcases hv with rfl <;> exact fun q => by cases q) (Nat.le_of_ble_eq_true rfl) ?_
  refine ev_lsE (ls' := [_, _, _, _, _]) rfl ?_
  have hL := h.1
  have hn5 := h.2.2.2.2.1
  have hu := h.2.2.2.1
  have hu2 := h.2.2.2.2.2.1
  have hnms := h.2.2.2.2.2.2.2
  have hhr : hr f n V = sgn f n (V 156 5) := by unfold hr; rw [if_pos (by omega)]
  have hsg := h.sg hq.1
  have hnm := nmI_r (u := u) (s := sgn f n (V 156 5))
  have hd4 := dg_4 (f := f) (n := n) (q := V 156 5) hq.2
  have hdr := dg_r (f := f) (n := n) (q := V 156 5)
  obtain ⟨g, hg, hgk⟩ := prS_A (f := f) (n := n) (u := u) (k := k)
  have hpr : prS f n u k (V 156 5) = prA f n u k g (V 156 5) := by rw [hg]
  unfold prA at hpr
  have hlt : sgn f n (V 156 5) ≠ -1 → V 156 5 < n := fun z => (sgn_in z).1
  generalize hs : sgn f n (V 156 5) = s at *
  have tailB : s = 33 → ∀ k', k = k' + 1 → ∀ W2 x W3, mP V W2 → W2 156 8 = V 156 8 + 1 → PM W2 nm n (prS f n u k' (V 156 5 + 1)) x W3 → Ev γ M_X12_unit (2+6*k) 0 0 67 [vR 156, vI s, vU, vU, vU] [vI x] K W3 (Qz K (PM V nm n (prS f n u k (V 156 5)))) := by
    intro s33 k' hk W2 x W3 m2 o2 hW3
    have hx := hW3.2.1
    have fin : PM V nm n (prS f n u k (V 156 5)) (if x = 0 then 1 else 0) (wr W3 156 8 (W3 156 8 - 1)) := by
      rw [hgk k' hk, if_neg (by omega), if_neg (by omega), if_pos (by omega)] at hpr
      rw [hpr]
      generalize prS f n u k' (V 156 5 + 1) = r at *
      obtain ⟨o, q'⟩ := r
      have hy : -2147483648 ≤ (if x = 0 then (1 : Int) else 0) ∧ (if x = 0 then (1 : Int) else 0) < 2147483648 := by split <;> decide
      cases o with
      | none =>
        obtain ⟨a1, a2, a3, a4, a5, a6⟩ := hW3
        exact ⟨(m2.tr a1).w (by omega) _, hy, by rw [wr_ne (by omega)]; exact a3, by rw [wr_ne (by omega)]; exact a4, a5, a6⟩
      | some l =>
        obtain ⟨a1, a2, a3, a4, a5, a6, a7⟩ := hW3
        exact ⟨(m2.tr a1).w (by omega) _, hy, by rw [wr_ne (by omega)]; exact a3, by rw [wr_ne (by omega)]; exact a4, by rw [wr_ne (by omega)]; exact a5, by rw [wr_self, a6, o2]; omega, a7.neg⟩
    refine ev_istore_nL (X := M_X12_unit) (pc := 67) (ls' := [_, _, _, _, _]) dX12_unit_67 (by decide) rfl ?_
    refine ev_iload_n (X := M_X12_unit) (pc := 68) dX12_unit_68 rfl ?_
    refine ev_bipush (X := M_X12_unit) (pc := 69) dX12_unit_69 (by decide) ?_
    refine ev_icmp_ne (X := M_X12_unit) (pc := 71) (tgt := 88) dX12_unit_71 (by decide) (by omega) (by omega) (fun h71 => ?_) (fun h71 => ?_)
    · refine ev_aload_n (X := M_X12_unit) (pc := 88) dX12_unit_88 rfl ?_
      refine ev_dup (X := M_X12_unit) (pc := 89) dX12_unit_89 (fun _ q => by cases q) ?_
      refine ev_getI (X := M_X12_unit) (pc := 90) (ki := 8) dX12_unit_90 fl_X12_134_12 (lO_156 hL) (by decide) rfl ?_
      refine ev_iconst (X := M_X12_unit) (pc := 93) dX12_unit_93 ?_
      refine ev_isub (X := M_X12_unit) (pc := 94) dX12_unit_94 ?_
      refine ev_putI (X := M_X12_unit) (pc := 95) (ki := 8) dX12_unit_95 fl_X12_134_12 (by decide) (lO_156 hL) (fun _ h q => by cases h; cases q) (Or.inl rfl) rfl ?_
      refine ev_iload_n (X := M_X12_unit) (pc := 98) dX12_unit_98 rfl ?_
      refine ev_bipush (X := M_X12_unit) (pc := 99) dX12_unit_99 (by decide) ?_
      refine ev_icmp_ne (X := M_X12_unit) (pc := 101) (tgt := 108) dX12_unit_101 (by decide) (by omega) (by omega) (fun h101 => ?_) (fun h101 => ?_)
      · refine ev_iload_n (X := M_X12_unit) (pc := 108) dX12_unit_108 rfl ?_
        refine ev_if_ne (X := M_X12_unit) (pc := 109) (tgt := 116) dX12_unit_109 (by decide) (by omega) (fun h109 => ?_) (fun h109 => ?_)
        · rw [if_neg h109] at fin
          refine ev_iconst (X := M_X12_unit) (pc := 116) dX12_unit_116 ?_
          refine ev_iret (X := M_X12_unit) (pc := 117) dX12_unit_117 rfl ?_
          exact ⟨rfl, _, rfl, fin⟩
        · rw [if_pos h109] at fin
          refine ev_iconst (X := M_X12_unit) (pc := 112) dX12_unit_112 ?_
          refine ev_goto (X := M_X12_unit) (pc := 113) (tgt := 117) dX12_unit_113 (by decide) ?_
          refine ev_iret (X := M_X12_unit) (pc := 117) dX12_unit_117 rfl ?_
          exact ⟨rfl, _, rfl, fin⟩
      · exact absurd h101 (by omega)
    · exact absurd h71 (by omega)
  have tailP : s = 40 → ∀ k', k = k' + 1 → ∀ W2 x W3, mP V W2 → W2 156 8 = V 156 8 + 1 → PM W2 nm n (lvl (prS f n u k') f n 5 (V 156 5 + 1)) x W3 → Ev γ M_X12_unit (2+6*k) 0 0 67 [vR 156, vI s, vU, vU, vU] [vI x] K W3 (Qz K (PM V nm n (prS f n u k (V 156 5)))) := by
    intro s40 k' hk W2 x W3 m2 o2 hW3
    have hx := hW3.2.1
    have hft := hW3.ft
    have hat := hW3.2.2.1
    have m3 := m2.tr hW3.1
    have htk := m_takes (γ := γ) (h.mP m3) hat hft (c := 41) (by decide)
    rw [hgk k' hk, if_neg (by omega), if_neg (by omega), if_neg (by omega), if_pos (by omega)] at hpr
    have fin : hr f n W3 = 41 → PM V nm n (prS f n u k (V 156 5)) x (wr (wr W3 156 5 (W3 156 5 + 1)) 156 8 ((wr W3 156 5 (W3 156 5 + 1)) 156 8 - 1)) := fun h41 => by
      rw [hpr]
      generalize lvl (prS f n u k') f n 5 (V 156 5 + 1) = r at *
      obtain ⟨o, q'⟩ := r
      cases o with
      | none =>
        exfalso
        obtain ⟨a1, a2, a3, a4, a5, a6⟩ := hW3
        unfold hr at h41
        rw [if_neg (by omega)] at h41
        exact absurd h41 (by decide)
      | some l =>
        obtain ⟨a1, a2, a3, a4, a5, a6, a7⟩ := hW3
        unfold hr at h41
        rw [if_pos (by omega), a5] at h41
        have hqn := (sgn_in (f := f) (n := n) (q := q') (by omega)).1
        show PM V nm n (if sgn f n q' = 41 then (some l, q' + 1) else (none, q')) x _
        rw [if_pos h41]
        refine ⟨(m3.w (by omega) _).w (by omega) _, hx, ?_, ?_, ?_, ?_, a7⟩
        · rw [wr_ne (by omega), wr_self]; omega
        · rw [wr_ne (by omega), wr_ne (by omega)]; exact a4
        · rw [wr_ne (by omega), wr_self, a5]
        · rw [wr_self, wr_ne (by omega), a6, o2]; omega
    have finW : hr f n W3 ≠ 41 → PM V nm n (prS f n u k (V 156 5)) 0 (wr W3 156 7 (if W3 156 7 < 0 then W3 156 5 else W3 156 7)) := fun h41 => by
      rw [hpr]
      generalize lvl (prS f n u k') f n 5 (V 156 5 + 1) = r at *
      obtain ⟨o, q'⟩ := r
      cases o with
      | none =>
        obtain ⟨a1, a2, a3, a4, a5, a6⟩ := hW3
        exact PM_dead (x := x) ⟨m3, a2, a3, a4, a5, a6⟩
      | some l =>
        obtain ⟨a1, a2, a3, a4, a5, a6, a7⟩ := hW3
        unfold hr at h41
        rw [if_pos (by omega), a5] at h41
        show PM V nm n (if sgn f n q' = 41 then (some l, q' + 1) else (none, q')) 0 _
        rw [if_neg h41, ← a5]
        exact PM_wrong m3 a3 (by omega) a4
    refine ev_istore_nL (X := M_X12_unit) (pc := 67) (ls' := [_, _, _, _, _]) dX12_unit_67 (by decide) rfl ?_
    refine ev_iload_n (X := M_X12_unit) (pc := 68) dX12_unit_68 rfl ?_
    refine ev_bipush (X := M_X12_unit) (pc := 69) dX12_unit_69 (by decide) ?_
    refine ev_icmp_ne (X := M_X12_unit) (pc := 71) (tgt := 88) dX12_unit_71 (by decide) (by omega) (by omega) (fun h71 => ?_) (fun h71 => ?_)
    · exact absurd s40 h71
    · refine ev_aload_n (X := M_X12_unit) (pc := 74) dX12_unit_74 rfl ?_
      refine ev_bipush (X := M_X12_unit) (pc := 75) dX12_unit_75 (by decide) ?_
      refine ev_virtR (X := M_X12_unit) (Y := M_X12_takes) (pc := 77) (ci := 12) dX12_unit_77 mk_X12_takes rfl kw_1138 kw_1140 kp_15 (lO_156 hL) (htk) rfl (by omega) rfl (Nat.le_of_ble_eq_true rfl) (Nat.zero_add _) (Nat.zero_add _) ?_
      refine ev_if_ne (X := M_X12_unit) (pc := 80) (tgt := 88) dX12_unit_80 (by decide) (by split <;> decide) (fun h80 => ?_) (fun h80 => ?_)
      · have hye : hr f n W3 = 41 := Decidable.byContradiction fun z => h80 (by rw [if_neg z])
        rw [if_pos hye]
        refine ev_aload_n (X := M_X12_unit) (pc := 88) dX12_unit_88 rfl ?_
        refine ev_dup (X := M_X12_unit) (pc := 89) dX12_unit_89 (fun _ q => by cases q) ?_
        refine ev_getI (X := M_X12_unit) (pc := 90) (ki := 8) dX12_unit_90 fl_X12_134_12 (lO_156 hL) (by decide) rfl ?_
        refine ev_iconst (X := M_X12_unit) (pc := 93) dX12_unit_93 ?_
        refine ev_isub (X := M_X12_unit) (pc := 94) dX12_unit_94 ?_
        refine ev_putI (X := M_X12_unit) (pc := 95) (ki := 8) dX12_unit_95 fl_X12_134_12 (by decide) (lO_156 hL) (fun _ h q => by cases h; cases q) (Or.inl rfl) rfl ?_
        refine ev_iload_n (X := M_X12_unit) (pc := 98) dX12_unit_98 rfl ?_
        refine ev_bipush (X := M_X12_unit) (pc := 99) dX12_unit_99 (by decide) ?_
        refine ev_icmp_ne (X := M_X12_unit) (pc := 101) (tgt := 108) dX12_unit_101 (by decide) (by omega) (by omega) (fun h101 => ?_) (fun h101 => ?_)
        · exact absurd s40 h101
        · refine ev_iload_n (X := M_X12_unit) (pc := 104) dX12_unit_104 rfl ?_
          refine ev_goto (X := M_X12_unit) (pc := 105) (tgt := 117) dX12_unit_105 (by decide) ?_
          refine ev_iret (X := M_X12_unit) (pc := 117) dX12_unit_117 rfl ?_
          exact ⟨rfl, x, rfl, fin hye⟩
      · have hne : hr f n W3 ≠ 41 := fun z => by rw [if_pos z] at h80; exact absurd h80 (by decide)
        rw [if_neg hne]
        refine ev_aload_n (X := M_X12_unit) (pc := 83) dX12_unit_83 rfl ?_
        refine ev_virtR (X := M_X12_unit) (Y := M_X12_wrong) (pc := 84) (ci := 12) dX12_unit_84 mk_X12_wrong rfl kw_1134 kw_1136 kp_14 (lO_156 hL) (m_wrong hL hft) rfl (by omega) rfl (Nat.le_of_ble_eq_true rfl) (Nat.zero_add _) (Nat.zero_add _) ?_
        refine ev_iret (X := M_X12_unit) (pc := 87) dX12_unit_87 rfl ?_
        exact ⟨rfl, 0, rfl, finW hne⟩
  refine ev_aload_n (X := M_X12_unit) (pc := 0) dX12_unit_0 rfl ?_
  refine ev_virtR (X := M_X12_unit) (Y := M_X12_here) (pc := 1) (ci := 12) dX12_unit_1 mk_X12_here rfl kw_1130 kw_1132 kp_13 (lO_156 hL) (m_here h hq (by omega)) rfl (by omega) rfl (Nat.le_of_ble_eq_true rfl) (Nat.zero_add _) (Nat.zero_add _) ?_
  rw [hhr]
  refine ev_istore_nL (X := M_X12_unit) (pc := 4) (ls' := [_, _, _, _, _]) dX12_unit_4 (by decide) rfl ?_
  refine ev_iload_n (X := M_X12_unit) (pc := 5) dX12_unit_5 rfl ?_
  refine ev_bipush (X := M_X12_unit) (pc := 6) dX12_unit_6 (by decide) ?_
  refine ev_icmp_eq (X := M_X12_unit) (pc := 8) (tgt := 17) dX12_unit_8 (by decide) (by omega) (by omega) (fun h8 => ?_) (fun h8 => ?_)
  · refine ev_aload_n (X := M_X12_unit) (pc := 17) dX12_unit_17 rfl ?_
    refine ev_getIe (X := M_X12_unit) (pc := 18) (ki := 8) dX12_unit_18 fl_X12_134_12 (lO_156 hL) (by decide) rfl (ho) ?_
    refine ev_iconst (X := M_X12_unit) (pc := 21) dX12_unit_21 ?_
    refine ev_icmp_ne (X := M_X12_unit) (pc := 22) (tgt := 30) dX12_unit_22 (by decide) (by omega) (by omega) (fun h22 => ?_) (fun h22 => ?_)
    · refine ev_aload_n (X := M_X12_unit) (pc := 30) dX12_unit_30 rfl ?_
      refine ev_dup (X := M_X12_unit) (pc := 31) dX12_unit_31 (fun _ q => by cases q) ?_
      refine ev_getI (X := M_X12_unit) (pc := 32) (ki := 8) dX12_unit_32 fl_X12_134_12 (lO_156 hL) (by decide) rfl ?_
      refine ev_iconst (X := M_X12_unit) (pc := 35) dX12_unit_35 ?_
      refine ev_iadd (X := M_X12_unit) (pc := 36) dX12_unit_36 ?_
      refine ev_putI (X := M_X12_unit) (pc := 37) (ki := 8) dX12_unit_37 fl_X12_134_12 (by decide) (lO_156 hL) (fun _ h q => by cases h; cases q) (Or.inl rfl) rfl ?_
      refine ev_aload_n (X := M_X12_unit) (pc := 40) dX12_unit_40 rfl ?_
      refine ev_dup (X := M_X12_unit) (pc := 41) dX12_unit_41 (fun _ q => by cases q) ?_
      refine ev_getI (X := M_X12_unit) (pc := 42) (ki := 5) dX12_unit_42 fl_X12_94_12 (lO_156 hL) (by decide) rfl ?_
      refine ev_iconst (X := M_X12_unit) (pc := 45) dX12_unit_45 ?_
      refine ev_iadd (X := M_X12_unit) (pc := 46) dX12_unit_46 ?_
      refine ev_putI (X := M_X12_unit) (pc := 47) (ki := 5) dX12_unit_47 fl_X12_94_12 (by decide) (lO_156 hL) (fun _ h q => by cases h; cases q) (Or.inl rfl) rfl ?_
      obtain ⟨k', hk⟩ : ∃ k', k = k' + 1 := ⟨k - 1, by omega⟩
      have hql := hlt (by omega)
      have hW2e : ∃ W2, W2 = wr (wr V 156 8 (V 156 8 + 1)) 156 5 (wr V 156 8 (V 156 8 + 1) 156 5 + 1) := ⟨_, rfl⟩
      obtain ⟨W2, hW2⟩ := hW2e
      rw [← hW2]
      have m2 : mP V W2 := by rw [hW2]; exact (mP.rf.w (by omega) _).w (by omega) _
      have a2 : W2 156 5 = V 156 5 + 1 := by rw [hW2, wr_self, wr_ne (by omega)]
      have f2 : W2 156 7 = -1 := by rw [hW2, wr_ne (by omega), wr_ne (by omega), ha]
      have o2 : W2 156 8 = V 156 8 + 1 := by rw [hW2, wr_ne (by omega), wr_self]
      clear hW2
      refine ev_iload_n (X := M_X12_unit) (pc := 50) dX12_unit_50 rfl ?_
      refine ev_bipush (X := M_X12_unit) (pc := 51) dX12_unit_51 (by decide) ?_
      refine ev_icmp_ne (X := M_X12_unit) (pc := 53) (tgt := 63) dX12_unit_53 (by decide) (by omega) (by omega) (fun h53 => ?_) (fun h53 => ?_)
      · refine ev_aload_n (X := M_X12_unit) (pc := 63) dX12_unit_63 rfl ?_
        refine ev_virtZ (X := M_X12_unit) (Y := M_X12_unit) (pc := 64) (ci := 12) dX12_unit_64 mk_X12_unit rfl kw_1126 kw_1128 kp_12 (lO_156 hL) (ihS k' hk W2 (h.mP m2) (by rw [a2]; omega) f2 (by rw [o2, ho]; omega)) rfl (by omega) rfl (Nat.le_of_ble_eq_true rfl) (Nat.zero_add _) (Nat.zero_add _) (fun x W3 hW3 => ?_)
        rw [a2] at hW3
        first
          | exact ev_weak (tailP (by omega) k' hk W2 x W3 m2 o2 hW3) ⟨rfl, rfl, trivial⟩
          | exact ev_weak (tailB (by omega) k' hk W2 x W3 m2 o2 hW3) ⟨rfl, rfl, trivial⟩
      · refine ev_aload_n (X := M_X12_unit) (pc := 56) dX12_unit_56 rfl ?_
        refine ev_virtZ (X := M_X12_unit) (Y := M_X12_either) (pc := 57) (ci := 12) dX12_unit_57 mk_X12_either rfl kw_1106 kw_1108 kp_7 (lO_156 hL) (ihL k' hk W2 (h.mP m2) (by rw [a2]; omega) f2 (by rw [o2, ho]; omega)) rfl (by omega) rfl (Nat.le_of_ble_eq_true rfl) (Nat.zero_add _) (Nat.zero_add _) (fun x W3 hW3 => ?_)
        refine ev_goto (X := M_X12_unit) (pc := 60) (tgt := 67) dX12_unit_60 (by decide) ?_
        rw [a2] at hW3
        first
          | exact ev_weak (tailP (by omega) k' hk W2 x W3 m2 o2 hW3) ⟨rfl, rfl, trivial⟩
          | exact ev_weak (tailB (by omega) k' hk W2 x W3 m2 o2 hW3) ⟨rfl, rfl, trivial⟩
    · refine ev_aload_n (X := M_X12_unit) (pc := 25) dX12_unit_25 rfl ?_
      refine ev_virtR (X := M_X12_unit) (Y := M_X12_wrong) (pc := 26) (ci := 12) dX12_unit_26 mk_X12_wrong rfl kw_1134 kw_1136 kp_14 (lO_156 hL) (m_wrong hL (by omega)) rfl (by omega) rfl (Nat.le_of_ble_eq_true rfl) (Nat.zero_add _) (Nat.zero_add _) ?_
      refine ev_iret (X := M_X12_unit) (pc := 29) dX12_unit_29 rfl ?_
      have hk0 : k = 0 := by omega
      rw [if_neg (by omega), if_neg (by omega), if_neg (by omega), if_neg (by omega)] at hpr
      rw [hpr]
      exact ⟨rfl, 0, rfl, PM_wrong mP.rf hq hn5.2 ha⟩
  · refine ev_iload_n (X := M_X12_unit) (pc := 11) dX12_unit_11 rfl ?_
    refine ev_bipush (X := M_X12_unit) (pc := 12) dX12_unit_12 (by decide) ?_
    refine ev_icmp_ne (X := M_X12_unit) (pc := 14) (tgt := 118) dX12_unit_14 (by decide) (by omega) (by omega) (fun h14 => ?_) (fun h14 => ?_)
    · refine ev_aload_n (X := M_X12_unit) (pc := 118) dX12_unit_118 rfl ?_
      refine ev_iload_n (X := M_X12_unit) (pc := 119) dX12_unit_119 rfl ?_
      refine ev_virtR (X := M_X12_unit) (Y := M_X12_nameOf) (pc := 120) (ci := 12) dX12_unit_120 mk_X12_nameOf rfl kw_1142 kw_1144 kp_16 (lO_156 hL) (m_nameOf hL hu hu2 (by omega)) rfl (by omega) rfl (Nat.le_of_ble_eq_true rfl) (Nat.zero_add _) (Nat.zero_add _) ?_
      refine ev_istore_nL (X := M_X12_unit) (pc := 123) (ls' := [_, _, _, _, _]) dX12_unit_123 (by decide) rfl ?_
      refine ev_iload_n (X := M_X12_unit) (pc := 124) dX12_unit_124 rfl ?_
      refine ev_if_lt (X := M_X12_unit) (pc := 125) (tgt := 145) dX12_unit_125 (by decide) (by omega) (fun h125 => ?_) (fun h125 => ?_)
      · rw [if_neg (show ¬ 0 ≤ nmI u s by omega), if_neg (show ¬ (s = 33 ∧ 0 < k) by omega), if_neg (show ¬ (s = 40 ∧ 0 < k) by omega)] at hpr
        refine ev_iconst (X := M_X12_unit) (pc := 145) dX12_unit_145 ?_
        refine ev_istore_nL (X := M_X12_unit) (pc := 146) (ls' := [_, _, _, _, _]) dX12_unit_146 (by decide) rfl ?_
        refine ev_iconst (X := M_X12_unit) (pc := 147) dX12_unit_147 ?_
        refine ev_istoreL (X := M_X12_unit) (pc := 148) (ls' := [_, _, _, _, _]) dX12_unit_148 (by decide) rfl ?_
        generalize hR : dg f n 4 0 (V 156 5) = R at *
        refine ev_weak (ev_while (σ := Int × Int × Int × Mm) (fun z => 0 ≤ z.1 ∧ z.1 ≤ 4 ∧ V 156 5 ≤ z.2.2.1 ∧ z.2.2.1 ≤ n ∧ (0 ≤ z.2.1 ∧ z.2.1 < 10 ^ z.1.toNat) ∧ dg f n (4 - z.1).toNat z.2.1 z.2.2.1 = R ∧ z.2.2.2 = wr V 156 5 z.2.2.1 ∧ (z.1 = 0 → z.2.2.1 = V 156 5) ∧ (0 < z.1 → 48 ≤ s ∧ s ≤ 57)) (fun z => (4 - z.1).toNat) (fun z => [vR 156, vI s, vU, vI z.2.1, vI z.1]) (fun _ => K) (fun z => z.2.2.2) ?_ (0, 0, V 156 5, V) ⟨Int.le_refl 0, by show (0 : Int) ≤ 4; decide, Int.le_refl _, hq.2, by show (0 : Int) ≤ 0 ∧ (0 : Int) < 10 ^ (0 : Nat); decide, hR, ?_, fun _ => rfl, fun z => absurd z (by show ¬ (0 : Int) < 0; decide)⟩) ⟨rfl, rfl, rfl, rfl, trivial⟩
        rotate_left
        · show V = wr V 156 5 (V 156 5)
          funext a i
          by_cases z : a = 156 ∧ i = 5
          · rw [z.1, z.2, wr_self]
          · rw [wr_ne z]
        rintro ⟨i, v, q, W⟩ ⟨hi0, hi4, hq0, hqn, hv, hdg, hW, hi1, hi2⟩ ih
        dsimp only at hi0 hi4 hq0 hqn hv hdg hW hi1 hi2 ih ⊢
        have hvr : 0 ≤ v ∧ v < 10000 := by
          have : i.toNat ≤ 4 := by omega
          have h10 : (10 : Int) ^ i.toNat ≤ 10 ^ 4 := by
            rcases (show i.toNat = 0 ∨ i.toNat = 1 ∨ i.toNat = 2 ∨ i.toNat = 3 ∨ i.toNat = 4 by omega) with z | z | z | z | z <;> rw [z] <;> decide
          have e4 : (10 : Int) ^ 4 = 10000 := by decide
          omega
        have mW : mP V W := by rw [hW]; exact mP.rf.w (by omega) _
        have hWq : W 156 5 = q := by rw [hW, wr_self]
        have hW7 : W 156 7 = -1 := by rw [hW, wr_ne (by omega), ha]
        have hhW : hr f n W = sgn f n q := by unfold hr; rw [if_pos (by omega), hWq]
        have hsq := h.sg (q := q) (by omega)
        have hhere := m_here (γ := γ) (h.mP mW) (by rw [hWq]; omega) (by omega)
        rw [hhW] at hhere
        have fin : (4 ≤ i ∨ ¬ (48 ≤ sgn f n q ∧ sgn f n q ≤ 57)) → R = (v, q) := fun z => by
          rw [← hdg]
          by_cases y : 4 ≤ i
          · rw [show (4 - i).toNat = 0 by omega]; rfl
          · exact dg_e (z.resolve_left y)
        refine ev_iload (X := M_X12_unit) (pc := 150) dX12_unit_150 rfl ?_
        refine ev_iconst (X := M_X12_unit) (pc := 152) dX12_unit_152 ?_
        refine ev_icmp_ge (X := M_X12_unit) (pc := 153) (tgt := 202) dX12_unit_153 (by decide) (by omega) (by omega) (fun h153 => ?_) (fun h153 => ?_)
        · have hf := fin (Or.inl (by omega))
          have hnd : i = 0 → ¬ (48 ≤ sgn f n q ∧ sgn f n q ≤ 57) := fun z => by omega
          refine ev_iload (X := M_X12_unit) (pc := 202) dX12_unit_202 rfl ?_
          refine ev_if_ne (X := M_X12_unit) (pc := 204) (tgt := 214) dX12_unit_204 (by decide) (by omega) (fun h204 => ?_) (fun h204 => ?_)
          · refine ev_iload_n (X := M_X12_unit) (pc := 214) dX12_unit_214 rfl ?_
            refine ev_iret (X := M_X12_unit) (pc := 215) dX12_unit_215 rfl ?_
            first
              | (refine ⟨rfl, v, rfl, ?_⟩
                 have hs57 := hi2 (by omega)
                 rw [if_pos hs57, hf] at hpr
                 rw [hpr]
                 refine ⟨mW, by omega, by rw [hWq]; omega, hW7, hWq, by rw [hW, wr_ne (by omega)], ?_⟩
                 have e := Good.one (nm := nm) (x := v) (by omega)
                 unfold itV at e
                 rw [if_pos (by omega)] at e
                 exact e)
              | (refine ⟨rfl, 0, rfl, ?_⟩
                 rw [hpr]
                 have e := PM_wrong (nm := nm) (n := n) mW (by rw [hWq]; omega) (by omega) hW7
                 rw [hWq] at e ⊢
                 exact e)
          · have hq5 := hi1 (by omega)
            have hnd := hnd (by omega)
            subst hq5
            rw [hs] at hnd
            rw [if_neg hnd] at hpr
            refine ev_aload_n (X := M_X12_unit) (pc := 207) dX12_unit_207 rfl ?_
            refine ev_virtR (X := M_X12_unit) (Y := M_X12_wrong) (pc := 208) (ci := 12) dX12_unit_208 mk_X12_wrong rfl kw_1134 kw_1136 kp_14 (lO_156 hL) (m_wrong hL (by omega)) rfl (by omega) rfl (Nat.le_of_ble_eq_true rfl) (Nat.zero_add _) (Nat.zero_add _) ?_
            refine ev_goto (X := M_X12_unit) (pc := 211) (tgt := 215) dX12_unit_211 (by decide) ?_
            refine ev_iret (X := M_X12_unit) (pc := 215) dX12_unit_215 rfl ?_
            first
              | (refine ⟨rfl, v, rfl, ?_⟩
                 have hs57 := hi2 (by omega)
                 rw [if_pos hs57, hf] at hpr
                 rw [hpr]
                 refine ⟨mW, by omega, by rw [hWq]; omega, hW7, hWq, by rw [hW, wr_ne (by omega)], ?_⟩
                 have e := Good.one (nm := nm) (x := v) (by omega)
                 unfold itV at e
                 rw [if_pos (by omega)] at e
                 exact e)
              | (refine ⟨rfl, 0, rfl, ?_⟩
                 rw [hpr]
                 have e := PM_wrong (nm := nm) (n := n) mW (by rw [hWq]; omega) (by omega) hW7
                 rw [hWq] at e ⊢
                 exact e)
        · refine ev_aload_n (X := M_X12_unit) (pc := 156) dX12_unit_156 rfl ?_
          refine ev_virtR (X := M_X12_unit) (Y := M_X12_here) (pc := 157) (ci := 12) dX12_unit_157 mk_X12_here rfl kw_1130 kw_1132 kp_13 (lO_156 hL) (hhere) rfl (by omega) rfl (Nat.le_of_ble_eq_true rfl) (Nat.zero_add _) (Nat.zero_add _) ?_
          refine ev_i2l (X := M_X12_unit) (pc := 160) dX12_unit_160 (by omega) ?_
          refine ev_ldc2 (X := M_X12_unit) (pc := 161) (v := 48) dX12_unit_161 kw_1146 (by decide) ?_
          refine ev_ldc2 (X := M_X12_unit) (pc := 164) (v := 57) dX12_unit_164 kw_1147 (by decide) ?_
          refine ev_staticR (X := M_X12_unit) (Y := M_X12_in) (pc := 167) dX12_unit_167 mk_X12_in kw_1089 kw_1090 (m_in (by omega) (by decide) (by decide)) rfl (by omega) rfl (Nat.le_of_ble_eq_true rfl) (Nat.zero_add _) (Nat.zero_add _) ?_
          refine ev_if_eq (X := M_X12_unit) (pc := 170) (tgt := 202) dX12_unit_170 (by decide) (by split <;> decide) (fun h170 => ?_) (fun h170 => ?_)
          · have hnd0 : ¬ (48 ≤ sgn f n q ∧ sgn f n q ≤ 57) := fun z => by rw [if_pos z] at h170; exact absurd h170 (by decide)
            have hf := fin (Or.inr hnd0)
            have hnd : i = 0 → ¬ (48 ≤ sgn f n q ∧ sgn f n q ≤ 57) := fun _ => hnd0
            refine ev_iload (X := M_X12_unit) (pc := 202) dX12_unit_202 rfl ?_
            refine ev_if_ne (X := M_X12_unit) (pc := 204) (tgt := 214) dX12_unit_204 (by decide) (by omega) (fun h204 => ?_) (fun h204 => ?_)
            · refine ev_iload_n (X := M_X12_unit) (pc := 214) dX12_unit_214 rfl ?_
              refine ev_iret (X := M_X12_unit) (pc := 215) dX12_unit_215 rfl ?_
              first
                | (refine ⟨rfl, v, rfl, ?_⟩
                   have hs57 := hi2 (by omega)
                   rw [if_pos hs57, hf] at hpr
                   rw [hpr]
                   refine ⟨mW, by omega, by rw [hWq]; omega, hW7, hWq, by rw [hW, wr_ne (by omega)], ?_⟩
                   have e := Good.one (nm := nm) (x := v) (by omega)
                   unfold itV at e
                   rw [if_pos (by omega)] at e
                   exact e)
                | (refine ⟨rfl, 0, rfl, ?_⟩
                   rw [hpr]
                   have e := PM_wrong (nm := nm) (n := n) mW (by rw [hWq]; omega) (by omega) hW7
                   rw [hWq] at e ⊢
                   exact e)
            · have hq5 := hi1 (by omega)
              have hnd := hnd (by omega)
              subst hq5
              rw [hs] at hnd
              rw [if_neg hnd] at hpr
              refine ev_aload_n (X := M_X12_unit) (pc := 207) dX12_unit_207 rfl ?_
              refine ev_virtR (X := M_X12_unit) (Y := M_X12_wrong) (pc := 208) (ci := 12) dX12_unit_208 mk_X12_wrong rfl kw_1134 kw_1136 kp_14 (lO_156 hL) (m_wrong hL (by omega)) rfl (by omega) rfl (Nat.le_of_ble_eq_true rfl) (Nat.zero_add _) (Nat.zero_add _) ?_
              refine ev_goto (X := M_X12_unit) (pc := 211) (tgt := 215) dX12_unit_211 (by decide) ?_
              refine ev_iret (X := M_X12_unit) (pc := 215) dX12_unit_215 rfl ?_
              first
                | (refine ⟨rfl, v, rfl, ?_⟩
                   have hs57 := hi2 (by omega)
                   rw [if_pos hs57, hf] at hpr
                   rw [hpr]
                   refine ⟨mW, by omega, by rw [hWq]; omega, hW7, hWq, by rw [hW, wr_ne (by omega)], ?_⟩
                   have e := Good.one (nm := nm) (x := v) (by omega)
                   unfold itV at e
                   rw [if_pos (by omega)] at e
                   exact e)
                | (refine ⟨rfl, 0, rfl, ?_⟩
                   rw [hpr]
                   have e := PM_wrong (nm := nm) (n := n) mW (by rw [hWq]; omega) (by omega) hW7
                   rw [hWq] at e ⊢
                   exact e)
          · have hyd : 48 ≤ sgn f n q ∧ sgn f n q ≤ 57 := Decidable.byContradiction fun z => h170 (by rw [if_neg z])
            refine ev_bipush (X := M_X12_unit) (pc := 173) dX12_unit_173 (by decide) ?_
            refine ev_iload_n (X := M_X12_unit) (pc := 175) dX12_unit_175 rfl ?_
            refine ev_imul (X := M_X12_unit) (pc := 176) dX12_unit_176 ?_
            refine ev_aload_n (X := M_X12_unit) (pc := 177) dX12_unit_177 rfl ?_
            refine ev_virtR (X := M_X12_unit) (Y := M_X12_here) (pc := 178) (ci := 12) dX12_unit_178 mk_X12_here rfl kw_1130 kw_1132 kp_13 (lO_156 hL) (hhere) rfl (by omega) rfl (Nat.le_of_ble_eq_true rfl) (Nat.zero_add _) (Nat.zero_add _) ?_
            refine ev_iadd (X := M_X12_unit) (pc := 181) dX12_unit_181 ?_
            refine ev_bipush (X := M_X12_unit) (pc := 182) dX12_unit_182 (by decide) ?_
            refine ev_isub (X := M_X12_unit) (pc := 184) dX12_unit_184 ?_
            refine ev_istore_nL (X := M_X12_unit) (pc := 185) (ls' := [_, _, _, _, _]) dX12_unit_185 (by decide) rfl ?_
            refine ev_aload_n (X := M_X12_unit) (pc := 186) dX12_unit_186 rfl ?_
            refine ev_dup (X := M_X12_unit) (pc := 187) dX12_unit_187 (fun _ q => by cases q) ?_
            refine ev_getI (X := M_X12_unit) (pc := 188) (ki := 5) dX12_unit_188 fl_X12_94_12 (lO_156 hL) (by decide) rfl ?_
            refine ev_iconst (X := M_X12_unit) (pc := 191) dX12_unit_191 ?_
            refine ev_iadd (X := M_X12_unit) (pc := 192) dX12_unit_192 ?_
            refine ev_putI (X := M_X12_unit) (pc := 193) (ki := 5) dX12_unit_193 fl_X12_94_12 (by decide) (lO_156 hL) (fun _ h q => by cases h; cases q) (Or.inl rfl) rfl ?_
            refine ev_iincL (X := M_X12_unit) (pc := 196) (ls' := [_, _, _, _, _]) dX12_unit_196 rfl (by decide) rfl ?_
            refine ev_goto (X := M_X12_unit) (pc := 199) (tgt := 150) dX12_unit_199 (by decide) ?_
            have hstep : dg f n (4 - i).toNat v q = dg f n (4 - (i + 1)).toNat (v * 10 + sgn f n q - 48) (q + 1) := by
              rw [show (4 - i).toNat = (4 - (i + 1)).toNat + 1 by omega]
              exact dg_s hyd
            have hqlt := (sgn_in (f := f) (n := n) (q := q) (by omega)).1
            have hp10 : (10 : Int) ^ (i + 1).toNat = 10 * 10 ^ i.toNat := by
              rw [show (i + 1).toNat = i.toNat + 1 by omega, Int.pow_succ, Int.mul_comm]
            have hlt2 : v * 10 + sgn f n q - 48 < 10 * 10 ^ i.toNat := by
              have hv2 := hv.2
              generalize (10 : Int) ^ i.toNat = e at hv2 ⊢
              omega
            refine ev_weak (ih (i + 1, v * 10 + sgn f n q - 48, q + 1, wr W 156 5 (W 156 5 + 1)) ⟨by omega, by omega, by show V 156 5 ≤ q + 1; omega, by show q + 1 ≤ n; omega, by show 0 ≤ v * 10 + sgn f n q - 48 ∧ v * 10 + sgn f n q - 48 < 10 ^ (i + 1).toNat; rw [hp10]; exact ⟨by omega, hlt2⟩, by rw [← hstep]; exact hdg, ?_, fun z => by exfalso; change i + 1 = 0 at z; omega, fun _ => ?_⟩ (by show (4 - (i + 1)).toNat < (4 - i).toNat; omega)) ⟨rfl, rfl, by rw [Int.mul_comm v 10], rfl, trivial⟩
            · show wr W 156 5 (W 156 5 + 1) = wr V 156 5 (q + 1)
              rw [hWq, hW]
              funext a j
              by_cases z : a = 156 ∧ j = 5
              · rw [z.1, z.2, wr_self, wr_self]
              · rw [wr_ne z, wr_ne z, wr_ne z]
            · by_cases z : i = 0
              · have := hi1 z; rw [this, hs] at hyd; exact hyd
              · exact hi2 (by omega)
      · have hql := hlt (by omega)
        rw [if_neg (by omega), if_pos (by omega)] at hpr
        refine ev_aload_n (X := M_X12_unit) (pc := 128) dX12_unit_128 rfl ?_
        refine ev_dup (X := M_X12_unit) (pc := 129) dX12_unit_129 (fun _ q => by cases q) ?_
        refine ev_getI (X := M_X12_unit) (pc := 130) (ki := 5) dX12_unit_130 fl_X12_94_12 (lO_156 hL) (by decide) rfl ?_
        refine ev_iconst (X := M_X12_unit) (pc := 133) dX12_unit_133 ?_
        refine ev_iadd (X := M_X12_unit) (pc := 134) dX12_unit_134 ?_
        refine ev_putI (X := M_X12_unit) (pc := 135) (ki := 5) dX12_unit_135 fl_X12_94_12 (by decide) (lO_156 hL) (fun _ h q => by cases h; cases q) (Or.inl rfl) rfl ?_
        refine ev_aload_n (X := M_X12_unit) (pc := 138) dX12_unit_138 rfl ?_
        refine ev_getRe (X := M_X12_unit) (pc := 139) dX12_unit_139 fl_X12_19_12 (lO_156 hL) rfl (lR_156_10 hL) ?_
        refine ev_iload_n (X := M_X12_unit) (pc := 142) dX12_unit_142 rfl ?_
        refine ev_iaload (X := M_X12_unit) (pc := 143) dX12_unit_143 (lS_160 hL) (by omega) ?_
        refine ev_nrm ?_
        refine ev_iret (X := M_X12_unit) (pc := 144) dX12_unit_144 rfl ?_
        refine ⟨rfl, _, rfl, ?_⟩
        rw [hpr]
        refine ⟨mP.rf.w (by omega) _, sx_lt _, by rw [wr_self]; omega, by rw [wr_ne (by omega)]; exact ha, by rw [wr_self], by rw [wr_ne (by omega)], ?_⟩
        have e := Good.one (nm := nm) (x := -1 - nmI u s) (by omega)
        unfold itV at e
        rw [if_neg (by omega), show -1 - (-1 - nmI u s) = nmI u s by omega, hnms _ (by omega) (by omega)] at e
        rw [wr_off (by decide)]
        exact e
    · refine ev_aload_n (X := M_X12_unit) (pc := 17) dX12_unit_17 rfl ?_
      refine ev_getIe (X := M_X12_unit) (pc := 18) (ki := 8) dX12_unit_18 fl_X12_134_12 (lO_156 hL) (by decide) rfl (ho) ?_
      refine ev_iconst (X := M_X12_unit) (pc := 21) dX12_unit_21 ?_
      refine ev_icmp_ne (X := M_X12_unit) (pc := 22) (tgt := 30) dX12_unit_22 (by decide) (by omega) (by omega) (fun h22 => ?_) (fun h22 => ?_)
      · refine ev_aload_n (X := M_X12_unit) (pc := 30) dX12_unit_30 rfl ?_
        refine ev_dup (X := M_X12_unit) (pc := 31) dX12_unit_31 (fun _ q => by cases q) ?_
        refine ev_getI (X := M_X12_unit) (pc := 32) (ki := 8) dX12_unit_32 fl_X12_134_12 (lO_156 hL) (by decide) rfl ?_
        refine ev_iconst (X := M_X12_unit) (pc := 35) dX12_unit_35 ?_
        refine ev_iadd (X := M_X12_unit) (pc := 36) dX12_unit_36 ?_
        refine ev_putI (X := M_X12_unit) (pc := 37) (ki := 8) dX12_unit_37 fl_X12_134_12 (by decide) (lO_156 hL) (fun _ h q => by cases h; cases q) (Or.inl rfl) rfl ?_
        refine ev_aload_n (X := M_X12_unit) (pc := 40) dX12_unit_40 rfl ?_
        refine ev_dup (X := M_X12_unit) (pc := 41) dX12_unit_41 (fun _ q => by cases q) ?_
        refine ev_getI (X := M_X12_unit) (pc := 42) (ki := 5) dX12_unit_42 fl_X12_94_12 (lO_156 hL) (by decide) rfl ?_
        refine ev_iconst (X := M_X12_unit) (pc := 45) dX12_unit_45 ?_
        refine ev_iadd (X := M_X12_unit) (pc := 46) dX12_unit_46 ?_
        refine ev_putI (X := M_X12_unit) (pc := 47) (ki := 5) dX12_unit_47 fl_X12_94_12 (by decide) (lO_156 hL) (fun _ h q => by cases h; cases q) (Or.inl rfl) rfl ?_
        obtain ⟨k', hk⟩ : ∃ k', k = k' + 1 := ⟨k - 1, by omega⟩
        have hql := hlt (by omega)
        have hW2e : ∃ W2, W2 = wr (wr V 156 8 (V 156 8 + 1)) 156 5 (wr V 156 8 (V 156 8 + 1) 156 5 + 1) := ⟨_, rfl⟩
        obtain ⟨W2, hW2⟩ := hW2e
        rw [← hW2]
        have m2 : mP V W2 := by rw [hW2]; exact (mP.rf.w (by omega) _).w (by omega) _
        have a2 : W2 156 5 = V 156 5 + 1 := by rw [hW2, wr_self, wr_ne (by omega)]
        have f2 : W2 156 7 = -1 := by rw [hW2, wr_ne (by omega), wr_ne (by omega), ha]
        have o2 : W2 156 8 = V 156 8 + 1 := by rw [hW2, wr_ne (by omega), wr_self]
        clear hW2
        refine ev_iload_n (X := M_X12_unit) (pc := 50) dX12_unit_50 rfl ?_
        refine ev_bipush (X := M_X12_unit) (pc := 51) dX12_unit_51 (by decide) ?_
        refine ev_icmp_ne (X := M_X12_unit) (pc := 53) (tgt := 63) dX12_unit_53 (by decide) (by omega) (by omega) (fun h53 => ?_) (fun h53 => ?_)
        · refine ev_aload_n (X := M_X12_unit) (pc := 63) dX12_unit_63 rfl ?_
          refine ev_virtZ (X := M_X12_unit) (Y := M_X12_unit) (pc := 64) (ci := 12) dX12_unit_64 mk_X12_unit rfl kw_1126 kw_1128 kp_12 (lO_156 hL) (ihS k' hk W2 (h.mP m2) (by rw [a2]; omega) f2 (by rw [o2, ho]; omega)) rfl (by omega) rfl (Nat.le_of_ble_eq_true rfl) (Nat.zero_add _) (Nat.zero_add _) (fun x W3 hW3 => ?_)
          rw [a2] at hW3
          first
            | exact ev_weak (tailP (by omega) k' hk W2 x W3 m2 o2 hW3) ⟨rfl, rfl, trivial⟩
            | exact ev_weak (tailB (by omega) k' hk W2 x W3 m2 o2 hW3) ⟨rfl, rfl, trivial⟩
        · refine ev_aload_n (X := M_X12_unit) (pc := 56) dX12_unit_56 rfl ?_
          refine ev_virtZ (X := M_X12_unit) (Y := M_X12_either) (pc := 57) (ci := 12) dX12_unit_57 mk_X12_either rfl kw_1106 kw_1108 kp_7 (lO_156 hL) (ihL k' hk W2 (h.mP m2) (by rw [a2]; omega) f2 (by rw [o2, ho]; omega)) rfl (by omega) rfl (Nat.le_of_ble_eq_true rfl) (Nat.zero_add _) (Nat.zero_add _) (fun x W3 hW3 => ?_)
          refine ev_goto (X := M_X12_unit) (pc := 60) (tgt := 67) dX12_unit_60 (by decide) ?_
          rw [a2] at hW3
          first
            | exact ev_weak (tailP (by omega) k' hk W2 x W3 m2 o2 hW3) ⟨rfl, rfl, trivial⟩
            | exact ev_weak (tailB (by omega) k' hk W2 x W3 m2 o2 hW3) ⟨rfl, rfl, trivial⟩
      · refine ev_aload_n (X := M_X12_unit) (pc := 25) dX12_unit_25 rfl ?_
        refine ev_virtR (X := M_X12_unit) (Y := M_X12_wrong) (pc := 26) (ci := 12) dX12_unit_26 mk_X12_wrong rfl kw_1134 kw_1136 kp_14 (lO_156 hL) (m_wrong hL (by omega)) rfl (by omega) rfl (Nat.le_of_ble_eq_true rfl) (Nat.zero_add _) (Nat.zero_add _) ?_
        refine ev_iret (X := M_X12_unit) (pc := 29) dX12_unit_29 rfl ?_
        have hk0 : k = 0 := by omega
        rw [if_neg (by omega), if_neg (by omega), if_neg (by omega), if_neg (by omega)] at hpr
        rw [hpr]
        exact ⟨rfl, 0, rfl, PM_wrong mP.rf hq hn5.2 ha⟩
theorem m_levels {γ : Gh} {K : Sk} {f nm : Int → Int} {n u : Int} {k : Nat} (hs : MUn γ K f nm n u k) : MLv M_X12_either γ K f nm n u k 5 :=
  have l1 : MLv M_X12_product γ K f nm n u k 1 := fun V h hq ha ho => m_product hs h hq ha ho
  have l2 : MLv M_X12_sum γ K f nm n u k 2 := fun V h hq ha ho => m_sum l1 h hq ha ho
  have l3 : MLv M_X12_compared γ K f nm n u k 3 := fun V h hq ha ho => m_compared l2 h hq ha ho
  have l4 : MLv M_X12_both γ K f nm n u k 4 := fun V h hq ha ho => m_both l3 h hq ha ho
  fun V h hq ha ho => m_either l4 h hq ha ho
theorem m_units {γ : Gh} {K : Sk} {f nm : Int → Int} {n u : Int} : ∀ k, k ≤ 5 → MUn γ K f nm n u k
  | 0, hk => fun V h hq ha ho => m_unit hk (fun k' e => by omega) (fun k' e => by omega) h hq ha ho
  | k + 1, hk => fun V h hq ha ho => m_unit hk (fun k' e => by rw [show k' = k by omega]; exact m_units k (by omega)) (fun k' e => by rw [show k' = k by omega]; exact m_levels (m_units k (by omega))) h hq ha ho
