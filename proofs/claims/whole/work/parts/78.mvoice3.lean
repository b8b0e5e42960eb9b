def voK (p a : Int) : Int := if (0 ≤ p ∧ p < 6) ∧ 0 ≤ a ∧ a ≤ 3 then 0 else 1
def voF (a o n m x : Int) : Int := if a = 0 then metF o n x else if a = 1 then tuF o o n m x else if a = 2 then stF' o n m x else teF o o n m x
def voL (a o : Int) : List Int := if a = 0 then metL o else if a = 1 then tuL o o else if a = 2 then stL' o else teL o o
theorem voL_n (a o : Int) : (voL a o).length ≤ 24 := by
  have h1 := metL_n o
  have h2 := tuL_n o o
  have h3 := stL_n o
  have h4 := teL_n o o
  unfold voL
  repeat' split
  all_goals omega
/-- the trace of the reference behind a voice -/
def voW (V : Mm) (p a o : Int) : Mm := trW (wr (wr V 156 24 0) 156 25 p) (voL a o)
theorem m_voice {γ : Gh} {K : Sk} {V : Mm} (hL : Lay K) {D : Int → Int} (hD : V 157 = D) (hK : Kds D) {p a x : Int} (hp : R32 p) (ha : R32 a) : Call γ M_X12_voice 10 0 0 [vR 156, vI p, vI a, vI x] K V (Rt (some (vI (aR (voK p a) (voF a (D (3 + p)) p (D (9 + p)) x)))) K (if voK p a = 0 then voW V p a (D (3 + p)) else wr V 159 1 (V 159 1 + 1))) := by
  refine call_of (by decide +kernel) (by intro v hv; simp only [List.mem_cons, List.not_mem_nil, or_false] at hv; rcases hv with rfl | rfl | rfl | rfl <;> exact fun q => by cases q) (Nat.le_of_ble_eq_true rfl) ?_
  refine ev_lsE (ls' := [_, _, _, _, _]) rfl ?_
  refine ev_iload_n (X := M_X12_voice) (pc := 0) dX12_voice_0 rfl ?_
  refine ev_staticR (X := M_X12_voice) (Y := M_X12_isPair) (pc := 1) dX12_voice_1 mk_X12_isPair kw_1183 kw_1184 (m_isPair hp) rfl (by decide) rfl (Nat.le_of_ble_eq_true rfl) (Nat.zero_add _) (Nat.zero_add _) ?_
  refine ev_if_eq (X := M_X12_voice) (pc := 4) (tgt := 19) dX12_voice_4 (by decide) (by split <;> decide) (fun h4 => ?_) (fun h4 => ?_)
  · have hk : voK p a = 1 := by unfold voK; rw [if_neg (fun z => by rw [if_pos (by omega)] at h4; exact absurd h4 (by decide))]
    refine ev_aload_n (X := M_X12_voice) (pc := 19) dX12_voice_19 rfl ?_
    refine ev_iconst (X := M_X12_voice) (pc := 20) dX12_voice_20 ?_
    refine ev_virtR (X := M_X12_voice) (Y := M_X12_finds) (pc := 21) (ci := 12) dX12_voice_21 mk_X12_finds rfl kw_1092 kw_1094 kp_5 (lO_156 hL) (m_finds hL (by decide)) rfl (by decide) rfl (Nat.le_of_ble_eq_true rfl) (Nat.zero_add _) (Nat.zero_add _) ?_
    refine ev_iret (X := M_X12_voice) (pc := 24) dX12_voice_24 rfl ?_
    rw [hk]
    exact ⟨rfl, rfl, rfl⟩
  · have hs3 : 0 ≤ p ∧ p ≤ 5 := Decidable.byContradiction fun z => h4 (by rw [if_neg z])
    refine ev_iload_n (X := M_X12_voice) (pc := 7) dX12_voice_7 rfl ?_
    refine ev_i2l (X := M_X12_voice) (pc := 8) dX12_voice_8 (by omega) ?_
    refine ev_lconst (X := M_X12_voice) (pc := 9) (v := 0) dX12_voice_9 (by decide) ?_
    refine ev_ldc2 (X := M_X12_voice) (pc := 10) (v := 3) dX12_voice_10 kw_1367 (by decide) ?_
    refine ev_staticR (X := M_X12_voice) (Y := M_X12_in) (pc := 13) dX12_voice_13 mk_X12_in kw_1089 kw_1090 (m_in (by omega) (by decide) (by decide)) rfl (by decide) rfl (Nat.le_of_ble_eq_true rfl) (Nat.zero_add _) (Nat.zero_add _) ?_
    refine ev_if_ne (X := M_X12_voice) (pc := 16) (tgt := 25) dX12_voice_16 (by decide) (by split <;> decide) (fun h16 => ?_) (fun h16 => ?_)
    · have ha3 : 0 ≤ a ∧ a ≤ 3 := Decidable.byContradiction fun z => h16 (by rw [if_neg z])
      have hk : voK p a = 0 := by unfold voK; rw [if_pos (by omega)]
      refine ev_aload_n (X := M_X12_voice) (pc := 25) dX12_voice_25 rfl ?_
      refine ev_iconst (X := M_X12_voice) (pc := 26) dX12_voice_26 ?_
      refine ev_putI (X := M_X12_voice) (pc := 27) (ki := 24) dX12_voice_27 fl_X12_274_12 (by decide) (lO_156 hL) (fun _ h q => by cases h; cases q) (Or.inl rfl) rfl ?_
      refine ev_aload_n (X := M_X12_voice) (pc := 30) dX12_voice_30 rfl ?_
      refine ev_iload_n (X := M_X12_voice) (pc := 31) dX12_voice_31 rfl ?_
      refine ev_putI (X := M_X12_voice) (pc := 32) (ki := 25) dX12_voice_32 fl_X12_277_12 (by decide) (lO_156 hL) (fun _ h q => by cases h; cases q) (Or.inl rfl) rfl ?_
      have hp6 : 0 ≤ p ∧ p < 6 := by omega
      have ho := (hK.1 p hp6.1 hp6.2).1
      generalize hW0 : wr (wr V 156 24 0) 156 25 p = W0
      have h0 : PV' K W0 D p 24 := by
        refine ⟨hL, by rw [← hW0, wr_off (by decide), wr_off (by decide)]; exact hD, by rw [← hW0, wr_self], hp6, ?_, ?_⟩
        · rw [← hW0, wr_ne (by decide), wr_self]; decide
        · rw [← hW0, wr_ne (by decide), wr_self]; decide
      obtain ⟨d1, hd1, hm1⟩ := m_metA (γ := γ) (K := K) (D := D) (n := p) ho
      obtain ⟨d2, hd2, hm2⟩ := m_turnsA (γ := γ) (K := K) (D := D) (n := p) ho ho
      obtain ⟨d3, hd3, hm3⟩ := m_stayA (γ := γ) (K := K) (D := D) (n := p) ho
      obtain ⟨d4, hd4, hm4⟩ := m_tellsA (γ := γ) (K := K) (D := D) (n := p) ho ho
      rw [hk]
      have hvw : voW V p a (D (3 + p)) = trW W0 (voL a (D (3 + p))) := by unfold voW; rw [hW0]
      refine ev_aload_n (X := M_X12_voice) (pc := 35) dX12_voice_35 rfl ?_
      refine ev_virtR (X := M_X12_voice) (Y := M_X12_own) (pc := 36) (ci := 12) dX12_voice_36 mk_X12_own rfl kw_1368 kw_1370 kp_37 (lO_156 hL) (m_own h0) rfl (by decide) rfl (Nat.le_of_ble_eq_true rfl) (Nat.zero_add _) (Nat.zero_add _) ?_
      refine ev_istoreL (X := M_X12_voice) (pc := 39) (ls' := [_, _, _, _, _]) dX12_voice_39 (by decide) rfl ?_
      refine ev_iload_n (X := M_X12_voice) (pc := 41) dX12_voice_41 rfl ?_
      refine ev_if_ne (X := M_X12_voice) (pc := 42) (tgt := 55) dX12_voice_42 (by decide) (by omega) (fun h42 => ?_) (fun h42 => ?_)
      · refine ev_iload_n (X := M_X12_voice) (pc := 55) dX12_voice_55 rfl ?_
        refine ev_iconst (X := M_X12_voice) (pc := 56) dX12_voice_56 ?_
        refine ev_icmp_ne (X := M_X12_voice) (pc := 57) (tgt := 70) dX12_voice_57 (by decide) (by omega) (by omega) (fun h57 => ?_) (fun h57 => ?_)
        · refine ev_iload_n (X := M_X12_voice) (pc := 70) dX12_voice_70 rfl ?_
          refine ev_iconst (X := M_X12_voice) (pc := 71) dX12_voice_71 ?_
          refine ev_icmp_ne (X := M_X12_voice) (pc := 72) (tgt := 85) dX12_voice_72 (by decide) (by omega) (by omega) (fun h72 => ?_) (fun h72 => ?_)
          · refine ev_aload_n (X := M_X12_voice) (pc := 85) dX12_voice_85 rfl ?_
            refine ev_iload (X := M_X12_voice) (pc := 86) dX12_voice_86 rfl ?_
            refine ev_iload_n (X := M_X12_voice) (pc := 88) dX12_voice_88 rfl ?_
            refine ev_virtR (X := M_X12_voice) (Y := M_X12_tells) (pc := 89) (ci := 12) dX12_voice_89 mk_X12_tells rfl kw_1388 kw_1390 kp_42 (lO_156 hL) (hm4 _ x h0) rfl (by omega) rfl (Nat.le_of_ble_eq_true rfl) (Nat.zero_add _) (Nat.zero_add _) ?_
            refine ev_iret (X := M_X12_voice) (pc := 92) dX12_voice_92 rfl ?_
            rw [if_pos rfl, hvw]
            have ha4 : a = 0 ∨ a = 1 ∨ a = 2 ∨ a = 3 := by omega
            first
              | (have hz : a = 0 := by omega
                 subst hz
                 exact ⟨rfl, rfl, rfl⟩)
              | (have hz : a = 1 := by omega
                 subst hz
                 exact ⟨rfl, rfl, rfl⟩)
              | (have hz : a = 2 := by omega
                 subst hz
                 exact ⟨rfl, rfl, rfl⟩)
              | (have hz : a = 3 := by omega
                 subst hz
                 exact ⟨rfl, rfl, rfl⟩)
          · refine ev_aload_n (X := M_X12_voice) (pc := 75) dX12_voice_75 rfl ?_
            refine ev_iload (X := M_X12_voice) (pc := 76) dX12_voice_76 rfl ?_
            refine ev_iload_n (X := M_X12_voice) (pc := 78) dX12_voice_78 rfl ?_
            refine ev_virtR (X := M_X12_voice) (Y := M_X12_stay) (pc := 79) (ci := 12) dX12_voice_79 mk_X12_stay rfl kw_1384 kw_1386 kp_41 (lO_156 hL) (hm3 _ x (h0.le (by decide))) rfl (by omega) rfl (Nat.le_of_ble_eq_true rfl) (Nat.zero_add _) (Nat.zero_add _) ?_
            refine ev_goto (X := M_X12_voice) (pc := 82) (tgt := 92) dX12_voice_82 (by decide) ?_
            refine ev_iret (X := M_X12_voice) (pc := 92) dX12_voice_92 rfl ?_
            rw [if_pos rfl, hvw]
            have ha4 : a = 0 ∨ a = 1 ∨ a = 2 ∨ a = 3 := by omega
            first
              | (have hz : a = 0 := by omega
                 subst hz
                 exact ⟨rfl, rfl, rfl⟩)
              | (have hz : a = 1 := by omega
                 subst hz
                 exact ⟨rfl, rfl, rfl⟩)
              | (have hz : a = 2 := by omega
                 subst hz
                 exact ⟨rfl, rfl, rfl⟩)
              | (have hz : a = 3 := by omega
                 subst hz
                 exact ⟨rfl, rfl, rfl⟩)
        · refine ev_aload_n (X := M_X12_voice) (pc := 60) dX12_voice_60 rfl ?_
          refine ev_iload (X := M_X12_voice) (pc := 61) dX12_voice_61 rfl ?_
          refine ev_iload_n (X := M_X12_voice) (pc := 63) dX12_voice_63 rfl ?_
          refine ev_virtR (X := M_X12_voice) (Y := M_X12_turns) (pc := 64) (ci := 12) dX12_voice_64 mk_X12_turns rfl kw_1380 kw_1382 kp_40 (lO_156 hL) (hm2 _ x (h0.le (by decide))) rfl (by omega) rfl (Nat.le_of_ble_eq_true rfl) (Nat.zero_add _) (Nat.zero_add _) ?_
          refine ev_goto (X := M_X12_voice) (pc := 67) (tgt := 92) dX12_voice_67 (by decide) ?_
          refine ev_iret (X := M_X12_voice) (pc := 92) dX12_voice_92 rfl ?_
          rw [if_pos rfl, hvw]
          have ha4 : a = 0 ∨ a = 1 ∨ a = 2 ∨ a = 3 := by omega
          first
            | (have hz : a = 0 := by omega
               subst hz
               exact ⟨rfl, rfl, rfl⟩)
            | (have hz : a = 1 := by omega
               subst hz
               exact ⟨rfl, rfl, rfl⟩)
            | (have hz : a = 2 := by omega
               subst hz
               exact ⟨rfl, rfl, rfl⟩)
            | (have hz : a = 3 := by omega
               subst hz
               exact ⟨rfl, rfl, rfl⟩)
      · refine ev_aload_n (X := M_X12_voice) (pc := 45) dX12_voice_45 rfl ?_
        refine ev_iload (X := M_X12_voice) (pc := 46) dX12_voice_46 rfl ?_
        refine ev_iload_n (X := M_X12_voice) (pc := 48) dX12_voice_48 rfl ?_
        refine ev_virtR (X := M_X12_voice) (Y := M_X12_met) (pc := 49) (ci := 12) dX12_voice_49 mk_X12_met rfl kw_1372 kw_1374 kp_38 (lO_156 hL) (hm1 _ x (h0.le (by decide))) rfl (by omega) rfl (Nat.le_of_ble_eq_true rfl) (Nat.zero_add _) (Nat.zero_add _) ?_
        refine ev_goto (X := M_X12_voice) (pc := 52) (tgt := 92) dX12_voice_52 (by decide) ?_
        refine ev_iret (X := M_X12_voice) (pc := 92) dX12_voice_92 rfl ?_
        rw [if_pos rfl, hvw]
        have ha4 : a = 0 ∨ a = 1 ∨ a = 2 ∨ a = 3 := by omega
        first
          | (have hz : a = 0 := by omega
             subst hz
             exact ⟨rfl, rfl, rfl⟩)
          | (have hz : a = 1 := by omega
             subst hz
             exact ⟨rfl, rfl, rfl⟩)
          | (have hz : a = 2 := by omega
             subst hz
             exact ⟨rfl, rfl, rfl⟩)
          | (have hz : a = 3 := by omega
             subst hz
             exact ⟨rfl, rfl, rfl⟩)
    · have hk : voK p a = 1 := by unfold voK; rw [if_neg (fun z => by rw [if_pos (by omega)] at h16; exact absurd h16 (by decide))]
      refine ev_aload_n (X := M_X12_voice) (pc := 19) dX12_voice_19 rfl ?_
      refine ev_iconst (X := M_X12_voice) (pc := 20) dX12_voice_20 ?_
      refine ev_virtR (X := M_X12_voice) (Y := M_X12_finds) (pc := 21) (ci := 12) dX12_voice_21 mk_X12_finds rfl kw_1092 kw_1094 kp_5 (lO_156 hL) (m_finds hL (by decide)) rfl (by decide) rfl (Nat.le_of_ble_eq_true rfl) (Nat.zero_add _) (Nat.zero_add _) ?_
      refine ev_iret (X := M_X12_voice) (pc := 24) dX12_voice_24 rfl ?_
      rw [hk]
      exact ⟨rfl, rfl, rfl⟩
