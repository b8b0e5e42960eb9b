def mvK (A B : Int → Int) (s i o j n : Int) : Int := if (0 ≤ s ∧ s < 4) ∧ 0 ≤ o ∧ o < 4 then (if A s = 0 ∨ A o = 0 then 2 else if A s ≠ A o then 5 else if (0 ≤ n ∧ 0 ≤ i ∧ 0 ≤ j) ∧ n ≤ B s - i ∧ n ≤ B o - j then 0 else 1) else 1
theorem m_move {γ : Gh} {K : Sk} {V : Mm} (hL : Lay K) {s i o j n : Int} (hs : R32 s) (hi : R32 i) (ho : R32 o) (hj : R32 j) (hn : R32 n) (hb : ∀ s, 0 ≤ s → s < 4 → (0 ≤ V 174 s ∧ V 174 s ≤ 32) ∧ (0 ≤ V 175 s ∧ V 175 s ≤ 40)) : Call γ M_X12_move 2 0 0 [vR 156, vI s, vI i, vI o, vI j, vI n] K V (Qx (some (vI (aR (mvK (V 174) (V 175) s i o j n) n))) K (SHW V (mvK (V 174) (V 175) s i o j n) (V 174) (V 175) (cpy (V 176) (V 176) (40 * s + i) (40 * o + j) n))) := by
  refine call_of (by decide +kernel) (by intro v hv; simp only [List.mem_cons, List.not_mem_nil, or_false] at hv; rcases hv with rfl | rfl | rfl | rfl | rfl | rfl <;> exact fun q => by cases q) (Nat.le_of_ble_eq_true rfl) ?_
  refine ev_lsE (ls' := [_, _, _, _, _, _, _]) rfl ?_
  refine ev_iload_n (X := M_X12_move) (pc := 0) dX12_move_0 rfl ?_
  refine ev_staticR (X := M_X12_move) (Y := M_X12_isSheet) (pc := 1) dX12_move_1 mk_X12_isSheet kw_1400 kw_1401 (m_isSheet hs) rfl (by decide) rfl (Nat.le_of_ble_eq_true rfl) (Nat.zero_add _) (Nat.zero_add _) ?_
  refine ev_if_eq (X := M_X12_move) (pc := 4) (tgt := 14) dX12_move_4 (by decide) (by split <;> decide) (fun h4 => ?_) (fun h4 => ?_)
  · have hk : mvK (V 174) (V 175) s i o j n = 1 := by unfold mvK; rw [if_neg (fun z => by rw [if_pos (by omega)] at h4; exact absurd h4 (by decide))]
    refine ev_aload_n (X := M_X12_move) (pc := 14) dX12_move_14 rfl ?_
    refine ev_iconst (X := M_X12_move) (pc := 15) dX12_move_15 ?_
    refine ev_virtR (X := M_X12_move) (Y := M_X12_finds) (pc := 16) (ci := 12) dX12_move_16 mk_X12_finds rfl kw_1092 kw_1094 kp_5 (lO_156 hL) (m_finds hL (by decide)) rfl (by decide) rfl (Nat.le_of_ble_eq_true rfl) (Nat.zero_add _) (Nat.zero_add _) ?_
    refine ev_iret (X := M_X12_move) (pc := 19) dX12_move_19 rfl ?_
    rw [hk]
    exact ⟨rfl, rfl, SHW_e (by decide)⟩
  · have hs4 : 0 ≤ s ∧ s ≤ 3 := Decidable.byContradiction fun z => h4 (by rw [if_neg z])
    obtain ⟨b1, b2⟩ := hb s hs4.1 (by omega)
    refine ev_iload_n (X := M_X12_move) (pc := 7) dX12_move_7 rfl ?_
    refine ev_staticR (X := M_X12_move) (Y := M_X12_isSheet) (pc := 8) dX12_move_8 mk_X12_isSheet kw_1400 kw_1401 (m_isSheet ho) rfl (by decide) rfl (Nat.le_of_ble_eq_true rfl) (Nat.zero_add _) (Nat.zero_add _) ?_
    refine ev_if_ne (X := M_X12_move) (pc := 11) (tgt := 20) dX12_move_11 (by decide) (by split <;> decide) (fun h11 => ?_) (fun h11 => ?_)
    · have ho4 : 0 ≤ o ∧ o ≤ 3 := Decidable.byContradiction fun z => h11 (by rw [if_neg z])
      obtain ⟨c1, c2⟩ := hb o ho4.1 (by omega)
      have hk0 : mvK (V 174) (V 175) s i o j n = if V 174 s = 0 ∨ V 174 o = 0 then 2 else if V 174 s ≠ V 174 o then 5 else if (0 ≤ n ∧ 0 ≤ i ∧ 0 ≤ j) ∧ n ≤ V 175 s - i ∧ n ≤ V 175 o - j then 0 else 1 := by unfold mvK; rw [if_pos (by omega)]
      refine ev_aload_n (X := M_X12_move) (pc := 20) dX12_move_20 rfl ?_
      refine ev_getRe (X := M_X12_move) (pc := 21) dX12_move_21 fl_X12_63_12 (lO_156 hL) rfl (lR_156_26 hL) ?_
      refine ev_iload_n (X := M_X12_move) (pc := 24) dX12_move_24 rfl ?_
      refine ev_iaload (X := M_X12_move) (pc := 25) dX12_move_25 (lS_174 hL) (by omega) ?_
      refine ev_if_eq (X := M_X12_move) (pc := 26) (tgt := 38) dX12_move_26 (by decide) (by omega) (fun h26 => ?_) (fun h26 => ?_)
      · have hk : mvK (V 174) (V 175) s i o j n = 2 := by rw [hk0, if_pos (Or.inl h26)]
        refine ev_aload_n (X := M_X12_move) (pc := 38) dX12_move_38 rfl ?_
        refine ev_iconst (X := M_X12_move) (pc := 39) dX12_move_39 ?_
        refine ev_virtR (X := M_X12_move) (Y := M_X12_finds) (pc := 40) (ci := 12) dX12_move_40 mk_X12_finds rfl kw_1092 kw_1094 kp_5 (lO_156 hL) (m_finds hL (by decide)) rfl (by decide) rfl (Nat.le_of_ble_eq_true rfl) (Nat.zero_add _) (Nat.zero_add _) ?_
        refine ev_iret (X := M_X12_move) (pc := 43) dX12_move_43 rfl ?_
        rw [hk]
        exact ⟨rfl, rfl, SHW_e (by decide)⟩
      · refine ev_aload_n (X := M_X12_move) (pc := 29) dX12_move_29 rfl ?_
        refine ev_getRe (X := M_X12_move) (pc := 30) dX12_move_30 fl_X12_63_12 (lO_156 hL) rfl (lR_156_26 hL) ?_
        refine ev_iload_n (X := M_X12_move) (pc := 33) dX12_move_33 rfl ?_
        refine ev_iaload (X := M_X12_move) (pc := 34) dX12_move_34 (lS_174 hL) (by omega) ?_
        refine ev_if_ne (X := M_X12_move) (pc := 35) (tgt := 44) dX12_move_35 (by decide) (by omega) (fun h35 => ?_) (fun h35 => ?_)
        · rw [if_neg (fun z => by rcases z with z | z; exact h26 z; exact h35 z)] at hk0
          refine ev_aload_n (X := M_X12_move) (pc := 44) dX12_move_44 rfl ?_
          refine ev_getRe (X := M_X12_move) (pc := 45) dX12_move_45 fl_X12_63_12 (lO_156 hL) rfl (lR_156_26 hL) ?_
          refine ev_iload_n (X := M_X12_move) (pc := 48) dX12_move_48 rfl ?_
          refine ev_iaload (X := M_X12_move) (pc := 49) dX12_move_49 (lS_174 hL) (by omega) ?_
          refine ev_aload_n (X := M_X12_move) (pc := 50) dX12_move_50 rfl ?_
          refine ev_getRe (X := M_X12_move) (pc := 51) dX12_move_51 fl_X12_63_12 (lO_156 hL) rfl (lR_156_26 hL) ?_
          refine ev_iload_n (X := M_X12_move) (pc := 54) dX12_move_54 rfl ?_
          refine ev_iaload (X := M_X12_move) (pc := 55) dX12_move_55 (lS_174 hL) (by omega) ?_
          refine ev_icmp_eq (X := M_X12_move) (pc := 56) (tgt := 65) dX12_move_56 (by decide) (by omega) (by omega) (fun h56 => ?_) (fun h56 => ?_)
          · rw [if_neg (fun z => z h56)] at hk0
            refine ev_iload (X := M_X12_move) (pc := 65) dX12_move_65 rfl ?_
            refine ev_if_lt (X := M_X12_move) (pc := 67) (tgt := 106) dX12_move_67 (by decide) (by omega) (fun h67 => ?_) (fun h67 => ?_)
            · refine ev_aload_n (X := M_X12_move) (pc := 106) dX12_move_106 rfl ?_
              refine ev_iconst (X := M_X12_move) (pc := 107) dX12_move_107 ?_
              refine ev_virtR (X := M_X12_move) (Y := M_X12_finds) (pc := 108) (ci := 12) dX12_move_108 mk_X12_finds rfl kw_1092 kw_1094 kp_5 (lO_156 hL) (m_finds hL (by decide)) rfl (by decide) rfl (Nat.le_of_ble_eq_true rfl) (Nat.zero_add _) (Nat.zero_add _) ?_
              refine ev_iret (X := M_X12_move) (pc := 111) dX12_move_111 rfl ?_
              have hk : mvK (V 174) (V 175) s i o j n = 1 := by rw [hk0, if_neg (fun z => by omega)]
              rw [hk]
              exact ⟨rfl, rfl, SHW_e (by decide)⟩
            · refine ev_iload_n (X := M_X12_move) (pc := 70) dX12_move_70 rfl ?_
              refine ev_if_lt (X := M_X12_move) (pc := 71) (tgt := 106) dX12_move_71 (by decide) (by omega) (fun h71 => ?_) (fun h71 => ?_)
              · refine ev_aload_n (X := M_X12_move) (pc := 106) dX12_move_106 rfl ?_
                refine ev_iconst (X := M_X12_move) (pc := 107) dX12_move_107 ?_
                refine ev_virtR (X := M_X12_move) (Y := M_X12_finds) (pc := 108) (ci := 12) dX12_move_108 mk_X12_finds rfl kw_1092 kw_1094 kp_5 (lO_156 hL) (m_finds hL (by decide)) rfl (by decide) rfl (Nat.le_of_ble_eq_true rfl) (Nat.zero_add _) (Nat.zero_add _) ?_
                refine ev_iret (X := M_X12_move) (pc := 111) dX12_move_111 rfl ?_
                have hk : mvK (V 174) (V 175) s i o j n = 1 := by rw [hk0, if_neg (fun z => by omega)]
                rw [hk]
                exact ⟨rfl, rfl, SHW_e (by decide)⟩
              · refine ev_iload (X := M_X12_move) (pc := 74) dX12_move_74 rfl ?_
                refine ev_if_lt (X := M_X12_move) (pc := 76) (tgt := 106) dX12_move_76 (by decide) (by omega) (fun h76 => ?_) (fun h76 => ?_)
                · refine ev_aload_n (X := M_X12_move) (pc := 106) dX12_move_106 rfl ?_
                  refine ev_iconst (X := M_X12_move) (pc := 107) dX12_move_107 ?_
                  refine ev_virtR (X := M_X12_move) (Y := M_X12_finds) (pc := 108) (ci := 12) dX12_move_108 mk_X12_finds rfl kw_1092 kw_1094 kp_5 (lO_156 hL) (m_finds hL (by decide)) rfl (by decide) rfl (Nat.le_of_ble_eq_true rfl) (Nat.zero_add _) (Nat.zero_add _) ?_
                  refine ev_iret (X := M_X12_move) (pc := 111) dX12_move_111 rfl ?_
                  have hk : mvK (V 174) (V 175) s i o j n = 1 := by rw [hk0, if_neg (fun z => by omega)]
                  rw [hk]
                  exact ⟨rfl, rfl, SHW_e (by decide)⟩
                · refine ev_iload (X := M_X12_move) (pc := 79) dX12_move_79 rfl ?_
                  refine ev_aload_n (X := M_X12_move) (pc := 81) dX12_move_81 rfl ?_
                  refine ev_getRe (X := M_X12_move) (pc := 82) dX12_move_82 fl_X12_66_12 (lO_156 hL) rfl (lR_156_27 hL) ?_
                  refine ev_iload_n (X := M_X12_move) (pc := 85) dX12_move_85 rfl ?_
                  refine ev_iaload (X := M_X12_move) (pc := 86) dX12_move_86 (lS_175 hL) (by omega) ?_
                  refine ev_iload_n (X := M_X12_move) (pc := 87) dX12_move_87 rfl ?_
                  refine ev_isub (X := M_X12_move) (pc := 88) dX12_move_88 ?_
                  refine ev_icmp_gt (X := M_X12_move) (pc := 89) (tgt := 106) dX12_move_89 (by decide) (by omega) (by omega) (fun h89 => ?_) (fun h89 => ?_)
                  · refine ev_aload_n (X := M_X12_move) (pc := 106) dX12_move_106 rfl ?_
                    refine ev_iconst (X := M_X12_move) (pc := 107) dX12_move_107 ?_
                    refine ev_virtR (X := M_X12_move) (Y := M_X12_finds) (pc := 108) (ci := 12) dX12_move_108 mk_X12_finds rfl kw_1092 kw_1094 kp_5 (lO_156 hL) (m_finds hL (by decide)) rfl (by decide) rfl (Nat.le_of_ble_eq_true rfl) (Nat.zero_add _) (Nat.zero_add _) ?_
                    refine ev_iret (X := M_X12_move) (pc := 111) dX12_move_111 rfl ?_
                    have hk : mvK (V 174) (V 175) s i o j n = 1 := by rw [hk0, if_neg (fun z => by omega)]
                    rw [hk]
                    exact ⟨rfl, rfl, SHW_e (by decide)⟩
                  · refine ev_iload (X := M_X12_move) (pc := 92) dX12_move_92 rfl ?_
                    refine ev_aload_n (X := M_X12_move) (pc := 94) dX12_move_94 rfl ?_
                    refine ev_getRe (X := M_X12_move) (pc := 95) dX12_move_95 fl_X12_66_12 (lO_156 hL) rfl (lR_156_27 hL) ?_
                    refine ev_iload_n (X := M_X12_move) (pc := 98) dX12_move_98 rfl ?_
                    refine ev_iaload (X := M_X12_move) (pc := 99) dX12_move_99 (lS_175 hL) (by omega) ?_
                    refine ev_iload (X := M_X12_move) (pc := 100) dX12_move_100 rfl ?_
                    refine ev_isub (X := M_X12_move) (pc := 102) dX12_move_102 ?_
                    refine ev_icmp_le (X := M_X12_move) (pc := 103) (tgt := 112) dX12_move_103 (by decide) (by omega) (by omega) (fun h103 => ?_) (fun h103 => ?_)
                    · refine ev_iconst (X := M_X12_move) (pc := 112) dX12_move_112 ?_
                      refine ev_istoreL (X := M_X12_move) (pc := 113) (ls' := [_, _, _, _, _, _, _]) dX12_move_113 (by decide) rfl ?_
                      have hk : mvK (V 174) (V 175) s i o j n = 0 := by rw [hk0, if_pos (by omega)]
                      rw [hk]
                      have hn4 : 0 ≤ n ∧ n ≤ 40 := by omega
                      have ph2 : ∀ W, (∀ q, 0 ≤ q → q < n → W 177 q = V 176 (40 * s + i + q)) → (∀ c, c ≠ 177 → W c = V c) → Ev γ M_X12_move 2 0 0 149 [vR 156, vI s, vI i, vI o, vI j, vI n, vU] [] K W (Qx (some (vI (aR 0 n))) K (SHW V 0 (V 174) (V 175) (cpy (V 176) (V 176) (40 * s + i) (40 * o + j) n))) := by
                        intro W w1 w2
                        refine ev_iconst (X := M_X12_move) (pc := 149) dX12_move_149 ?_
                        refine ev_istoreL (X := M_X12_move) (pc := 150) (ls' := [_, _, _, _, _, _, _]) dX12_move_150 (by decide) rfl ?_
                        refine ev_weak (ev_while (σ := Int × Mm) (fun z => 0 ≤ z.1 ∧ z.1 ≤ n ∧ z.2 = setr W 176 (cpy (V 176) (V 176) (40 * s + i) (40 * o + j) z.1)) (fun z => (n - z.1).toNat) (fun z => [vR 156, vI s, vI i, vI o, vI j, vI n, vI z.1]) (fun _ => K) (fun z => z.2) ?_ (0, W) ⟨Int.le_refl 0, hn4.1, ?_⟩) ⟨rfl, rfl, rfl, rfl, rfl, rfl, rfl, trivial⟩
                        rotate_left
                        · show W = setr W 176 (cpy (V 176) (V 176) (40 * s + i) (40 * o + j) 0)
                          have e : cpy (V 176) (V 176) (40 * s + i) (40 * o + j) 0 = W 176 := by
                            rw [w2 176 (by decide)]
                            funext q
                            unfold cpy
                            rw [if_neg (by omega)]
                          rw [e, setr_id]
                        rintro ⟨q, W2⟩ ⟨q0, q1, hW2⟩ ih
                        dsimp only at q0 q1 hW2 ih ⊢
                        have h177 : q < n → W2 177 q = V 176 (40 * s + i + q) := fun z => by rw [hW2, setr_ne (by decide)]; exact w1 q q0 z
                        refine ev_iload (X := M_X12_move) (pc := 152) dX12_move_152 rfl ?_
                        refine ev_iload (X := M_X12_move) (pc := 154) dX12_move_154 rfl ?_
                        refine ev_icmp_ge (X := M_X12_move) (pc := 156) (tgt := 187) dX12_move_156 (by decide) (by omega) (by omega) (fun h156 => ?_) (fun h156 => ?_)
                        · refine ev_iload (X := M_X12_move) (pc := 187) dX12_move_187 rfl ?_
                          refine ev_iret (X := M_X12_move) (pc := 189) dX12_move_189 rfl ?_
                          rw [show q = n by omega] at hW2
                          refine ⟨rfl, rfl, ?_, ?_, ?_, ?_, fun c a1 a2 a3 a4 a5 => ?_⟩
                          · rw [hW2, setr_ne (by decide), w2 159 (by decide)]; rfl
                          · rw [hW2, setr_ne (by decide), w2 174 (by decide)]; rfl
                          · rw [hW2, setr_ne (by decide), w2 175 (by decide)]; rfl
                          · rw [hW2, setr_self]; rfl
                          · rw [hW2, setr_ne a4, w2 c a5]
                        · refine ev_aload_n (X := M_X12_move) (pc := 159) dX12_move_159 rfl ?_
                          refine ev_getRe (X := M_X12_move) (pc := 160) dX12_move_160 fl_X12_69_12 (lO_156 hL) rfl (lR_156_28 hL) ?_
                          refine ev_bipush (X := M_X12_move) (pc := 163) dX12_move_163 (by decide) ?_
                          refine ev_iload_n (X := M_X12_move) (pc := 165) dX12_move_165 rfl ?_
                          refine ev_imul (X := M_X12_move) (pc := 166) dX12_move_166 ?_
                          refine ev_iload (X := M_X12_move) (pc := 167) dX12_move_167 rfl ?_
                          refine ev_iadd (X := M_X12_move) (pc := 169) dX12_move_169 ?_
                          refine ev_iload (X := M_X12_move) (pc := 170) dX12_move_170 rfl ?_
                          refine ev_iadd (X := M_X12_move) (pc := 172) dX12_move_172 ?_
                          refine ev_aload_n (X := M_X12_move) (pc := 173) dX12_move_173 rfl ?_
                          refine ev_getRe (X := M_X12_move) (pc := 174) dX12_move_174 fl_X12_72_12 (lO_156 hL) rfl (lR_156_29 hL) ?_
                          refine ev_iload (X := M_X12_move) (pc := 177) dX12_move_177 rfl ?_
                          refine ev_ialoadE (X := M_X12_move) (pc := 179) dX12_move_179 (lS_177 hL) (by omega) (h177 (by omega)) ?_
                          refine ev_iastore (X := M_X12_move) (pc := 180) dX12_move_180 (by decide) (lS_176 hL) (by omega) ?_
                          refine ev_iincL (X := M_X12_move) (pc := 181) (ls' := [_, _, _, _, _, _, _]) dX12_move_181 rfl (by decide) rfl ?_
                          refine ev_goto (X := M_X12_move) (pc := 184) (tgt := 152) dX12_move_184 (by decide) ?_
                          refine ev_weak (ih (q + 1, wr W2 176 (40 * o + j + q) (V 176 (40 * s + i + q))) ⟨by omega, by omega, ?_⟩ (by show (n - (q + 1)).toNat < (n - q).toNat; omega)) ⟨rfl, rfl, rfl, rfl, rfl, rfl, rfl, trivial⟩
                          show wr W2 176 (40 * o + j + q) (V 176 (40 * s + i + q)) = setr W 176 (cpy (V 176) (V 176) (40 * s + i) (40 * o + j) (q + 1))
                          rw [hW2, wr_setr]
                          have e : up (cpy (V 176) (V 176) (40 * s + i) (40 * o + j) q) (40 * o + j + q) (V 176 (40 * s + i + q)) = cpy (V 176) (V 176) (40 * s + i) (40 * o + j) (q + 1) := by
                            funext r
                            unfold cpy
                            by_cases z : r = 40 * o + j + q
                            · rw [z, up_self, if_pos (by omega), show 40 * s + i + (40 * o + j + q - (40 * o + j)) = 40 * s + i + q by omega]
                            · rw [up_ne z]
                              by_cases y : 40 * o + j ≤ r ∧ r < 40 * o + j + q
                              · rw [if_pos y, if_pos (by omega)]
                              · rw [if_neg y, if_neg (by omega)]
                          rw [e]
                      refine ev_weak (ev_while (σ := Int × Mm) (fun z => 0 ≤ z.1 ∧ z.1 ≤ n ∧ (∀ q, 0 ≤ q → q < z.1 → z.2 177 q = V 176 (40 * s + i + q)) ∧ ∀ c, c ≠ 177 → z.2 c = V c) (fun z => (n - z.1).toNat) (fun z => [vR 156, vI s, vI i, vI o, vI j, vI n, vI z.1]) (fun _ => K) (fun z => z.2) ?_ (0, V) ⟨Int.le_refl 0, hn4.1, fun q q0 q1 => by change q < 0 at q1; omega, fun _ _ => rfl⟩) ⟨rfl, rfl, rfl, rfl, rfl, rfl, rfl, trivial⟩
                      rintro ⟨q, W⟩ ⟨q0, q1, w1, w2⟩ ih
                      dsimp only at q0 q1 w1 w2 ih ⊢
                      have h176 : W 176 (40 * s + i + q) = V 176 (40 * s + i + q) := by rw [w2 176 (by decide)]
                      refine ev_iload (X := M_X12_move) (pc := 115) dX12_move_115 rfl ?_
                      refine ev_iload (X := M_X12_move) (pc := 117) dX12_move_117 rfl ?_
                      refine ev_icmp_ge (X := M_X12_move) (pc := 119) (tgt := 149) dX12_move_119 (by decide) (by omega) (by omega) (fun h119 => ?_) (fun h119 => ?_)
                      · exact ev_weak (ph2 W (fun r r0 r1 => w1 r r0 (by omega)) w2) ⟨rfl, rfl, rfl, rfl, rfl, rfl, trivial⟩
                      · refine ev_aload_n (X := M_X12_move) (pc := 122) dX12_move_122 rfl ?_
                        refine ev_getRe (X := M_X12_move) (pc := 123) dX12_move_123 fl_X12_72_12 (lO_156 hL) rfl (lR_156_29 hL) ?_
                        refine ev_iload (X := M_X12_move) (pc := 126) dX12_move_126 rfl ?_
                        refine ev_aload_n (X := M_X12_move) (pc := 128) dX12_move_128 rfl ?_
                        refine ev_getRe (X := M_X12_move) (pc := 129) dX12_move_129 fl_X12_69_12 (lO_156 hL) rfl (lR_156_28 hL) ?_
                        refine ev_bipush (X := M_X12_move) (pc := 132) dX12_move_132 (by decide) ?_
                        refine ev_iload_n (X := M_X12_move) (pc := 134) dX12_move_134 rfl ?_
                        refine ev_imul (X := M_X12_move) (pc := 135) dX12_move_135 ?_
                        refine ev_iload_n (X := M_X12_move) (pc := 136) dX12_move_136 rfl ?_
                        refine ev_iadd (X := M_X12_move) (pc := 137) dX12_move_137 ?_
                        refine ev_iload (X := M_X12_move) (pc := 138) dX12_move_138 rfl ?_
                        refine ev_iadd (X := M_X12_move) (pc := 140) dX12_move_140 ?_
                        refine ev_ialoadE (X := M_X12_move) (pc := 141) dX12_move_141 (lS_176 hL) (by omega) (h176) ?_
                        refine ev_iastore (X := M_X12_move) (pc := 142) dX12_move_142 (by decide) (lS_177 hL) (by omega) ?_
                        refine ev_iincL (X := M_X12_move) (pc := 143) (ls' := [_, _, _, _, _, _, _]) dX12_move_143 rfl (by decide) rfl ?_
                        refine ev_goto (X := M_X12_move) (pc := 146) (tgt := 115) dX12_move_146 (by decide) ?_
                        refine ev_weak (ih (q + 1, wr W 177 q (V 176 (40 * s + i + q))) ⟨by omega, by omega, fun r r0 r1 => ?_, fun c c1 => by show wr W 177 q _ c = V c; rw [wr_off c1]; exact w2 c c1⟩ (by show (n - (q + 1)).toNat < (n - q).toNat; omega)) ⟨rfl, rfl, rfl, rfl, rfl, rfl, rfl, trivial⟩
                        change r < q + 1 at r1
                        show wr W 177 q (V 176 (40 * s + i + q)) 177 r = _
                        rw [wr_row]
                        by_cases z : r = q
                        · rw [z, up_self]
                        · rw [up_ne z]
                          exact w1 r r0 (by omega)
                    · refine ev_aload_n (X := M_X12_move) (pc := 106) dX12_move_106 rfl ?_
                      refine ev_iconst (X := M_X12_move) (pc := 107) dX12_move_107 ?_
                      refine ev_virtR (X := M_X12_move) (Y := M_X12_finds) (pc := 108) (ci := 12) dX12_move_108 mk_X12_finds rfl kw_1092 kw_1094 kp_5 (lO_156 hL) (m_finds hL (by decide)) rfl (by decide) rfl (Nat.le_of_ble_eq_true rfl) (Nat.zero_add _) (Nat.zero_add _) ?_
                      refine ev_iret (X := M_X12_move) (pc := 111) dX12_move_111 rfl ?_
                      have hk : mvK (V 174) (V 175) s i o j n = 1 := by rw [hk0, if_neg (fun z => by omega)]
                      rw [hk]
                      exact ⟨rfl, rfl, SHW_e (by decide)⟩
          · have hk : mvK (V 174) (V 175) s i o j n = 5 := by rw [hk0, if_pos h56]
            refine ev_aload_n (X := M_X12_move) (pc := 59) dX12_move_59 rfl ?_
            refine ev_iconst (X := M_X12_move) (pc := 60) dX12_move_60 ?_
            refine ev_virtR (X := M_X12_move) (Y := M_X12_finds) (pc := 61) (ci := 12) dX12_move_61 mk_X12_finds rfl kw_1092 kw_1094 kp_5 (lO_156 hL) (m_finds hL (by decide)) rfl (by decide) rfl (Nat.le_of_ble_eq_true rfl) (Nat.zero_add _) (Nat.zero_add _) ?_
            refine ev_iret (X := M_X12_move) (pc := 64) dX12_move_64 rfl ?_
            rw [hk]
            exact ⟨rfl, rfl, SHW_e (by decide)⟩
        · have hk : mvK (V 174) (V 175) s i o j n = 2 := by rw [hk0, if_pos (Or.inr h35)]
          refine ev_aload_n (X := M_X12_move) (pc := 38) dX12_move_38 rfl ?_
          refine ev_iconst (X := M_X12_move) (pc := 39) dX12_move_39 ?_
          refine ev_virtR (X := M_X12_move) (Y := M_X12_finds) (pc := 40) (ci := 12) dX12_move_40 mk_X12_finds rfl kw_1092 kw_1094 kp_5 (lO_156 hL) (m_finds hL (by decide)) rfl (by decide) rfl (Nat.le_of_ble_eq_true rfl) (Nat.zero_add _) (Nat.zero_add _) ?_
          refine ev_iret (X := M_X12_move) (pc := 43) dX12_move_43 rfl ?_
          rw [hk]
          exact ⟨rfl, rfl, SHW_e (by decide)⟩
    · have hk : mvK (V 174) (V 175) s i o j n = 1 := by unfold mvK; rw [if_neg (fun z => by rw [if_pos (by omega)] at h11; exact absurd h11 (by decide))]
      refine ev_aload_n (X := M_X12_move) (pc := 14) dX12_move_14 rfl ?_
      refine ev_iconst (X := M_X12_move) (pc := 15) dX12_move_15 ?_
      refine ev_virtR (X := M_X12_move) (Y := M_X12_finds) (pc := 16) (ci := 12) dX12_move_16 mk_X12_finds rfl kw_1092 kw_1094 kp_5 (lO_156 hL) (m_finds hL (by decide)) rfl (by decide) rfl (Nat.le_of_ble_eq_true rfl) (Nat.zero_add _) (Nat.zero_add _) ?_
      refine ev_iret (X := M_X12_move) (pc := 19) dX12_move_19 rfl ?_
      rw [hk]
      exact ⟨rfl, rfl, SHW_e (by decide)⟩
