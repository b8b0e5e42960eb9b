theorem m_findFar {γ : Gh} {K : Sk} {V : Mm} (hL : Lay K) {C : Int → Int} (hC : wfC C) (hV : V 161 = C) {s0 F : Int} (hs : isSt s0) (hF : 0 ≤ F ∧ F < 64) : Call γ M_X12_findFar 2 0 0 [vR 156, vI s0, vI F] K V (Qx (some (vI (bF C F s0).2.2.1)) K (fun W => fr2 162 163 V W ∧ MF W (bF C F s0))) := by
  refine call_of (by decide +kernel) (by intro v hv; simp only [List.mem_cons, List.not_mem_nil, or_false] at hv; rcases hv with rfl | rfl | rfl <;> exact fun q => by cases q) (Nat.le_of_ble_eq_true rfl) ?_
  refine ev_lsE (ls' := [_, _, _, _, _, _, _]) rfl ?_
  have hs' := isSt_lt hs
  have after23 : ∀ W : Mm, W = setr V 162 (flr (V 162) 2197 1000000) → Ev γ M_X12_findFar 2 0 0 23 [vR 156, vI s0, vI F, vI 2197, vU, vU, vU] [] K W (Qx (some (vI (bF C F s0).2.2.1)) K (fun W => fr2 162 163 V W ∧ MF W (bF C F s0))) := by
    intro W hW
    refine ev_aload_n (X := M_X12_findFar) (pc := 23) dX12_findFar_23 rfl ?_
    refine ev_getRe (X := M_X12_findFar) (pc := 24) dX12_findFar_24 fl_X12_25_12 (lO_156 hL) rfl (lR_156_12 hL) ?_
    refine ev_iload_n (X := M_X12_findFar) (pc := 27) dX12_findFar_27 rfl ?_
    refine ev_iconst (X := M_X12_findFar) (pc := 28) dX12_findFar_28 ?_
    refine ev_iastore (X := M_X12_findFar) (pc := 29) dX12_findFar_29 (by decide) (lS_162 hL) (by omega) ?_
    refine ev_aload_n (X := M_X12_findFar) (pc := 30) dX12_findFar_30 rfl ?_
    refine ev_getRe (X := M_X12_findFar) (pc := 31) dX12_findFar_31 fl_X12_28_12 (lO_156 hL) rfl (lR_156_13 hL) ?_
    refine ev_iconst (X := M_X12_findFar) (pc := 34) dX12_findFar_34 ?_
    refine ev_iload_n (X := M_X12_findFar) (pc := 35) dX12_findFar_35 rfl ?_
    refine ev_iastore (X := M_X12_findFar) (pc := 36) dX12_findFar_36 (by decide) (lS_163 hL) (by omega) ?_
    refine ev_iconst (X := M_X12_findFar) (pc := 37) dX12_findFar_37 ?_
    refine ev_istore_nL (X := M_X12_findFar) (pc := 38) (ls' := [_, _, _, _, _, _, _]) dX12_findFar_38 (by decide) rfl ?_
    refine ev_iconst (X := M_X12_findFar) (pc := 39) dX12_findFar_39 ?_
    refine ev_istoreL (X := M_X12_findFar) (pc := 40) (ls' := [_, _, _, _, _, _, _]) dX12_findFar_40 (by decide) rfl ?_
    refine ev_weak (ev_while (σ := Int × Mm) (fun s => 0 ≤ s.1 ∧ s.1 ≤ 455 ∧ MF s.2 (bi C F s0 (6 * s.1)) ∧ fr2 162 163 V s.2) (fun s => (455 - s.1).toNat) (fun s => [vR 156, vI s0, vI F, vI (bi C F s0 (6 * s.1)).2.2.1, vI s.1, vU, vU]) (fun _ => K) (fun s => s.2) ?_ (0, _) ⟨Int.le_refl 0, by show (0 : Int) ≤ 455; decide, ?_, ?_⟩) ⟨rfl, rfl, rfl, rfl, rfl, trivial⟩
    rotate_left
    · refine ⟨fun t ht => ?_, fun i hi => ?_⟩
      · show wr (wr W 162 s0 0) 163 0 s0 162 t = if (if t = s0 then (0 : Int) else -1) = -1 then 1000000 else (if t = s0 then (0 : Int) else -1)
        rw [wr_off (by decide), wr_row, hW, setr_self]
        by_cases q : t = s0
        · rw [q, up_self, if_pos rfl, if_neg (by decide)]
        · rw [up_ne q, if_neg q, if_pos rfl]
          unfold flr
          rw [if_pos (by omega)]
      · have hi2 : i < 1 := hi.2
        have hi1 : 0 ≤ i := hi.1
        rw [show i = 0 by omega]
        show wr (wr W 162 s0 0) 163 0 s0 163 0 = s0
        rw [wr_row, up_self]
    · intro c h1 h2
      show wr (wr W 162 s0 0) 163 0 s0 c = V c
      rw [wr_off h2, wr_off h1, hW, setr_ne h1]
    rintro ⟨k, W⟩ ⟨hk0, hk1, hM, hfr⟩ ih
    dsimp only at hk0 hk1 hM hfr ih ⊢
    have hI0 := bi_I (e := 6 * k) (F := F) hC hs
    have hn0 := hI0.n_le
    have hn1 := hI0.1
    refine ev_iload (X := M_X12_findFar) (pc := 42) dX12_findFar_42 rfl ?_
    refine ev_iload_n (X := M_X12_findFar) (pc := 44) dX12_findFar_44 rfl ?_
    refine ev_icmp_ge (X := M_X12_findFar) (pc := 45) (tgt := 146) dX12_findFar_45 (by decide) (by omega) (by omega) (fun h45 => ?_) (fun h45 => ?_)
    · refine ev_iload_n (X := M_X12_findFar) (pc := 146) dX12_findFar_146 rfl ?_
      refine ev_iret (X := M_X12_findFar) (pc := 147) dX12_findFar_147 rfl ?_
      have e6 := bi_end (C := C) (F := F) (s0 := s0) ⟨hk0, hk1⟩ (by omega)
      rw [e6] at hM
      exact ⟨by rw [e6], rfl, hfr, hM⟩
    · refine ev_iconst (X := M_X12_findFar) (pc := 48) dX12_findFar_48 ?_
      refine ev_istoreL (X := M_X12_findFar) (pc := 49) (ls' := [_, _, _, _, _, _, _]) dX12_findFar_49 (by decide) rfl ?_
      refine ev_weak (ev_while (σ := Int × Mm) (fun s => 0 ≤ s.1 ∧ s.1 ≤ 6 ∧ MF s.2 (bi C F s0 (6 * k + s.1)) ∧ k < (bi C F s0 (6 * k + s.1)).2.2.1 ∧ fr2 162 163 V s.2) (fun s => (6 - s.1).toNat) (fun s => [vR 156, vI s0, vI F, vI (bi C F s0 (6 * k + s.1)).2.2.1, vI k, vI s.1, vU]) (fun _ => K) (fun s => s.2) ?_ (0, W) ⟨Int.le_refl 0, by show (0 : Int) ≤ 6; decide, by rw [show 6 * k + 0 = 6 * k by omega]; exact hM, by rw [show 6 * k + 0 = 6 * k by omega]; omega, hfr⟩) ⟨rfl, rfl, rfl, by rw [show 6 * k + 0 = 6 * k by omega], rfl, rfl, trivial⟩
      clear hM hfr
      rintro ⟨p, W⟩ ⟨hp0, hp1, hM, hk, hfr⟩ ih2
      dsimp only at hp0 hp1 hM hk hfr ih2 ⊢
      have hI := bi_I (e := 6 * k + p) (F := F) hC hs
      have hn455 := hI.n_le
      have hu := hI.2.1 k ⟨by omega, hk⟩
      have hust := isSt_lt hu
      have e1 : bi C F s0 (6 * k + (p + 1)) = bStep C F (6 * k + p) (bi C F s0 (6 * k + p)) := by
        rw [show 6 * k + (p + 1) = 6 * k + p + 1 by omega, bi_s (by omega)]
      have hdiv : p < 6 → (6 * k + p) / 6 = k ∧ (6 * k + p) % 6 = p := fun q => by omega
      generalize hB : bi C F s0 (6 * k + p) = B at *
      refine ev_iload (X := M_X12_findFar) (pc := 51) dX12_findFar_51 rfl ?_
      refine ev_bipush (X := M_X12_findFar) (pc := 53) dX12_findFar_53 (by decide) ?_
      refine ev_icmp_ge (X := M_X12_findFar) (pc := 55) (tgt := 140) dX12_findFar_55 (by decide) (by omega) (by omega) (fun h55 => ?_) (fun h55 => ?_)
      · have e6 : bi C F s0 (6 * (k + 1)) = B := by
          rw [show 6 * (k + 1) = 6 * k + p by omega, hB]
        refine ev_iincL (X := M_X12_findFar) (pc := 140) (ls' := [_, _, _, _, _, _, _]) dX12_findFar_140 rfl (by decide) rfl ?_
        refine ev_goto (X := M_X12_findFar) (pc := 143) (tgt := 42) dX12_findFar_143 (by decide) ?_
        refine ev_weak (ih (k + 1, W) ⟨by omega, by omega, by rw [e6]; exact hM, hfr⟩ (by show (455 - (k + 1)).toNat < (455 - k).toNat; omega)) ⟨rfl, rfl, rfl, by rw [e6], rfl, trivial⟩
      · obtain ⟨hd1, hd2⟩ := hdiv (by omega)
        have hbv : bv C F (6 * k + p) B = nx C F (B.2.1 k) p := by unfold bv; rw [hd1, hd2]
        refine ev_aload_n (X := M_X12_findFar) (pc := 58) dX12_findFar_58 rfl ?_
        refine ev_aload_n (X := M_X12_findFar) (pc := 59) dX12_findFar_59 rfl ?_
        refine ev_getRe (X := M_X12_findFar) (pc := 60) dX12_findFar_60 fl_X12_28_12 (lO_156 hL) rfl (lR_156_13 hL) ?_
        refine ev_iload (X := M_X12_findFar) (pc := 63) dX12_findFar_63 rfl ?_
        refine ev_ialoadE (X := M_X12_findFar) (pc := 65) dX12_findFar_65 (lS_163 hL) (by omega) (hM.2 k ⟨by omega, hk⟩) ?_
        refine ev_iload (X := M_X12_findFar) (pc := 66) dX12_findFar_66 rfl ?_
        refine ev_iload_n (X := M_X12_findFar) (pc := 68) dX12_findFar_68 rfl ?_
        refine ev_virtR (X := M_X12_findFar) (Y := M_X12_mayMeet) (pc := 69) (ci := 12) dX12_findFar_69 mk_X12_mayMeet rfl kw_1219 kw_1221 kp_23 (lO_156 hL) (m_mayMeet hL hC (by rw [hfr 161 (by decide) (by decide)]; exact hV) (by omega) hust hF) rfl (by decide) rfl (Nat.le_of_ble_eq_true rfl) (Nat.zero_add _) (Nat.zero_add _) ?_
        refine ev_if_eq (X := M_X12_findFar) (pc := 72) (tgt := 134) dX12_findFar_72 (by decide) (by split <;> omega) (fun h72 => ?_) (fun h72 => ?_)
        · have hm : ¬ may C F (B.2.1 k) p := fun z => by rw [if_pos z] at h72; exact absurd h72 (by decide)
          have hno : ¬ bc C F (6 * k + p) B := fun q => q.2.1 (by rw [hbv]; unfold nx; rw [if_neg hm])
          rw [bStep_no hno] at e1
          have hM2 := hM
          have hk2 := hk
          have hfr3 := hfr
          refine ev_iincL (X := M_X12_findFar) (pc := 134) (ls' := [_, _, _, _, _, _, _]) dX12_findFar_134 rfl (by decide) rfl ?_
          refine ev_goto (X := M_X12_findFar) (pc := 137) (tgt := 51) dX12_findFar_137 (by decide) ?_
          refine ev_weak (ih2 (p + 1, _) ⟨by omega, by omega, by first | exact hM2 | (rw [e1]; exact hM2), by first | exact hk2 | (rw [e1]; exact hk2), hfr3⟩ (by show (6 - (p + 1)).toNat < (6 - p).toNat; omega)) ⟨rfl, rfl, rfl, by rw [e1], rfl, rfl, trivial⟩
        · have hm : may C F (B.2.1 k) p := Decidable.byContradiction fun z => h72 (by rw [if_neg z])
          have hnx : nx C F (B.2.1 k) p = aft C (B.2.1 k) p := by unfold nx; rw [if_pos hm]
          have hnst : isSt (aft C (B.2.1 k) p) := aft_st hC (by omega) hu hm
          rw [hnx] at hbv
          have hfr9 := hI.far_r (aft C (B.2.1 k) p)
          refine ev_aload_n (X := M_X12_findFar) (pc := 75) dX12_findFar_75 rfl ?_
          refine ev_aload_n (X := M_X12_findFar) (pc := 76) dX12_findFar_76 rfl ?_
          refine ev_getRe (X := M_X12_findFar) (pc := 77) dX12_findFar_77 fl_X12_28_12 (lO_156 hL) rfl (lR_156_13 hL) ?_
          refine ev_iload (X := M_X12_findFar) (pc := 80) dX12_findFar_80 rfl ?_
          refine ev_ialoadE (X := M_X12_findFar) (pc := 82) dX12_findFar_82 (lS_163 hL) (by omega) (hM.2 k ⟨by omega, hk⟩) ?_
          refine ev_iload (X := M_X12_findFar) (pc := 83) dX12_findFar_83 rfl ?_
          refine ev_virtR (X := M_X12_findFar) (Y := M_X12_after) (pc := 85) (ci := 12) dX12_findFar_85 mk_X12_after rfl kw_1248 kw_1250 kp_26 (lO_156 hL) (m_after hL hC (by rw [hfr 161 (by decide) (by decide)]; exact hV) (by omega)) rfl (by decide) rfl (Nat.le_of_ble_eq_true rfl) (Nat.zero_add _) (Nat.zero_add _) ?_
          refine ev_istoreL (X := M_X12_findFar) (pc := 88) (ls' := [_, _, _, _, _, _, _]) dX12_findFar_88 (by decide) rfl ?_
          refine ev_aload_n (X := M_X12_findFar) (pc := 90) dX12_findFar_90 rfl ?_
          refine ev_getRe (X := M_X12_findFar) (pc := 91) dX12_findFar_91 fl_X12_25_12 (lO_156 hL) rfl (lR_156_12 hL) ?_
          refine ev_iload (X := M_X12_findFar) (pc := 94) dX12_findFar_94 rfl ?_
          refine ev_ialoadE (X := M_X12_findFar) (pc := 96) dX12_findFar_96 (lS_162 hL) (by omega) (hM.1 _ (isSt_lt hnst)) ?_
          refine ev_ldc (X := M_X12_findFar) (pc := 97) (v := 1000000) dX12_findFar_97 kw_1292 (by decide) ?_
          refine ev_icmp_ne (X := M_X12_findFar) (pc := 99) (tgt := 134) dX12_findFar_99 (by decide) (by split <;> omega) (by decide) (fun h99 => ?_) (fun h99 => ?_)
          · have hno : ¬ bc C F (6 * k + p) B := fun q => by
              have q3 := q.2.2
              rw [hbv] at q3
              rw [if_pos q3] at h99
              exact h99 rfl
            rw [bStep_no hno] at e1
            have hM2 := hM
            have hk2 := hk
            have hfr3 := hfr
            refine ev_iincL (X := M_X12_findFar) (pc := 134) (ls' := [_, _, _, _, _, _, _]) dX12_findFar_134 rfl (by decide) rfl ?_
            refine ev_goto (X := M_X12_findFar) (pc := 137) (tgt := 51) dX12_findFar_137 (by decide) ?_
            refine ev_weak (ih2 (p + 1, _) ⟨by omega, by omega, by first | exact hM2 | (rw [e1]; exact hM2), by first | exact hk2 | (rw [e1]; exact hk2), hfr3⟩ (by show (6 - (p + 1)).toNat < (6 - p).toNat; omega)) ⟨rfl, rfl, rfl, by rw [e1], rfl, rfl, trivial⟩
          · have hf1 : B.1 (aft C (B.2.1 k) p) = -1 := Decidable.byContradiction fun z => by
              rw [if_neg z] at h99
              obtain ⟨i, hi, hit⟩ := hI.2.2.2.1 _ z
              have := (hI.2.2.1 i hi).2
              rw [hit, h99] at this
              omega
            have hbc : bc C F (6 * k + p) B := ⟨by rw [hd1]; exact hk, by rw [hbv]; have := hnst.1; omega, by rw [hbv]; exact hf1⟩
            have hM2 := MF_step hI hM hbc (by rw [hbv]; exact hnst) (by omega)
            rw [← e1] at hM2
            rw [hbv, hd1, hM.2 k ⟨by omega, hk⟩] at hM2
            have hk2 : k < (bi C F s0 (6 * k + (p + 1))).2.2.1 := by
              rw [e1]
              have := (bStep_n (C := C) (F := F) (e := 6 * k + p) (B := B)).1
              omega
            have hfr3 := (hfr.wr (Or.inl rfl) (aft C (B.2.1 k) p) (W 162 (B.2.1 k) + 1)).wr (Or.inr rfl) B.2.2.1 (aft C (B.2.1 k) p)
            rw [bStep_yes hbc] at e1
            refine ev_aload_n (X := M_X12_findFar) (pc := 102) dX12_findFar_102 rfl ?_
            refine ev_getRe (X := M_X12_findFar) (pc := 103) dX12_findFar_103 fl_X12_25_12 (lO_156 hL) rfl (lR_156_12 hL) ?_
            refine ev_iload (X := M_X12_findFar) (pc := 106) dX12_findFar_106 rfl ?_
            refine ev_aload_n (X := M_X12_findFar) (pc := 108) dX12_findFar_108 rfl ?_
            refine ev_getRe (X := M_X12_findFar) (pc := 109) dX12_findFar_109 fl_X12_25_12 (lO_156 hL) rfl (lR_156_12 hL) ?_
            refine ev_aload_n (X := M_X12_findFar) (pc := 112) dX12_findFar_112 rfl ?_
            refine ev_getRe (X := M_X12_findFar) (pc := 113) dX12_findFar_113 fl_X12_28_12 (lO_156 hL) rfl (lR_156_13 hL) ?_
            refine ev_iload (X := M_X12_findFar) (pc := 116) dX12_findFar_116 rfl ?_
            refine ev_ialoadE (X := M_X12_findFar) (pc := 118) dX12_findFar_118 (lS_163 hL) (by omega) (hM.2 k ⟨by omega, hk⟩) ?_
            refine ev_iaload (X := M_X12_findFar) (pc := 119) dX12_findFar_119 (lS_162 hL) (by omega) ?_
            refine ev_iconst (X := M_X12_findFar) (pc := 120) dX12_findFar_120 ?_
            refine ev_iadd (X := M_X12_findFar) (pc := 121) dX12_findFar_121 ?_
            refine ev_iastore (X := M_X12_findFar) (pc := 122) dX12_findFar_122 (by decide) (lS_162 hL) (by omega) ?_
            refine ev_aload_n (X := M_X12_findFar) (pc := 123) dX12_findFar_123 rfl ?_
            refine ev_getRe (X := M_X12_findFar) (pc := 124) dX12_findFar_124 fl_X12_28_12 (lO_156 hL) rfl (lR_156_13 hL) ?_
            refine ev_iload_n (X := M_X12_findFar) (pc := 127) dX12_findFar_127 rfl ?_
            refine ev_iload (X := M_X12_findFar) (pc := 128) dX12_findFar_128 rfl ?_
            refine ev_iastore (X := M_X12_findFar) (pc := 130) dX12_findFar_130 (by decide) (lS_163 hL) (by omega) ?_
            refine ev_iincL (X := M_X12_findFar) (pc := 131) (ls' := [_, _, _, _, _, _, _]) dX12_findFar_131 rfl (by decide) rfl ?_
            refine ev_iincL (X := M_X12_findFar) (pc := 134) (ls' := [_, _, _, _, _, _, _]) dX12_findFar_134 rfl (by decide) rfl ?_
            refine ev_goto (X := M_X12_findFar) (pc := 137) (tgt := 51) dX12_findFar_137 (by decide) ?_
            refine ev_weak (ih2 (p + 1, _) ⟨by omega, by omega, by first | exact hM2 | (rw [e1]; exact hM2), by first | exact hk2 | (rw [e1]; exact hk2), hfr3⟩ (by show (6 - (p + 1)).toNat < (6 - p).toNat; omega)) ⟨rfl, rfl, rfl, by rw [e1], rfl, rfl, trivial⟩
  refine ev_iconst (X := M_X12_findFar) (pc := 0) dX12_findFar_0 ?_
  refine ev_istore_nL (X := M_X12_findFar) (pc := 1) (ls' := [_, _, _, _, _, _, _]) dX12_findFar_1 (by decide) rfl ?_
  refine ev_for 2197 0 (fun i W => W = setr V 162 (flr (V 162) i 1000000)) (fun i => [vR 156, vI s0, vI F, vI i, vU, vU, vU]) (by decide) (by rw [flr_0, setr_id]) (fun i W hi hn2 hW ih => ?_)
  refine ev_iload_n (X := M_X12_findFar) (pc := 2) dX12_findFar_2 rfl ?_
  refine ev_sipush (X := M_X12_findFar) (pc := 3) dX12_findFar_3 (by decide) ?_
  refine ev_icmp_ge (X := M_X12_findFar) (pc := 6) (tgt := 23) dX12_findFar_6 (by decide) (by omega) (by omega) (fun h6 => ?_) (fun h6 => ?_)
  · rw [show i = 2197 by omega] at hW ⊢
    exact after23 W hW
  · refine ev_aload_n (X := M_X12_findFar) (pc := 9) dX12_findFar_9 rfl ?_
    refine ev_getRe (X := M_X12_findFar) (pc := 10) dX12_findFar_10 fl_X12_25_12 (lO_156 hL) rfl (lR_156_12 hL) ?_
    refine ev_iload_n (X := M_X12_findFar) (pc := 13) dX12_findFar_13 rfl ?_
    refine ev_ldc (X := M_X12_findFar) (pc := 14) (v := 1000000) dX12_findFar_14 kw_1292 (by decide) ?_
    refine ev_iastore (X := M_X12_findFar) (pc := 16) dX12_findFar_16 (by decide) (lS_162 hL) (by omega) ?_
    refine ev_iincL (X := M_X12_findFar) (pc := 17) (ls' := [_, _, _, _, _, _, _]) dX12_findFar_17 rfl (by decide) rfl ?_
    refine ev_goto (X := M_X12_findFar) (pc := 20) (tgt := 2) dX12_findFar_20 (by decide) ?_
    exact ih (by omega) _ (by rw [hW, wr_setr, flr_s hi])
