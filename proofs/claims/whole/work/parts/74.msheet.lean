/-! ===== the reference's sheets, images, trace ===== -/
def SHW (V : Mm) (k : Int) (A B N : Int → Int) (W : Mm) : Prop := W 159 = erK (V 159) k ∧ W 174 = (if k = 0 then A else V 174) ∧ W 175 = (if k = 0 then B else V 175) ∧ W 176 = (if k = 0 then N else V 176) ∧ ∀ c, c ≠ 159 → c ≠ 174 → c ≠ 175 → c ≠ 176 → c ≠ 177 → W c = V c
theorem SHW_e {V : Mm} {k : Int} {A B N : Int → Int} (hk : k ≠ 0) : SHW V k A B N (wr V 159 k (V 159 k + 1)) := by
  refine ⟨by rw [wr_row]; unfold erK; rw [if_neg hk], ?_, ?_, ?_, fun c c1 _ _ _ _ => by rw [wr_off c1]⟩
  · rw [if_neg hk, wr_off (by decide)]
  · rw [if_neg hk, wr_off (by decide)]
  · rw [if_neg hk, wr_off (by decide)]
def zr40 (f : Int → Int) (s n : Int) : Int → Int := fun j => if 40 * s ≤ j ∧ j < 40 * s + n then 0 else f j
def shK (s b n : Int) : Int := if (0 ≤ s ∧ s < 4) ∧ (b = 0 ∨ b = 8 ∨ b = 16 ∨ b = 32) then (if b ≠ 0 ∧ n < 0 then 3 else if b ≠ 0 ∧ 40 < n then 1 else 0) else 1
theorem m_sheet {γ : Gh} {K : Sk} {V : Mm} (hL : Lay K) {s b n : Int} (hs : R32 s) (hb : R32 b) (hn : R32 n) : Call γ M_X12_sheet 2 0 0 [vR 156, vI s, vI b, vI n] K V (Qx (some (vI (aR (shK s b n) 1))) K (SHW V (shK s b n) (up (V 174) s b) (up (V 175) s (if b = 0 then 0 else n)) (zr40 (V 176) s 40))) := by
  refine call_of (by decide +kernel) (by intro v hv; simp only [List.mem_cons, List.not_mem_nil, or_false] at hv; rcases hv with rfl | rfl | rfl | rfl <;> exact fun q => by cases q) (Nat.le_of_ble_eq_true rfl) ?_
  refine ev_lsE (ls' := [_, _, _, _, _]) rfl ?_
  have main : (0 ≤ s ∧ s < 4) → (b = 0 ∨ b = 8 ∨ b = 16 ∨ b = 32) → Ev γ M_X12_sheet 2 0 0 35 [vR 156, vI s, vI b, vI n, vU] [] K V (Qx (some (vI (aR (shK s b n) 1))) K (SHW V (shK s b n) (up (V 174) s b) (up (V 175) s (if b = 0 then 0 else n)) (zr40 (V 176) s 40))) := by
    intro hs4 hb4
    have hk0 : shK s b n = if b ≠ 0 ∧ n < 0 then 3 else if b ≠ 0 ∧ 40 < n then 1 else 0 := by unfold shK; rw [if_pos ⟨hs4, hb4⟩]
    have fin : ∀ W, shK s b n = 0 → W = setr (setr V 174 (up (V 174) s b)) 175 (up (V 175) s (if b = 0 then 0 else n)) → Ev γ M_X12_sheet 2 0 0 87 [vR 156, vI s, vI b, vI n, vU] [] K W (Qx (some (vI (aR (shK s b n) 1))) K (SHW V (shK s b n) (up (V 174) s b) (up (V 175) s (if b = 0 then 0 else n)) (zr40 (V 176) s 40))) := by
      intro W hk hW
      rw [hk]
      refine ev_iconst (X := M_X12_sheet) (pc := 87) dX12_sheet_87 ?_
      refine ev_istoreL (X := M_X12_sheet) (pc := 88) (ls' := [_, _, _, _, _]) dX12_sheet_88 (by decide) rfl ?_
      refine ev_weak (ev_while (σ := Int × Mm) (fun z => 0 ≤ z.1 ∧ z.1 ≤ 40 ∧ z.2 = setr W 176 (zr40 (V 176) s z.1)) (fun z => (40 - z.1).toNat) (fun z => [vR 156, vI s, vI b, vI n, vI z.1]) (fun _ => K) (fun z => z.2) ?_ (0, W) ⟨Int.le_refl 0, by show (0 : Int) ≤ 40; decide, ?_⟩) ⟨rfl, rfl, rfl, rfl, rfl, trivial⟩
      rotate_left
      · show W = setr W 176 (zr40 (V 176) s 0)
        have e : zr40 (V 176) s 0 = W 176 := by
          rw [hW, setr_ne (by decide), setr_ne (by decide)]
          funext j
          unfold zr40
          rw [if_neg (by omega)]
        rw [e, setr_id]
      rintro ⟨i, W2⟩ ⟨i0, i1, hW2⟩ ih
      dsimp only at i0 i1 hW2 ih ⊢
      refine ev_iload (X := M_X12_sheet) (pc := 90) dX12_sheet_90 rfl ?_
      refine ev_bipush (X := M_X12_sheet) (pc := 92) dX12_sheet_92 (by decide) ?_
      refine ev_icmp_ge (X := M_X12_sheet) (pc := 94) (tgt := 116) dX12_sheet_94 (by decide) (by omega) (by omega) (fun h94 => ?_) (fun h94 => ?_)
      · refine ev_iconst (X := M_X12_sheet) (pc := 116) dX12_sheet_116 ?_
        refine ev_iret (X := M_X12_sheet) (pc := 117) dX12_sheet_117 rfl ?_
        rw [show i = 40 by omega] at hW2
        refine ⟨rfl, rfl, ?_, ?_, ?_, ?_, fun c c1 c2 c3 c4 _ => ?_⟩
        · rw [hW2, setr_ne (by decide), hW, setr_ne (by decide), setr_ne (by decide)]; rfl
        · rw [hW2, setr_ne (by decide), hW, setr_ne (by decide), setr_self]; rfl
        · rw [hW2, setr_ne (by decide), hW, setr_self]; rfl
        · rw [hW2, setr_self]; rfl
        · rw [hW2, setr_ne c4, hW, setr_ne c3, setr_ne c2]
      · refine ev_aload_n (X := M_X12_sheet) (pc := 97) dX12_sheet_97 rfl ?_
        refine ev_getRe (X := M_X12_sheet) (pc := 98) dX12_sheet_98 fl_X12_69_12 (lO_156 hL) rfl (lR_156_28 hL) ?_
        refine ev_bipush (X := M_X12_sheet) (pc := 101) dX12_sheet_101 (by decide) ?_
        refine ev_iload_n (X := M_X12_sheet) (pc := 103) dX12_sheet_103 rfl ?_
        refine ev_imul (X := M_X12_sheet) (pc := 104) dX12_sheet_104 ?_
        refine ev_iload (X := M_X12_sheet) (pc := 105) dX12_sheet_105 rfl ?_
        refine ev_iadd (X := M_X12_sheet) (pc := 107) dX12_sheet_107 ?_
        refine ev_iconst (X := M_X12_sheet) (pc := 108) dX12_sheet_108 ?_
        refine ev_iastore (X := M_X12_sheet) (pc := 109) dX12_sheet_109 (by decide) (lS_176 hL) (by omega) ?_
        refine ev_iincL (X := M_X12_sheet) (pc := 110) (ls' := [_, _, _, _, _]) dX12_sheet_110 rfl (by decide) rfl ?_
        refine ev_goto (X := M_X12_sheet) (pc := 113) (tgt := 90) dX12_sheet_113 (by decide) ?_
        refine ev_weak (ih (i + 1, wr W2 176 (40 * s + i) 0) ⟨by omega, by omega, ?_⟩ (by show (40 - (i + 1)).toNat < (40 - i).toNat; omega)) ⟨rfl, rfl, rfl, rfl, rfl, trivial⟩
        show wr W2 176 (40 * s + i) 0 = setr W 176 (zr40 (V 176) s (i + 1))
        rw [hW2, wr_setr]
        have e : up (zr40 (V 176) s i) (40 * s + i) 0 = zr40 (V 176) s (i + 1) := by
          funext j
          unfold zr40
          by_cases z : j = 40 * s + i
          · rw [z, up_self, if_pos (by omega)]
          · rw [up_ne z]
            by_cases y : 40 * s ≤ j ∧ j < 40 * s + i
            · rw [if_pos y, if_pos (by omega)]
            · rw [if_neg y, if_neg (by omega)]
        rw [e]
    refine ev_iload_n (X := M_X12_sheet) (pc := 35) dX12_sheet_35 rfl ?_
    refine ev_if_eq (X := M_X12_sheet) (pc := 36) (tgt := 49) dX12_sheet_36 (by decide) (by omega) (fun h36 => ?_) (fun h36 => ?_)
    · refine ev_iload_n (X := M_X12_sheet) (pc := 49) dX12_sheet_49 rfl ?_
      refine ev_if_eq (X := M_X12_sheet) (pc := 50) (tgt := 65) dX12_sheet_50 (by decide) (by omega) (fun h50 => ?_) (fun h50 => ?_)
      · refine ev_aload_n (X := M_X12_sheet) (pc := 65) dX12_sheet_65 rfl ?_
        refine ev_getRe (X := M_X12_sheet) (pc := 66) dX12_sheet_66 fl_X12_63_12 (lO_156 hL) rfl (lR_156_26 hL) ?_
        refine ev_iload_n (X := M_X12_sheet) (pc := 69) dX12_sheet_69 rfl ?_
        refine ev_iload_n (X := M_X12_sheet) (pc := 70) dX12_sheet_70 rfl ?_
        refine ev_iastore (X := M_X12_sheet) (pc := 71) dX12_sheet_71 (by decide) (lS_174 hL) (by omega) ?_
        refine ev_aload_n (X := M_X12_sheet) (pc := 72) dX12_sheet_72 rfl ?_
        refine ev_getRe (X := M_X12_sheet) (pc := 73) dX12_sheet_73 fl_X12_66_12 (lO_156 hL) rfl (lR_156_27 hL) ?_
        refine ev_iload_n (X := M_X12_sheet) (pc := 76) dX12_sheet_76 rfl ?_
        refine ev_iload_n (X := M_X12_sheet) (pc := 77) dX12_sheet_77 rfl ?_
        refine ev_if_ne (X := M_X12_sheet) (pc := 78) (tgt := 85) dX12_sheet_78 (by decide) (by omega) (fun h78 => ?_) (fun h78 => ?_)
        · refine ev_iload_n (X := M_X12_sheet) (pc := 85) dX12_sheet_85 rfl ?_
          refine ev_iastore (X := M_X12_sheet) (pc := 86) dX12_sheet_86 (by decide) (lS_175 hL) (by omega) ?_
          have hk : shK s b n = 0 := by rw [hk0, if_neg (fun z => by omega), if_neg (fun z => by omega)]
          have e1 : ∀ x, x = (if b = 0 then 0 else n) → wr (wr V 174 s b) 175 s x = setr (setr V 174 (up (V 174) s b)) 175 (up (V 175) s (if b = 0 then 0 else n)) := fun x hx => by
            unfold wr
            rw [setr_ne (show (175 : Nat) ≠ 174 by decide), hx]
          first
            | exact ev_weak (fin _ hk (e1 0 (by rw [if_pos (by omega)]))) ⟨rfl, rfl, rfl, rfl, trivial⟩
            | exact ev_weak (fin _ hk (e1 n (by rw [if_neg (by omega)]))) ⟨rfl, rfl, rfl, rfl, trivial⟩
        · refine ev_iconst (X := M_X12_sheet) (pc := 81) dX12_sheet_81 ?_
          refine ev_goto (X := M_X12_sheet) (pc := 82) (tgt := 86) dX12_sheet_82 (by decide) ?_
          refine ev_iastore (X := M_X12_sheet) (pc := 86) dX12_sheet_86 (by decide) (lS_175 hL) (by omega) ?_
          have hk : shK s b n = 0 := by rw [hk0, if_neg (fun z => by omega), if_neg (fun z => by omega)]
          have e1 : ∀ x, x = (if b = 0 then 0 else n) → wr (wr V 174 s b) 175 s x = setr (setr V 174 (up (V 174) s b)) 175 (up (V 175) s (if b = 0 then 0 else n)) := fun x hx => by
            unfold wr
            rw [setr_ne (show (175 : Nat) ≠ 174 by decide), hx]
          first
            | exact ev_weak (fin _ hk (e1 0 (by rw [if_pos (by omega)]))) ⟨rfl, rfl, rfl, rfl, trivial⟩
            | exact ev_weak (fin _ hk (e1 n (by rw [if_neg (by omega)]))) ⟨rfl, rfl, rfl, rfl, trivial⟩
      · refine ev_iload_n (X := M_X12_sheet) (pc := 53) dX12_sheet_53 rfl ?_
        refine ev_bipush (X := M_X12_sheet) (pc := 54) dX12_sheet_54 (by decide) ?_
        refine ev_icmp_le (X := M_X12_sheet) (pc := 56) (tgt := 65) dX12_sheet_56 (by decide) (by omega) (by omega) (fun h56 => ?_) (fun h56 => ?_)
        · refine ev_aload_n (X := M_X12_sheet) (pc := 65) dX12_sheet_65 rfl ?_
          refine ev_getRe (X := M_X12_sheet) (pc := 66) dX12_sheet_66 fl_X12_63_12 (lO_156 hL) rfl (lR_156_26 hL) ?_
          refine ev_iload_n (X := M_X12_sheet) (pc := 69) dX12_sheet_69 rfl ?_
          refine ev_iload_n (X := M_X12_sheet) (pc := 70) dX12_sheet_70 rfl ?_
          refine ev_iastore (X := M_X12_sheet) (pc := 71) dX12_sheet_71 (by decide) (lS_174 hL) (by omega) ?_
          refine ev_aload_n (X := M_X12_sheet) (pc := 72) dX12_sheet_72 rfl ?_
          refine ev_getRe (X := M_X12_sheet) (pc := 73) dX12_sheet_73 fl_X12_66_12 (lO_156 hL) rfl (lR_156_27 hL) ?_
          refine ev_iload_n (X := M_X12_sheet) (pc := 76) dX12_sheet_76 rfl ?_
          refine ev_iload_n (X := M_X12_sheet) (pc := 77) dX12_sheet_77 rfl ?_
          refine ev_if_ne (X := M_X12_sheet) (pc := 78) (tgt := 85) dX12_sheet_78 (by decide) (by omega) (fun h78 => ?_) (fun h78 => ?_)
          · refine ev_iload_n (X := M_X12_sheet) (pc := 85) dX12_sheet_85 rfl ?_
            refine ev_iastore (X := M_X12_sheet) (pc := 86) dX12_sheet_86 (by decide) (lS_175 hL) (by omega) ?_
            have hk : shK s b n = 0 := by rw [hk0, if_neg (fun z => by omega), if_neg (fun z => by omega)]
            have e1 : ∀ x, x = (if b = 0 then 0 else n) → wr (wr V 174 s b) 175 s x = setr (setr V 174 (up (V 174) s b)) 175 (up (V 175) s (if b = 0 then 0 else n)) := fun x hx => by
              unfold wr
              rw [setr_ne (show (175 : Nat) ≠ 174 by decide), hx]
            first
              | exact ev_weak (fin _ hk (e1 0 (by rw [if_pos (by omega)]))) ⟨rfl, rfl, rfl, rfl, trivial⟩
              | exact ev_weak (fin _ hk (e1 n (by rw [if_neg (by omega)]))) ⟨rfl, rfl, rfl, rfl, trivial⟩
          · refine ev_iconst (X := M_X12_sheet) (pc := 81) dX12_sheet_81 ?_
            refine ev_goto (X := M_X12_sheet) (pc := 82) (tgt := 86) dX12_sheet_82 (by decide) ?_
            refine ev_iastore (X := M_X12_sheet) (pc := 86) dX12_sheet_86 (by decide) (lS_175 hL) (by omega) ?_
            have hk : shK s b n = 0 := by rw [hk0, if_neg (fun z => by omega), if_neg (fun z => by omega)]
            have e1 : ∀ x, x = (if b = 0 then 0 else n) → wr (wr V 174 s b) 175 s x = setr (setr V 174 (up (V 174) s b)) 175 (up (V 175) s (if b = 0 then 0 else n)) := fun x hx => by
              unfold wr
              rw [setr_ne (show (175 : Nat) ≠ 174 by decide), hx]
            first
              | exact ev_weak (fin _ hk (e1 0 (by rw [if_pos (by omega)]))) ⟨rfl, rfl, rfl, rfl, trivial⟩
              | exact ev_weak (fin _ hk (e1 n (by rw [if_neg (by omega)]))) ⟨rfl, rfl, rfl, rfl, trivial⟩
        · first
            | (have hk : shK s b n = 1 := by rw [hk0, if_neg (fun z => by omega), if_pos ⟨h50, by omega⟩])
            | (exfalso; omega)
          refine ev_aload_n (X := M_X12_sheet) (pc := 59) dX12_sheet_59 rfl ?_
          refine ev_iconst (X := M_X12_sheet) (pc := 60) dX12_sheet_60 ?_
          refine ev_virtR (X := M_X12_sheet) (Y := M_X12_finds) (pc := 61) (ci := 12) dX12_sheet_61 mk_X12_finds rfl kw_1092 kw_1094 kp_5 (lO_156 hL) (m_finds hL (by decide)) rfl (by decide) rfl (Nat.le_of_ble_eq_true rfl) (Nat.zero_add _) (Nat.zero_add _) ?_
          refine ev_iret (X := M_X12_sheet) (pc := 64) dX12_sheet_64 rfl ?_
          rw [hk]
          exact ⟨rfl, rfl, SHW_e (by decide)⟩
    · refine ev_iload_n (X := M_X12_sheet) (pc := 39) dX12_sheet_39 rfl ?_
      refine ev_if_ge (X := M_X12_sheet) (pc := 40) (tgt := 49) dX12_sheet_40 (by decide) (by omega) (fun h40 => ?_) (fun h40 => ?_)
      · refine ev_iload_n (X := M_X12_sheet) (pc := 49) dX12_sheet_49 rfl ?_
        refine ev_if_eq (X := M_X12_sheet) (pc := 50) (tgt := 65) dX12_sheet_50 (by decide) (by omega) (fun h50 => ?_) (fun h50 => ?_)
        · refine ev_aload_n (X := M_X12_sheet) (pc := 65) dX12_sheet_65 rfl ?_
          refine ev_getRe (X := M_X12_sheet) (pc := 66) dX12_sheet_66 fl_X12_63_12 (lO_156 hL) rfl (lR_156_26 hL) ?_
          refine ev_iload_n (X := M_X12_sheet) (pc := 69) dX12_sheet_69 rfl ?_
          refine ev_iload_n (X := M_X12_sheet) (pc := 70) dX12_sheet_70 rfl ?_
          refine ev_iastore (X := M_X12_sheet) (pc := 71) dX12_sheet_71 (by decide) (lS_174 hL) (by omega) ?_
          refine ev_aload_n (X := M_X12_sheet) (pc := 72) dX12_sheet_72 rfl ?_
          refine ev_getRe (X := M_X12_sheet) (pc := 73) dX12_sheet_73 fl_X12_66_12 (lO_156 hL) rfl (lR_156_27 hL) ?_
          refine ev_iload_n (X := M_X12_sheet) (pc := 76) dX12_sheet_76 rfl ?_
          refine ev_iload_n (X := M_X12_sheet) (pc := 77) dX12_sheet_77 rfl ?_
          refine ev_if_ne (X := M_X12_sheet) (pc := 78) (tgt := 85) dX12_sheet_78 (by decide) (by omega) (fun h78 => ?_) (fun h78 => ?_)
          · refine ev_iload_n (X := M_X12_sheet) (pc := 85) dX12_sheet_85 rfl ?_
            refine ev_iastore (X := M_X12_sheet) (pc := 86) dX12_sheet_86 (by decide) (lS_175 hL) (by omega) ?_
            have hk : shK s b n = 0 := by rw [hk0, if_neg (fun z => by omega), if_neg (fun z => by omega)]
            have e1 : ∀ x, x = (if b = 0 then 0 else n) → wr (wr V 174 s b) 175 s x = setr (setr V 174 (up (V 174) s b)) 175 (up (V 175) s (if b = 0 then 0 else n)) := fun x hx => by
              unfold wr
              rw [setr_ne (show (175 : Nat) ≠ 174 by decide), hx]
            first
              | exact ev_weak (fin _ hk (e1 0 (by rw [if_pos (by omega)]))) ⟨rfl, rfl, rfl, rfl, trivial⟩
              | exact ev_weak (fin _ hk (e1 n (by rw [if_neg (by omega)]))) ⟨rfl, rfl, rfl, rfl, trivial⟩
          · refine ev_iconst (X := M_X12_sheet) (pc := 81) dX12_sheet_81 ?_
            refine ev_goto (X := M_X12_sheet) (pc := 82) (tgt := 86) dX12_sheet_82 (by decide) ?_
            refine ev_iastore (X := M_X12_sheet) (pc := 86) dX12_sheet_86 (by decide) (lS_175 hL) (by omega) ?_
            have hk : shK s b n = 0 := by rw [hk0, if_neg (fun z => by omega), if_neg (fun z => by omega)]
            have e1 : ∀ x, x = (if b = 0 then 0 else n) → wr (wr V 174 s b) 175 s x = setr (setr V 174 (up (V 174) s b)) 175 (up (V 175) s (if b = 0 then 0 else n)) := fun x hx => by
              unfold wr
              rw [setr_ne (show (175 : Nat) ≠ 174 by decide), hx]
            first
              | exact ev_weak (fin _ hk (e1 0 (by rw [if_pos (by omega)]))) ⟨rfl, rfl, rfl, rfl, trivial⟩
              | exact ev_weak (fin _ hk (e1 n (by rw [if_neg (by omega)]))) ⟨rfl, rfl, rfl, rfl, trivial⟩
        · refine ev_iload_n (X := M_X12_sheet) (pc := 53) dX12_sheet_53 rfl ?_
          refine ev_bipush (X := M_X12_sheet) (pc := 54) dX12_sheet_54 (by decide) ?_
          refine ev_icmp_le (X := M_X12_sheet) (pc := 56) (tgt := 65) dX12_sheet_56 (by decide) (by omega) (by omega) (fun h56 => ?_) (fun h56 => ?_)
          · refine ev_aload_n (X := M_X12_sheet) (pc := 65) dX12_sheet_65 rfl ?_
            refine ev_getRe (X := M_X12_sheet) (pc := 66) dX12_sheet_66 fl_X12_63_12 (lO_156 hL) rfl (lR_156_26 hL) ?_
            refine ev_iload_n (X := M_X12_sheet) (pc := 69) dX12_sheet_69 rfl ?_
            refine ev_iload_n (X := M_X12_sheet) (pc := 70) dX12_sheet_70 rfl ?_
            refine ev_iastore (X := M_X12_sheet) (pc := 71) dX12_sheet_71 (by decide) (lS_174 hL) (by omega) ?_
            refine ev_aload_n (X := M_X12_sheet) (pc := 72) dX12_sheet_72 rfl ?_
            refine ev_getRe (X := M_X12_sheet) (pc := 73) dX12_sheet_73 fl_X12_66_12 (lO_156 hL) rfl (lR_156_27 hL) ?_
            refine ev_iload_n (X := M_X12_sheet) (pc := 76) dX12_sheet_76 rfl ?_
            refine ev_iload_n (X := M_X12_sheet) (pc := 77) dX12_sheet_77 rfl ?_
            refine ev_if_ne (X := M_X12_sheet) (pc := 78) (tgt := 85) dX12_sheet_78 (by decide) (by omega) (fun h78 => ?_) (fun h78 => ?_)
            · refine ev_iload_n (X := M_X12_sheet) (pc := 85) dX12_sheet_85 rfl ?_
              refine ev_iastore (X := M_X12_sheet) (pc := 86) dX12_sheet_86 (by decide) (lS_175 hL) (by omega) ?_
              have hk : shK s b n = 0 := by rw [hk0, if_neg (fun z => by omega), if_neg (fun z => by omega)]
              have e1 : ∀ x, x = (if b = 0 then 0 else n) → wr (wr V 174 s b) 175 s x = setr (setr V 174 (up (V 174) s b)) 175 (up (V 175) s (if b = 0 then 0 else n)) := fun x hx => by
                unfold wr
                rw [setr_ne (show (175 : Nat) ≠ 174 by decide), hx]
              first
                | exact ev_weak (fin _ hk (e1 0 (by rw [if_pos (by omega)]))) ⟨rfl, rfl, rfl, rfl, trivial⟩
                | exact ev_weak (fin _ hk (e1 n (by rw [if_neg (by omega)]))) ⟨rfl, rfl, rfl, rfl, trivial⟩
            · refine ev_iconst (X := M_X12_sheet) (pc := 81) dX12_sheet_81 ?_
              refine ev_goto (X := M_X12_sheet) (pc := 82) (tgt := 86) dX12_sheet_82 (by decide) ?_
              refine ev_iastore (X := M_X12_sheet) (pc := 86) dX12_sheet_86 (by decide) (lS_175 hL) (by omega) ?_
              have hk : shK s b n = 0 := by rw [hk0, if_neg (fun z => by omega), if_neg (fun z => by omega)]
              have e1 : ∀ x, x = (if b = 0 then 0 else n) → wr (wr V 174 s b) 175 s x = setr (setr V 174 (up (V 174) s b)) 175 (up (V 175) s (if b = 0 then 0 else n)) := fun x hx => by
                unfold wr
                rw [setr_ne (show (175 : Nat) ≠ 174 by decide), hx]
              first
                | exact ev_weak (fin _ hk (e1 0 (by rw [if_pos (by omega)]))) ⟨rfl, rfl, rfl, rfl, trivial⟩
                | exact ev_weak (fin _ hk (e1 n (by rw [if_neg (by omega)]))) ⟨rfl, rfl, rfl, rfl, trivial⟩
          · first
              | (have hk : shK s b n = 1 := by rw [hk0, if_neg (fun z => by omega), if_pos ⟨h50, by omega⟩])
              | (exfalso; omega)
            refine ev_aload_n (X := M_X12_sheet) (pc := 59) dX12_sheet_59 rfl ?_
            refine ev_iconst (X := M_X12_sheet) (pc := 60) dX12_sheet_60 ?_
            refine ev_virtR (X := M_X12_sheet) (Y := M_X12_finds) (pc := 61) (ci := 12) dX12_sheet_61 mk_X12_finds rfl kw_1092 kw_1094 kp_5 (lO_156 hL) (m_finds hL (by decide)) rfl (by decide) rfl (Nat.le_of_ble_eq_true rfl) (Nat.zero_add _) (Nat.zero_add _) ?_
            refine ev_iret (X := M_X12_sheet) (pc := 64) dX12_sheet_64 rfl ?_
            rw [hk]
            exact ⟨rfl, rfl, SHW_e (by decide)⟩
      · have hk : shK s b n = 3 := by rw [hk0, if_pos ⟨h36, by omega⟩]
        refine ev_aload_n (X := M_X12_sheet) (pc := 43) dX12_sheet_43 rfl ?_
        refine ev_iconst (X := M_X12_sheet) (pc := 44) dX12_sheet_44 ?_
        refine ev_virtR (X := M_X12_sheet) (Y := M_X12_finds) (pc := 45) (ci := 12) dX12_sheet_45 mk_X12_finds rfl kw_1092 kw_1094 kp_5 (lO_156 hL) (m_finds hL (by decide)) rfl (by decide) rfl (Nat.le_of_ble_eq_true rfl) (Nat.zero_add _) (Nat.zero_add _) ?_
        refine ev_iret (X := M_X12_sheet) (pc := 48) dX12_sheet_48 rfl ?_
        rw [hk]
        exact ⟨rfl, rfl, SHW_e (by decide)⟩
  refine ev_iload_n (X := M_X12_sheet) (pc := 0) dX12_sheet_0 rfl ?_
  refine ev_staticR (X := M_X12_sheet) (Y := M_X12_isSheet) (pc := 1) dX12_sheet_1 mk_X12_isSheet kw_1400 kw_1401 (m_isSheet hs) rfl (by decide) rfl (Nat.le_of_ble_eq_true rfl) (Nat.zero_add _) (Nat.zero_add _) ?_
  refine ev_if_eq (X := M_X12_sheet) (pc := 4) (tgt := 29) dX12_sheet_4 (by decide) (by split <;> decide) (fun h4 => ?_) (fun h4 => ?_)
  · have hk : shK s b n = 1 := by unfold shK; rw [if_neg (fun z => by rw [if_pos (by omega)] at h4; exact absurd h4 (by decide))]
    refine ev_aload_n (X := M_X12_sheet) (pc := 29) dX12_sheet_29 rfl ?_
    refine ev_iconst (X := M_X12_sheet) (pc := 30) dX12_sheet_30 ?_
    refine ev_virtR (X := M_X12_sheet) (Y := M_X12_finds) (pc := 31) (ci := 12) dX12_sheet_31 mk_X12_finds rfl kw_1092 kw_1094 kp_5 (lO_156 hL) (m_finds hL (by decide)) rfl (by decide) rfl (Nat.le_of_ble_eq_true rfl) (Nat.zero_add _) (Nat.zero_add _) ?_
    refine ev_iret (X := M_X12_sheet) (pc := 34) dX12_sheet_34 rfl ?_
    rw [hk]
    exact ⟨rfl, rfl, SHW_e (by decide)⟩
  · have hs4 : 0 ≤ s ∧ s ≤ 3 := Decidable.byContradiction fun z => h4 (by rw [if_neg z])
    refine ev_iload_n (X := M_X12_sheet) (pc := 7) dX12_sheet_7 rfl ?_
    refine ev_if_eq (X := M_X12_sheet) (pc := 8) (tgt := 35) dX12_sheet_8 (by decide) (by omega) (fun h8 => ?_) (fun h8 => ?_)
    · exact ev_weak (main (by omega) (by omega)) ⟨rfl, rfl, rfl, rfl, trivial⟩
    · refine ev_iload_n (X := M_X12_sheet) (pc := 11) dX12_sheet_11 rfl ?_
      refine ev_bipush (X := M_X12_sheet) (pc := 12) dX12_sheet_12 (by decide) ?_
      refine ev_icmp_eq (X := M_X12_sheet) (pc := 14) (tgt := 35) dX12_sheet_14 (by decide) (by omega) (by omega) (fun h14 => ?_) (fun h14 => ?_)
      · exact ev_weak (main (by omega) (by omega)) ⟨rfl, rfl, rfl, rfl, trivial⟩
      · refine ev_iload_n (X := M_X12_sheet) (pc := 17) dX12_sheet_17 rfl ?_
        refine ev_bipush (X := M_X12_sheet) (pc := 18) dX12_sheet_18 (by decide) ?_
        refine ev_icmp_eq (X := M_X12_sheet) (pc := 20) (tgt := 35) dX12_sheet_20 (by decide) (by omega) (by omega) (fun h20 => ?_) (fun h20 => ?_)
        · exact ev_weak (main (by omega) (by omega)) ⟨rfl, rfl, rfl, rfl, trivial⟩
        · refine ev_iload_n (X := M_X12_sheet) (pc := 23) dX12_sheet_23 rfl ?_
          refine ev_bipush (X := M_X12_sheet) (pc := 24) dX12_sheet_24 (by decide) ?_
          refine ev_icmp_eq (X := M_X12_sheet) (pc := 26) (tgt := 35) dX12_sheet_26 (by decide) (by omega) (by omega) (fun h26 => ?_) (fun h26 => ?_)
          · exact ev_weak (main (by omega) (by omega)) ⟨rfl, rfl, rfl, rfl, trivial⟩
          · have hk : shK s b n = 1 := by unfold shK; rw [if_neg (fun z => by omega)]
            refine ev_aload_n (X := M_X12_sheet) (pc := 29) dX12_sheet_29 rfl ?_
            refine ev_iconst (X := M_X12_sheet) (pc := 30) dX12_sheet_30 ?_
            refine ev_virtR (X := M_X12_sheet) (Y := M_X12_finds) (pc := 31) (ci := 12) dX12_sheet_31 mk_X12_finds rfl kw_1092 kw_1094 kp_5 (lO_156 hL) (m_finds hL (by decide)) rfl (by decide) rfl (Nat.le_of_ble_eq_true rfl) (Nat.zero_add _) (Nat.zero_add _) ?_
            refine ev_iret (X := M_X12_sheet) (pc := 34) dX12_sheet_34 rfl ?_
            rw [hk]
            exact ⟨rfl, rfl, SHW_e (by decide)⟩
def pbF (b v : Int) : Int := if b = 8 then op_i2b v else if b = 16 then op_i2s v else v
def ptK (A B : Int → Int) (s i : Int) : Int := if 0 ≤ s ∧ s < 4 then (if A s = 0 then 2 else if 0 ≤ i ∧ i < B s then 0 else 1) else 1
theorem m_put {γ : Gh} {K : Sk} {V : Mm} (hL : Lay K) {s i v : Int} (hs : R32 s) (hi : R32 i) (hb : 0 ≤ s → s < 4 → (0 ≤ V 174 s ∧ V 174 s ≤ 32) ∧ (0 ≤ V 175 s ∧ V 175 s ≤ 40)) : Call γ M_X12_put 2 0 0 [vR 156, vI s, vI i, vI v] K V (Qx (some (vI (aR (ptK (V 174) (V 175) s i) 1))) K (SHW V (ptK (V 174) (V 175) s i) (V 174) (V 175) (up (V 176) (40 * s + i) (pbF (V 174 s) v)))) := by
  refine call_of (by decide +kernel) (by intro v hv; simp only [List.mem_cons, List.not_mem_nil, or_false] at hv; rcases hv with rfl | rfl | rfl | rfl <;> exact fun q => by cases q) (Nat.le_of_ble_eq_true rfl) ?_
  refine ev_lsE (ls' := [_, _, _, _]) rfl ?_
  refine ev_iload_n (X := M_X12_put) (pc := 0) dX12_put_0 rfl ?_
  refine ev_staticR (X := M_X12_put) (Y := M_X12_isSheet) (pc := 1) dX12_put_1 mk_X12_isSheet kw_1400 kw_1401 (m_isSheet hs) rfl (by decide) rfl (Nat.le_of_ble_eq_true rfl) (Nat.zero_add _) (Nat.zero_add _) ?_
  refine ev_if_ne (X := M_X12_put) (pc := 4) (tgt := 13) dX12_put_4 (by decide) (by split <;> decide) (fun h4 => ?_) (fun h4 => ?_)
  · have hs4 : 0 ≤ s ∧ s ≤ 3 := Decidable.byContradiction fun z => h4 (by rw [if_neg z])
    obtain ⟨b1, b2⟩ := hb hs4.1 (by omega)
    have hk0 : ptK (V 174) (V 175) s i = if V 174 s = 0 then 2 else if 0 ≤ i ∧ i < V 175 s then 0 else 1 := by unfold ptK; rw [if_pos (by omega)]
    refine ev_aload_n (X := M_X12_put) (pc := 13) dX12_put_13 rfl ?_
    refine ev_getRe (X := M_X12_put) (pc := 14) dX12_put_14 fl_X12_63_12 (lO_156 hL) rfl (lR_156_26 hL) ?_
    refine ev_iload_n (X := M_X12_put) (pc := 17) dX12_put_17 rfl ?_
    refine ev_iaload (X := M_X12_put) (pc := 18) dX12_put_18 (lS_174 hL) (by omega) ?_
    refine ev_if_ne (X := M_X12_put) (pc := 19) (tgt := 28) dX12_put_19 (by decide) (by omega) (fun h19 => ?_) (fun h19 => ?_)
    · rw [if_neg h19] at hk0
      refine ev_iload_n (X := M_X12_put) (pc := 28) dX12_put_28 rfl ?_
      refine ev_i2l (X := M_X12_put) (pc := 29) dX12_put_29 (by omega) ?_
      refine ev_lconst (X := M_X12_put) (pc := 30) (v := 0) dX12_put_30 (by decide) ?_
      refine ev_aload_n (X := M_X12_put) (pc := 31) dX12_put_31 rfl ?_
      refine ev_getRe (X := M_X12_put) (pc := 32) dX12_put_32 fl_X12_66_12 (lO_156 hL) rfl (lR_156_27 hL) ?_
      refine ev_iload_n (X := M_X12_put) (pc := 35) dX12_put_35 rfl ?_
      refine ev_iaload (X := M_X12_put) (pc := 36) dX12_put_36 (lS_175 hL) (by omega) ?_
      refine ev_iconst (X := M_X12_put) (pc := 37) dX12_put_37 ?_
      refine ev_isub (X := M_X12_put) (pc := 38) dX12_put_38 ?_
      refine ev_i2l (X := M_X12_put) (pc := 39) dX12_put_39 (by omega) ?_
      refine ev_staticR (X := M_X12_put) (Y := M_X12_in) (pc := 40) dX12_put_40 mk_X12_in kw_1089 kw_1090 (m_in (by omega) (by decide) (by omega)) rfl (by decide) rfl (Nat.le_of_ble_eq_true rfl) (Nat.zero_add _) (Nat.zero_add _) ?_
      refine ev_if_ne (X := M_X12_put) (pc := 43) (tgt := 52) dX12_put_43 (by decide) (by split <;> decide) (fun h43 => ?_) (fun h43 => ?_)
      · have hi3 : 0 ≤ i ∧ i ≤ V 175 s - 1 := Decidable.byContradiction fun z => h43 (by rw [if_neg z])
        have hk : ptK (V 174) (V 175) s i = 0 := by rw [hk0, if_pos (by omega)]
        refine ev_aload_n (X := M_X12_put) (pc := 52) dX12_put_52 rfl ?_
        refine ev_getRe (X := M_X12_put) (pc := 53) dX12_put_53 fl_X12_69_12 (lO_156 hL) rfl (lR_156_28 hL) ?_
        refine ev_bipush (X := M_X12_put) (pc := 56) dX12_put_56 (by decide) ?_
        refine ev_iload_n (X := M_X12_put) (pc := 58) dX12_put_58 rfl ?_
        refine ev_imul (X := M_X12_put) (pc := 59) dX12_put_59 ?_
        refine ev_iload_n (X := M_X12_put) (pc := 60) dX12_put_60 rfl ?_
        refine ev_iadd (X := M_X12_put) (pc := 61) dX12_put_61 ?_
        refine ev_aload_n (X := M_X12_put) (pc := 62) dX12_put_62 rfl ?_
        refine ev_getRe (X := M_X12_put) (pc := 63) dX12_put_63 fl_X12_63_12 (lO_156 hL) rfl (lR_156_26 hL) ?_
        refine ev_iload_n (X := M_X12_put) (pc := 66) dX12_put_66 rfl ?_
        refine ev_iaload (X := M_X12_put) (pc := 67) dX12_put_67 (lS_174 hL) (by omega) ?_
        refine ev_bipush (X := M_X12_put) (pc := 68) dX12_put_68 (by decide) ?_
        refine ev_icmp_ne (X := M_X12_put) (pc := 70) (tgt := 78) dX12_put_70 (by decide) (by omega) (by decide) (fun h70 => ?_) (fun h70 => ?_)
        · refine ev_aload_n (X := M_X12_put) (pc := 78) dX12_put_78 rfl ?_
          refine ev_getRe (X := M_X12_put) (pc := 79) dX12_put_79 fl_X12_63_12 (lO_156 hL) rfl (lR_156_26 hL) ?_
          refine ev_iload_n (X := M_X12_put) (pc := 82) dX12_put_82 rfl ?_
          refine ev_iaload (X := M_X12_put) (pc := 83) dX12_put_83 (lS_174 hL) (by omega) ?_
          refine ev_bipush (X := M_X12_put) (pc := 84) dX12_put_84 (by decide) ?_
          refine ev_icmp_ne (X := M_X12_put) (pc := 86) (tgt := 94) dX12_put_86 (by decide) (by omega) (by decide) (fun h86 => ?_) (fun h86 => ?_)
          · refine ev_iload_n (X := M_X12_put) (pc := 94) dX12_put_94 rfl ?_
            refine ev_iastore (X := M_X12_put) (pc := 95) dX12_put_95 (by decide) (lS_176 hL) (by omega) ?_
            refine ev_iconst (X := M_X12_put) (pc := 96) dX12_put_96 ?_
            refine ev_iret (X := M_X12_put) (pc := 97) dX12_put_97 rfl ?_
            rw [hk]
            have hfin : ∀ x, x = pbF (V 174 s) v → SHW V 0 (V 174) (V 175) (up (V 176) (40 * s + i) (pbF (V 174 s) v)) (wr V 176 (40 * s + i) x) := fun x hx => by
              rw [hx]
              refine ⟨by rw [wr_off (by decide)]; rfl, by rw [wr_off (by decide)]; rfl, by rw [wr_off (by decide)]; rfl, by rw [wr_row]; rfl, fun c _ _ _ c4 _ => by rw [wr_off c4]⟩
            refine ⟨rfl, rfl, hfin _ ?_⟩
            unfold pbF
            repeat' split
            all_goals first | rfl | omega
          · refine ev_iload_n (X := M_X12_put) (pc := 89) dX12_put_89 rfl ?_
            refine ev_i2s (X := M_X12_put) (pc := 90) dX12_put_90 ?_
            refine ev_goto (X := M_X12_put) (pc := 91) (tgt := 95) dX12_put_91 (by decide) ?_
            refine ev_iastore (X := M_X12_put) (pc := 95) dX12_put_95 (by decide) (lS_176 hL) (by omega) ?_
            refine ev_iconst (X := M_X12_put) (pc := 96) dX12_put_96 ?_
            refine ev_iret (X := M_X12_put) (pc := 97) dX12_put_97 rfl ?_
            rw [hk]
            have hfin : ∀ x, x = pbF (V 174 s) v → SHW V 0 (V 174) (V 175) (up (V 176) (40 * s + i) (pbF (V 174 s) v)) (wr V 176 (40 * s + i) x) := fun x hx => by
              rw [hx]
              refine ⟨by rw [wr_off (by decide)]; rfl, by rw [wr_off (by decide)]; rfl, by rw [wr_off (by decide)]; rfl, by rw [wr_row]; rfl, fun c _ _ _ c4 _ => by rw [wr_off c4]⟩
            refine ⟨rfl, rfl, hfin _ ?_⟩
            unfold pbF
            repeat' split
            all_goals first | rfl | omega
        · refine ev_iload_n (X := M_X12_put) (pc := 73) dX12_put_73 rfl ?_
          refine ev_i2b (X := M_X12_put) (pc := 74) dX12_put_74 ?_
          refine ev_goto (X := M_X12_put) (pc := 75) (tgt := 95) dX12_put_75 (by decide) ?_
          refine ev_iastore (X := M_X12_put) (pc := 95) dX12_put_95 (by decide) (lS_176 hL) (by omega) ?_
          refine ev_iconst (X := M_X12_put) (pc := 96) dX12_put_96 ?_
          refine ev_iret (X := M_X12_put) (pc := 97) dX12_put_97 rfl ?_
          rw [hk]
          have hfin : ∀ x, x = pbF (V 174 s) v → SHW V 0 (V 174) (V 175) (up (V 176) (40 * s + i) (pbF (V 174 s) v)) (wr V 176 (40 * s + i) x) := fun x hx => by
            rw [hx]
            refine ⟨by rw [wr_off (by decide)]; rfl, by rw [wr_off (by decide)]; rfl, by rw [wr_off (by decide)]; rfl, by rw [wr_row]; rfl, fun c _ _ _ c4 _ => by rw [wr_off c4]⟩
          refine ⟨rfl, rfl, hfin _ ?_⟩
          unfold pbF
          repeat' split
          all_goals first | rfl | omega
      · have hk : ptK (V 174) (V 175) s i = 1 := by rw [hk0, if_neg (fun z => by rw [if_pos (by omega)] at h43; exact absurd h43 (by decide))]
        refine ev_aload_n (X := M_X12_put) (pc := 46) dX12_put_46 rfl ?_
        refine ev_iconst (X := M_X12_put) (pc := 47) dX12_put_47 ?_
        refine ev_virtR (X := M_X12_put) (Y := M_X12_finds) (pc := 48) (ci := 12) dX12_put_48 mk_X12_finds rfl kw_1092 kw_1094 kp_5 (lO_156 hL) (m_finds hL (by decide)) rfl (by decide) rfl (Nat.le_of_ble_eq_true rfl) (Nat.zero_add _) (Nat.zero_add _) ?_
        refine ev_iret (X := M_X12_put) (pc := 51) dX12_put_51 rfl ?_
        rw [hk]
        exact ⟨rfl, rfl, SHW_e (by decide)⟩
    · have hk : ptK (V 174) (V 175) s i = 2 := by rw [hk0, if_pos h19]
      refine ev_aload_n (X := M_X12_put) (pc := 22) dX12_put_22 rfl ?_
      refine ev_iconst (X := M_X12_put) (pc := 23) dX12_put_23 ?_
      refine ev_virtR (X := M_X12_put) (Y := M_X12_finds) (pc := 24) (ci := 12) dX12_put_24 mk_X12_finds rfl kw_1092 kw_1094 kp_5 (lO_156 hL) (m_finds hL (by decide)) rfl (by decide) rfl (Nat.le_of_ble_eq_true rfl) (Nat.zero_add _) (Nat.zero_add _) ?_
      refine ev_iret (X := M_X12_put) (pc := 27) dX12_put_27 rfl ?_
      rw [hk]
      exact ⟨rfl, rfl, SHW_e (by decide)⟩
  · have hk : ptK (V 174) (V 175) s i = 1 := by unfold ptK; rw [if_neg (fun z => by rw [if_pos (by omega)] at h4; exact absurd h4 (by decide))]
    refine ev_aload_n (X := M_X12_put) (pc := 7) dX12_put_7 rfl ?_
    refine ev_iconst (X := M_X12_put) (pc := 8) dX12_put_8 ?_
    refine ev_virtR (X := M_X12_put) (Y := M_X12_finds) (pc := 9) (ci := 12) dX12_put_9 mk_X12_finds rfl kw_1092 kw_1094 kp_5 (lO_156 hL) (m_finds hL (by decide)) rfl (by decide) rfl (Nat.le_of_ble_eq_true rfl) (Nat.zero_add _) (Nat.zero_add _) ?_
    refine ev_iret (X := M_X12_put) (pc := 12) dX12_put_12 rfl ?_
    rw [hk]
    exact ⟨rfl, rfl, SHW_e (by decide)⟩
theorem m_trace {γ : Gh} {K : Sk} {V : Mm} (hL : Lay K) {D : Int → Int} (hD : V 157 = D) {i tm : Int} (hi : R32 i) (htm : V 156 24 = tm) (ht : 0 ≤ tm ∧ tm ≤ 40) : Call γ M_X12_trace 1 0 0 [vR 156, vI i] K V (Rt (some (vI (aR (if 0 ≤ i ∧ i < tm then 0 else 2) (V 173 i)))) K (mU V (aD (if 0 ≤ i ∧ i < tm then 0 else 2) D D) (if 0 ≤ i ∧ i < tm then 0 else 2))) := by
  refine call_of (by decide +kernel) (by intro v hv; simp only [List.mem_cons, List.not_mem_nil, or_false] at hv; rcases hv with rfl | rfl <;> exact fun q => by cases q) (Nat.le_of_ble_eq_true rfl) ?_
  refine ev_lsE (ls' := [_, _]) rfl ?_
  refine ev_iload_n (X := M_X12_trace) (pc := 0) dX12_trace_0 rfl ?_
  refine ev_i2l (X := M_X12_trace) (pc := 1) dX12_trace_1 (by omega) ?_
  refine ev_lconst (X := M_X12_trace) (pc := 2) (v := 0) dX12_trace_2 (by decide) ?_
  refine ev_aload_n (X := M_X12_trace) (pc := 3) dX12_trace_3 rfl ?_
  refine ev_getIe (X := M_X12_trace) (pc := 4) (ki := 24) dX12_trace_4 fl_X12_274_12 (lO_156 hL) (by decide) rfl (htm) ?_
  refine ev_iconst (X := M_X12_trace) (pc := 7) dX12_trace_7 ?_
  refine ev_isub (X := M_X12_trace) (pc := 8) dX12_trace_8 ?_
  refine ev_i2l (X := M_X12_trace) (pc := 9) dX12_trace_9 (by omega) ?_
  refine ev_staticR (X := M_X12_trace) (Y := M_X12_in) (pc := 10) dX12_trace_10 mk_X12_in kw_1089 kw_1090 (m_in (by omega) (by decide) (by omega)) rfl (by decide) rfl (Nat.le_of_ble_eq_true rfl) (Nat.zero_add _) (Nat.zero_add _) ?_
  refine ev_if_eq (X := M_X12_trace) (pc := 13) (tgt := 25) dX12_trace_13 (by decide) (by split <;> decide) (fun h13 => ?_) (fun h13 => ?_)
  · have hno : ¬ (0 ≤ i ∧ i < tm) := fun z => by rw [if_pos (by omega)] at h13; exact absurd h13 (by decide)
    refine ev_aload_n (X := M_X12_trace) (pc := 25) dX12_trace_25 rfl ?_
    refine ev_iconst (X := M_X12_trace) (pc := 26) dX12_trace_26 ?_
    refine ev_virtR (X := M_X12_trace) (Y := M_X12_finds) (pc := 27) (ci := 12) dX12_trace_27 mk_X12_finds rfl kw_1092 kw_1094 kp_5 (lO_156 hL) (m_finds hL (by decide)) rfl (by decide) rfl (Nat.le_of_ble_eq_true rfl) (Nat.zero_add _) (Nat.zero_add _) ?_
    refine ev_iret (X := M_X12_trace) (pc := 30) dX12_trace_30 rfl ?_
    first
      | (rw [if_pos hye]
         exact ⟨rfl, rfl, mU_n hD⟩)
      | (rw [if_neg hno]
         exact ⟨rfl, rfl, mU_e hD (by decide)⟩)
  · have hy1 : 0 ≤ i ∧ i ≤ tm - 1 := Decidable.byContradiction fun z => h13 (by rw [if_neg z])
    have hye : 0 ≤ i ∧ i < tm := by omega
    refine ev_aload_n (X := M_X12_trace) (pc := 16) dX12_trace_16 rfl ?_
    refine ev_getRe (X := M_X12_trace) (pc := 17) dX12_trace_17 fl_X12_60_12 (lO_156 hL) rfl (lR_156_23 hL) ?_
    refine ev_iload_n (X := M_X12_trace) (pc := 20) dX12_trace_20 rfl ?_
    refine ev_iaload (X := M_X12_trace) (pc := 21) dX12_trace_21 (lS_173 hL) (by omega) ?_
    refine ev_goto (X := M_X12_trace) (pc := 22) (tgt := 30) dX12_trace_22 (by decide) ?_
    refine ev_iret (X := M_X12_trace) (pc := 30) dX12_trace_30 rfl ?_
    first
      | (rw [if_pos hye]
         exact ⟨rfl, rfl, mU_n hD⟩)
      | (rw [if_neg hno]
         exact ⟨rfl, rfl, mU_e hD (by decide)⟩)
theorem cp_0 {f g : Int → Int} : cpy f g 0 0 0 = g := by
  funext j
  unfold cpy
  rw [if_neg (by omega)]
theorem m_copies {γ : Gh} {K : Sk} {V : Mm} {a b : Nat} (ha : K.1 a = (1, 200)) (hb : K.1 b = (1, 200)) (hab : a ≠ b) (hg : 100 ≤ b) : Call γ M_X12_copies 0 0 0 [vR a, vR b] K V (Rt none K (setr V b (cpy (V a) (V b) 0 0 200))) := by
  refine call_of (by decide +kernel) (by intro v hv; simp only [List.mem_cons, List.not_mem_nil, or_false] at hv; rcases hv with rfl | rfl <;> exact fun q => by cases q) (Nat.le_of_ble_eq_true rfl) ?_
  refine ev_lsE (ls' := [_, _, _]) rfl ?_
  refine ev_iconst (X := M_X12_copies) (pc := 0) dX12_copies_0 ?_
  refine ev_istore_nL (X := M_X12_copies) (pc := 1) (ls' := [_, _, _]) dX12_copies_1 (by decide) rfl ?_
  refine ev_weak (ev_while (σ := Int × Mm) (fun z => 0 ≤ z.1 ∧ z.1 ≤ 200 ∧ z.2 = setr V b (cpy (V a) (V b) 0 0 z.1)) (fun z => (200 - z.1).toNat) (fun z => [vR a, vR b, vI z.1]) (fun _ => K) (fun z => z.2) ?_ (0, V) ⟨Int.le_refl 0, by show (0 : Int) ≤ 200; decide, by show V = setr V b (cpy (V a) (V b) 0 0 0); rw [cp_0, setr_id]⟩) ⟨rfl, rfl, rfl, trivial⟩
  rintro ⟨i, W⟩ ⟨i0, i1, hW⟩ ih
  dsimp only at i0 i1 hW ih ⊢
  have hWa : W a i = V a i := by rw [hW, setr_ne hab]
  refine ev_iload_n (X := M_X12_copies) (pc := 2) dX12_copies_2 rfl ?_
  refine ev_sipush (X := M_X12_copies) (pc := 3) dX12_copies_3 (by decide) ?_
  refine ev_icmp_ge (X := M_X12_copies) (pc := 6) (tgt := 21) dX12_copies_6 (by decide) (by omega) (by omega) (fun h6 => ?_) (fun h6 => ?_)
  · refine ev_vret (X := M_X12_copies) (pc := 21) dX12_copies_21 rfl ?_
    rw [show i = 200 by omega] at hW
    exact ⟨rfl, rfl, hW⟩
  · refine ev_aload_n (X := M_X12_copies) (pc := 9) dX12_copies_9 rfl ?_
    refine ev_iload_n (X := M_X12_copies) (pc := 10) dX12_copies_10 rfl ?_
    refine ev_aload_n (X := M_X12_copies) (pc := 11) dX12_copies_11 rfl ?_
    refine ev_iload_n (X := M_X12_copies) (pc := 12) dX12_copies_12 rfl ?_
    refine ev_ialoadE (X := M_X12_copies) (pc := 13) dX12_copies_13 ha (by omega) (hWa) ?_
    refine ev_iastore (X := M_X12_copies) (pc := 14) dX12_copies_14 hg hb (by omega) ?_
    refine ev_iincL (X := M_X12_copies) (pc := 15) (ls' := [_, _, _]) dX12_copies_15 rfl (by decide) rfl ?_
    refine ev_goto (X := M_X12_copies) (pc := 18) (tgt := 2) dX12_copies_18 (by decide) ?_
    refine ev_weak (ih (i + 1, wr W b i (V a i)) ⟨by omega, by omega, ?_⟩ (by show (200 - (i + 1)).toNat < (200 - i).toNat; omega)) ⟨rfl, rfl, rfl, trivial⟩
    show wr W b i (V a i) = setr V b (cpy (V a) (V b) 0 0 (i + 1))
    rw [hW, wr_setr]
    have e : up (cpy (V a) (V b) 0 0 i) i (V a i) = cpy (V a) (V b) 0 0 (i + 1) := by
      funext j
      unfold cpy
      by_cases z : j = i
      · rw [z, up_self, if_pos (by omega), show 0 + (i - 0) = i by omega]
      · rw [up_ne z]
        by_cases y : 0 ≤ j ∧ j < 0 + i
        · rw [if_pos y, if_pos (by omega)]
        · rw [if_neg y, if_neg (by omega)]
    rw [e]
theorem m_image {γ : Gh} {K : Sk} {V : Mm} (hL : Lay K) : Call γ M_X12_image 1 0 0 [vR 156] K V (Rt (some (vI (V 156 2 + 1))) K (wr (setr V 158 (cpy (V 157) (V 158) 0 0 200)) 156 2 (V 156 2 + 1))) := by
  refine call_of (by decide +kernel) (by intro v hv; simp only [List.mem_cons, List.not_mem_nil, or_false] at hv; rcases hv with rfl <;> exact fun q => by cases q) (Nat.le_of_ble_eq_true rfl) ?_
  refine ev_lsE (ls' := [_]) rfl ?_
  have e : setr V 158 (cpy (V 157) (V 158) 0 0 200) 156 2 = V 156 2 := by rw [setr_ne (by decide)]
  refine ev_aload_n (X := M_X12_image) (pc := 0) dX12_image_0 rfl ?_
  refine ev_getRe (X := M_X12_image) (pc := 1) dX12_image_1 fl_X12_7_12 (lO_156 hL) rfl (lR_156_0 hL) ?_
  refine ev_aload_n (X := M_X12_image) (pc := 4) dX12_image_4 rfl ?_
  refine ev_getRe (X := M_X12_image) (pc := 5) dX12_image_5 fl_X12_13_12 (lO_156 hL) rfl (lR_156_1 hL) ?_
  refine ev_staticV (X := M_X12_image) (Y := M_X12_copies) (pc := 8) dX12_image_8 mk_X12_copies kw_1419 kw_1420 (m_copies (lS_157 hL) (lS_158 hL) (by decide) (by decide)) rfl (by decide) rfl (Nat.le_of_ble_eq_true rfl) (Nat.zero_add _) (Nat.zero_add _) ?_
  refine ev_aload_n (X := M_X12_image) (pc := 11) dX12_image_11 rfl ?_
  refine ev_dup (X := M_X12_image) (pc := 12) dX12_image_12 (fun _ q => by cases q) ?_
  refine ev_getIe (X := M_X12_image) (pc := 13) (ki := 2) dX12_image_13 fl_X12_307_12 (lO_156 hL) (by decide) rfl (e) ?_
  refine ev_iconst (X := M_X12_image) (pc := 16) dX12_image_16 ?_
  refine ev_iadd (X := M_X12_image) (pc := 17) dX12_image_17 ?_
  refine ev_putI (X := M_X12_image) (pc := 18) (ki := 2) dX12_image_18 fl_X12_307_12 (by decide) (lO_156 hL) (fun _ h q => by cases h; cases q) (Or.inl rfl) rfl ?_
  refine ev_aload_n (X := M_X12_image) (pc := 21) dX12_image_21 rfl ?_
  refine ev_getIe (X := M_X12_image) (pc := 22) (ki := 2) dX12_image_22 fl_X12_307_12 (lO_156 hL) (by decide) rfl (wr_self) ?_
  refine ev_iret (X := M_X12_image) (pc := 25) dX12_image_25 rfl ?_
  exact ⟨rfl, rfl, rfl⟩
theorem m_restore {γ : Gh} {K : Sk} {V : Mm} (hL : Lay K) {D : Int → Int} (hD : V 157 = D) (hi : 0 ≤ V 156 2 ∧ V 156 2 < 1000000) : Call γ M_X12_restore 1 0 0 [vR 156] K V (Rt (some (vI (aR (if V 156 2 = 0 then 2 else 0) (nowS (V 158))))) K (mU V (aD (if V 156 2 = 0 then 2 else 0) D (cpy (V 158) D 0 0 200)) (if V 156 2 = 0 then 2 else 0))) := by
  refine call_of (by decide +kernel) (by intro v hv; simp only [List.mem_cons, List.not_mem_nil, or_false] at hv; rcases hv with rfl <;> exact fun q => by cases q) (Nat.le_of_ble_eq_true rfl) ?_
  refine ev_lsE (ls' := [_]) rfl ?_
  refine ev_aload_n (X := M_X12_restore) (pc := 0) dX12_restore_0 rfl ?_
  refine ev_getI (X := M_X12_restore) (pc := 1) (ki := 2) dX12_restore_1 fl_X12_307_12 (lO_156 hL) (by decide) rfl ?_
  refine ev_if_ne (X := M_X12_restore) (pc := 4) (tgt := 13) dX12_restore_4 (by decide) (by omega) (fun h4 => ?_) (fun h4 => ?_)
  · have hk : (if V 156 2 = 0 then (2 : Int) else 0) = 0 := if_neg h4
    refine ev_aload_n (X := M_X12_restore) (pc := 13) dX12_restore_13 rfl ?_
    refine ev_getRe (X := M_X12_restore) (pc := 14) dX12_restore_14 fl_X12_13_12 (lO_156 hL) rfl (lR_156_1 hL) ?_
    refine ev_aload_n (X := M_X12_restore) (pc := 17) dX12_restore_17 rfl ?_
    refine ev_getRe (X := M_X12_restore) (pc := 18) dX12_restore_18 fl_X12_7_12 (lO_156 hL) rfl (lR_156_0 hL) ?_
    refine ev_staticV (X := M_X12_restore) (Y := M_X12_copies) (pc := 21) dX12_restore_21 mk_X12_copies kw_1419 kw_1420 (m_copies (lS_158 hL) (lS_157 hL) (by decide) (by decide)) rfl (by decide) rfl (Nat.le_of_ble_eq_true rfl) (Nat.zero_add _) (Nat.zero_add _) ?_
    refine ev_aload_n (X := M_X12_restore) (pc := 24) dX12_restore_24 rfl ?_
    refine ev_virtR (X := M_X12_restore) (Y := M_X12_now) (pc := 25) (ci := 12) dX12_restore_25 mk_X12_now rfl kw_1168 kw_1170 kp_18 (lO_156 hL) (m_now hL) rfl (by decide) rfl (Nat.le_of_ble_eq_true rfl) (Nat.zero_add _) (Nat.zero_add _) ?_
    refine ev_iret (X := M_X12_restore) (pc := 28) dX12_restore_28 rfl ?_
    rw [hk]
    refine ⟨congrArg (fun z => some (vI z)) ?_, rfl, mU_o (by rw [hD])⟩
    rw [setr_self]
    rfl
  · have hk : (if V 156 2 = 0 then (2 : Int) else 0) = 2 := if_pos h4
    refine ev_aload_n (X := M_X12_restore) (pc := 7) dX12_restore_7 rfl ?_
    refine ev_iconst (X := M_X12_restore) (pc := 8) dX12_restore_8 ?_
    refine ev_virtR (X := M_X12_restore) (Y := M_X12_finds) (pc := 9) (ci := 12) dX12_restore_9 mk_X12_finds rfl kw_1092 kw_1094 kp_5 (lO_156 hL) (m_finds hL (by decide)) rfl (by decide) rfl (Nat.le_of_ble_eq_true rfl) (Nat.zero_add _) (Nat.zero_add _) ?_
    refine ev_iret (X := M_X12_restore) (pc := 12) dX12_restore_12 rfl ?_
    rw [hk]
    exact ⟨rfl, rfl, mU_e hD (by decide)⟩
