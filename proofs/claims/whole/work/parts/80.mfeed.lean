theorem byte_r (y : Int) : 0 ≤ op_land y 255 ∧ op_land y 255 < 256 := by
  unfold op_land
  have hn : (Int64.ofInt y &&& Int64.ofInt 255).toBitVec.toNat ≤ 255 := by
    rw [Int64.toBitVec_and, BitVec.toNat_and]
    have h5 : (Int64.ofInt 255).toBitVec.toNat = 255 := by decide
    rw [h5]
    exact Nat.and_le_right
  have e : (Int64.ofInt y &&& Int64.ofInt 255).toInt = ((Int64.ofInt y &&& Int64.ofInt 255).toBitVec.toNat : Int) := by
    show (Int64.ofInt y &&& Int64.ofInt 255).toBitVec.toInt = _
    exact BitVec.toInt_eq_toNat_of_lt (by omega)
  rw [e]
  omega
def bytF (w k : Int) : Int := op_land (op_lshr w (8 * k)) 255
def fdD (D : Int → Int) (w : Int) : Nat → Int → Int
  | 0 => D
  | k + 1 => up (up (fdD D w k) (148 + (D 24 + k)) (bytF w k)) 24 (D 24 + k + 1)
theorem fdD_24 {D : Int → Int} {w : Int} (k : Nat) : fdD D w k 24 = D 24 + k := by
  cases k with
  | zero => show D 24 = D 24 + ((0 : Nat) : Int); omega
  | succ k =>
    show up (up (fdD D w k) (148 + (D 24 + k)) (bytF w k)) 24 (D 24 + k + 1) 24 = _
    rw [up_self]
    omega
def fdK (D : Int → Int) (n : Int) : Int := if 1 ≤ n ∧ n ≤ 8 then (if 50 < D 24 + n then 4 else 0) else 1
theorem m_feed {γ : Gh} {K : Sk} {V : Mm} (hL : Lay K) {D : Int → Int} (hD : V 157 = D) (h24 : 0 ≤ D 24 ∧ D 24 ≤ 50) {w n : Int} (hn : R32 n) : Call γ M_X12_feed 1 0 0 [vR 156, vL w, vI n] K V (Rt (some (vI (aR (fdK D n) (D 24 + n)))) K (mU V (aD (fdK D n) D (fdD D w n.toNat)) (fdK D n))) := by
  refine call_of (by decide +kernel) (by intro v hv; simp only [List.mem_cons, List.not_mem_nil, or_false] at hv; rcases hv with rfl | rfl | rfl <;> exact fun q => by cases q) (Nat.le_of_ble_eq_true rfl) ?_
  refine ev_lsE (ls' := [_, _, _, _, _]) rfl ?_
  refine ev_iload_n (X := M_X12_feed) (pc := 0) dX12_feed_0 rfl ?_
  refine ev_i2l (X := M_X12_feed) (pc := 1) dX12_feed_1 (by omega) ?_
  refine ev_lconst (X := M_X12_feed) (pc := 2) (v := 1) dX12_feed_2 (by decide) ?_
  refine ev_ldc2 (X := M_X12_feed) (pc := 3) (v := 8) dX12_feed_3 kw_1088 (by decide) ?_
  refine ev_staticR (X := M_X12_feed) (Y := M_X12_in) (pc := 6) dX12_feed_6 mk_X12_in kw_1089 kw_1090 (m_in (by omega) (by decide) (by decide)) rfl (by decide) rfl (Nat.le_of_ble_eq_true rfl) (Nat.zero_add _) (Nat.zero_add _) ?_
  refine ev_if_ne (X := M_X12_feed) (pc := 9) (tgt := 18) dX12_feed_9 (by decide) (by split <;> decide) (fun h9 => ?_) (fun h9 => ?_)
  · have hn8 : 1 ≤ n ∧ n ≤ 8 := Decidable.byContradiction fun z => h9 (by rw [if_neg z])
    have hk0 : fdK D n = if 50 < D 24 + n then 4 else 0 := by unfold fdK; rw [if_pos hn8]
    refine ev_aload_n (X := M_X12_feed) (pc := 18) dX12_feed_18 rfl ?_
    refine ev_getRe (X := M_X12_feed) (pc := 19) dX12_feed_19 fl_X12_7_12 (lO_156 hL) rfl (lR_156_0 hL) ?_
    refine ev_bipush (X := M_X12_feed) (pc := 22) dX12_feed_22 (by decide) ?_
    refine ev_ialoadE (X := M_X12_feed) (pc := 24) dX12_feed_24 (lS_157 hL) (by omega) (congrFun hD _) ?_
    refine ev_iload_n (X := M_X12_feed) (pc := 25) dX12_feed_25 rfl ?_
    refine ev_iadd (X := M_X12_feed) (pc := 26) dX12_feed_26 ?_
    refine ev_bipush (X := M_X12_feed) (pc := 27) dX12_feed_27 (by decide) ?_
    refine ev_icmp_le (X := M_X12_feed) (pc := 29) (tgt := 38) dX12_feed_29 (by decide) (by omega) (by decide) (fun h29 => ?_) (fun h29 => ?_)
    · have hk : fdK D n = 0 := by rw [hk0, if_neg (by omega)]
      rw [hk]
      refine ev_iconst (X := M_X12_feed) (pc := 38) dX12_feed_38 ?_
      refine ev_istoreL (X := M_X12_feed) (pc := 39) (ls' := [_, _, _, _, _]) dX12_feed_39 (by decide) rfl ?_
      refine ev_weak (ev_while (σ := Nat × Mm) (fun z => (z.1 : Int) ≤ n ∧ z.2 = setr V 157 (fdD D w z.1)) (fun z => n.toNat - z.1) (fun z => [vR 156, vL w, vU, vI n, vI z.1]) (fun _ => K) (fun z => z.2) ?_ (0, V) ⟨by show ((0 : Nat) : Int) ≤ n; omega, by show V = setr V 157 D; rw [← hD, setr_id]⟩) ⟨rfl, rfl, rfl, rfl, trivial⟩
      rintro ⟨k, W⟩ ⟨k1, hW⟩ ih
      dsimp only at k1 hW ih ⊢
      have h24k : W 157 24 = D 24 + k := by rw [hW, setr_self]; exact fdD_24 k
      refine ev_iload (X := M_X12_feed) (pc := 41) dX12_feed_41 rfl ?_
      refine ev_iload_n (X := M_X12_feed) (pc := 43) dX12_feed_43 rfl ?_
      refine ev_icmp_ge (X := M_X12_feed) (pc := 44) (tgt := 92) dX12_feed_44 (by decide) (by omega) (by omega) (fun h44 => ?_) (fun h44 => ?_)
      · have hkn : n.toNat = k := by omega
        rw [hkn]
        refine ev_aload_n (X := M_X12_feed) (pc := 92) dX12_feed_92 rfl ?_
        refine ev_getRe (X := M_X12_feed) (pc := 93) dX12_feed_93 fl_X12_7_12 (lO_156 hL) rfl (lR_156_0 hL) ?_
        refine ev_bipush (X := M_X12_feed) (pc := 96) dX12_feed_96 (by decide) ?_
        refine ev_ialoadE (X := M_X12_feed) (pc := 98) dX12_feed_98 (lS_157 hL) (by omega) (h24k) ?_
        refine ev_iret (X := M_X12_feed) (pc := 99) dX12_feed_99 rfl ?_
        refine ⟨congrArg (fun z => some (vI z)) ?_, rfl, mU_o hW⟩
        show D 24 + (k : Int) = D 24 + n
        omega
      · refine ev_aload_n (X := M_X12_feed) (pc := 47) dX12_feed_47 rfl ?_
        refine ev_getRe (X := M_X12_feed) (pc := 48) dX12_feed_48 fl_X12_7_12 (lO_156 hL) rfl (lR_156_0 hL) ?_
        refine ev_sipush (X := M_X12_feed) (pc := 51) dX12_feed_51 (by decide) ?_
        refine ev_aload_n (X := M_X12_feed) (pc := 54) dX12_feed_54 rfl ?_
        refine ev_getRe (X := M_X12_feed) (pc := 55) dX12_feed_55 fl_X12_7_12 (lO_156 hL) rfl (lR_156_0 hL) ?_
        refine ev_bipush (X := M_X12_feed) (pc := 58) dX12_feed_58 (by decide) ?_
        refine ev_ialoadE (X := M_X12_feed) (pc := 60) dX12_feed_60 (lS_157 hL) (by omega) (h24k) ?_
        refine ev_iadd (X := M_X12_feed) (pc := 61) dX12_feed_61 ?_
        refine ev_lload_n (X := M_X12_feed) (pc := 62) dX12_feed_62 rfl ?_
        refine ev_bipush (X := M_X12_feed) (pc := 63) dX12_feed_63 (by decide) ?_
        refine ev_iload (X := M_X12_feed) (pc := 65) dX12_feed_65 rfl ?_
        refine ev_imul (X := M_X12_feed) (pc := 67) dX12_feed_67 ?_
        refine ev_lshr (X := M_X12_feed) (pc := 68) dX12_feed_68 ?_
        refine ev_ldc2 (X := M_X12_feed) (pc := 69) (v := 255) dX12_feed_69 kw_1097 (by decide) ?_
        refine ev_land (X := M_X12_feed) (pc := 72) dX12_feed_72 ?_
        refine ev_l2i (X := M_X12_feed) (pc := 73) dX12_feed_73 ?_
        refine ev_iastore (X := M_X12_feed) (pc := 74) dX12_feed_74 (by decide) (lS_157 hL) (by omega) ?_
        have eb : op_land (op_lshr w (8 * (k : Int))) 255 = bytF w k := rfl
        rw [eb]
        have h24b : wr W 157 (148 + (D 24 + (k : Int))) (bytF w k) 157 24 = D 24 + k := by rw [wr_row, up_ne (by omega)]; exact h24k
        refine ev_aload_n (X := M_X12_feed) (pc := 75) dX12_feed_75 rfl ?_
        refine ev_getRe (X := M_X12_feed) (pc := 76) dX12_feed_76 fl_X12_7_12 (lO_156 hL) rfl (lR_156_0 hL) ?_
        refine ev_bipush (X := M_X12_feed) (pc := 79) dX12_feed_79 (by decide) ?_
        refine ev_dup2 (X := M_X12_feed) (pc := 81) dX12_feed_81 (fun _ q => by cases q) (fun _ q => by cases q) ?_
        refine ev_ialoadE (X := M_X12_feed) (pc := 82) dX12_feed_82 (lS_157 hL) (by omega) (h24b) ?_
        refine ev_iconst (X := M_X12_feed) (pc := 83) dX12_feed_83 ?_
        refine ev_iadd (X := M_X12_feed) (pc := 84) dX12_feed_84 ?_
        refine ev_iastore (X := M_X12_feed) (pc := 85) dX12_feed_85 (by decide) (lS_157 hL) (by omega) ?_
        refine ev_iincL (X := M_X12_feed) (pc := 86) (ls' := [_, _, _, _, _]) dX12_feed_86 rfl (by decide) rfl ?_
        refine ev_goto (X := M_X12_feed) (pc := 89) (tgt := 41) dX12_feed_89 (by decide) ?_
        refine ev_weak (ih (k + 1, wr (wr W 157 (148 + (D 24 + (k : Int))) (bytF w k)) 157 24 (D 24 + k + 1)) ⟨by show ((k + 1 : Nat) : Int) ≤ n; omega, ?_⟩ (by show n.toNat - (k + 1) < n.toNat - k; omega)) ⟨rfl, rfl, rfl, congrArg vI (by omega), trivial⟩
        show wr (wr W 157 (148 + (D 24 + (k : Int))) (bytF w k)) 157 24 (D 24 + k + 1) = setr V 157 (fdD D w (k + 1))
        rw [hW, wr_setr, wr_setr]
        rfl
    · have hk : fdK D n = 4 := by rw [hk0, if_pos (by omega)]
      refine ev_aload_n (X := M_X12_feed) (pc := 32) dX12_feed_32 rfl ?_
      refine ev_iconst (X := M_X12_feed) (pc := 33) dX12_feed_33 ?_
      refine ev_virtR (X := M_X12_feed) (Y := M_X12_finds) (pc := 34) (ci := 12) dX12_feed_34 mk_X12_finds rfl kw_1092 kw_1094 kp_5 (lO_156 hL) (m_finds hL (by decide)) rfl (by decide) rfl (Nat.le_of_ble_eq_true rfl) (Nat.zero_add _) (Nat.zero_add _) ?_
      refine ev_iret (X := M_X12_feed) (pc := 37) dX12_feed_37 rfl ?_
      rw [hk]
      exact ⟨rfl, rfl, mU_e hD (by decide)⟩
  · have hk : fdK D n = 1 := by unfold fdK; rw [if_neg (fun z => by rw [if_pos z] at h9; exact absurd h9 (by decide))]
    refine ev_aload_n (X := M_X12_feed) (pc := 12) dX12_feed_12 rfl ?_
    refine ev_iconst (X := M_X12_feed) (pc := 13) dX12_feed_13 ?_
    refine ev_virtR (X := M_X12_feed) (Y := M_X12_finds) (pc := 14) (ci := 12) dX12_feed_14 mk_X12_finds rfl kw_1092 kw_1094 kp_5 (lO_156 hL) (m_finds hL (by decide)) rfl (by decide) rfl (Nat.le_of_ble_eq_true rfl) (Nat.zero_add _) (Nat.zero_add _) ?_
    refine ev_iret (X := M_X12_feed) (pc := 17) dX12_feed_17 rfl ?_
    rw [hk]
    exact ⟨rfl, rfl, mU_e hD (by decide)⟩
