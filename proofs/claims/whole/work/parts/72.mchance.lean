theorem zD_r (z : Int) : 0 ≤ zD z ∧ zD z < 16777216 := by
  unfold zD op_iushr
  generalize (Int32.ofInt (zN z)).toUInt32 = u
  have h8 : ((Int32.ofInt 8).toUInt32 &&& Int32.toUInt32 31) = 8 := by decide
  rw [h8]
  have hn : (u >>> (8 : UInt32)).toBitVec.toNat < 16777216 := by
    show (u >>> (8 : UInt32)).toNat < 16777216
    rw [UInt32.toNat_shiftRight]
    have hu := u.toNat_lt
    have h3 : (8 : UInt32).toNat % 32 = 8 := by decide
    rw [h3, Nat.shiftRight_eq_div_pow]
    omega
  have e : ((u >>> (8 : UInt32)).toInt32).toInt = ((u >>> (8 : UInt32)).toBitVec.toNat : Int) := by
    show (u >>> (8 : UInt32)).toBitVec.toInt = _
    exact BitVec.toInt_eq_toNat_of_lt (by omega)
  rw [e]
  omega
theorem m_drawn {γ : Gh} {K : Sk} {V : Mm} (hL : Lay K) {D : Int → Int} (hD : V 157 = D) : Call γ M_X12_drawn 0 0 0 [vR 156] K V (Rt (some (vI (zD (D 23)))) K (setr V 157 (up D 23 (zN (D 23))))) := by
  refine call_of (by decide +kernel) (by intro v hv; simp only [List.mem_cons, List.not_mem_nil, or_false] at hv; rcases hv with rfl <;> exact fun q => by cases q) (Nat.le_of_ble_eq_true rfl) ?_
  refine ev_lsE (ls' := [_]) rfl ?_
  refine ev_aload_n (X := M_X12_drawn) (pc := 0) dX12_drawn_0 rfl ?_
  refine ev_getRe (X := M_X12_drawn) (pc := 1) dX12_drawn_1 fl_X12_7_12 (lO_156 hL) rfl (lR_156_0 hL) ?_
  refine ev_bipush (X := M_X12_drawn) (pc := 4) dX12_drawn_4 (by decide) ?_
  refine ev_aload_n (X := M_X12_drawn) (pc := 6) dX12_drawn_6 rfl ?_
  refine ev_getRe (X := M_X12_drawn) (pc := 7) dX12_drawn_7 fl_X12_7_12 (lO_156 hL) rfl (lR_156_0 hL) ?_
  refine ev_bipush (X := M_X12_drawn) (pc := 10) dX12_drawn_10 (by decide) ?_
  refine ev_ialoadE (X := M_X12_drawn) (pc := 12) dX12_drawn_12 (lS_157 hL) (by omega) (congrFun hD _) ?_
  refine ev_ldc (X := M_X12_drawn) (pc := 13) (v := 1103515245) dX12_drawn_13 kw_1272 (by decide) ?_
  refine ev_imul (X := M_X12_drawn) (pc := 15) dX12_drawn_15 ?_
  refine ev_sipush (X := M_X12_drawn) (pc := 16) dX12_drawn_16 (by decide) ?_
  refine ev_iadd (X := M_X12_drawn) (pc := 19) dX12_drawn_19 ?_
  refine ev_iastore (X := M_X12_drawn) (pc := 20) dX12_drawn_20 (by decide) (lS_157 hL) (by omega) ?_
  refine ev_aload_n (X := M_X12_drawn) (pc := 21) dX12_drawn_21 rfl ?_
  refine ev_getRe (X := M_X12_drawn) (pc := 22) dX12_drawn_22 fl_X12_7_12 (lO_156 hL) rfl (lR_156_0 hL) ?_
  refine ev_bipush (X := M_X12_drawn) (pc := 25) dX12_drawn_25 (by decide) ?_
  refine ev_ialoadE (X := M_X12_drawn) (pc := 27) dX12_drawn_27 (lS_157 hL) (by omega) (wr_self) ?_
  refine ev_bipush (X := M_X12_drawn) (pc := 28) dX12_drawn_28 (by decide) ?_
  refine ev_iushr (X := M_X12_drawn) (pc := 30) dX12_drawn_30 ?_
  refine ev_iret (X := M_X12_drawn) (pc := 31) dX12_drawn_31 rfl ?_
  exact ⟨rfl, rfl, by rw [← hD]; rfl⟩
def soF (D : Int → Int) (i w : Int) : Int := if i < D 0 - (if w = 0 then 1 else 0) then 0 else if i - (D 0 - (if w = 0 then 1 else 0)) < D 1 - (if w = 1 then 1 else 0) then 1 else 2
theorem m_sortOf {γ : Gh} {K : Sk} {V : Mm} (hL : Lay K) {D : Int → Int} (hD : V 157 = D) (hct : DCnt D) {i w : Int} (hi : 0 ≤ i ∧ i < 2147483647) (hw : -1 ≤ w ∧ w < 3) : Call γ M_X12_sortOf 0 0 0 [vR 156, vI i, vI w] K V (Rt (some (vI (soF D i w))) K V) := by
  refine call_of (by decide +kernel) (by intro v hv; simp only [List.mem_cons, List.not_mem_nil, or_false] at hv; rcases hv with rfl | rfl | rfl <;> exact fun q => by cases q) (Nat.le_of_ble_eq_true rfl) ?_
  refine ev_lsE (ls' := [_, _, _, _, _, _]) rfl ?_
  have hct2 : 0 ≤ D 0 ∧ 0 ≤ D 1 ∧ 0 ≤ D 2 ∧ D 0 + D 1 + D 2 ≤ 12 := hct
  have d0 : V 157 (0 + 0) = D 0 := by rw [hD]; rfl
  have d1 : V 157 (0 + (0 + 1)) = D 1 := by rw [hD]; rfl
  have tail1 : i ≥ D 0 - (if w = 0 then 1 else 0) → Ev γ M_X12_sortOf 0 0 0 5 [vR 156, vI i, vI w, vI (i - (D 0 - (if w = 0 then 1 else 0))), vI (0 + 1), vU] [] K V (Rt (some (vI (soF D i w))) K V) := by
    intro hge
    obtain ⟨j, hj⟩ : ∃ j, j = i - (D 0 - (if w = 0 then 1 else 0)) := ⟨_, rfl⟩
    have hj0 : 0 ≤ j ∧ j < 2147483648 := by rw [hj]; split at hge <;> split <;> omega
    have hso : soF D i w = if j < D 1 - (if w = 1 then 1 else 0) then 1 else 2 := by unfold soF; rw [if_neg (by omega), hj]
    rw [← hj]
    refine ev_iload (X := M_X12_sortOf) (pc := 5) dX12_sortOf_5 rfl ?_
    refine ev_iconst (X := M_X12_sortOf) (pc := 7) dX12_sortOf_7 ?_
    refine ev_icmp_ge (X := M_X12_sortOf) (pc := 8) (tgt := 54) dX12_sortOf_8 (by decide) (by decide) (by decide) (fun h8 => ?_) (fun h8 => ?_)
    · exact absurd h8 (by decide)
    · refine ev_aload_n (X := M_X12_sortOf) (pc := 11) dX12_sortOf_11 rfl ?_
      refine ev_getRe (X := M_X12_sortOf) (pc := 12) dX12_sortOf_12 fl_X12_7_12 (lO_156 hL) rfl (lR_156_0 hL) ?_
      refine ev_iconst (X := M_X12_sortOf) (pc := 15) dX12_sortOf_15 ?_
      refine ev_iload (X := M_X12_sortOf) (pc := 16) dX12_sortOf_16 rfl ?_
      refine ev_iadd (X := M_X12_sortOf) (pc := 18) dX12_sortOf_18 ?_
      refine ev_ialoadE (X := M_X12_sortOf) (pc := 19) dX12_sortOf_19 (lS_157 hL) (by omega) (d1) ?_
      refine ev_iload (X := M_X12_sortOf) (pc := 20) dX12_sortOf_20 rfl ?_
      refine ev_iload_n (X := M_X12_sortOf) (pc := 22) dX12_sortOf_22 rfl ?_
      refine ev_icmp_ne (X := M_X12_sortOf) (pc := 23) (tgt := 30) dX12_sortOf_23 (by decide) (by decide) (by omega) (fun h23 => ?_) (fun h23 => ?_)
      · refine ev_iconst (X := M_X12_sortOf) (pc := 30) dX12_sortOf_30 ?_
        refine ev_isub (X := M_X12_sortOf) (pc := 31) dX12_sortOf_31 ?_
        refine ev_istoreL (X := M_X12_sortOf) (pc := 32) (ls' := [_, _, _, _, _, _]) dX12_sortOf_32 (by decide) rfl ?_
        refine ev_iload_n (X := M_X12_sortOf) (pc := 34) dX12_sortOf_34 rfl ?_
        refine ev_iload (X := M_X12_sortOf) (pc := 35) dX12_sortOf_35 rfl ?_
        refine ev_icmp_ge (X := M_X12_sortOf) (pc := 37) (tgt := 43) dX12_sortOf_37 (by decide) (by omega) (by omega) (fun h37 => ?_) (fun h37 => ?_)
        · first
            | (have hr : soF D i w = 2 := by rw [hso, if_neg (by rw [if_pos (by omega)]; omega)])
            | (have hr : soF D i w = 2 := by rw [hso, if_neg (by rw [if_neg (by omega)]; omega)])
          refine ev_iload_n (X := M_X12_sortOf) (pc := 43) dX12_sortOf_43 rfl ?_
          refine ev_iload (X := M_X12_sortOf) (pc := 44) dX12_sortOf_44 rfl ?_
          refine ev_isub (X := M_X12_sortOf) (pc := 46) dX12_sortOf_46 ?_
          refine ev_istore_nL (X := M_X12_sortOf) (pc := 47) (ls' := [_, _, _, _, _, _]) dX12_sortOf_47 (by decide) rfl ?_
          refine ev_iincL (X := M_X12_sortOf) (pc := 48) (ls' := [_, _, _, _, _, _]) dX12_sortOf_48 rfl (by decide) rfl ?_
          refine ev_goto (X := M_X12_sortOf) (pc := 51) (tgt := 5) dX12_sortOf_51 (by decide) ?_
          refine ev_iload (X := M_X12_sortOf) (pc := 5) dX12_sortOf_5 rfl ?_
          refine ev_iconst (X := M_X12_sortOf) (pc := 7) dX12_sortOf_7 ?_
          refine ev_icmp_ge (X := M_X12_sortOf) (pc := 8) (tgt := 54) dX12_sortOf_8 (by decide) (by decide) (by decide) (fun h8 => ?_) (fun h8 => ?_)
          · refine ev_iconst (X := M_X12_sortOf) (pc := 54) dX12_sortOf_54 ?_
            refine ev_iret (X := M_X12_sortOf) (pc := 55) dX12_sortOf_55 rfl ?_
            exact ⟨by rw [hr], rfl, rfl⟩
          · exact absurd (show (2 : Int) ≤ 0 + 1 + 1 by decide) h8
        · first
            | (have hr : soF D i w = 0 + 1 := by rw [hso, if_pos (by rw [if_pos (by omega)]; omega)]; rfl)
            | (have hr : soF D i w = 0 + 1 := by rw [hso, if_pos (by rw [if_neg (by omega)]; omega)]; rfl)
          refine ev_iload (X := M_X12_sortOf) (pc := 40) dX12_sortOf_40 rfl ?_
          refine ev_iret (X := M_X12_sortOf) (pc := 42) dX12_sortOf_42 rfl ?_
          exact ⟨by rw [hr], rfl, rfl⟩
      · refine ev_iconst (X := M_X12_sortOf) (pc := 26) dX12_sortOf_26 ?_
        refine ev_goto (X := M_X12_sortOf) (pc := 27) (tgt := 31) dX12_sortOf_27 (by decide) ?_
        refine ev_isub (X := M_X12_sortOf) (pc := 31) dX12_sortOf_31 ?_
        refine ev_istoreL (X := M_X12_sortOf) (pc := 32) (ls' := [_, _, _, _, _, _]) dX12_sortOf_32 (by decide) rfl ?_
        refine ev_iload_n (X := M_X12_sortOf) (pc := 34) dX12_sortOf_34 rfl ?_
        refine ev_iload (X := M_X12_sortOf) (pc := 35) dX12_sortOf_35 rfl ?_
        refine ev_icmp_ge (X := M_X12_sortOf) (pc := 37) (tgt := 43) dX12_sortOf_37 (by decide) (by omega) (by omega) (fun h37 => ?_) (fun h37 => ?_)
        · first
            | (have hr : soF D i w = 2 := by rw [hso, if_neg (by rw [if_pos (by omega)]; omega)])
            | (have hr : soF D i w = 2 := by rw [hso, if_neg (by rw [if_neg (by omega)]; omega)])
          refine ev_iload_n (X := M_X12_sortOf) (pc := 43) dX12_sortOf_43 rfl ?_
          refine ev_iload (X := M_X12_sortOf) (pc := 44) dX12_sortOf_44 rfl ?_
          refine ev_isub (X := M_X12_sortOf) (pc := 46) dX12_sortOf_46 ?_
          refine ev_istore_nL (X := M_X12_sortOf) (pc := 47) (ls' := [_, _, _, _, _, _]) dX12_sortOf_47 (by decide) rfl ?_
          refine ev_iincL (X := M_X12_sortOf) (pc := 48) (ls' := [_, _, _, _, _, _]) dX12_sortOf_48 rfl (by decide) rfl ?_
          refine ev_goto (X := M_X12_sortOf) (pc := 51) (tgt := 5) dX12_sortOf_51 (by decide) ?_
          refine ev_iload (X := M_X12_sortOf) (pc := 5) dX12_sortOf_5 rfl ?_
          refine ev_iconst (X := M_X12_sortOf) (pc := 7) dX12_sortOf_7 ?_
          refine ev_icmp_ge (X := M_X12_sortOf) (pc := 8) (tgt := 54) dX12_sortOf_8 (by decide) (by decide) (by decide) (fun h8 => ?_) (fun h8 => ?_)
          · refine ev_iconst (X := M_X12_sortOf) (pc := 54) dX12_sortOf_54 ?_
            refine ev_iret (X := M_X12_sortOf) (pc := 55) dX12_sortOf_55 rfl ?_
            exact ⟨by rw [hr], rfl, rfl⟩
          · exact absurd (show (2 : Int) ≤ 0 + 1 + 1 by decide) h8
        · first
            | (have hr : soF D i w = 0 + 1 := by rw [hso, if_pos (by rw [if_pos (by omega)]; omega)]; rfl)
            | (have hr : soF D i w = 0 + 1 := by rw [hso, if_pos (by rw [if_neg (by omega)]; omega)]; rfl)
          refine ev_iload (X := M_X12_sortOf) (pc := 40) dX12_sortOf_40 rfl ?_
          refine ev_iret (X := M_X12_sortOf) (pc := 42) dX12_sortOf_42 rfl ?_
          exact ⟨by rw [hr], rfl, rfl⟩
  refine ev_iload_n (X := M_X12_sortOf) (pc := 0) dX12_sortOf_0 rfl ?_
  refine ev_istore_nL (X := M_X12_sortOf) (pc := 1) (ls' := [_, _, _, _, _, _]) dX12_sortOf_1 (by decide) rfl ?_
  refine ev_iconst (X := M_X12_sortOf) (pc := 2) dX12_sortOf_2 ?_
  refine ev_istoreL (X := M_X12_sortOf) (pc := 3) (ls' := [_, _, _, _, _, _]) dX12_sortOf_3 (by decide) rfl ?_
  refine ev_iload (X := M_X12_sortOf) (pc := 5) dX12_sortOf_5 rfl ?_
  refine ev_iconst (X := M_X12_sortOf) (pc := 7) dX12_sortOf_7 ?_
  refine ev_icmp_ge (X := M_X12_sortOf) (pc := 8) (tgt := 54) dX12_sortOf_8 (by decide) (by decide) (by decide) (fun h8 => ?_) (fun h8 => ?_)
  · exact absurd h8 (by decide)
  · refine ev_aload_n (X := M_X12_sortOf) (pc := 11) dX12_sortOf_11 rfl ?_
    refine ev_getRe (X := M_X12_sortOf) (pc := 12) dX12_sortOf_12 fl_X12_7_12 (lO_156 hL) rfl (lR_156_0 hL) ?_
    refine ev_iconst (X := M_X12_sortOf) (pc := 15) dX12_sortOf_15 ?_
    refine ev_iload (X := M_X12_sortOf) (pc := 16) dX12_sortOf_16 rfl ?_
    refine ev_iadd (X := M_X12_sortOf) (pc := 18) dX12_sortOf_18 ?_
    refine ev_ialoadE (X := M_X12_sortOf) (pc := 19) dX12_sortOf_19 (lS_157 hL) (by omega) (d0) ?_
    refine ev_iload (X := M_X12_sortOf) (pc := 20) dX12_sortOf_20 rfl ?_
    refine ev_iload_n (X := M_X12_sortOf) (pc := 22) dX12_sortOf_22 rfl ?_
    refine ev_icmp_ne (X := M_X12_sortOf) (pc := 23) (tgt := 30) dX12_sortOf_23 (by decide) (by decide) (by omega) (fun h23 => ?_) (fun h23 => ?_)
    · refine ev_iconst (X := M_X12_sortOf) (pc := 30) dX12_sortOf_30 ?_
      refine ev_isub (X := M_X12_sortOf) (pc := 31) dX12_sortOf_31 ?_
      refine ev_istoreL (X := M_X12_sortOf) (pc := 32) (ls' := [_, _, _, _, _, _]) dX12_sortOf_32 (by decide) rfl ?_
      refine ev_iload_n (X := M_X12_sortOf) (pc := 34) dX12_sortOf_34 rfl ?_
      refine ev_iload (X := M_X12_sortOf) (pc := 35) dX12_sortOf_35 rfl ?_
      refine ev_icmp_ge (X := M_X12_sortOf) (pc := 37) (tgt := 43) dX12_sortOf_37 (by decide) (by omega) (by omega) (fun h37 => ?_) (fun h37 => ?_)
      · refine ev_iload_n (X := M_X12_sortOf) (pc := 43) dX12_sortOf_43 rfl ?_
        refine ev_iload (X := M_X12_sortOf) (pc := 44) dX12_sortOf_44 rfl ?_
        refine ev_isub (X := M_X12_sortOf) (pc := 46) dX12_sortOf_46 ?_
        refine ev_istore_nL (X := M_X12_sortOf) (pc := 47) (ls' := [_, _, _, _, _, _]) dX12_sortOf_47 (by decide) rfl ?_
        refine ev_iincL (X := M_X12_sortOf) (pc := 48) (ls' := [_, _, _, _, _, _]) dX12_sortOf_48 rfl (by decide) rfl ?_
        refine ev_goto (X := M_X12_sortOf) (pc := 51) (tgt := 5) dX12_sortOf_51 (by decide) ?_
        first
          | (have hif : (if w = 0 then (1 : Int) else 0) = 1 := if_pos (by omega)
             rw [hif] at tail1
             exact ev_weak (tail1 (by omega)) ⟨rfl, rfl, rfl, rfl, rfl, trivial⟩)
          | (have hif : (if w = 0 then (1 : Int) else 0) = 0 := if_neg (by omega)
             rw [hif] at tail1
             exact ev_weak (tail1 (by omega)) ⟨rfl, rfl, rfl, rfl, rfl, trivial⟩)
      · first
          | (have hr : soF D i w = 0 := by unfold soF; rw [if_pos (by rw [if_pos (by omega)]; omega)])
          | (have hr : soF D i w = 0 := by unfold soF; rw [if_pos (by rw [if_neg (by omega)]; omega)])
        refine ev_iload (X := M_X12_sortOf) (pc := 40) dX12_sortOf_40 rfl ?_
        refine ev_iret (X := M_X12_sortOf) (pc := 42) dX12_sortOf_42 rfl ?_
        exact ⟨by rw [hr], rfl, rfl⟩
    · refine ev_iconst (X := M_X12_sortOf) (pc := 26) dX12_sortOf_26 ?_
      refine ev_goto (X := M_X12_sortOf) (pc := 27) (tgt := 31) dX12_sortOf_27 (by decide) ?_
      refine ev_isub (X := M_X12_sortOf) (pc := 31) dX12_sortOf_31 ?_
      refine ev_istoreL (X := M_X12_sortOf) (pc := 32) (ls' := [_, _, _, _, _, _]) dX12_sortOf_32 (by decide) rfl ?_
      refine ev_iload_n (X := M_X12_sortOf) (pc := 34) dX12_sortOf_34 rfl ?_
      refine ev_iload (X := M_X12_sortOf) (pc := 35) dX12_sortOf_35 rfl ?_
      refine ev_icmp_ge (X := M_X12_sortOf) (pc := 37) (tgt := 43) dX12_sortOf_37 (by decide) (by omega) (by omega) (fun h37 => ?_) (fun h37 => ?_)
      · refine ev_iload_n (X := M_X12_sortOf) (pc := 43) dX12_sortOf_43 rfl ?_
        refine ev_iload (X := M_X12_sortOf) (pc := 44) dX12_sortOf_44 rfl ?_
        refine ev_isub (X := M_X12_sortOf) (pc := 46) dX12_sortOf_46 ?_
        refine ev_istore_nL (X := M_X12_sortOf) (pc := 47) (ls' := [_, _, _, _, _, _]) dX12_sortOf_47 (by decide) rfl ?_
        refine ev_iincL (X := M_X12_sortOf) (pc := 48) (ls' := [_, _, _, _, _, _]) dX12_sortOf_48 rfl (by decide) rfl ?_
        refine ev_goto (X := M_X12_sortOf) (pc := 51) (tgt := 5) dX12_sortOf_51 (by decide) ?_
        first
          | (have hif : (if w = 0 then (1 : Int) else 0) = 1 := if_pos (by omega)
             rw [hif] at tail1
             exact ev_weak (tail1 (by omega)) ⟨rfl, rfl, rfl, rfl, rfl, trivial⟩)
          | (have hif : (if w = 0 then (1 : Int) else 0) = 0 := if_neg (by omega)
             rw [hif] at tail1
             exact ev_weak (tail1 (by omega)) ⟨rfl, rfl, rfl, rfl, rfl, trivial⟩)
      · first
          | (have hr : soF D i w = 0 := by unfold soF; rw [if_pos (by rw [if_pos (by omega)]; omega)])
          | (have hr : soF D i w = 0 := by unfold soF; rw [if_pos (by rw [if_neg (by omega)]; omega)])
        refine ev_iload (X := M_X12_sortOf) (pc := 40) dX12_sortOf_40 rfl ?_
        refine ev_iret (X := M_X12_sortOf) (pc := 42) dX12_sortOf_42 rfl ?_
        exact ⟨by rw [hr], rfl, rfl⟩
def prF (a b : Int) : Int := if (if a < b then a else b) = 0 then (if a < b then b else a) else a + b + 1
theorem m_pairOf {γ : Gh} {K : Sk} {V : Mm} {a b : Int} (ha : 0 ≤ a ∧ a < 3) (hb : 0 ≤ b ∧ b < 3) : Call γ M_X12_pairOf 0 0 0 [vI a, vI b] K V (Rt (some (vI (prF a b))) K V) := by
  refine call_of (by decide +kernel) (by intro v hv; simp only [List.mem_cons, List.not_mem_nil, or_false] at hv; rcases hv with rfl | rfl <;> exact fun q => by cases q) (Nat.le_of_ble_eq_true rfl) ?_
  refine ev_lsE (ls' := [_, _, _, _]) rfl ?_
  refine ev_iload_n (X := M_X12_pairOf) (pc := 0) dX12_pairOf_0 rfl ?_
  refine ev_iload_n (X := M_X12_pairOf) (pc := 1) dX12_pairOf_1 rfl ?_
  refine ev_icmp_ge (X := M_X12_pairOf) (pc := 2) (tgt := 9) dX12_pairOf_2 (by decide) (by omega) (by omega) (fun h2 => ?_) (fun h2 => ?_)
  · refine ev_iload_n (X := M_X12_pairOf) (pc := 9) dX12_pairOf_9 rfl ?_
    refine ev_istore_nL (X := M_X12_pairOf) (pc := 10) (ls' := [_, _, _, _]) dX12_pairOf_10 (by decide) rfl ?_
    refine ev_iload_n (X := M_X12_pairOf) (pc := 11) dX12_pairOf_11 rfl ?_
    refine ev_iload_n (X := M_X12_pairOf) (pc := 12) dX12_pairOf_12 rfl ?_
    refine ev_iadd (X := M_X12_pairOf) (pc := 13) dX12_pairOf_13 ?_
    refine ev_iload_n (X := M_X12_pairOf) (pc := 14) dX12_pairOf_14 rfl ?_
    refine ev_isub (X := M_X12_pairOf) (pc := 15) dX12_pairOf_15 ?_
    refine ev_istore_nL (X := M_X12_pairOf) (pc := 16) (ls' := [_, _, _, _]) dX12_pairOf_16 (by decide) rfl ?_
    refine ev_iload_n (X := M_X12_pairOf) (pc := 17) dX12_pairOf_17 rfl ?_
    refine ev_if_ne (X := M_X12_pairOf) (pc := 18) (tgt := 25) dX12_pairOf_18 (by decide) (by omega) (fun h18 => ?_) (fun h18 => ?_)
    · refine ev_iload_n (X := M_X12_pairOf) (pc := 25) dX12_pairOf_25 rfl ?_
      refine ev_iconst (X := M_X12_pairOf) (pc := 26) dX12_pairOf_26 ?_
      refine ev_icmp_ne (X := M_X12_pairOf) (pc := 27) (tgt := 36) dX12_pairOf_27 (by decide) (by omega) (by omega) (fun h27 => ?_) (fun h27 => ?_)
      · refine ev_iconst (X := M_X12_pairOf) (pc := 36) dX12_pairOf_36 ?_
        refine ev_iret (X := M_X12_pairOf) (pc := 37) dX12_pairOf_37 rfl ?_
        refine ⟨congrArg (fun z => some (vI z)) ?_, rfl, rfl⟩
        unfold prF
        repeat' split
        all_goals omega
      · refine ev_iload_n (X := M_X12_pairOf) (pc := 30) dX12_pairOf_30 rfl ?_
        refine ev_iconst (X := M_X12_pairOf) (pc := 31) dX12_pairOf_31 ?_
        refine ev_iadd (X := M_X12_pairOf) (pc := 32) dX12_pairOf_32 ?_
        refine ev_goto (X := M_X12_pairOf) (pc := 33) (tgt := 37) dX12_pairOf_33 (by decide) ?_
        refine ev_iret (X := M_X12_pairOf) (pc := 37) dX12_pairOf_37 rfl ?_
        refine ⟨congrArg (fun z => some (vI z)) ?_, rfl, rfl⟩
        unfold prF
        repeat' split
        all_goals omega
    · refine ev_iload_n (X := M_X12_pairOf) (pc := 21) dX12_pairOf_21 rfl ?_
      refine ev_goto (X := M_X12_pairOf) (pc := 22) (tgt := 37) dX12_pairOf_22 (by decide) ?_
      refine ev_iret (X := M_X12_pairOf) (pc := 37) dX12_pairOf_37 rfl ?_
      refine ⟨congrArg (fun z => some (vI z)) ?_, rfl, rfl⟩
      unfold prF
      repeat' split
      all_goals omega
  · refine ev_iload_n (X := M_X12_pairOf) (pc := 5) dX12_pairOf_5 rfl ?_
    refine ev_goto (X := M_X12_pairOf) (pc := 6) (tgt := 10) dX12_pairOf_6 (by decide) ?_
    refine ev_istore_nL (X := M_X12_pairOf) (pc := 10) (ls' := [_, _, _, _]) dX12_pairOf_10 (by decide) rfl ?_
    refine ev_iload_n (X := M_X12_pairOf) (pc := 11) dX12_pairOf_11 rfl ?_
    refine ev_iload_n (X := M_X12_pairOf) (pc := 12) dX12_pairOf_12 rfl ?_
    refine ev_iadd (X := M_X12_pairOf) (pc := 13) dX12_pairOf_13 ?_
    refine ev_iload_n (X := M_X12_pairOf) (pc := 14) dX12_pairOf_14 rfl ?_
    refine ev_isub (X := M_X12_pairOf) (pc := 15) dX12_pairOf_15 ?_
    refine ev_istore_nL (X := M_X12_pairOf) (pc := 16) (ls' := [_, _, _, _]) dX12_pairOf_16 (by decide) rfl ?_
    refine ev_iload_n (X := M_X12_pairOf) (pc := 17) dX12_pairOf_17 rfl ?_
    refine ev_if_ne (X := M_X12_pairOf) (pc := 18) (tgt := 25) dX12_pairOf_18 (by decide) (by omega) (fun h18 => ?_) (fun h18 => ?_)
    · refine ev_iload_n (X := M_X12_pairOf) (pc := 25) dX12_pairOf_25 rfl ?_
      refine ev_iconst (X := M_X12_pairOf) (pc := 26) dX12_pairOf_26 ?_
      refine ev_icmp_ne (X := M_X12_pairOf) (pc := 27) (tgt := 36) dX12_pairOf_27 (by decide) (by omega) (by omega) (fun h27 => ?_) (fun h27 => ?_)
      · refine ev_iconst (X := M_X12_pairOf) (pc := 36) dX12_pairOf_36 ?_
        refine ev_iret (X := M_X12_pairOf) (pc := 37) dX12_pairOf_37 rfl ?_
        refine ⟨congrArg (fun z => some (vI z)) ?_, rfl, rfl⟩
        unfold prF
        repeat' split
        all_goals omega
      · refine ev_iload_n (X := M_X12_pairOf) (pc := 30) dX12_pairOf_30 rfl ?_
        refine ev_iconst (X := M_X12_pairOf) (pc := 31) dX12_pairOf_31 ?_
        refine ev_iadd (X := M_X12_pairOf) (pc := 32) dX12_pairOf_32 ?_
        refine ev_goto (X := M_X12_pairOf) (pc := 33) (tgt := 37) dX12_pairOf_33 (by decide) ?_
        refine ev_iret (X := M_X12_pairOf) (pc := 37) dX12_pairOf_37 rfl ?_
        refine ⟨congrArg (fun z => some (vI z)) ?_, rfl, rfl⟩
        unfold prF
        repeat' split
        all_goals omega
    · refine ev_iload_n (X := M_X12_pairOf) (pc := 21) dX12_pairOf_21 rfl ?_
      refine ev_goto (X := M_X12_pairOf) (pc := 22) (tgt := 37) dX12_pairOf_22 (by decide) ?_
      refine ev_iret (X := M_X12_pairOf) (pc := 37) dX12_pairOf_37 rfl ?_
      refine ⟨congrArg (fun z => some (vI z)) ?_, rfl, rfl⟩
      unfold prF
      repeat' split
      all_goals omega
theorem prF_r {a b : Int} (ha : 0 ≤ a ∧ a < 3) (hb : 0 ≤ b ∧ b < 3) : 0 ≤ prF a b ∧ prF a b < 6 := by
  unfold prF
  repeat' split
  all_goals omega
