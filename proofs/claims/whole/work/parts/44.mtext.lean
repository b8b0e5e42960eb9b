/-! ===== the reference reads a text ===== -/
/-- nothing but where it stands, its fault and how many are open has changed -/
def mP (V W : Mm) : Prop := ∀ c i, ¬ (c = 156 ∧ (i = 5 ∨ i = 7 ∨ i = 8)) → W c i = V c i
theorem mP.rf {V : Mm} : mP V V := fun _ _ _ => rfl
theorem mP.tr {U V W : Mm} (h : mP U V) (g : mP V W) : mP U W := fun c i z => by rw [g c i z, h c i z]
theorem mP.w {V W : Mm} (h : mP V W) {i : Int} (hi : i = 5 ∨ i = 7 ∨ i = 8) (x : Int) : mP V (wr W 156 i x) := fun c j z => by
  rw [wr_ne (fun q => z ⟨q.1, by rw [q.2]; exact hi⟩)]
  exact h c j z
theorem mP.row {V W : Mm} (h : mP V W) {c : Nat} (hc : c ≠ 156) : W c = V c := funext fun i => h c i (fun q => hc q.1)
def MT (K : Sk) (V : Mm) (f nm : Int → Int) (n u : Int) : Prop := Lay K ∧ (∃ B, V 156 4 = B ∧ 0 ≤ B ∧ B + n ≤ 200 ∧ ∀ i, 0 ≤ i → i < n → V 157 (B + i) = f i) ∧ V 156 6 = n ∧ V 156 9 = u ∧ (0 ≤ n ∧ n ≤ 50) ∧ (u = 0 ∨ u = 1) ∧ (∀ i, 0 ≤ i → i < n → 0 ≤ f i ∧ f i < 256) ∧ ∀ k, 0 ≤ k → k ≤ 3 → nm k = sx (V 160 k)
theorem MT.mP {K : Sk} {V W : Mm} {f nm : Int → Int} {n u : Int} (h : MT K V f nm n u) (hP : mP V W) : MT K W f nm n u := by
  obtain ⟨hL, ⟨B, hB, hB0, hB1, hBf⟩, hn, hu, hn5, hu2, hby, hnm⟩ := h
  exact ⟨hL, ⟨B, by rw [hP 156 4 (by omega)]; exact hB, hB0, hB1, by rw [hP.row (show (157 : Nat) ≠ 156 by decide)]; exact hBf⟩, by rw [hP 156 6 (by omega)]; exact hn, by rw [hP 156 9 (by omega)]; exact hu, hn5, hu2, hby, by rw [hP.row (show (160 : Nat) ≠ 156 by decide)]; exact hnm⟩
def hr (f : Int → Int) (n : Int) (W : Mm) : Int := if W 156 7 < 0 then sgn f n (W 156 5) else -1
theorem MT.sg {K : Sk} {V : Mm} {f nm : Int → Int} {n u : Int} (h : MT K V f nm n u) {q : Int} (hq : 0 ≤ q) : -1 ≤ sgn f n q ∧ sgn f n q < 256 := by
  unfold sgn
  split
  · next z => have := h.2.2.2.2.2.2.1 q hq z; omega
  · omega
theorem MT.hh {K : Sk} {V W : Mm} {f nm : Int → Int} {n u : Int} (h : MT K V f nm n u) (hq : 0 ≤ W 156 5) : -1 ≤ hr f n W ∧ hr f n W < 256 := by
  unfold hr
  have := h.sg hq
  split <;> omega
theorem m_here {γ : Gh} {K : Sk} {V : Mm} {f nm : Int → Int} {n u : Int} (h : MT K V f nm n u) (hq : 0 ≤ V 156 5 ∧ V 156 5 ≤ n) (hf : -1 ≤ V 156 7 ∧ V 156 7 ≤ 50) : Call γ M_X12_here 0 0 0 [vR 156] K V (Rt (some (vI (hr f n V))) K V) := by
  refine call_of (by decide +kernel) (by intro v hv; simp only [List.mem_cons, List.not_mem_nil, or_false] at hv; rcases hv with rfl <;> exact fun q => by cases q) (Nat.le_of_ble_eq_true rfl) ?_
  refine ev_lsE (ls' := [_]) rfl ?_
  obtain ⟨hL, ⟨B, hB, hB0, hB1, hBf⟩, hn, hu, hn5, hu2, hby, hnm⟩ := h
  refine ev_aload_n (X := M_X12_here) (pc := 0) dX12_here_0 rfl ?_
  refine ev_getI (X := M_X12_here) (pc := 1) (ki := 5) dX12_here_1 fl_X12_94_12 (lO_156 hL) (by decide) rfl ?_
  refine ev_aload_n (X := M_X12_here) (pc := 4) dX12_here_4 rfl ?_
  refine ev_getIe (X := M_X12_here) (pc := 5) (ki := 6) dX12_here_5 fl_X12_98_12 (lO_156 hL) (by decide) rfl (hn) ?_
  refine ev_icmp_ge (X := M_X12_here) (pc := 8) (tgt := 35) dX12_here_8 (by decide) (by omega) (by omega) (fun h8 => ?_) (fun h8 => ?_)
  · refine ev_iconst (X := M_X12_here) (pc := 35) dX12_here_35 ?_
    refine ev_iret (X := M_X12_here) (pc := 36) dX12_here_36 rfl ?_
    refine ⟨congrArg (fun z => some (vI z)) ?_, rfl, rfl⟩
    unfold hr sgn
    repeat' split
    all_goals first | rfl | omega
  · refine ev_aload_n (X := M_X12_here) (pc := 11) dX12_here_11 rfl ?_
    refine ev_getI (X := M_X12_here) (pc := 12) (ki := 7) dX12_here_12 fl_X12_101_12 (lO_156 hL) (by decide) rfl ?_
    refine ev_if_ge (X := M_X12_here) (pc := 15) (tgt := 35) dX12_here_15 (by decide) (by omega) (fun h15 => ?_) (fun h15 => ?_)
    · refine ev_iconst (X := M_X12_here) (pc := 35) dX12_here_35 ?_
      refine ev_iret (X := M_X12_here) (pc := 36) dX12_here_36 rfl ?_
      refine ⟨congrArg (fun z => some (vI z)) ?_, rfl, rfl⟩
      unfold hr sgn
      repeat' split
      all_goals first | rfl | omega
    · refine ev_aload_n (X := M_X12_here) (pc := 18) dX12_here_18 rfl ?_
      refine ev_getRe (X := M_X12_here) (pc := 19) dX12_here_19 fl_X12_7_12 (lO_156 hL) rfl (lR_156_0 hL) ?_
      refine ev_aload_n (X := M_X12_here) (pc := 22) dX12_here_22 rfl ?_
      refine ev_getIe (X := M_X12_here) (pc := 23) (ki := 4) dX12_here_23 fl_X12_104_12 (lO_156 hL) (by decide) rfl (hB) ?_
      refine ev_aload_n (X := M_X12_here) (pc := 26) dX12_here_26 rfl ?_
      refine ev_getI (X := M_X12_here) (pc := 27) (ki := 5) dX12_here_27 fl_X12_94_12 (lO_156 hL) (by decide) rfl ?_
      refine ev_iadd (X := M_X12_here) (pc := 30) dX12_here_30 ?_
      refine ev_ialoadE (X := M_X12_here) (pc := 31) dX12_here_31 (lS_157 hL) (by omega) (hBf _ hq.1 (by omega)) ?_
      refine ev_goto (X := M_X12_here) (pc := 32) (tgt := 36) dX12_here_32 (by decide) ?_
      refine ev_iret (X := M_X12_here) (pc := 36) dX12_here_36 rfl ?_
      refine ⟨congrArg (fun z => some (vI z)) ?_, rfl, rfl⟩
      unfold hr sgn
      repeat' split
      all_goals first | rfl | omega
theorem m_wrong {γ : Gh} {K : Sk} {V : Mm} (hL : Lay K) (hf : -1 ≤ V 156 7 ∧ V 156 7 ≤ 50) : Call γ M_X12_wrong 0 0 0 [vR 156] K V (Rt (some (vI 0)) K (wr V 156 7 (if V 156 7 < 0 then V 156 5 else V 156 7))) := by
  refine call_of (by decide +kernel) (by intro v hv; simp only [List.mem_cons, List.not_mem_nil, or_false] at hv; rcases hv with rfl <;> exact fun q => by cases q) (Nat.le_of_ble_eq_true rfl) ?_
  refine ev_lsE (ls' := [_]) rfl ?_
  refine ev_aload_n (X := M_X12_wrong) (pc := 0) dX12_wrong_0 rfl ?_
  refine ev_aload_n (X := M_X12_wrong) (pc := 1) dX12_wrong_1 rfl ?_
  refine ev_getI (X := M_X12_wrong) (pc := 2) (ki := 7) dX12_wrong_2 fl_X12_101_12 (lO_156 hL) (by decide) rfl ?_
  refine ev_if_ge (X := M_X12_wrong) (pc := 5) (tgt := 15) dX12_wrong_5 (by decide) (by omega) (fun h5 => ?_) (fun h5 => ?_)
  · refine ev_aload_n (X := M_X12_wrong) (pc := 15) dX12_wrong_15 rfl ?_
    refine ev_getI (X := M_X12_wrong) (pc := 16) (ki := 7) dX12_wrong_16 fl_X12_101_12 (lO_156 hL) (by decide) rfl ?_
    refine ev_putI (X := M_X12_wrong) (pc := 19) (ki := 7) dX12_wrong_19 fl_X12_101_12 (by decide) (lO_156 hL) (fun _ h q => by cases h; cases q) (Or.inl rfl) rfl ?_
    refine ev_iconst (X := M_X12_wrong) (pc := 22) dX12_wrong_22 ?_
    refine ev_iret (X := M_X12_wrong) (pc := 23) dX12_wrong_23 rfl ?_
    first
      | exact ⟨rfl, rfl, by rw [if_pos (by omega)]⟩
      | exact ⟨rfl, rfl, by rw [if_neg (by omega)]⟩
  · refine ev_aload_n (X := M_X12_wrong) (pc := 8) dX12_wrong_8 rfl ?_
    refine ev_getI (X := M_X12_wrong) (pc := 9) (ki := 5) dX12_wrong_9 fl_X12_94_12 (lO_156 hL) (by decide) rfl ?_
    refine ev_goto (X := M_X12_wrong) (pc := 12) (tgt := 19) dX12_wrong_12 (by decide) ?_
    refine ev_putI (X := M_X12_wrong) (pc := 19) (ki := 7) dX12_wrong_19 fl_X12_101_12 (by decide) (lO_156 hL) (fun _ h q => by cases h; cases q) (Or.inl rfl) rfl ?_
    refine ev_iconst (X := M_X12_wrong) (pc := 22) dX12_wrong_22 ?_
    refine ev_iret (X := M_X12_wrong) (pc := 23) dX12_wrong_23 rfl ?_
    first
      | exact ⟨rfl, rfl, by rw [if_pos (by omega)]⟩
      | exact ⟨rfl, rfl, by rw [if_neg (by omega)]⟩
theorem m_takes {γ : Gh} {K : Sk} {V : Mm} {f nm : Int → Int} {n u : Int} (h : MT K V f nm n u) (hq : 0 ≤ V 156 5 ∧ V 156 5 ≤ n) (hf : -1 ≤ V 156 7 ∧ V 156 7 ≤ 50) {c : Int} (hc : 0 ≤ c ∧ c < 256) : Call γ M_X12_takes 1 0 0 [vR 156, vI c] K V (Rt (some (vI (if hr f n V = c then 1 else 0))) K (if hr f n V = c then wr V 156 5 (V 156 5 + 1) else V)) := by
  refine call_of (by decide +kernel) (by intro v hv; simp only [List.mem_cons, List.not_mem_nil, or_false] at hv; rcases hv with rfl | rfl <;> exact fun q => by cases q) (Nat.le_of_ble_eq_true rfl) ?_
  refine ev_lsE (ls' := [_, _]) rfl ?_
  have hL := h.1
  have hH := h.hh hq.1
  refine ev_aload_n (X := M_X12_takes) (pc := 0) dX12_takes_0 rfl ?_
  refine ev_virtR (X := M_X12_takes) (Y := M_X12_here) (pc := 1) (ci := 12) dX12_takes_1 mk_X12_here rfl kw_1130 kw_1132 kp_13 (lO_156 hL) (m_here h hq hf) rfl (by decide) rfl (Nat.le_of_ble_eq_true rfl) (Nat.zero_add _) (Nat.zero_add _) ?_
  refine ev_iload_n (X := M_X12_takes) (pc := 4) dX12_takes_4 rfl ?_
  refine ev_icmp_eq (X := M_X12_takes) (pc := 5) (tgt := 10) dX12_takes_5 (by decide) (by omega) (by omega) (fun h5 => ?_) (fun h5 => ?_)
  · refine ev_aload_n (X := M_X12_takes) (pc := 10) dX12_takes_10 rfl ?_
    refine ev_dup (X := M_X12_takes) (pc := 11) dX12_takes_11 (fun _ q => by cases q) ?_
    refine ev_getI (X := M_X12_takes) (pc := 12) (ki := 5) dX12_takes_12 fl_X12_94_12 (lO_156 hL) (by decide) rfl ?_
    refine ev_iconst (X := M_X12_takes) (pc := 15) dX12_takes_15 ?_
    refine ev_iadd (X := M_X12_takes) (pc := 16) dX12_takes_16 ?_
    refine ev_putI (X := M_X12_takes) (pc := 17) (ki := 5) dX12_takes_17 fl_X12_94_12 (by decide) (lO_156 hL) (fun _ h q => by cases h; cases q) (Or.inl rfl) rfl ?_
    refine ev_iconst (X := M_X12_takes) (pc := 20) dX12_takes_20 ?_
    refine ev_bret (X := M_X12_takes) (pc := 21) dX12_takes_21 rfl (by omega) ?_
    exact ⟨by rw [if_pos h5], rfl, by rw [if_pos h5]⟩
  · refine ev_iconst (X := M_X12_takes) (pc := 8) dX12_takes_8 ?_
    refine ev_bret (X := M_X12_takes) (pc := 9) dX12_takes_9 rfl (by omega) ?_
    exact ⟨by rw [if_neg h5], rfl, by rw [if_neg h5]⟩
theorem m_nameOf {γ : Gh} {K : Sk} {V : Mm} (hL : Lay K) {u c : Int} (hu : V 156 9 = u) (hu2 : u = 0 ∨ u = 1) (hc : -1 ≤ c ∧ c < 256) : Call γ M_X12_nameOf 0 0 0 [vR 156, vI c] K V (Rt (some (vI (nmI u c))) K V) := by
  refine call_of (by decide +kernel) (by intro v hv; simp only [List.mem_cons, List.not_mem_nil, or_false] at hv; rcases hv with rfl | rfl <;> exact fun q => by cases q) (Nat.le_of_ble_eq_true rfl) ?_
  refine ev_lsE (ls' := [_, _]) rfl ?_
  refine ev_aload_n (X := M_X12_nameOf) (pc := 0) dX12_nameOf_0 rfl ?_
  refine ev_getIe (X := M_X12_nameOf) (pc := 1) (ki := 9) dX12_nameOf_1 fl_X12_111_12 (lO_156 hL) (by decide) rfl (hu) ?_
  refine ev_if_eq (X := M_X12_nameOf) (pc := 4) (tgt := 49) dX12_nameOf_4 (by decide) (by omega) (fun h4 => ?_) (fun h4 => ?_)
  · refine ev_iload_n (X := M_X12_nameOf) (pc := 49) dX12_nameOf_49 rfl ?_
    refine ev_bipush (X := M_X12_nameOf) (pc := 50) dX12_nameOf_50 (by decide) ?_
    refine ev_icmp_ne (X := M_X12_nameOf) (pc := 52) (tgt := 59) dX12_nameOf_52 (by decide) (by omega) (by omega) (fun h52 => ?_) (fun h52 => ?_)
    · refine ev_iload_n (X := M_X12_nameOf) (pc := 59) dX12_nameOf_59 rfl ?_
      refine ev_bipush (X := M_X12_nameOf) (pc := 60) dX12_nameOf_60 (by decide) ?_
      refine ev_icmp_ne (X := M_X12_nameOf) (pc := 62) (tgt := 69) dX12_nameOf_62 (by decide) (by omega) (by omega) (fun h62 => ?_) (fun h62 => ?_)
      · refine ev_iload_n (X := M_X12_nameOf) (pc := 69) dX12_nameOf_69 rfl ?_
        refine ev_bipush (X := M_X12_nameOf) (pc := 70) dX12_nameOf_70 (by decide) ?_
        refine ev_icmp_ne (X := M_X12_nameOf) (pc := 72) (tgt := 79) dX12_nameOf_72 (by decide) (by omega) (by omega) (fun h72 => ?_) (fun h72 => ?_)
        · refine ev_iconst (X := M_X12_nameOf) (pc := 79) dX12_nameOf_79 ?_
          refine ev_iret (X := M_X12_nameOf) (pc := 80) dX12_nameOf_80 rfl ?_
          refine ⟨congrArg (fun z => some (vI z)) ?_, rfl, rfl⟩
          unfold nmI
          repeat' split
          all_goals omega
        · refine ev_iconst (X := M_X12_nameOf) (pc := 75) dX12_nameOf_75 ?_
          refine ev_goto (X := M_X12_nameOf) (pc := 76) (tgt := 80) dX12_nameOf_76 (by decide) ?_
          refine ev_iret (X := M_X12_nameOf) (pc := 80) dX12_nameOf_80 rfl ?_
          refine ⟨congrArg (fun z => some (vI z)) ?_, rfl, rfl⟩
          unfold nmI
          repeat' split
          all_goals omega
      · refine ev_iconst (X := M_X12_nameOf) (pc := 65) dX12_nameOf_65 ?_
        refine ev_goto (X := M_X12_nameOf) (pc := 66) (tgt := 80) dX12_nameOf_66 (by decide) ?_
        refine ev_iret (X := M_X12_nameOf) (pc := 80) dX12_nameOf_80 rfl ?_
        refine ⟨congrArg (fun z => some (vI z)) ?_, rfl, rfl⟩
        unfold nmI
        repeat' split
        all_goals omega
    · refine ev_iconst (X := M_X12_nameOf) (pc := 55) dX12_nameOf_55 ?_
      refine ev_goto (X := M_X12_nameOf) (pc := 56) (tgt := 80) dX12_nameOf_56 (by decide) ?_
      refine ev_iret (X := M_X12_nameOf) (pc := 80) dX12_nameOf_80 rfl ?_
      refine ⟨congrArg (fun z => some (vI z)) ?_, rfl, rfl⟩
      unfold nmI
      repeat' split
      all_goals omega
  · refine ev_iload_n (X := M_X12_nameOf) (pc := 7) dX12_nameOf_7 rfl ?_
    refine ev_bipush (X := M_X12_nameOf) (pc := 8) dX12_nameOf_8 (by decide) ?_
    refine ev_icmp_ne (X := M_X12_nameOf) (pc := 10) (tgt := 17) dX12_nameOf_10 (by decide) (by omega) (by omega) (fun h10 => ?_) (fun h10 => ?_)
    · refine ev_iload_n (X := M_X12_nameOf) (pc := 17) dX12_nameOf_17 rfl ?_
      refine ev_bipush (X := M_X12_nameOf) (pc := 18) dX12_nameOf_18 (by decide) ?_
      refine ev_icmp_ne (X := M_X12_nameOf) (pc := 20) (tgt := 27) dX12_nameOf_20 (by decide) (by omega) (by omega) (fun h20 => ?_) (fun h20 => ?_)
      · refine ev_iload_n (X := M_X12_nameOf) (pc := 27) dX12_nameOf_27 rfl ?_
        refine ev_bipush (X := M_X12_nameOf) (pc := 28) dX12_nameOf_28 (by decide) ?_
        refine ev_icmp_ne (X := M_X12_nameOf) (pc := 30) (tgt := 37) dX12_nameOf_30 (by decide) (by omega) (by omega) (fun h30 => ?_) (fun h30 => ?_)
        · refine ev_iload_n (X := M_X12_nameOf) (pc := 37) dX12_nameOf_37 rfl ?_
          refine ev_bipush (X := M_X12_nameOf) (pc := 38) dX12_nameOf_38 (by decide) ?_
          refine ev_icmp_ne (X := M_X12_nameOf) (pc := 40) (tgt := 47) dX12_nameOf_40 (by decide) (by omega) (by omega) (fun h40 => ?_) (fun h40 => ?_)
          · refine ev_iconst (X := M_X12_nameOf) (pc := 47) dX12_nameOf_47 ?_
            refine ev_iret (X := M_X12_nameOf) (pc := 48) dX12_nameOf_48 rfl ?_
            refine ⟨congrArg (fun z => some (vI z)) ?_, rfl, rfl⟩
            unfold nmI
            repeat' split
            all_goals omega
          · refine ev_iconst (X := M_X12_nameOf) (pc := 43) dX12_nameOf_43 ?_
            refine ev_goto (X := M_X12_nameOf) (pc := 44) (tgt := 48) dX12_nameOf_44 (by decide) ?_
            refine ev_iret (X := M_X12_nameOf) (pc := 48) dX12_nameOf_48 rfl ?_
            refine ⟨congrArg (fun z => some (vI z)) ?_, rfl, rfl⟩
            unfold nmI
            repeat' split
            all_goals omega
        · refine ev_iconst (X := M_X12_nameOf) (pc := 33) dX12_nameOf_33 ?_
          refine ev_goto (X := M_X12_nameOf) (pc := 34) (tgt := 48) dX12_nameOf_34 (by decide) ?_
          refine ev_iret (X := M_X12_nameOf) (pc := 48) dX12_nameOf_48 rfl ?_
          refine ⟨congrArg (fun z => some (vI z)) ?_, rfl, rfl⟩
          unfold nmI
          repeat' split
          all_goals omega
      · refine ev_iconst (X := M_X12_nameOf) (pc := 23) dX12_nameOf_23 ?_
        refine ev_goto (X := M_X12_nameOf) (pc := 24) (tgt := 48) dX12_nameOf_24 (by decide) ?_
        refine ev_iret (X := M_X12_nameOf) (pc := 48) dX12_nameOf_48 rfl ?_
        refine ⟨congrArg (fun z => some (vI z)) ?_, rfl, rfl⟩
        unfold nmI
        repeat' split
        all_goals omega
    · refine ev_iconst (X := M_X12_nameOf) (pc := 13) dX12_nameOf_13 ?_
      refine ev_goto (X := M_X12_nameOf) (pc := 14) (tgt := 48) dX12_nameOf_14 (by decide) ?_
      refine ev_iret (X := M_X12_nameOf) (pc := 48) dX12_nameOf_48 rfl ?_
      refine ⟨congrArg (fun z => some (vI z)) ?_, rfl, rfl⟩
      unfold nmI
      repeat' split
      all_goals omega
/-- behind a read of the reference -/
def PM (V : Mm) (nm : Int → Int) (n : Int) (r : RR) (x : Int) (W : Mm) : Prop := mP V W ∧ (-2147483648 ≤ x ∧ x < 2147483648) ∧ (0 ≤ W 156 5 ∧ W 156 5 ≤ n) ∧ match r with
  | (some l, q') => W 156 7 = -1 ∧ W 156 5 = q' ∧ W 156 8 = V 156 8 ∧ Good nm l x
  | (none, q') => W 156 7 = q' ∧ 0 ≤ q' ∧ q' ≤ 50
theorem PM_wrong {V W : Mm} {nm : Int → Int} {n : Int} (hP : mP V W) (hq : 0 ≤ W 156 5 ∧ W 156 5 ≤ n) (hn : n ≤ 50) (ha : W 156 7 = -1) : PM V nm n (none, W 156 5) 0 (wr W 156 7 (if W 156 7 < 0 then W 156 5 else W 156 7)) := by
  refine ⟨hP.w (by omega) _, by decide, by rw [wr_ne (by omega)]; exact hq, ?_, hq.1, by omega⟩
  rw [wr_self, if_pos (by omega)]
theorem PM_dead {V W : Mm} {nm : Int → Int} {n q x : Int} (h : PM V nm n (none, q) x W) : PM V nm n (none, q) 0 (wr W 156 7 (if W 156 7 < 0 then W 156 5 else W 156 7)) := by
  obtain ⟨h1, h2, h3, h4, h5, h6⟩ := h
  refine ⟨h1.w (by omega) _, by decide, by rw [wr_ne (by omega)]; exact h3, ?_, h5, h6⟩
  rw [wr_self, if_neg (by omega)]
  exact h4
theorem PM.ft {V W : Mm} {nm : Int → Int} {n x : Int} {r : RR} (h : PM V nm n r x W) : -1 ≤ W 156 7 ∧ W 156 7 ≤ 50 := by
  obtain ⟨o, q⟩ := r
  cases o with
  | none => obtain ⟨_, _, _, h4, h5, h6⟩ := h; omega
  | some l => obtain ⟨_, _, _, h4, h5, h6⟩ := h; omega
def MUn (γ : Gh) (K : Sk) (f nm : Int → Int) (n u : Int) (k : Nat) : Prop := ∀ V : Mm, MT K V f nm n u → (0 ≤ V 156 5 ∧ V 156 5 ≤ n) → V 156 7 = -1 → V 156 8 = 5 - k → Call γ M_X12_unit (2 + 6 * k) 0 0 [vR 156] K V (Qz K (PM V nm n (prS f n u k (V 156 5))))
def MLv (X : MX) (γ : Gh) (K : Sk) (f nm : Int → Int) (n u : Int) (k j : Nat) : Prop := ∀ V : Mm, MT K V f nm n u → (0 ≤ V 156 5 ∧ V 156 5 ≤ n) → V 156 7 = -1 → V 156 8 = 5 - k → Call γ X (2 + 6 * k + j) 0 0 [vR 156] K V (Qz K (PM V nm n (lvl (prS f n u k) f n j (V 156 5))))
/-- the loop of a level -/
def LI (V : Mm) (nm : Int → Int) (n : Int) (g : Int → RR) (f : Int → Int) (j : Nat) (R : RR) (fu : Nat) (v : Int) (W : Mm) : Prop :=
  (∃ l q, PM V nm n (some l, q) v W ∧ R = lp g f n j fu l q ∧ n ≤ q + fu) ∨ (∃ q, PM V nm n (none, q) v W ∧ R = (none, q))
section LIx
variable {V W : Mm} {nm f : Int → Int} {n v : Int} {g : Int → RR} {j fu : Nat} {R : RR}
theorem LI.base (h : LI V nm n g f j R fu v W) : mP V W ∧ (0 ≤ W 156 5 ∧ W 156 5 ≤ n) ∧ (-1 ≤ W 156 7 ∧ W 156 7 ≤ 50) ∧ (-2147483648 ≤ v ∧ v < 2147483648) := by
  rcases h with ⟨l, q, hP, _⟩ | ⟨q, hP, _⟩
  · exact ⟨hP.1, hP.2.2.1, hP.ft, hP.2.1⟩
  · exact ⟨hP.1, hP.2.2.1, hP.ft, hP.2.1⟩
theorem LI.exit (h : LI V nm n g f j R fu v W) (hx : ¬ hr f n W ∈ opsJ j) : PM V nm n R v W := by
  rcases h with ⟨l, q, hP, hR, hn⟩ | ⟨q, hP, hR⟩
  · have e : hr f n W = sgn f n q := by
      obtain ⟨_, _, _, p7, p5, _⟩ := hP
      unfold hr
      rw [if_pos (by omega), p5]
    rw [e] at hx
    rw [hR, lp_e (Or.inr hx)]
    exact hP
  · rw [hR]
    exact hP
theorem LI.go (hg : Bd n g) (h : LI V nm n g f j R fu v W) (hx : hr f n W ∈ opsJ j) : ∃ q, hr f n W = sgn f n q ∧ W 156 7 = -1 ∧ W 156 5 = q ∧ W 156 8 = V 156 8 ∧ mP V W ∧ (0 ≤ q ∧ q < n) ∧ 1 ≤ fu ∧ ∀ w W2, PM (wr W 156 5 (q + 1)) nm n (g (q + 1)) w W2 → LI V nm n g f j R (fu - 1) (jn (sgn f n q) v w) W2 := by
  have hpo := ops_pos hx
  rcases h with ⟨l, q, hP, hR, hn⟩ | ⟨q, hP, hR⟩
  · obtain ⟨p1, p2, p3, p7, p5, p8, pG⟩ := hP
    have e : hr f n W = sgn f n q := by
      unfold hr
      rw [if_pos (by omega), p5]
    have hqn := (sgn_in (f := f) (n := n) (q := q) (by omega)).1
    refine ⟨q, e, p7, p5, p8, p1, ⟨by omega, hqn⟩, by omega, fun w W2 hW2 => ?_⟩
    rw [e] at hx hpo
    rw [show fu = fu - 1 + 1 by omega, lp_s hx] at hR
    have hB := hg (q + 1) (by omega) (by omega)
    generalize hr' : g (q + 1) = r at *
    obtain ⟨o, q'⟩ := r
    have hm : mP V W2 := (p1.w (by omega) _).tr hW2.1
    cases o with
    | none =>
      obtain ⟨a1, a2, a3, a4, a5, a6⟩ := hW2
      exact Or.inr ⟨q', ⟨hm, jn_r, a3, a4, a5, a6⟩, hR⟩
    | some m =>
      obtain ⟨a1, a2, a3, a4, a5, a6, a7⟩ := hW2
      obtain ⟨b1, b2, b3⟩ := hB
      refine Or.inl ⟨l ++ m ++ [-(sgn f n q)], q', ⟨hm, jn_r, a3, a4, a5, ?_, pG.bin a7 hpo.1⟩, hR, by omega⟩
      rw [a6, wr_ne (by omega), p8]
  · obtain ⟨p1, p2, p3, p7, p5, p8⟩ := hP
    have e : hr f n W = -1 := by
      unfold hr
      rw [if_neg (by omega)]
    omega
theorem LI.init {g0 : Int → RR} {q0 : Int} (hj : j ≠ 2) (hn : n ≤ 50) (hP : PM V nm n (lvl g0 f n j q0) v W) : LI V nm n (lvl g0 f n j) f j (lvl g0 f n (j + 1) q0) 50 v W := by
  have e : lvl g0 f n (j + 1) q0 = andR (lvl g0 f n j q0) (fun l q' => lp (lvl g0 f n j) f n j (if j = 2 then 1 else 50) l q') := rfl
  rw [if_neg hj] at e
  generalize hr' : lvl g0 f n j q0 = r at *
  obtain ⟨o, q'⟩ := r
  cases o with
  | none => exact Or.inr ⟨q', hP, e⟩
  | some l => exact Or.inl ⟨l, q', hP, e, by have := hP.2.2.1; have h5 := hP.2.2.2.2.1; show n ≤ q' + 50; omega⟩
end LIx
