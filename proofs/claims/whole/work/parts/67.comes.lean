theorem c_comL_4 {γ : Gh} {K : Sk} {V : Mm} {c : Nat} {a b m i : Int} (hO : (K.1 c).1 = 4 + 10) (f2 : V c 2 = m) (f3 : V c 3 = a) (f4 : V c 4 = b) (ha : 0 ≤ a ∧ a < 3) (hb : 0 ≤ b ∧ b < 3) (hm : 0 ≤ m ∧ m ≤ 9) (hi : 0 ≤ i ∧ i < 3) : Call γ M_X4_comes 0 0 0 [vR c, vI i, vR 102] K V (Rt (some (vI (if i = 0 then a else if i = 1 then b else -1))) K V) := by
  refine call_of (by decide +kernel) (by intro v hv; simp only [List.mem_cons, List.not_mem_nil, or_false] at hv; rcases hv with rfl | rfl | rfl <;> exact fun q => by cases q) (Nat.le_of_ble_eq_true rfl) ?_
  refine ev_lsE (ls' := [_, _, _]) rfl ?_
  refine ev_iload_n (X := M_X4_comes) (pc := 0) dX4_comes_0 rfl ?_
  refine ev_if_ne (X := M_X4_comes) (pc := 1) (tgt := 11) dX4_comes_1 (by decide) (by omega) (fun h1 => ?_) (fun h1 => ?_)
  · refine ev_iload_n (X := M_X4_comes) (pc := 11) dX4_comes_11 rfl ?_
    refine ev_iconst (X := M_X4_comes) (pc := 12) dX4_comes_12 ?_
    refine ev_icmp_ne (X := M_X4_comes) (pc := 13) (tgt := 23) dX4_comes_13 (by decide) (by omega) (by omega) (fun h13 => ?_) (fun h13 => ?_)
    · refine ev_iconst (X := M_X4_comes) (pc := 23) dX4_comes_23 ?_
      refine ev_iret (X := M_X4_comes) (pc := 24) dX4_comes_24 rfl ?_
      refine ⟨congrArg (fun z => some (vI z)) ?_, rfl, rfl⟩
      repeat' split
      all_goals omega
    · refine ev_aload_n (X := M_X4_comes) (pc := 16) dX4_comes_16 rfl ?_
      refine ev_getIe (X := M_X4_comes) (pc := 17) (ki := 4) dX4_comes_17 fl_X4_31_4 hO (by decide) rfl (f4) ?_
      refine ev_goto (X := M_X4_comes) (pc := 20) (tgt := 24) dX4_comes_20 (by decide) ?_
      refine ev_iret (X := M_X4_comes) (pc := 24) dX4_comes_24 rfl ?_
      refine ⟨congrArg (fun z => some (vI z)) ?_, rfl, rfl⟩
      repeat' split
      all_goals omega
  · refine ev_aload_n (X := M_X4_comes) (pc := 4) dX4_comes_4 rfl ?_
    refine ev_getIe (X := M_X4_comes) (pc := 5) (ki := 3) dX4_comes_5 fl_X4_25_4 hO (by decide) rfl (f3) ?_
    refine ev_goto (X := M_X4_comes) (pc := 8) (tgt := 24) dX4_comes_8 (by decide) ?_
    refine ev_iret (X := M_X4_comes) (pc := 24) dX4_comes_24 rfl ?_
    refine ⟨congrArg (fun z => some (vI z)) ?_, rfl, rfl⟩
    repeat' split
    all_goals omega
theorem c_comL_9 {γ : Gh} {K : Sk} {V : Mm} {c : Nat} {a b m i : Int} (hO : (K.1 c).1 = 9 + 10) (f2 : V c 2 = m) (f3 : V c 3 = a) (f4 : V c 4 = b) (ha : 0 ≤ a ∧ a < 3) (hb : 0 ≤ b ∧ b < 3) (hm : 0 ≤ m ∧ m ≤ 9) (hi : 0 ≤ i ∧ i < 3) : Call γ M_X4_comes 0 0 0 [vR c, vI i, vR 102] K V (Rt (some (vI (if i = 0 then a else if i = 1 then b else -1))) K V) := by
  refine call_of (by decide +kernel) (by intro v hv; simp only [List.mem_cons, List.not_mem_nil, or_false] at hv; rcases hv with rfl | rfl | rfl <;> exact fun q => by cases q) (Nat.le_of_ble_eq_true rfl) ?_
  refine ev_lsE (ls' := [_, _, _]) rfl ?_
  refine ev_iload_n (X := M_X4_comes) (pc := 0) dX4_comes_0 rfl ?_
  refine ev_if_ne (X := M_X4_comes) (pc := 1) (tgt := 11) dX4_comes_1 (by decide) (by omega) (fun h1 => ?_) (fun h1 => ?_)
  · refine ev_iload_n (X := M_X4_comes) (pc := 11) dX4_comes_11 rfl ?_
    refine ev_iconst (X := M_X4_comes) (pc := 12) dX4_comes_12 ?_
    refine ev_icmp_ne (X := M_X4_comes) (pc := 13) (tgt := 23) dX4_comes_13 (by decide) (by omega) (by omega) (fun h13 => ?_) (fun h13 => ?_)
    · refine ev_iconst (X := M_X4_comes) (pc := 23) dX4_comes_23 ?_
      refine ev_iret (X := M_X4_comes) (pc := 24) dX4_comes_24 rfl ?_
      refine ⟨congrArg (fun z => some (vI z)) ?_, rfl, rfl⟩
      repeat' split
      all_goals omega
    · refine ev_aload_n (X := M_X4_comes) (pc := 16) dX4_comes_16 rfl ?_
      refine ev_getIe (X := M_X4_comes) (pc := 17) (ki := 4) dX4_comes_17 fl_X4_31_9 hO (by decide) rfl (f4) ?_
      refine ev_goto (X := M_X4_comes) (pc := 20) (tgt := 24) dX4_comes_20 (by decide) ?_
      refine ev_iret (X := M_X4_comes) (pc := 24) dX4_comes_24 rfl ?_
      refine ⟨congrArg (fun z => some (vI z)) ?_, rfl, rfl⟩
      repeat' split
      all_goals omega
  · refine ev_aload_n (X := M_X4_comes) (pc := 4) dX4_comes_4 rfl ?_
    refine ev_getIe (X := M_X4_comes) (pc := 5) (ki := 3) dX4_comes_5 fl_X4_25_9 hO (by decide) rfl (f3) ?_
    refine ev_goto (X := M_X4_comes) (pc := 8) (tgt := 24) dX4_comes_8 (by decide) ?_
    refine ev_iret (X := M_X4_comes) (pc := 24) dX4_comes_24 rfl ?_
    refine ⟨congrArg (fun z => some (vI z)) ?_, rfl, rfl⟩
    repeat' split
    all_goals omega
theorem c_comL_0 {γ : Gh} {K : Sk} {V : Mm} {c : Nat} {a b m i : Int} (hO : (K.1 c).1 = 0 + 10) (f2 : V c 2 = m) (f3 : V c 3 = a) (f4 : V c 4 = b) (ha : 0 ≤ a ∧ a < 3) (hb : 0 ≤ b ∧ b < 3) (hm : 0 ≤ m ∧ m ≤ 9) (hi : 0 ≤ i ∧ i < 3) : Call γ M_X4_comes 0 0 0 [vR c, vI i, vR 102] K V (Rt (some (vI (if i = 0 then a else if i = 1 then b else -1))) K V) := by
  refine call_of (by decide +kernel) (by intro v hv; simp only [List.mem_cons, List.not_mem_nil, or_false] at hv; rcases hv with rfl | rfl | rfl <;> exact fun q => by cases q) (Nat.le_of_ble_eq_true rfl) ?_
  refine ev_lsE (ls' := [_, _, _]) rfl ?_
  refine ev_iload_n (X := M_X4_comes) (pc := 0) dX4_comes_0 rfl ?_
  refine ev_if_ne (X := M_X4_comes) (pc := 1) (tgt := 11) dX4_comes_1 (by decide) (by omega) (fun h1 => ?_) (fun h1 => ?_)
  · refine ev_iload_n (X := M_X4_comes) (pc := 11) dX4_comes_11 rfl ?_
    refine ev_iconst (X := M_X4_comes) (pc := 12) dX4_comes_12 ?_
    refine ev_icmp_ne (X := M_X4_comes) (pc := 13) (tgt := 23) dX4_comes_13 (by decide) (by omega) (by omega) (fun h13 => ?_) (fun h13 => ?_)
    · refine ev_iconst (X := M_X4_comes) (pc := 23) dX4_comes_23 ?_
      refine ev_iret (X := M_X4_comes) (pc := 24) dX4_comes_24 rfl ?_
      refine ⟨congrArg (fun z => some (vI z)) ?_, rfl, rfl⟩
      repeat' split
      all_goals omega
    · refine ev_aload_n (X := M_X4_comes) (pc := 16) dX4_comes_16 rfl ?_
      refine ev_getIe (X := M_X4_comes) (pc := 17) (ki := 4) dX4_comes_17 fl_X4_31_0 hO (by decide) rfl (f4) ?_
      refine ev_goto (X := M_X4_comes) (pc := 20) (tgt := 24) dX4_comes_20 (by decide) ?_
      refine ev_iret (X := M_X4_comes) (pc := 24) dX4_comes_24 rfl ?_
      refine ⟨congrArg (fun z => some (vI z)) ?_, rfl, rfl⟩
      repeat' split
      all_goals omega
  · refine ev_aload_n (X := M_X4_comes) (pc := 4) dX4_comes_4 rfl ?_
    refine ev_getIe (X := M_X4_comes) (pc := 5) (ki := 3) dX4_comes_5 fl_X4_25_0 hO (by decide) rfl (f3) ?_
    refine ev_goto (X := M_X4_comes) (pc := 8) (tgt := 24) dX4_comes_8 (by decide) ?_
    refine ev_iret (X := M_X4_comes) (pc := 24) dX4_comes_24 rfl ?_
    refine ⟨congrArg (fun z => some (vI z)) ?_, rfl, rfl⟩
    repeat' split
    all_goals omega
theorem c_comL_7 {γ : Gh} {K : Sk} {V : Mm} {c : Nat} {a b m i : Int} (hO : (K.1 c).1 = 7 + 10) (f2 : V c 2 = m) (f3 : V c 3 = a) (f4 : V c 4 = b) (ha : 0 ≤ a ∧ a < 3) (hb : 0 ≤ b ∧ b < 3) (hm : 0 ≤ m ∧ m ≤ 9) (hi : 0 ≤ i ∧ i < 3) : Call γ M_X4_comes 0 0 0 [vR c, vI i, vR 102] K V (Rt (some (vI (if i = 0 then a else if i = 1 then b else -1))) K V) := by
  refine call_of (by decide +kernel) (by intro v hv; simp only [List.mem_cons, List.not_mem_nil, or_false] at hv; rcases hv with rfl | rfl | rfl <;> exact fun q => by cases q) (Nat.le_of_ble_eq_true rfl) ?_
  refine ev_lsE (ls' := [_, _, _]) rfl ?_
  refine ev_iload_n (X := M_X4_comes) (pc := 0) dX4_comes_0 rfl ?_
  refine ev_if_ne (X := M_X4_comes) (pc := 1) (tgt := 11) dX4_comes_1 (by decide) (by omega) (fun h1 => ?_) (fun h1 => ?_)
  · refine ev_iload_n (X := M_X4_comes) (pc := 11) dX4_comes_11 rfl ?_
    refine ev_iconst (X := M_X4_comes) (pc := 12) dX4_comes_12 ?_
    refine ev_icmp_ne (X := M_X4_comes) (pc := 13) (tgt := 23) dX4_comes_13 (by decide) (by omega) (by omega) (fun h13 => ?_) (fun h13 => ?_)
    · refine ev_iconst (X := M_X4_comes) (pc := 23) dX4_comes_23 ?_
      refine ev_iret (X := M_X4_comes) (pc := 24) dX4_comes_24 rfl ?_
      refine ⟨congrArg (fun z => some (vI z)) ?_, rfl, rfl⟩
      repeat' split
      all_goals omega
    · refine ev_aload_n (X := M_X4_comes) (pc := 16) dX4_comes_16 rfl ?_
      refine ev_getIe (X := M_X4_comes) (pc := 17) (ki := 4) dX4_comes_17 fl_X4_31_7 hO (by decide) rfl (f4) ?_
      refine ev_goto (X := M_X4_comes) (pc := 20) (tgt := 24) dX4_comes_20 (by decide) ?_
      refine ev_iret (X := M_X4_comes) (pc := 24) dX4_comes_24 rfl ?_
      refine ⟨congrArg (fun z => some (vI z)) ?_, rfl, rfl⟩
      repeat' split
      all_goals omega
  · refine ev_aload_n (X := M_X4_comes) (pc := 4) dX4_comes_4 rfl ?_
    refine ev_getIe (X := M_X4_comes) (pc := 5) (ki := 3) dX4_comes_5 fl_X4_25_7 hO (by decide) rfl (f3) ?_
    refine ev_goto (X := M_X4_comes) (pc := 8) (tgt := 24) dX4_comes_8 (by decide) ?_
    refine ev_iret (X := M_X4_comes) (pc := 24) dX4_comes_24 rfl ?_
    refine ⟨congrArg (fun z => some (vI z)) ?_, rfl, rfl⟩
    repeat' split
    all_goals omega
theorem c_comL_10 {γ : Gh} {K : Sk} {V : Mm} {c : Nat} {a b m i : Int} (hO : (K.1 c).1 = 10 + 10) (f2 : V c 2 = m) (f3 : V c 3 = a) (f4 : V c 4 = b) (ha : 0 ≤ a ∧ a < 3) (hb : 0 ≤ b ∧ b < 3) (hm : 0 ≤ m ∧ m ≤ 9) (hi : 0 ≤ i ∧ i < 3) : Call γ M_X4_comes 0 0 0 [vR c, vI i, vR 102] K V (Rt (some (vI (if i = 0 then a else if i = 1 then b else -1))) K V) := by
  refine call_of (by decide +kernel) (by intro v hv; simp only [List.mem_cons, List.not_mem_nil, or_false] at hv; rcases hv with rfl | rfl | rfl <;> exact fun q => by cases q) (Nat.le_of_ble_eq_true rfl) ?_
  refine ev_lsE (ls' := [_, _, _]) rfl ?_
  refine ev_iload_n (X := M_X4_comes) (pc := 0) dX4_comes_0 rfl ?_
  refine ev_if_ne (X := M_X4_comes) (pc := 1) (tgt := 11) dX4_comes_1 (by decide) (by omega) (fun h1 => ?_) (fun h1 => ?_)
  · refine ev_iload_n (X := M_X4_comes) (pc := 11) dX4_comes_11 rfl ?_
    refine ev_iconst (X := M_X4_comes) (pc := 12) dX4_comes_12 ?_
    refine ev_icmp_ne (X := M_X4_comes) (pc := 13) (tgt := 23) dX4_comes_13 (by decide) (by omega) (by omega) (fun h13 => ?_) (fun h13 => ?_)
    · refine ev_iconst (X := M_X4_comes) (pc := 23) dX4_comes_23 ?_
      refine ev_iret (X := M_X4_comes) (pc := 24) dX4_comes_24 rfl ?_
      refine ⟨congrArg (fun z => some (vI z)) ?_, rfl, rfl⟩
      repeat' split
      all_goals omega
    · refine ev_aload_n (X := M_X4_comes) (pc := 16) dX4_comes_16 rfl ?_
      refine ev_getIe (X := M_X4_comes) (pc := 17) (ki := 4) dX4_comes_17 fl_X4_31_10 hO (by decide) rfl (f4) ?_
      refine ev_goto (X := M_X4_comes) (pc := 20) (tgt := 24) dX4_comes_20 (by decide) ?_
      refine ev_iret (X := M_X4_comes) (pc := 24) dX4_comes_24 rfl ?_
      refine ⟨congrArg (fun z => some (vI z)) ?_, rfl, rfl⟩
      repeat' split
      all_goals omega
  · refine ev_aload_n (X := M_X4_comes) (pc := 4) dX4_comes_4 rfl ?_
    refine ev_getIe (X := M_X4_comes) (pc := 5) (ki := 3) dX4_comes_5 fl_X4_25_10 hO (by decide) rfl (f3) ?_
    refine ev_goto (X := M_X4_comes) (pc := 8) (tgt := 24) dX4_comes_8 (by decide) ?_
    refine ev_iret (X := M_X4_comes) (pc := 24) dX4_comes_24 rfl ?_
    refine ⟨congrArg (fun z => some (vI z)) ?_, rfl, rfl⟩
    repeat' split
    all_goals omega
theorem c_comT_9 {γ : Gh} {K : Sk} {V : Mm} {c : Nat} {a b m i : Int} (hO : (K.1 c).1 = 9 + 10) (f2 : V c 2 = m) (f3 : V c 3 = a) (f4 : V c 4 = b) (ha : 0 ≤ a ∧ a < 3) (hb : 0 ≤ b ∧ b < 3) (hm : 0 ≤ m ∧ m ≤ 9) (hi : 0 ≤ i ∧ i < 3) : Call γ M_X9_comes 1 0 0 [vR c, vI i, vR 102] K V (Rt (some (vI (if a ≠ b ∧ i < 2 then 3 - a - b else (if i = 0 then a else if i = 1 then b else -1)))) K V) := by
  refine call_of (by decide +kernel) (by intro v hv; simp only [List.mem_cons, List.not_mem_nil, or_false] at hv; rcases hv with rfl | rfl | rfl <;> exact fun q => by cases q) (Nat.le_of_ble_eq_true rfl) ?_
  refine ev_lsE (ls' := [_, _, _]) rfl ?_
  refine ev_aload_n (X := M_X9_comes) (pc := 0) dX9_comes_0 rfl ?_
  refine ev_getIe (X := M_X9_comes) (pc := 1) (ki := 3) dX9_comes_1 fl_X9_7_9 hO (by decide) rfl (f3) ?_
  refine ev_aload_n (X := M_X9_comes) (pc := 4) dX9_comes_4 rfl ?_
  refine ev_getIe (X := M_X9_comes) (pc := 5) (ki := 4) dX9_comes_5 fl_X9_13_9 hO (by decide) rfl (f4) ?_
  refine ev_icmp_eq (X := M_X9_comes) (pc := 8) (tgt := 30) dX9_comes_8 (by decide) (by omega) (by omega) (fun h8 => ?_) (fun h8 => ?_)
  · refine ev_aload_n (X := M_X9_comes) (pc := 30) dX9_comes_30 rfl ?_
    refine ev_iload_n (X := M_X9_comes) (pc := 31) dX9_comes_31 rfl ?_
    refine ev_aload_n (X := M_X9_comes) (pc := 32) dX9_comes_32 rfl ?_
    refine ev_superR (X := M_X9_comes) (Y := M_X4_comes) (pc := 33) (ci := 9) dX9_comes_33 mk_X4_comes (by decide) rfl kw_249 kw_239 kw_241 kw_125 hO (c_comL_9 hO f2 f3 f4 ha hb hm hi) rfl (by decide) rfl (Nat.le_of_ble_eq_true rfl) (Nat.zero_add _) (Nat.zero_add _) ?_
    refine ev_iret (X := M_X9_comes) (pc := 36) dX9_comes_36 rfl ?_
    refine ⟨congrArg (fun z => some (vI z)) ?_, rfl, rfl⟩
    repeat' split
    all_goals omega
  · refine ev_iload_n (X := M_X9_comes) (pc := 11) dX9_comes_11 rfl ?_
    refine ev_iconst (X := M_X9_comes) (pc := 12) dX9_comes_12 ?_
    refine ev_icmp_ge (X := M_X9_comes) (pc := 13) (tgt := 30) dX9_comes_13 (by decide) (by omega) (by omega) (fun h13 => ?_) (fun h13 => ?_)
    · refine ev_aload_n (X := M_X9_comes) (pc := 30) dX9_comes_30 rfl ?_
      refine ev_iload_n (X := M_X9_comes) (pc := 31) dX9_comes_31 rfl ?_
      refine ev_aload_n (X := M_X9_comes) (pc := 32) dX9_comes_32 rfl ?_
      refine ev_superR (X := M_X9_comes) (Y := M_X4_comes) (pc := 33) (ci := 9) dX9_comes_33 mk_X4_comes (by decide) rfl kw_249 kw_239 kw_241 kw_125 hO (c_comL_9 hO f2 f3 f4 ha hb hm hi) rfl (by decide) rfl (Nat.le_of_ble_eq_true rfl) (Nat.zero_add _) (Nat.zero_add _) ?_
      refine ev_iret (X := M_X9_comes) (pc := 36) dX9_comes_36 rfl ?_
      refine ⟨congrArg (fun z => some (vI z)) ?_, rfl, rfl⟩
      repeat' split
      all_goals omega
    · refine ev_iconst (X := M_X9_comes) (pc := 16) dX9_comes_16 ?_
      refine ev_aload_n (X := M_X9_comes) (pc := 17) dX9_comes_17 rfl ?_
      refine ev_getIe (X := M_X9_comes) (pc := 18) (ki := 3) dX9_comes_18 fl_X9_7_9 hO (by decide) rfl (f3) ?_
      refine ev_isub (X := M_X9_comes) (pc := 21) dX9_comes_21 ?_
      refine ev_aload_n (X := M_X9_comes) (pc := 22) dX9_comes_22 rfl ?_
      refine ev_getIe (X := M_X9_comes) (pc := 23) (ki := 4) dX9_comes_23 fl_X9_13_9 hO (by decide) rfl (f4) ?_
      refine ev_isub (X := M_X9_comes) (pc := 26) dX9_comes_26 ?_
      refine ev_goto (X := M_X9_comes) (pc := 27) (tgt := 36) dX9_comes_27 (by decide) ?_
      refine ev_iret (X := M_X9_comes) (pc := 36) dX9_comes_36 rfl ?_
      refine ⟨congrArg (fun z => some (vI z)) ?_, rfl, rfl⟩
      repeat' split
      all_goals omega
theorem c_comT_0 {γ : Gh} {K : Sk} {V : Mm} {c : Nat} {a b m i : Int} (hO : (K.1 c).1 = 0 + 10) (f2 : V c 2 = m) (f3 : V c 3 = a) (f4 : V c 4 = b) (ha : 0 ≤ a ∧ a < 3) (hb : 0 ≤ b ∧ b < 3) (hm : 0 ≤ m ∧ m ≤ 9) (hi : 0 ≤ i ∧ i < 3) : Call γ M_X9_comes 1 0 0 [vR c, vI i, vR 102] K V (Rt (some (vI (if a ≠ b ∧ i < 2 then 3 - a - b else (if i = 0 then a else if i = 1 then b else -1)))) K V) := by
  refine call_of (by decide +kernel) (by intro v hv; simp only [List.mem_cons, List.not_mem_nil, or_false] at hv; rcases hv with rfl | rfl | rfl <;> exact fun q => by cases q) (Nat.le_of_ble_eq_true rfl) ?_
  refine ev_lsE (ls' := [_, _, _]) rfl ?_
  refine ev_aload_n (X := M_X9_comes) (pc := 0) dX9_comes_0 rfl ?_
  refine ev_getIe (X := M_X9_comes) (pc := 1) (ki := 3) dX9_comes_1 fl_X9_7_0 hO (by decide) rfl (f3) ?_
  refine ev_aload_n (X := M_X9_comes) (pc := 4) dX9_comes_4 rfl ?_
  refine ev_getIe (X := M_X9_comes) (pc := 5) (ki := 4) dX9_comes_5 fl_X9_13_0 hO (by decide) rfl (f4) ?_
  refine ev_icmp_eq (X := M_X9_comes) (pc := 8) (tgt := 30) dX9_comes_8 (by decide) (by omega) (by omega) (fun h8 => ?_) (fun h8 => ?_)
  · refine ev_aload_n (X := M_X9_comes) (pc := 30) dX9_comes_30 rfl ?_
    refine ev_iload_n (X := M_X9_comes) (pc := 31) dX9_comes_31 rfl ?_
    refine ev_aload_n (X := M_X9_comes) (pc := 32) dX9_comes_32 rfl ?_
    refine ev_superR (X := M_X9_comes) (Y := M_X4_comes) (pc := 33) (ci := 0) dX9_comes_33 mk_X4_comes (by decide) rfl kw_249 kw_239 kw_241 kw_125 hO (c_comL_0 hO f2 f3 f4 ha hb hm hi) rfl (by decide) rfl (Nat.le_of_ble_eq_true rfl) (Nat.zero_add _) (Nat.zero_add _) ?_
    refine ev_iret (X := M_X9_comes) (pc := 36) dX9_comes_36 rfl ?_
    refine ⟨congrArg (fun z => some (vI z)) ?_, rfl, rfl⟩
    repeat' split
    all_goals omega
  · refine ev_iload_n (X := M_X9_comes) (pc := 11) dX9_comes_11 rfl ?_
    refine ev_iconst (X := M_X9_comes) (pc := 12) dX9_comes_12 ?_
    refine ev_icmp_ge (X := M_X9_comes) (pc := 13) (tgt := 30) dX9_comes_13 (by decide) (by omega) (by omega) (fun h13 => ?_) (fun h13 => ?_)
    · refine ev_aload_n (X := M_X9_comes) (pc := 30) dX9_comes_30 rfl ?_
      refine ev_iload_n (X := M_X9_comes) (pc := 31) dX9_comes_31 rfl ?_
      refine ev_aload_n (X := M_X9_comes) (pc := 32) dX9_comes_32 rfl ?_
      refine ev_superR (X := M_X9_comes) (Y := M_X4_comes) (pc := 33) (ci := 0) dX9_comes_33 mk_X4_comes (by decide) rfl kw_249 kw_239 kw_241 kw_125 hO (c_comL_0 hO f2 f3 f4 ha hb hm hi) rfl (by decide) rfl (Nat.le_of_ble_eq_true rfl) (Nat.zero_add _) (Nat.zero_add _) ?_
      refine ev_iret (X := M_X9_comes) (pc := 36) dX9_comes_36 rfl ?_
      refine ⟨congrArg (fun z => some (vI z)) ?_, rfl, rfl⟩
      repeat' split
      all_goals omega
    · refine ev_iconst (X := M_X9_comes) (pc := 16) dX9_comes_16 ?_
      refine ev_aload_n (X := M_X9_comes) (pc := 17) dX9_comes_17 rfl ?_
      refine ev_getIe (X := M_X9_comes) (pc := 18) (ki := 3) dX9_comes_18 fl_X9_7_0 hO (by decide) rfl (f3) ?_
      refine ev_isub (X := M_X9_comes) (pc := 21) dX9_comes_21 ?_
      refine ev_aload_n (X := M_X9_comes) (pc := 22) dX9_comes_22 rfl ?_
      refine ev_getIe (X := M_X9_comes) (pc := 23) (ki := 4) dX9_comes_23 fl_X9_13_0 hO (by decide) rfl (f4) ?_
      refine ev_isub (X := M_X9_comes) (pc := 26) dX9_comes_26 ?_
      refine ev_goto (X := M_X9_comes) (pc := 27) (tgt := 36) dX9_comes_27 (by decide) ?_
      refine ev_iret (X := M_X9_comes) (pc := 36) dX9_comes_36 rfl ?_
      refine ⟨congrArg (fun z => some (vI z)) ?_, rfl, rfl⟩
      repeat' split
      all_goals omega
theorem c_comC_0 {γ : Gh} {K : Sk} {V : Mm} {c : Nat} {a b m i : Int} (hO : (K.1 c).1 = 0 + 10) (f2 : V c 2 = m) (f3 : V c 3 = a) (f4 : V c 4 = b) (ha : 0 ≤ a ∧ a < 3) (hb : 0 ≤ b ∧ b < 3) (hm : 0 ≤ m ∧ m ≤ 9) (hi : 0 ≤ i ∧ i < 3) : Call γ M_X0_comes 2 0 0 [vR c, vI i, vR 102] K V (Rt (some (vI (if a ≠ b ∧ i < 2 then b else (if a ≠ b ∧ i < 2 then 3 - a - b else (if i = 0 then a else if i = 1 then b else -1))))) K V) := by
  refine call_of (by decide +kernel) (by intro v hv; simp only [List.mem_cons, List.not_mem_nil, or_false] at hv; rcases hv with rfl | rfl | rfl <;> exact fun q => by cases q) (Nat.le_of_ble_eq_true rfl) ?_
  refine ev_lsE (ls' := [_, _, _]) rfl ?_
  refine ev_aload_n (X := M_X0_comes) (pc := 0) dX0_comes_0 rfl ?_
  refine ev_getIe (X := M_X0_comes) (pc := 1) (ki := 3) dX0_comes_1 fl_X0_7_0 hO (by decide) rfl (f3) ?_
  refine ev_aload_n (X := M_X0_comes) (pc := 4) dX0_comes_4 rfl ?_
  refine ev_getIe (X := M_X0_comes) (pc := 5) (ki := 4) dX0_comes_5 fl_X0_13_0 hO (by decide) rfl (f4) ?_
  refine ev_icmp_eq (X := M_X0_comes) (pc := 8) (tgt := 23) dX0_comes_8 (by decide) (by omega) (by omega) (fun h8 => ?_) (fun h8 => ?_)
  · refine ev_aload_n (X := M_X0_comes) (pc := 23) dX0_comes_23 rfl ?_
    refine ev_iload_n (X := M_X0_comes) (pc := 24) dX0_comes_24 rfl ?_
    refine ev_aload_n (X := M_X0_comes) (pc := 25) dX0_comes_25 rfl ?_
    refine ev_superR (X := M_X0_comes) (Y := M_X9_comes) (pc := 26) (ci := 0) dX0_comes_26 mk_X9_comes (by decide) rfl kw_245 kw_247 kw_1447 kw_246 hO (c_comT_0 hO f2 f3 f4 ha hb hm hi) rfl (by decide) rfl (Nat.le_of_ble_eq_true rfl) (Nat.zero_add _) (Nat.zero_add _) ?_
    refine ev_iret (X := M_X0_comes) (pc := 29) dX0_comes_29 rfl ?_
    refine ⟨congrArg (fun z => some (vI z)) ?_, rfl, rfl⟩
    repeat' split
    all_goals omega
  · refine ev_iload_n (X := M_X0_comes) (pc := 11) dX0_comes_11 rfl ?_
    refine ev_iconst (X := M_X0_comes) (pc := 12) dX0_comes_12 ?_
    refine ev_icmp_ge (X := M_X0_comes) (pc := 13) (tgt := 23) dX0_comes_13 (by decide) (by omega) (by omega) (fun h13 => ?_) (fun h13 => ?_)
    · refine ev_aload_n (X := M_X0_comes) (pc := 23) dX0_comes_23 rfl ?_
      refine ev_iload_n (X := M_X0_comes) (pc := 24) dX0_comes_24 rfl ?_
      refine ev_aload_n (X := M_X0_comes) (pc := 25) dX0_comes_25 rfl ?_
      refine ev_superR (X := M_X0_comes) (Y := M_X9_comes) (pc := 26) (ci := 0) dX0_comes_26 mk_X9_comes (by decide) rfl kw_245 kw_247 kw_1447 kw_246 hO (c_comT_0 hO f2 f3 f4 ha hb hm hi) rfl (by decide) rfl (Nat.le_of_ble_eq_true rfl) (Nat.zero_add _) (Nat.zero_add _) ?_
      refine ev_iret (X := M_X0_comes) (pc := 29) dX0_comes_29 rfl ?_
      refine ⟨congrArg (fun z => some (vI z)) ?_, rfl, rfl⟩
      repeat' split
      all_goals omega
    · refine ev_aload_n (X := M_X0_comes) (pc := 16) dX0_comes_16 rfl ?_
      refine ev_getIe (X := M_X0_comes) (pc := 17) (ki := 4) dX0_comes_17 fl_X0_13_0 hO (by decide) rfl (f4) ?_
      refine ev_goto (X := M_X0_comes) (pc := 20) (tgt := 29) dX0_comes_20 (by decide) ?_
      refine ev_iret (X := M_X0_comes) (pc := 29) dX0_comes_29 rfl ?_
      refine ⟨congrArg (fun z => some (vI z)) ?_, rfl, rfl⟩
      repeat' split
      all_goals omega
theorem c_comE_1 {γ : Gh} {K : Sk} {V : Mm} {c : Nat} {a b m i : Int} (hO : (K.1 c).1 = 1 + 10) (f2 : V c 2 = m) (f3 : V c 3 = a) (f4 : V c 4 = b) (ha : 0 ≤ a ∧ a < 3) (hb : 0 ≤ b ∧ b < 3) (hm : 0 ≤ m ∧ m ≤ 9) (hi : 0 ≤ i ∧ i < 3) : Call γ M_X1_comes 0 0 0 [vR c, vI i, vR 102] K V (Rt (some (vI (if i = 0 then b else -1))) K V) := by
  refine call_of (by decide +kernel) (by intro v hv; simp only [List.mem_cons, List.not_mem_nil, or_false] at hv; rcases hv with rfl | rfl | rfl <;> exact fun q => by cases q) (Nat.le_of_ble_eq_true rfl) ?_
  refine ev_lsE (ls' := [_, _, _]) rfl ?_
  refine ev_iload_n (X := M_X1_comes) (pc := 0) dX1_comes_0 rfl ?_
  refine ev_if_ne (X := M_X1_comes) (pc := 1) (tgt := 11) dX1_comes_1 (by decide) (by omega) (fun h1 => ?_) (fun h1 => ?_)
  · refine ev_iconst (X := M_X1_comes) (pc := 11) dX1_comes_11 ?_
    refine ev_iret (X := M_X1_comes) (pc := 12) dX1_comes_12 rfl ?_
    refine ⟨congrArg (fun z => some (vI z)) ?_, rfl, rfl⟩
    repeat' split
    all_goals omega
  · refine ev_aload_n (X := M_X1_comes) (pc := 4) dX1_comes_4 rfl ?_
    refine ev_getIe (X := M_X1_comes) (pc := 5) (ki := 4) dX1_comes_5 fl_X1_9_1 hO (by decide) rfl (f4) ?_
    refine ev_goto (X := M_X1_comes) (pc := 8) (tgt := 12) dX1_comes_8 (by decide) ?_
    refine ev_iret (X := M_X1_comes) (pc := 12) dX1_comes_12 rfl ?_
    refine ⟨congrArg (fun z => some (vI z)) ?_, rfl, rfl⟩
    repeat' split
    all_goals omega
theorem c_comE_3 {γ : Gh} {K : Sk} {V : Mm} {c : Nat} {a b m i : Int} (hO : (K.1 c).1 = 3 + 10) (f2 : V c 2 = m) (f3 : V c 3 = a) (f4 : V c 4 = b) (ha : 0 ≤ a ∧ a < 3) (hb : 0 ≤ b ∧ b < 3) (hm : 0 ≤ m ∧ m ≤ 9) (hi : 0 ≤ i ∧ i < 3) : Call γ M_X1_comes 0 0 0 [vR c, vI i, vR 102] K V (Rt (some (vI (if i = 0 then b else -1))) K V) := by
  refine call_of (by decide +kernel) (by intro v hv; simp only [List.mem_cons, List.not_mem_nil, or_false] at hv; rcases hv with rfl | rfl | rfl <;> exact fun q => by cases q) (Nat.le_of_ble_eq_true rfl) ?_
  refine ev_lsE (ls' := [_, _, _]) rfl ?_
  refine ev_iload_n (X := M_X1_comes) (pc := 0) dX1_comes_0 rfl ?_
  refine ev_if_ne (X := M_X1_comes) (pc := 1) (tgt := 11) dX1_comes_1 (by decide) (by omega) (fun h1 => ?_) (fun h1 => ?_)
  · refine ev_iconst (X := M_X1_comes) (pc := 11) dX1_comes_11 ?_
    refine ev_iret (X := M_X1_comes) (pc := 12) dX1_comes_12 rfl ?_
    refine ⟨congrArg (fun z => some (vI z)) ?_, rfl, rfl⟩
    repeat' split
    all_goals omega
  · refine ev_aload_n (X := M_X1_comes) (pc := 4) dX1_comes_4 rfl ?_
    refine ev_getIe (X := M_X1_comes) (pc := 5) (ki := 4) dX1_comes_5 fl_X1_9_3 hO (by decide) rfl (f4) ?_
    refine ev_goto (X := M_X1_comes) (pc := 8) (tgt := 12) dX1_comes_8 (by decide) ?_
    refine ev_iret (X := M_X1_comes) (pc := 12) dX1_comes_12 rfl ?_
    refine ⟨congrArg (fun z => some (vI z)) ?_, rfl, rfl⟩
    repeat' split
    all_goals omega
theorem c_comJ_3 {γ : Gh} {K : Sk} {V : Mm} {c : Nat} {a b m i : Int} (hO : (K.1 c).1 = 3 + 10) (f2 : V c 2 = m) (f3 : V c 3 = a) (f4 : V c 4 = b) (ha : 0 ≤ a ∧ a < 3) (hb : 0 ≤ b ∧ b < 3) (hm : 0 ≤ m ∧ m ≤ 9) (hi : 0 ≤ i ∧ i < 3) : Call γ M_X3_comes 1 0 0 [vR c, vI i, vR 102] K V (Rt (some (vI (if i = 0 then (a + b + m) % 3 else (if i = 0 then b else -1)))) K V) := by
  refine call_of (by decide +kernel) (by intro v hv; simp only [List.mem_cons, List.not_mem_nil, or_false] at hv; rcases hv with rfl | rfl | rfl <;> exact fun q => by cases q) (Nat.le_of_ble_eq_true rfl) ?_
  refine ev_lsE (ls' := [_, _, _]) rfl ?_
  refine ev_iload_n (X := M_X3_comes) (pc := 0) dX3_comes_0 rfl ?_
  refine ev_if_ne (X := M_X3_comes) (pc := 1) (tgt := 23) dX3_comes_1 (by decide) (by omega) (fun h1 => ?_) (fun h1 => ?_)
  · refine ev_aload_n (X := M_X3_comes) (pc := 23) dX3_comes_23 rfl ?_
    refine ev_iload_n (X := M_X3_comes) (pc := 24) dX3_comes_24 rfl ?_
    refine ev_aload_n (X := M_X3_comes) (pc := 25) dX3_comes_25 rfl ?_
    refine ev_superR (X := M_X3_comes) (Y := M_X1_comes) (pc := 26) (ci := 3) dX3_comes_26 mk_X1_comes (by decide) rfl kw_256 kw_251 kw_1448 kw_257 hO (c_comE_3 hO f2 f3 f4 ha hb hm hi) rfl (by decide) rfl (Nat.le_of_ble_eq_true rfl) (Nat.zero_add _) (Nat.zero_add _) ?_
    refine ev_iret (X := M_X3_comes) (pc := 29) dX3_comes_29 rfl ?_
    refine ⟨congrArg (fun z => some (vI z)) ?_, rfl, rfl⟩
    repeat' split
    all_goals omega
  · refine ev_aload_n (X := M_X3_comes) (pc := 4) dX3_comes_4 rfl ?_
    refine ev_getIe (X := M_X3_comes) (pc := 5) (ki := 3) dX3_comes_5 fl_X3_7_3 hO (by decide) rfl (f3) ?_
    refine ev_aload_n (X := M_X3_comes) (pc := 8) dX3_comes_8 rfl ?_
    refine ev_getIe (X := M_X3_comes) (pc := 9) (ki := 4) dX3_comes_9 fl_X3_13_3 hO (by decide) rfl (f4) ?_
    refine ev_iadd (X := M_X3_comes) (pc := 12) dX3_comes_12 ?_
    refine ev_aload_n (X := M_X3_comes) (pc := 13) dX3_comes_13 rfl ?_
    refine ev_getIe (X := M_X3_comes) (pc := 14) (ki := 2) dX3_comes_14 fl_X3_16_3 hO (by decide) rfl (f2) ?_
    refine ev_iadd (X := M_X3_comes) (pc := 17) dX3_comes_17 ?_
    refine ev_iconst (X := M_X3_comes) (pc := 18) dX3_comes_18 ?_
    refine ev_irem (X := M_X3_comes) (pc := 19) dX3_comes_19 (by omega) (by decide) ?_
    refine ev_goto (X := M_X3_comes) (pc := 20) (tgt := 29) dX3_comes_20 (by decide) ?_
    refine ev_iret (X := M_X3_comes) (pc := 29) dX3_comes_29 rfl ?_
    refine ⟨congrArg (fun z => some (vI z)) ?_, rfl, rfl⟩
    repeat' split
    all_goals omega
theorem c_comS_7 {γ : Gh} {K : Sk} {V : Mm} {c : Nat} {a b m i : Int} (hO : (K.1 c).1 = 7 + 10) (f2 : V c 2 = m) (f3 : V c 3 = a) (f4 : V c 4 = b) (ha : 0 ≤ a ∧ a < 3) (hb : 0 ≤ b ∧ b < 3) (hm : 0 ≤ m ∧ m ≤ 9) (hi : 0 ≤ i ∧ i < 3) : Call γ M_X7_comes 1 0 0 [vR c, vI i, vR 102] K V (Rt (some (vI (if i = 2 then m % 3 else (if i = 0 then a else if i = 1 then b else -1)))) K V) := by
  refine call_of (by decide +kernel) (by intro v hv; simp only [List.mem_cons, List.not_mem_nil, or_false] at hv; rcases hv with rfl | rfl | rfl <;> exact fun q => by cases q) (Nat.le_of_ble_eq_true rfl) ?_
  refine ev_lsE (ls' := [_, _, _]) rfl ?_
  refine ev_iload_n (X := M_X7_comes) (pc := 0) dX7_comes_0 rfl ?_
  refine ev_iconst (X := M_X7_comes) (pc := 1) dX7_comes_1 ?_
  refine ev_icmp_ne (X := M_X7_comes) (pc := 2) (tgt := 14) dX7_comes_2 (by decide) (by omega) (by omega) (fun h2 => ?_) (fun h2 => ?_)
  · refine ev_aload_n (X := M_X7_comes) (pc := 14) dX7_comes_14 rfl ?_
    refine ev_iload_n (X := M_X7_comes) (pc := 15) dX7_comes_15 rfl ?_
    refine ev_aload_n (X := M_X7_comes) (pc := 16) dX7_comes_16 rfl ?_
    refine ev_superR (X := M_X7_comes) (Y := M_X4_comes) (pc := 17) (ci := 7) dX7_comes_17 mk_X4_comes (by decide) rfl kw_261 kw_239 kw_241 kw_262 hO (c_comL_7 hO f2 f3 f4 ha hb hm hi) rfl (by decide) rfl (Nat.le_of_ble_eq_true rfl) (Nat.zero_add _) (Nat.zero_add _) ?_
    refine ev_iret (X := M_X7_comes) (pc := 20) dX7_comes_20 rfl ?_
    refine ⟨congrArg (fun z => some (vI z)) ?_, rfl, rfl⟩
    repeat' split
    all_goals omega
  · refine ev_aload_n (X := M_X7_comes) (pc := 5) dX7_comes_5 rfl ?_
    refine ev_getIe (X := M_X7_comes) (pc := 6) (ki := 2) dX7_comes_6 fl_X7_7_7 hO (by decide) rfl (f2) ?_
    refine ev_iconst (X := M_X7_comes) (pc := 9) dX7_comes_9 ?_
    refine ev_irem (X := M_X7_comes) (pc := 10) dX7_comes_10 (by omega) (by decide) ?_
    refine ev_goto (X := M_X7_comes) (pc := 11) (tgt := 20) dX7_comes_11 (by decide) ?_
    refine ev_iret (X := M_X7_comes) (pc := 20) dX7_comes_20 rfl ?_
    refine ⟨congrArg (fun z => some (vI z)) ?_, rfl, rfl⟩
    repeat' split
    all_goals omega
theorem c_comS_10 {γ : Gh} {K : Sk} {V : Mm} {c : Nat} {a b m i : Int} (hO : (K.1 c).1 = 10 + 10) (f2 : V c 2 = m) (f3 : V c 3 = a) (f4 : V c 4 = b) (ha : 0 ≤ a ∧ a < 3) (hb : 0 ≤ b ∧ b < 3) (hm : 0 ≤ m ∧ m ≤ 9) (hi : 0 ≤ i ∧ i < 3) : Call γ M_X7_comes 1 0 0 [vR c, vI i, vR 102] K V (Rt (some (vI (if i = 2 then m % 3 else (if i = 0 then a else if i = 1 then b else -1)))) K V) := by
  refine call_of (by decide +kernel) (by intro v hv; simp only [List.mem_cons, List.not_mem_nil, or_false] at hv; rcases hv with rfl | rfl | rfl <;> exact fun q => by cases q) (Nat.le_of_ble_eq_true rfl) ?_
  refine ev_lsE (ls' := [_, _, _]) rfl ?_
  refine ev_iload_n (X := M_X7_comes) (pc := 0) dX7_comes_0 rfl ?_
  refine ev_iconst (X := M_X7_comes) (pc := 1) dX7_comes_1 ?_
  refine ev_icmp_ne (X := M_X7_comes) (pc := 2) (tgt := 14) dX7_comes_2 (by decide) (by omega) (by omega) (fun h2 => ?_) (fun h2 => ?_)
  · refine ev_aload_n (X := M_X7_comes) (pc := 14) dX7_comes_14 rfl ?_
    refine ev_iload_n (X := M_X7_comes) (pc := 15) dX7_comes_15 rfl ?_
    refine ev_aload_n (X := M_X7_comes) (pc := 16) dX7_comes_16 rfl ?_
    refine ev_superR (X := M_X7_comes) (Y := M_X4_comes) (pc := 17) (ci := 10) dX7_comes_17 mk_X4_comes (by decide) rfl kw_261 kw_239 kw_241 kw_262 hO (c_comL_10 hO f2 f3 f4 ha hb hm hi) rfl (by decide) rfl (Nat.le_of_ble_eq_true rfl) (Nat.zero_add _) (Nat.zero_add _) ?_
    refine ev_iret (X := M_X7_comes) (pc := 20) dX7_comes_20 rfl ?_
    refine ⟨congrArg (fun z => some (vI z)) ?_, rfl, rfl⟩
    repeat' split
    all_goals omega
  · refine ev_aload_n (X := M_X7_comes) (pc := 5) dX7_comes_5 rfl ?_
    refine ev_getIe (X := M_X7_comes) (pc := 6) (ki := 2) dX7_comes_6 fl_X7_7_10 hO (by decide) rfl (f2) ?_
    refine ev_iconst (X := M_X7_comes) (pc := 9) dX7_comes_9 ?_
    refine ev_irem (X := M_X7_comes) (pc := 10) dX7_comes_10 (by omega) (by decide) ?_
    refine ev_goto (X := M_X7_comes) (pc := 11) (tgt := 20) dX7_comes_11 (by decide) ?_
    refine ev_iret (X := M_X7_comes) (pc := 20) dX7_comes_20 rfl ?_
    refine ⟨congrArg (fun z => some (vI z)) ?_, rfl, rfl⟩
    repeat' split
    all_goals omega
theorem c_comO_10 {γ : Gh} {K : Sk} {V : Mm} (hL : Lay K) {D : Int → Int} (hTI : TI K V 104 D 0) (hT : TxOk D 0) {c : Nat} {a b m i : Int} (hO : (K.1 c).1 = 10 + 10) (f2 : V c 2 = m) (f3 : V c 3 = a) (f4 : V c 4 = b) (ha : 0 ≤ a ∧ a < 3) (hb : 0 ≤ b ∧ b < 3) (hm : 0 ≤ m ∧ m ≤ 9) (hi : 0 ≤ i ∧ i < 3) : Call γ M_X10_comes 3 0 0 [vR c, vI i, vR 102] K V (Qx (some (vI (if i < 2 then giv D 0 a b m 0 else if 4 < m then (if i = 2 then m % 3 else (if i = 0 then a else if i = 1 then b else -1)) else -1))) K (fT K 104 0 V)) := by
  refine call_of (by decide +kernel) (by intro v hv; simp only [List.mem_cons, List.not_mem_nil, or_false] at hv; rcases hv with rfl | rfl | rfl <;> exact fun q => by cases q) (Nat.le_of_ble_eq_true rfl) ?_
  refine ev_lsE (ls' := [_, _, _]) rfl ?_
  refine ev_iload_n (X := M_X10_comes) (pc := 0) dX10_comes_0 rfl ?_
  refine ev_iconst (X := M_X10_comes) (pc := 1) dX10_comes_1 ?_
  refine ev_icmp_ge (X := M_X10_comes) (pc := 2) (tgt := 22) dX10_comes_2 (by decide) (by omega) (by omega) (fun h2 => ?_) (fun h2 => ?_)
  · refine ev_aload_n (X := M_X10_comes) (pc := 22) dX10_comes_22 rfl ?_
    refine ev_getIe (X := M_X10_comes) (pc := 23) (ki := 2) dX10_comes_23 fl_X10_18_10 hO (by decide) rfl (f2) ?_
    refine ev_iconst (X := M_X10_comes) (pc := 26) dX10_comes_26 ?_
    refine ev_icmp_le (X := M_X10_comes) (pc := 27) (tgt := 39) dX10_comes_27 (by decide) (by omega) (by omega) (fun h27 => ?_) (fun h27 => ?_)
    · refine ev_iconst (X := M_X10_comes) (pc := 39) dX10_comes_39 ?_
      refine ev_iret (X := M_X10_comes) (pc := 40) dX10_comes_40 rfl ?_
      first
        | exact ⟨by rw [if_neg (show ¬ i < 2 by omega), if_pos (show 4 < m by omega)], rfl, fT.rf⟩
        | exact ⟨by rw [if_neg (show ¬ i < 2 by omega), if_neg (show ¬ 4 < m by omega)], rfl, fT.rf⟩
    · refine ev_aload_n (X := M_X10_comes) (pc := 30) dX10_comes_30 rfl ?_
      refine ev_iload_n (X := M_X10_comes) (pc := 31) dX10_comes_31 rfl ?_
      refine ev_aload_n (X := M_X10_comes) (pc := 32) dX10_comes_32 rfl ?_
      refine ev_superR (X := M_X10_comes) (Y := M_X7_comes) (pc := 33) (ci := 10) dX10_comes_33 mk_X7_comes (by decide) rfl kw_279 kw_259 kw_1449 kw_280 hO (c_comS_10 hO f2 f3 f4 ha hb hm hi) rfl (by decide) rfl (Nat.le_of_ble_eq_true rfl) (Nat.zero_add _) (Nat.zero_add _) ?_
      refine ev_goto (X := M_X10_comes) (pc := 36) (tgt := 40) dX10_comes_36 (by decide) ?_
      refine ev_iret (X := M_X10_comes) (pc := 40) dX10_comes_40 rfl ?_
      first
        | exact ⟨by rw [if_neg (show ¬ i < 2 by omega), if_pos (show 4 < m by omega)], rfl, fT.rf⟩
        | exact ⟨by rw [if_neg (show ¬ i < 2 by omega), if_neg (show ¬ 4 < m by omega)], rfl, fT.rf⟩
  · refine ev_aload_n (X := M_X10_comes) (pc := 5) dX10_comes_5 rfl ?_
    refine ev_aload_n (X := M_X10_comes) (pc := 6) dX10_comes_6 rfl ?_
    refine ev_getIe (X := M_X10_comes) (pc := 7) (ki := 3) dX10_comes_7 fl_X10_9_10 hO (by decide) rfl (f3) ?_
    refine ev_aload_n (X := M_X10_comes) (pc := 10) dX10_comes_10 rfl ?_
    refine ev_getIe (X := M_X10_comes) (pc := 11) (ki := 4) dX10_comes_11 fl_X10_15_10 hO (by decide) rfl (f4) ?_
    refine ev_aload_n (X := M_X10_comes) (pc := 14) dX10_comes_14 rfl ?_
    refine ev_getIe (X := M_X10_comes) (pc := 15) (ki := 2) dX10_comes_15 fl_X10_18_10 hO (by decide) rfl (f2) ?_
    refine ev_virtX (X := M_X10_comes) (Y := M_X2_sortGiven) (pc := 18) (ci := 2) dX10_comes_18 mk_X2_sortGiven rfl kw_267 kw_268 kw_269 (lO_102 hL) (c_sortGiven hL hTI hT (by omega) (by omega) (by omega)) rfl (by decide) rfl (Nat.le_of_ble_eq_true rfl) (Nat.zero_add _) (Nat.zero_add _) (fun W hW => ?_)
    refine ev_iret (X := M_X10_comes) (pc := 21) dX10_comes_21 rfl ?_
    exact ⟨by rw [if_pos (by omega)], rfl, hW⟩
theorem ev_eqI {γ : Gh} {X : MX} {d mc ms pc : Nat} {ls st : List PV} {K : Sk} {V : Mm} {Q : Option PV → Sk → Mm → Prop} {x y : Int} (h : y = x) (k : Ev γ X d mc ms pc ls (vI y :: st) K V Q) : Ev γ X d mc ms pc ls (vI x :: st) K V Q := h ▸ k
def lcl (kd : Int) : Nat := if kd = 1 then 9 else if kd = 2 then 1 else if kd = 3 then 7 else if kd = 4 then 0 else if kd = 5 then 3 else if kd = 6 then 10 else 4
/-- a law's own cells: made with the islands, or later -/
def ownA (c : Nat) : Prop := (112 ≤ c ∧ c ≤ 117) ∨ (137 ≤ c ∧ c ≤ 142) ∨ 178 ≤ c
def LawA (K : Sk) (V : Mm) (c : Nat) (p kd m : Int) : Prop := (K.1 c).1 = lcl kd + 10 ∧ V c 0 = kd ∧ V c 1 = p ∧ V c 2 = m ∧ V c 3 = lesF p ∧ V c 4 = greF p ∧ ownA c
def cmI (D : Int → Int) (p i : Int) : Int := if i = 0 then cm0 D p else if i = 1 then cm1 D p else cm2 D p
section LC
variable {γ : Gh} {X : MX} {d mc ms pc : Nat} {ls st : List PV} {K : Sk} {V : Mm} {Q : Option PV → Sk → Mm → Prop}
theorem ev_lawComes {index c : Nat} {D : Int → Int} {p i : Int} (hd : decode X.2.1 pc = .ok (.invokevirtual index, 3)) (w1 : Cond.methodLink X.1.cls index yX4_comes ∈ tb) (hL : Lay K) (hK : Kds D) (hTI : TI K V 104 D 0) (hp : 0 ≤ p ∧ p < 6) (hi : 0 ≤ i ∧ i < 3) (hA : LawA K V c p (D (3 + p)) (D (9 + p))) (hd' : 3 < d) (hW : (st.map pcat).sum ≤ 8) (kk : ∀ W, fT K 104 0 V W → Ev γ X d mc ms (pc + 3) ls (vI (cmI D p i) :: st) K W Q) : Ev γ X d mc ms pc ls (vR 102 :: vI i :: vR c :: st) K V Q := by
  obtain ⟨hO, a0, a1, a2, a3, a4, a5⟩ := hA
  have hk := hK.1 p hp.1 hp.2
  have hT := hK.2
  have ha := les_r p hp
  have hb := gre_r p hp
  have hm : 0 ≤ D (9 + p) ∧ D (9 + p) ≤ 9 := hk.2
  have hlg : lesF p + greF p ≤ 3 ∨ lesF p = greF p := by
    unfold lesF greF
    repeat' split
    all_goals omega
  have kk0 := kk V fT.rf
  have hcm : cmI D p i = if i = 0 then cm0 D p else if i = 1 then cm1 D p else cm2 D p := rfl
  unfold cm0 cm1 cm2 at hcm
  rcases (show D (3 + p) = 0 ∨ D (3 + p) = 1 ∨ D (3 + p) = 2 ∨ D (3 + p) = 3 ∨ D (3 + p) = 4 ∨ D (3 + p) = 5 ∨ D (3 + p) = 6 by omega) with z | z | z | z | z | z | z <;> rw [z] at hO hcm
  · refine ev_virtUR (Y := M_X4_comes) (ci := 4) hd mk_X4_comes rfl w1 kw_239 kw_240 kw_241 kw_239 kw_281 ⟨by decide, by decide⟩ rfl hO (c_comL_4 hO a2 a3 a4 ha hb hm hi) rfl (Nat.lt_of_le_of_lt (by decide) hd') rfl hW (Nat.zero_add _) (Nat.zero_add _) ?_
    refine ev_eqI ?_ kk0
    rw [hcm]
    repeat' split
    all_goals first | rfl | omega
  · refine ev_virtUR (Y := M_X9_comes) (ci := 9) hd mk_X9_comes rfl w1 kw_247 kw_263 kw_241 kw_239 kw_281 ⟨by decide, by decide⟩ rfl hO (c_comT_9 hO a2 a3 a4 ha hb hm hi) rfl (Nat.lt_of_le_of_lt (by decide) hd') rfl hW (Nat.zero_add _) (Nat.zero_add _) ?_
    refine ev_eqI ?_ kk0
    rw [hcm]
    repeat' split
    all_goals first | rfl | omega
  · refine ev_virtUR (Y := M_X1_comes) (ci := 1) hd mk_X1_comes rfl w1 kw_251 kw_250 kw_241 kw_239 kw_281 ⟨by decide, by decide⟩ rfl hO (c_comE_1 hO a2 a3 a4 ha hb hm hi) rfl (Nat.lt_of_le_of_lt (by decide) hd') rfl hW (Nat.zero_add _) (Nat.zero_add _) ?_
    refine ev_eqI ?_ kk0
    rw [hcm]
    repeat' split
    all_goals first | rfl | omega
  · refine ev_virtUR (Y := M_X7_comes) (ci := 7) hd mk_X7_comes rfl w1 kw_259 kw_258 kw_241 kw_239 kw_281 ⟨by decide, by decide⟩ rfl hO (c_comS_7 hO a2 a3 a4 ha hb hm hi) rfl (Nat.lt_of_le_of_lt (by decide) hd') rfl hW (Nat.zero_add _) (Nat.zero_add _) ?_
    refine ev_eqI ?_ kk0
    rw [hcm]
    repeat' split
    all_goals first | rfl | omega
  · refine ev_virtUR (Y := M_X0_comes) (ci := 0) hd mk_X0_comes rfl w1 kw_243 kw_242 kw_241 kw_239 kw_281 ⟨by decide, by decide⟩ rfl hO (c_comC_0 hO a2 a3 a4 ha hb hm hi) rfl (Nat.lt_of_le_of_lt (by decide) hd') rfl hW (Nat.zero_add _) (Nat.zero_add _) ?_
    refine ev_eqI ?_ kk0
    rw [hcm]
    repeat' split
    all_goals first | rfl | omega
  · refine ev_virtUR (Y := M_X3_comes) (ci := 3) hd mk_X3_comes rfl w1 kw_254 kw_253 kw_241 kw_239 kw_281 ⟨by decide, by decide⟩ rfl hO (c_comJ_3 hO a2 a3 a4 ha hb hm hi) rfl (Nat.lt_of_le_of_lt (by decide) hd') rfl hW (Nat.zero_add _) (Nat.zero_add _) ?_
    refine ev_eqI ?_ kk0
    rw [hcm]
    repeat' split
    all_goals first | rfl | omega
  · refine ev_virtUX (Y := M_X10_comes) (ci := 10) hd mk_X10_comes rfl w1 kw_265 kw_264 kw_241 kw_239 kw_281 ⟨by decide, by decide⟩ rfl hO (c_comO_10 hL hTI hT hO a2 a3 a4 ha hb hm hi) rfl (Nat.lt_of_le_of_lt (by decide) hd') rfl hW (Nat.zero_add _) (Nat.zero_add _) (fun W hW2 => ?_)
    refine ev_eqI ?_ (kk W hW2)
    rw [hcm]
    repeat' split
    all_goals first | rfl | omega
end LC
