/-! ===== the class: images ===== -/
/-- island a has taken all from island b -/
def TkF (K : Sk) (V : Mm) (a b : Nat) (K' : Sk) (W : Mm) : Prop := K'.1 = K.1 ∧ K'.2.2 = K.2.2 ∧ (∀ c j, c ≠ a + 1 → c ≠ a + 2 → K'.2.1 c j = K.2.1 c j) ∧ (∀ j, 0 ≤ j → j < 6 → K'.2.1 (a + 1) j = K.2.1 (b + 1) j) ∧ (∀ j, 0 ≤ j → j < 2 → K'.2.1 (a + 2) j = K.2.1 (b + 2) j) ∧ (∀ c, c ≠ a → ¬ (a + 3 ≤ c ∧ c ≤ a + 6) → W c = V c) ∧ (∀ i, 4 ≤ i → i ≤ 8 → W a i = V b i) ∧ W (a + 3) 1 = V (b + 3) 1 ∧ (∀ i, 0 ≤ i → i < V (b + 3) 1 → W (a + 4) i = V (b + 4) i) ∧ W (a + 5) 1 = V (b + 5) 1 ∧ ∀ i, 0 ≤ i → i < V (b + 5) 1 → W (a + 6) i = V (b + 6) i
theorem row_ct {K : Sk} (hL : Lay K) : RowAt K 130 131 50 ∧ RowAt K 132 133 20 := ⟨⟨lO_130 hL, lR_130_0 hL, lS_131 hL, by decide, by decide, by decide, by decide⟩, ⟨lO_132 hL, lR_132_0 hL, lS_133 hL, by decide, by decide, by decide, by decide⟩⟩
theorem c_take_127 {γ : Gh} {K : Sk} {V : Mm} (hL : Lay K) {D : Int → Int} (hLT : LTA K V 102 D) (ht : 0 ≤ V 105 1 ∧ V 105 1 ≤ 50) (hwt : 0 ≤ V 107 1 ∧ V 107 1 ≤ 20) : Call γ M_X2_takeFrom 3 0 0 [vR 127, vR 102] K V (Qg none (TkF K V 127 102)) := by
  refine call_of (by decide +kernel) (by intro v hv; simp only [List.mem_cons, List.not_mem_nil, or_false] at hv; rcases hv with rfl | rfl <;> exact fun q => by cases q) (Nat.le_of_ble_eq_true rfl) ?_
  refine ev_lsE (ls' := [_, _, _]) rfl ?_
  have ph3 : ∀ K2 : Sk, Lay K2 → K2.1 = K.1 → K2.2.2 = K.2.2 → (∀ c j, c ≠ 128 → c ≠ 129 → K2.2.1 c j = K.2.1 c j) → (∀ j, 0 ≤ j → j < 6 → K2.2.1 128 j = K.2.1 103 j) → (∀ j, 0 ≤ j → j < 2 → K2.2.1 129 j = K.2.1 104 j) → Ev γ M_X2_takeFrom 3 0 0 51 [vR 127, vR 102, vU] [] K2 V (Qg none (TkF K V 127 102)) := by
    intro K2 hL k1 k2 k3 k4 k5
    have r1 : RowAt K2 130 131 50 := (row_ct hL).1
    have r2 : RowAt K2 105 106 50 := row_105 hL
    have r3 : RowAt K2 132 133 20 := (row_ct hL).2
    have r4 : RowAt K2 107 108 20 := row_107 hL
    refine ev_aload_n (X := M_X2_takeFrom) (pc := 51) dX2_takeFrom_51 rfl ?_
    refine ev_getRe (X := M_X2_takeFrom) (pc := 52) dX2_takeFrom_52 fl_X2_28_2 (lO_127 hL) rfl (lR_127_2 hL) ?_
    refine ev_aload_n (X := M_X2_takeFrom) (pc := 55) dX2_takeFrom_55 rfl ?_
    refine ev_getRe (X := M_X2_takeFrom) (pc := 56) dX2_takeFrom_56 fl_X2_28_2 (lO_102 hL) rfl (lR_102_2 hL) ?_
    refine ev_virtV (X := M_X2_takeFrom) (Y := M_X5_takeFrom) (pc := 59) (ci := 5) dX2_takeFrom_59 mk_X5_takeFrom rfl kw_957 kw_958 kw_959 (lO_130 hL) (c_Row_takeFrom r1 r2 ht) rfl (by decide) rfl (Nat.le_of_ble_eq_true rfl) (Nat.zero_add _) (Nat.zero_add _) ?_
    obtain ⟨V1, hV1⟩ : ∃ V1, wr (setr V 131 (cpy (V 106) (V 131) 0 0 (V 105 1))) 130 1 (V 105 1) = V1 := ⟨_, rfl⟩
    have a0 : ∀ c, c ≠ 130 → c ≠ 131 → V1 c = V c := fun c z y => by rw [← hV1, wr_off z, setr_ne y]
    have a1 : V1 130 1 = V 105 1 := by rw [← hV1, wr_self]
    have a2 : ∀ i, 0 ≤ i → i < V 105 1 → V1 131 i = V 106 i := fun i i0 i1 => by
      rw [← hV1, wr_off (by decide), setr_self]
      unfold cpy
      rw [if_pos (by omega), show 0 + (i - 0) = i by omega]
    rw [hV1]
    clear hV1
    have hz5 : 0 ≤ V1 107 1 ∧ V1 107 1 ≤ (20 : Nat) := by rw [a0 107 (by decide) (by decide)]; exact hwt
    refine ev_aload_n (X := M_X2_takeFrom) (pc := 62) dX2_takeFrom_62 rfl ?_
    refine ev_getRe (X := M_X2_takeFrom) (pc := 63) dX2_takeFrom_63 fl_X2_32_2 (lO_127 hL) rfl (lR_127_3 hL) ?_
    refine ev_aload_n (X := M_X2_takeFrom) (pc := 66) dX2_takeFrom_66 rfl ?_
    refine ev_getRe (X := M_X2_takeFrom) (pc := 67) dX2_takeFrom_67 fl_X2_32_2 (lO_102 hL) rfl (lR_102_3 hL) ?_
    refine ev_virtV (X := M_X2_takeFrom) (Y := M_X5_takeFrom) (pc := 70) (ci := 5) dX2_takeFrom_70 mk_X5_takeFrom rfl kw_957 kw_958 kw_959 (lO_132 hL) (c_Row_takeFrom r3 r4 hz5) rfl (by decide) rfl (Nat.le_of_ble_eq_true rfl) (Nat.zero_add _) (Nat.zero_add _) ?_
    rw [a0 107 (by decide) (by decide), a0 108 (by decide) (by decide), a0 133 (by decide) (by decide)]
    obtain ⟨V2, hV2⟩ : ∃ V2, wr (setr V1 133 (cpy (V 108) (V 133) 0 0 (V 107 1))) 132 1 (V 107 1) = V2 := ⟨_, rfl⟩
    have b0 : ∀ c, c ≠ 132 → c ≠ 133 → V2 c = V1 c := fun c z y => by rw [← hV2, wr_off z, setr_ne y]
    have b1 : V2 132 1 = V 107 1 := by rw [← hV2, wr_self]
    have b2 : ∀ i, 0 ≤ i → i < V 107 1 → V2 133 i = V 108 i := fun i i0 i1 => by
      rw [← hV2, wr_off (by decide), setr_self]
      unfold cpy
      rw [if_pos (by omega), show 0 + (i - 0) = i by omega]
    rw [hV2]
    clear hV2
    have bB : V2 102 = V 102 := by rw [b0 102 (by decide) (by decide), a0 102 (by decide) (by decide)]
    refine ev_aload_n (X := M_X2_takeFrom) (pc := 73) dX2_takeFrom_73 rfl ?_
    refine ev_aload_n (X := M_X2_takeFrom) (pc := 74) dX2_takeFrom_74 rfl ?_
    refine ev_getIe (X := M_X2_takeFrom) (pc := 75) (ki := 4) dX2_takeFrom_75 fl_X2_58_2 (lO_102 hL) (by decide) rfl (congrFun bB _) ?_
    refine ev_putI (X := M_X2_takeFrom) (pc := 78) (ki := 4) dX2_takeFrom_78 fl_X2_58_2 (by decide) (lO_127 hL) (fun _ h q => by cases h; cases q) (Or.inl rfl) rfl ?_
    refine ev_aload_n (X := M_X2_takeFrom) (pc := 81) dX2_takeFrom_81 rfl ?_
    refine ev_aload_n (X := M_X2_takeFrom) (pc := 82) dX2_takeFrom_82 rfl ?_
    refine ev_getIe (X := M_X2_takeFrom) (pc := 83) (ki := 5) dX2_takeFrom_83 fl_X2_61_2 (lO_102 hL) (by decide) rfl (show _ = V 102 5 from by rw [wr_off (by decide)]; exact congrFun bB _) ?_
    refine ev_putI (X := M_X2_takeFrom) (pc := 86) (ki := 5) dX2_takeFrom_86 fl_X2_61_2 (by decide) (lO_127 hL) (fun _ h q => by cases h; cases q) (Or.inl rfl) rfl ?_
    refine ev_aload_n (X := M_X2_takeFrom) (pc := 89) dX2_takeFrom_89 rfl ?_
    refine ev_aload_n (X := M_X2_takeFrom) (pc := 90) dX2_takeFrom_90 rfl ?_
    refine ev_getIe (X := M_X2_takeFrom) (pc := 91) (ki := 6) dX2_takeFrom_91 fl_X2_64_2 (lO_102 hL) (by decide) rfl (show _ = V 102 6 from by rw [wr_off (by decide), wr_off (by decide)]; exact congrFun bB _) ?_
    refine ev_putI (X := M_X2_takeFrom) (pc := 94) (ki := 6) dX2_takeFrom_94 fl_X2_64_2 (by decide) (lO_127 hL) (fun _ h q => by cases h; cases q) (Or.inl rfl) rfl ?_
    refine ev_aload_n (X := M_X2_takeFrom) (pc := 97) dX2_takeFrom_97 rfl ?_
    refine ev_aload_n (X := M_X2_takeFrom) (pc := 98) dX2_takeFrom_98 rfl ?_
    refine ev_getIe (X := M_X2_takeFrom) (pc := 99) (ki := 7) dX2_takeFrom_99 fl_X2_67_2 (lO_102 hL) (by decide) rfl (show _ = V 102 7 from by rw [wr_off (by decide), wr_off (by decide), wr_off (by decide)]; exact congrFun bB _) ?_
    refine ev_putI (X := M_X2_takeFrom) (pc := 102) (ki := 7) dX2_takeFrom_102 fl_X2_67_2 (by decide) (lO_127 hL) (fun _ h q => by cases h; cases q) (Or.inl rfl) rfl ?_
    refine ev_aload_n (X := M_X2_takeFrom) (pc := 105) dX2_takeFrom_105 rfl ?_
    refine ev_aload_n (X := M_X2_takeFrom) (pc := 106) dX2_takeFrom_106 rfl ?_
    refine ev_getIe (X := M_X2_takeFrom) (pc := 107) (ki := 8) dX2_takeFrom_107 fl_X2_35_2 (lO_102 hL) (by decide) rfl (show _ = V 102 8 from by rw [wr_off (by decide), wr_off (by decide), wr_off (by decide), wr_off (by decide)]; exact congrFun bB _) ?_
    refine ev_putI (X := M_X2_takeFrom) (pc := 110) (ki := 8) dX2_takeFrom_110 fl_X2_35_2 (by decide) (lO_127 hL) (fun _ h q => by cases h; cases q) (Or.inl rfl) rfl ?_
    refine ev_vret (X := M_X2_takeFrom) (pc := 113) dX2_takeFrom_113 rfl ?_
    refine ⟨rfl, k1, k2, k3, k4, k5, fun c c1 c2 => ?_, fun i i0 i1 => ?_, ?_, fun i i0 i1 => ?_, ?_, fun i i0 i1 => ?_⟩
    · rw [wr_off c1, wr_off c1, wr_off c1, wr_off c1, wr_off c1, b0 c (by omega) (by omega), a0 c (by omega) (by omega)]
    · rcases (show i = 4 ∨ i = 5 ∨ i = 6 ∨ i = 7 ∨ i = 8 by omega) with z | z | z | z | z <;> subst z
      · rw [wr_ne (by decide), wr_ne (by decide), wr_ne (by decide), wr_ne (by decide), wr_self]
      · rw [wr_ne (by decide), wr_ne (by decide), wr_ne (by decide), wr_self]
      · rw [wr_ne (by decide), wr_ne (by decide), wr_self]
      · rw [wr_ne (by decide), wr_self]
      · rw [wr_self]
    · show wr (wr (wr (wr (wr V2 127 4 _) 127 5 _) 127 6 _) 127 7 _) 127 8 _ 130 1 = _
      rw [wr_off (by decide), wr_off (by decide), wr_off (by decide), wr_off (by decide), wr_off (by decide), b0 130 (by decide) (by decide)]; exact a1
    · show wr (wr (wr (wr (wr V2 127 4 _) 127 5 _) 127 6 _) 127 7 _) 127 8 _ 131 i = _
      rw [wr_off (by decide), wr_off (by decide), wr_off (by decide), wr_off (by decide), wr_off (by decide), b0 131 (by decide) (by decide)]; exact a2 i i0 i1
    · show wr (wr (wr (wr (wr V2 127 4 _) 127 5 _) 127 6 _) 127 7 _) 127 8 _ 132 1 = _
      rw [wr_off (by decide), wr_off (by decide), wr_off (by decide), wr_off (by decide), wr_off (by decide)]; exact b1
    · show wr (wr (wr (wr (wr V2 127 4 _) 127 5 _) 127 6 _) 127 7 _) 127 8 _ 133 i = _
      rw [wr_off (by decide), wr_off (by decide), wr_off (by decide), wr_off (by decide), wr_off (by decide)]; exact b2 i i0 i1
  have ph2 : ∀ K1 : Sk, Lay K1 → K1.1 = K.1 → K1.2.2 = K.2.2 → (∀ c j, c ≠ 128 → K1.2.1 c j = K.2.1 c j) → (∀ j, 0 ≤ j → j < 6 → K1.2.1 128 j = K.2.1 103 j) → Ev γ M_X2_takeFrom 3 0 0 26 [vR 127, vR 102, vU] [] K1 V (Qg none (TkF K V 127 102)) := by
    intro K1 hL1 k1 k2 k3 k4
    refine ev_iconst (X := M_X2_takeFrom) (pc := 26) dX2_takeFrom_26 ?_
    refine ev_istore_nL (X := M_X2_takeFrom) (pc := 27) (ls' := [_, _, _]) dX2_takeFrom_27 (by decide) rfl ?_
    refine ev_weak (ev_while (σ := Int × Sk) (fun z => 0 ≤ z.1 ∧ z.1 ≤ 2 ∧ z.2.1 = K.1 ∧ z.2.2.2 = K.2.2 ∧ (∀ c j, c ≠ 128 → c ≠ 129 → z.2.2.1 c j = K.2.1 c j) ∧ (∀ j, 0 ≤ j → j < 6 → z.2.2.1 128 j = K.2.1 103 j) ∧ ∀ j, 0 ≤ j → j < z.1 → z.2.2.1 129 j = K.2.1 104 j) (fun z => (2 - z.1).toNat) (fun z => [vR 127, vR 102, vI z.1]) (fun z => z.2) (fun _ => V) ?_ (0, K1) ⟨Int.le_refl 0, by show (0 : Int) ≤ 2; decide, k1, k2, fun c j c1 _ => k3 c j c1, k4, fun j j0 j1 => by change j < 0 at j1; omega⟩) ⟨rfl, rfl, rfl, trivial⟩
    rintro ⟨i, K2⟩ ⟨i0, i1, x1, x2, x3, x4, x5⟩ ih
    dsimp only at i0 i1 x1 x2 x3 x4 x5 ih ⊢
    have hLo := hL
    have hL : Lay K2 := hLo.mv (fun c _ => by rw [x1]) (fun c j _ y1 y2 y3 y4 => x3 c j (by omega) (by omega)) (by omega)
    obtain ⟨t, ht2⟩ : ∃ t, K.2.1 104 i = t := ⟨_, rfl⟩
    have hx : K2.2.1 104 i = t := by rw [x3 104 i (by decide) (by decide)]; exact ht2
    have hty : i < 2 → t = 0 ∨ ∃ ci, (K2.1 t).1 = ci + 10 ∧ asgW 6 ci := fun z => by
      have hTI : TI K V 104 D i := by
        rcases (show i = 0 ∨ i = 1 by omega) with y | y <;> subst y
        · exact hLT.2.1
        · exact hLT.2.2
      unfold TI at hTI
      rw [ht2] at hTI
      rcases hTI with y | y
      · exact Or.inl y.1
      · exact Or.inr ⟨8, by rw [x1, y.2.2.1], ⟨_, rfl, Or.inl rfl⟩⟩
    refine ev_iload_n (X := M_X2_takeFrom) (pc := 28) dX2_takeFrom_28 rfl ?_
    refine ev_iconst (X := M_X2_takeFrom) (pc := 29) dX2_takeFrom_29 ?_
    refine ev_icmp_ge (X := M_X2_takeFrom) (pc := 30) (tgt := 51) dX2_takeFrom_30 (by decide) (by omega) (by omega) (fun h30 => ?_) (fun h30 => ?_)
    · exact ev_weak (ph3 K2 hL x1 x2 x3 x4 (fun j j0 j1 => x5 j j0 (by omega))) ⟨rfl, rfl, trivial⟩
    · refine ev_aload_n (X := M_X2_takeFrom) (pc := 33) dX2_takeFrom_33 rfl ?_
      refine ev_getRe (X := M_X2_takeFrom) (pc := 34) dX2_takeFrom_34 fl_X2_19_2 (lO_127 hL) rfl (lR_127_1 hL) ?_
      refine ev_iload_n (X := M_X2_takeFrom) (pc := 37) dX2_takeFrom_37 rfl ?_
      refine ev_aload_n (X := M_X2_takeFrom) (pc := 38) dX2_takeFrom_38 rfl ?_
      refine ev_getRe (X := M_X2_takeFrom) (pc := 39) dX2_takeFrom_39 fl_X2_19_2 (lO_102 hL) rfl (lR_102_1 hL) ?_
      refine ev_iload_n (X := M_X2_takeFrom) (pc := 42) dX2_takeFrom_42 rfl ?_
      refine ev_aaloadE (X := M_X2_takeFrom) (pc := 43) dX2_takeFrom_43 (lS_104 hL) (by decide) (by decide) (by omega) (hx) ?_
      refine ev_aastore (X := M_X2_takeFrom) (pc := 44) dX2_takeFrom_44 (by decide) (lS_129 hL) (by decide) (by decide) (by omega) (hty (by omega)) ?_
      refine ev_iincL (X := M_X2_takeFrom) (pc := 45) (ls' := [_, _, _]) dX2_takeFrom_45 rfl (by decide) rfl ?_
      refine ev_goto (X := M_X2_takeFrom) (pc := 48) (tgt := 28) dX2_takeFrom_48 (by decide) ?_
      refine ev_weak (ih (i + 1, wrR K2 129 i t) ⟨by omega, by omega, x1, x2, fun c j c1 c2 => by show (wrR K2 129 i t).2.1 c j = _; rw [wrR_ne (fun q => c2 q.1)]; exact x3 c j c1 c2, fun j j0 j1 => by show (wrR K2 129 i t).2.1 128 j = _; rw [wrR_ne (by omega)]; exact x4 j j0 j1, fun j j0 j1 => ?_⟩ (by show (2 - (i + 1)).toNat < (2 - i).toNat; omega)) ⟨rfl, rfl, rfl, trivial⟩
      change j < i + 1 at j1
      show (wrR K2 129 i t).2.1 129 j = K.2.1 104 j
      by_cases z : j = i
      · rw [z, wrR_self, ht2]
      · rw [wrR_ne (fun q => z q.2)]; exact x5 j j0 (by omega)
  refine ev_iconst (X := M_X2_takeFrom) (pc := 0) dX2_takeFrom_0 ?_
  refine ev_istore_nL (X := M_X2_takeFrom) (pc := 1) (ls' := [_, _, _]) dX2_takeFrom_1 (by decide) rfl ?_
  refine ev_weak (ev_while (σ := Int × Sk) (fun z => 0 ≤ z.1 ∧ z.1 ≤ 6 ∧ z.2.1 = K.1 ∧ z.2.2.2 = K.2.2 ∧ (∀ c j, c ≠ 128 → z.2.2.1 c j = K.2.1 c j) ∧ ∀ j, 0 ≤ j → j < z.1 → z.2.2.1 128 j = K.2.1 103 j) (fun z => (6 - z.1).toNat) (fun z => [vR 127, vR 102, vI z.1]) (fun z => z.2) (fun _ => V) ?_ (0, K) ⟨Int.le_refl 0, by show (0 : Int) ≤ 6; decide, rfl, rfl, fun _ _ _ => rfl, fun j j0 j1 => by change j < 0 at j1; omega⟩) ⟨rfl, rfl, rfl, trivial⟩
  rintro ⟨i, K1⟩ ⟨i0, i1, x1, x2, x3, x4⟩ ih
  dsimp only at i0 i1 x1 x2 x3 x4 ih ⊢
  have hLo := hL
  have hL : Lay K1 := hLo.mv (fun c _ => by rw [x1]) (fun c j _ y1 y2 y3 y4 => x3 c j (by omega)) (by omega)
  obtain ⟨c, hc⟩ : ∃ c, K.2.1 103 i = c := ⟨_, rfl⟩
  have hx : K1.2.1 103 i = c := by rw [x3 103 i (by decide)]; exact hc
  have hcl : i < 6 → c = 0 ∨ ∃ ci, (K1.1 c).1 = ci + 10 ∧ asgW 5 ci := fun z => by
    have hA := hLT.1 i ⟨i0, z⟩
    have hA : LawA K V c i (D (3 + i)) (D (9 + i)) := by rw [← hc]; exact hA
    exact Or.inr ⟨_, by rw [x1]; exact hA.1, asg_lcl _⟩
  refine ev_iload_n (X := M_X2_takeFrom) (pc := 2) dX2_takeFrom_2 rfl ?_
  refine ev_bipush (X := M_X2_takeFrom) (pc := 3) dX2_takeFrom_3 (by decide) ?_
  refine ev_icmp_ge (X := M_X2_takeFrom) (pc := 5) (tgt := 26) dX2_takeFrom_5 (by decide) (by omega) (by omega) (fun h5 => ?_) (fun h5 => ?_)
  · exact ev_weak (ph2 K1 hL x1 x2 x3 (fun j j0 j1 => x4 j j0 (by omega))) ⟨rfl, rfl, trivial⟩
  · refine ev_aload_n (X := M_X2_takeFrom) (pc := 8) dX2_takeFrom_8 rfl ?_
    refine ev_getRe (X := M_X2_takeFrom) (pc := 9) dX2_takeFrom_9 fl_X2_11_2 (lO_127 hL) rfl (lR_127_0 hL) ?_
    refine ev_iload_n (X := M_X2_takeFrom) (pc := 12) dX2_takeFrom_12 rfl ?_
    refine ev_aload_n (X := M_X2_takeFrom) (pc := 13) dX2_takeFrom_13 rfl ?_
    refine ev_getRe (X := M_X2_takeFrom) (pc := 14) dX2_takeFrom_14 fl_X2_11_2 (lO_102 hL) rfl (lR_102_0 hL) ?_
    refine ev_iload_n (X := M_X2_takeFrom) (pc := 17) dX2_takeFrom_17 rfl ?_
    refine ev_aaloadE (X := M_X2_takeFrom) (pc := 18) dX2_takeFrom_18 (lS_103 hL) (by decide) (by decide) (by omega) (hx) ?_
    refine ev_aastore (X := M_X2_takeFrom) (pc := 19) dX2_takeFrom_19 (by decide) (lS_128 hL) (by decide) (by decide) (by omega) (hcl (by omega)) ?_
    refine ev_iincL (X := M_X2_takeFrom) (pc := 20) (ls' := [_, _, _]) dX2_takeFrom_20 rfl (by decide) rfl ?_
    refine ev_goto (X := M_X2_takeFrom) (pc := 23) (tgt := 2) dX2_takeFrom_23 (by decide) ?_
    refine ev_weak (ih (i + 1, wrR K1 128 i c) ⟨by omega, by omega, x1, x2, fun b j c1 => by show (wrR K1 128 i c).2.1 b j = _; rw [wrR_ne (fun q => c1 q.1)]; exact x3 b j c1, fun j j0 j1 => ?_⟩ (by show (6 - (i + 1)).toNat < (6 - i).toNat; omega)) ⟨rfl, rfl, rfl, trivial⟩
    change j < i + 1 at j1
    show (wrR K1 128 i c).2.1 128 j = K.2.1 103 j
    by_cases z : j = i
    · rw [z, wrR_self, hc]
    · rw [wrR_ne (fun q => z q.2)]; exact x4 j j0 (by omega)
theorem c_take_102 {γ : Gh} {K : Sk} {V : Mm} (hL : Lay K) {D : Int → Int} (hLT : LTA K V 127 D) (ht : 0 ≤ V 130 1 ∧ V 130 1 ≤ 50) (hwt : 0 ≤ V 132 1 ∧ V 132 1 ≤ 20) : Call γ M_X2_takeFrom 3 0 0 [vR 102, vR 127] K V (Qg none (TkF K V 102 127)) := by
  refine call_of (by decide +kernel) (by intro v hv; simp only [List.mem_cons, List.not_mem_nil, or_false] at hv; rcases hv with rfl | rfl <;> exact fun q => by cases q) (Nat.le_of_ble_eq_true rfl) ?_
  refine ev_lsE (ls' := [_, _, _]) rfl ?_
  have ph3 : ∀ K2 : Sk, Lay K2 → K2.1 = K.1 → K2.2.2 = K.2.2 → (∀ c j, c ≠ 103 → c ≠ 104 → K2.2.1 c j = K.2.1 c j) → (∀ j, 0 ≤ j → j < 6 → K2.2.1 103 j = K.2.1 128 j) → (∀ j, 0 ≤ j → j < 2 → K2.2.1 104 j = K.2.1 129 j) → Ev γ M_X2_takeFrom 3 0 0 51 [vR 102, vR 127, vU] [] K2 V (Qg none (TkF K V 102 127)) := by
    intro K2 hL k1 k2 k3 k4 k5
    have r1 : RowAt K2 105 106 50 := row_105 hL
    have r2 : RowAt K2 130 131 50 := (row_ct hL).1
    have r3 : RowAt K2 107 108 20 := row_107 hL
    have r4 : RowAt K2 132 133 20 := (row_ct hL).2
    refine ev_aload_n (X := M_X2_takeFrom) (pc := 51) dX2_takeFrom_51 rfl ?_
    refine ev_getRe (X := M_X2_takeFrom) (pc := 52) dX2_takeFrom_52 fl_X2_28_2 (lO_102 hL) rfl (lR_102_2 hL) ?_
    refine ev_aload_n (X := M_X2_takeFrom) (pc := 55) dX2_takeFrom_55 rfl ?_
    refine ev_getRe (X := M_X2_takeFrom) (pc := 56) dX2_takeFrom_56 fl_X2_28_2 (lO_127 hL) rfl (lR_127_2 hL) ?_
    refine ev_virtV (X := M_X2_takeFrom) (Y := M_X5_takeFrom) (pc := 59) (ci := 5) dX2_takeFrom_59 mk_X5_takeFrom rfl kw_957 kw_958 kw_959 (lO_105 hL) (c_Row_takeFrom r1 r2 ht) rfl (by decide) rfl (Nat.le_of_ble_eq_true rfl) (Nat.zero_add _) (Nat.zero_add _) ?_
    obtain ⟨V1, hV1⟩ : ∃ V1, wr (setr V 106 (cpy (V 131) (V 106) 0 0 (V 130 1))) 105 1 (V 130 1) = V1 := ⟨_, rfl⟩
    have a0 : ∀ c, c ≠ 105 → c ≠ 106 → V1 c = V c := fun c z y => by rw [← hV1, wr_off z, setr_ne y]
    have a1 : V1 105 1 = V 130 1 := by rw [← hV1, wr_self]
    have a2 : ∀ i, 0 ≤ i → i < V 130 1 → V1 106 i = V 131 i := fun i i0 i1 => by
      rw [← hV1, wr_off (by decide), setr_self]
      unfold cpy
      rw [if_pos (by omega), show 0 + (i - 0) = i by omega]
    rw [hV1]
    clear hV1
    have hz5 : 0 ≤ V1 132 1 ∧ V1 132 1 ≤ (20 : Nat) := by rw [a0 132 (by decide) (by decide)]; exact hwt
    refine ev_aload_n (X := M_X2_takeFrom) (pc := 62) dX2_takeFrom_62 rfl ?_
    refine ev_getRe (X := M_X2_takeFrom) (pc := 63) dX2_takeFrom_63 fl_X2_32_2 (lO_102 hL) rfl (lR_102_3 hL) ?_
    refine ev_aload_n (X := M_X2_takeFrom) (pc := 66) dX2_takeFrom_66 rfl ?_
    refine ev_getRe (X := M_X2_takeFrom) (pc := 67) dX2_takeFrom_67 fl_X2_32_2 (lO_127 hL) rfl (lR_127_3 hL) ?_
    refine ev_virtV (X := M_X2_takeFrom) (Y := M_X5_takeFrom) (pc := 70) (ci := 5) dX2_takeFrom_70 mk_X5_takeFrom rfl kw_957 kw_958 kw_959 (lO_107 hL) (c_Row_takeFrom r3 r4 hz5) rfl (by decide) rfl (Nat.le_of_ble_eq_true rfl) (Nat.zero_add _) (Nat.zero_add _) ?_
    rw [a0 132 (by decide) (by decide), a0 133 (by decide) (by decide), a0 108 (by decide) (by decide)]
    obtain ⟨V2, hV2⟩ : ∃ V2, wr (setr V1 108 (cpy (V 133) (V 108) 0 0 (V 132 1))) 107 1 (V 132 1) = V2 := ⟨_, rfl⟩
    have b0 : ∀ c, c ≠ 107 → c ≠ 108 → V2 c = V1 c := fun c z y => by rw [← hV2, wr_off z, setr_ne y]
    have b1 : V2 107 1 = V 132 1 := by rw [← hV2, wr_self]
    have b2 : ∀ i, 0 ≤ i → i < V 132 1 → V2 108 i = V 133 i := fun i i0 i1 => by
      rw [← hV2, wr_off (by decide), setr_self]
      unfold cpy
      rw [if_pos (by omega), show 0 + (i - 0) = i by omega]
    rw [hV2]
    clear hV2
    have bB : V2 127 = V 127 := by rw [b0 127 (by decide) (by decide), a0 127 (by decide) (by decide)]
    refine ev_aload_n (X := M_X2_takeFrom) (pc := 73) dX2_takeFrom_73 rfl ?_
    refine ev_aload_n (X := M_X2_takeFrom) (pc := 74) dX2_takeFrom_74 rfl ?_
    refine ev_getIe (X := M_X2_takeFrom) (pc := 75) (ki := 4) dX2_takeFrom_75 fl_X2_58_2 (lO_127 hL) (by decide) rfl (congrFun bB _) ?_
    refine ev_putI (X := M_X2_takeFrom) (pc := 78) (ki := 4) dX2_takeFrom_78 fl_X2_58_2 (by decide) (lO_102 hL) (fun _ h q => by cases h; cases q) (Or.inl rfl) rfl ?_
    refine ev_aload_n (X := M_X2_takeFrom) (pc := 81) dX2_takeFrom_81 rfl ?_
    refine ev_aload_n (X := M_X2_takeFrom) (pc := 82) dX2_takeFrom_82 rfl ?_
    refine ev_getIe (X := M_X2_takeFrom) (pc := 83) (ki := 5) dX2_takeFrom_83 fl_X2_61_2 (lO_127 hL) (by decide) rfl (show _ = V 127 5 from by rw [wr_off (by decide)]; exact congrFun bB _) ?_
    refine ev_putI (X := M_X2_takeFrom) (pc := 86) (ki := 5) dX2_takeFrom_86 fl_X2_61_2 (by decide) (lO_102 hL) (fun _ h q => by cases h; cases q) (Or.inl rfl) rfl ?_
    refine ev_aload_n (X := M_X2_takeFrom) (pc := 89) dX2_takeFrom_89 rfl ?_
    refine ev_aload_n (X := M_X2_takeFrom) (pc := 90) dX2_takeFrom_90 rfl ?_
    refine ev_getIe (X := M_X2_takeFrom) (pc := 91) (ki := 6) dX2_takeFrom_91 fl_X2_64_2 (lO_127 hL) (by decide) rfl (show _ = V 127 6 from by rw [wr_off (by decide), wr_off (by decide)]; exact congrFun bB _) ?_
    refine ev_putI (X := M_X2_takeFrom) (pc := 94) (ki := 6) dX2_takeFrom_94 fl_X2_64_2 (by decide) (lO_102 hL) (fun _ h q => by cases h; cases q) (Or.inl rfl) rfl ?_
    refine ev_aload_n (X := M_X2_takeFrom) (pc := 97) dX2_takeFrom_97 rfl ?_
    refine ev_aload_n (X := M_X2_takeFrom) (pc := 98) dX2_takeFrom_98 rfl ?_
    refine ev_getIe (X := M_X2_takeFrom) (pc := 99) (ki := 7) dX2_takeFrom_99 fl_X2_67_2 (lO_127 hL) (by decide) rfl (show _ = V 127 7 from by rw [wr_off (by decide), wr_off (by decide), wr_off (by decide)]; exact congrFun bB _) ?_
    refine ev_putI (X := M_X2_takeFrom) (pc := 102) (ki := 7) dX2_takeFrom_102 fl_X2_67_2 (by decide) (lO_102 hL) (fun _ h q => by cases h; cases q) (Or.inl rfl) rfl ?_
    refine ev_aload_n (X := M_X2_takeFrom) (pc := 105) dX2_takeFrom_105 rfl ?_
    refine ev_aload_n (X := M_X2_takeFrom) (pc := 106) dX2_takeFrom_106 rfl ?_
    refine ev_getIe (X := M_X2_takeFrom) (pc := 107) (ki := 8) dX2_takeFrom_107 fl_X2_35_2 (lO_127 hL) (by decide) rfl (show _ = V 127 8 from by rw [wr_off (by decide), wr_off (by decide), wr_off (by decide), wr_off (by decide)]; exact congrFun bB _) ?_
    refine ev_putI (X := M_X2_takeFrom) (pc := 110) (ki := 8) dX2_takeFrom_110 fl_X2_35_2 (by decide) (lO_102 hL) (fun _ h q => by cases h; cases q) (Or.inl rfl) rfl ?_
    refine ev_vret (X := M_X2_takeFrom) (pc := 113) dX2_takeFrom_113 rfl ?_
    refine ⟨rfl, k1, k2, k3, k4, k5, fun c c1 c2 => ?_, fun i i0 i1 => ?_, ?_, fun i i0 i1 => ?_, ?_, fun i i0 i1 => ?_⟩
    · rw [wr_off c1, wr_off c1, wr_off c1, wr_off c1, wr_off c1, b0 c (by omega) (by omega), a0 c (by omega) (by omega)]
    · rcases (show i = 4 ∨ i = 5 ∨ i = 6 ∨ i = 7 ∨ i = 8 by omega) with z | z | z | z | z <;> subst z
      · rw [wr_ne (by decide), wr_ne (by decide), wr_ne (by decide), wr_ne (by decide), wr_self]
      · rw [wr_ne (by decide), wr_ne (by decide), wr_ne (by decide), wr_self]
      · rw [wr_ne (by decide), wr_ne (by decide), wr_self]
      · rw [wr_ne (by decide), wr_self]
      · rw [wr_self]
    · show wr (wr (wr (wr (wr V2 102 4 _) 102 5 _) 102 6 _) 102 7 _) 102 8 _ 105 1 = _
      rw [wr_off (by decide), wr_off (by decide), wr_off (by decide), wr_off (by decide), wr_off (by decide), b0 105 (by decide) (by decide)]; exact a1
    · show wr (wr (wr (wr (wr V2 102 4 _) 102 5 _) 102 6 _) 102 7 _) 102 8 _ 106 i = _
      rw [wr_off (by decide), wr_off (by decide), wr_off (by decide), wr_off (by decide), wr_off (by decide), b0 106 (by decide) (by decide)]; exact a2 i i0 i1
    · show wr (wr (wr (wr (wr V2 102 4 _) 102 5 _) 102 6 _) 102 7 _) 102 8 _ 107 1 = _
      rw [wr_off (by decide), wr_off (by decide), wr_off (by decide), wr_off (by decide), wr_off (by decide)]; exact b1
    · show wr (wr (wr (wr (wr V2 102 4 _) 102 5 _) 102 6 _) 102 7 _) 102 8 _ 108 i = _
      rw [wr_off (by decide), wr_off (by decide), wr_off (by decide), wr_off (by decide), wr_off (by decide)]; exact b2 i i0 i1
  have ph2 : ∀ K1 : Sk, Lay K1 → K1.1 = K.1 → K1.2.2 = K.2.2 → (∀ c j, c ≠ 103 → K1.2.1 c j = K.2.1 c j) → (∀ j, 0 ≤ j → j < 6 → K1.2.1 103 j = K.2.1 128 j) → Ev γ M_X2_takeFrom 3 0 0 26 [vR 102, vR 127, vU] [] K1 V (Qg none (TkF K V 102 127)) := by
    intro K1 hL1 k1 k2 k3 k4
    refine ev_iconst (X := M_X2_takeFrom) (pc := 26) dX2_takeFrom_26 ?_
    refine ev_istore_nL (X := M_X2_takeFrom) (pc := 27) (ls' := [_, _, _]) dX2_takeFrom_27 (by decide) rfl ?_
    refine ev_weak (ev_while (σ := Int × Sk) (fun z => 0 ≤ z.1 ∧ z.1 ≤ 2 ∧ z.2.1 = K.1 ∧ z.2.2.2 = K.2.2 ∧ (∀ c j, c ≠ 103 → c ≠ 104 → z.2.2.1 c j = K.2.1 c j) ∧ (∀ j, 0 ≤ j → j < 6 → z.2.2.1 103 j = K.2.1 128 j) ∧ ∀ j, 0 ≤ j → j < z.1 → z.2.2.1 104 j = K.2.1 129 j) (fun z => (2 - z.1).toNat) (fun z => [vR 102, vR 127, vI z.1]) (fun z => z.2) (fun _ => V) ?_ (0, K1) ⟨Int.le_refl 0, by show (0 : Int) ≤ 2; decide, k1, k2, fun c j c1 _ => k3 c j c1, k4, fun j j0 j1 => by change j < 0 at j1; omega⟩) ⟨rfl, rfl, rfl, trivial⟩
    rintro ⟨i, K2⟩ ⟨i0, i1, x1, x2, x3, x4, x5⟩ ih
    dsimp only at i0 i1 x1 x2 x3 x4 x5 ih ⊢
    have hLo := hL
    have hL : Lay K2 := hLo.mv (fun c _ => by rw [x1]) (fun c j _ y1 y2 y3 y4 => x3 c j (by omega) (by omega)) (by omega)
    obtain ⟨t, ht2⟩ : ∃ t, K.2.1 129 i = t := ⟨_, rfl⟩
    have hx : K2.2.1 129 i = t := by rw [x3 129 i (by decide) (by decide)]; exact ht2
    have hty : i < 2 → t = 0 ∨ ∃ ci, (K2.1 t).1 = ci + 10 ∧ asgW 6 ci := fun z => by
      have hTI : TI K V 129 D i := by
        rcases (show i = 0 ∨ i = 1 by omega) with y | y <;> subst y
        · exact hLT.2.1
        · exact hLT.2.2
      unfold TI at hTI
      rw [ht2] at hTI
      rcases hTI with y | y
      · exact Or.inl y.1
      · exact Or.inr ⟨8, by rw [x1, y.2.2.1], ⟨_, rfl, Or.inl rfl⟩⟩
    refine ev_iload_n (X := M_X2_takeFrom) (pc := 28) dX2_takeFrom_28 rfl ?_
    refine ev_iconst (X := M_X2_takeFrom) (pc := 29) dX2_takeFrom_29 ?_
    refine ev_icmp_ge (X := M_X2_takeFrom) (pc := 30) (tgt := 51) dX2_takeFrom_30 (by decide) (by omega) (by omega) (fun h30 => ?_) (fun h30 => ?_)
    · exact ev_weak (ph3 K2 hL x1 x2 x3 x4 (fun j j0 j1 => x5 j j0 (by omega))) ⟨rfl, rfl, trivial⟩
    · refine ev_aload_n (X := M_X2_takeFrom) (pc := 33) dX2_takeFrom_33 rfl ?_
      refine ev_getRe (X := M_X2_takeFrom) (pc := 34) dX2_takeFrom_34 fl_X2_19_2 (lO_102 hL) rfl (lR_102_1 hL) ?_
      refine ev_iload_n (X := M_X2_takeFrom) (pc := 37) dX2_takeFrom_37 rfl ?_
      refine ev_aload_n (X := M_X2_takeFrom) (pc := 38) dX2_takeFrom_38 rfl ?_
      refine ev_getRe (X := M_X2_takeFrom) (pc := 39) dX2_takeFrom_39 fl_X2_19_2 (lO_127 hL) rfl (lR_127_1 hL) ?_
      refine ev_iload_n (X := M_X2_takeFrom) (pc := 42) dX2_takeFrom_42 rfl ?_
      refine ev_aaloadE (X := M_X2_takeFrom) (pc := 43) dX2_takeFrom_43 (lS_129 hL) (by decide) (by decide) (by omega) (hx) ?_
      refine ev_aastore (X := M_X2_takeFrom) (pc := 44) dX2_takeFrom_44 (by decide) (lS_104 hL) (by decide) (by decide) (by omega) (hty (by omega)) ?_
      refine ev_iincL (X := M_X2_takeFrom) (pc := 45) (ls' := [_, _, _]) dX2_takeFrom_45 rfl (by decide) rfl ?_
      refine ev_goto (X := M_X2_takeFrom) (pc := 48) (tgt := 28) dX2_takeFrom_48 (by decide) ?_
      refine ev_weak (ih (i + 1, wrR K2 104 i t) ⟨by omega, by omega, x1, x2, fun c j c1 c2 => by show (wrR K2 104 i t).2.1 c j = _; rw [wrR_ne (fun q => c2 q.1)]; exact x3 c j c1 c2, fun j j0 j1 => by show (wrR K2 104 i t).2.1 103 j = _; rw [wrR_ne (by omega)]; exact x4 j j0 j1, fun j j0 j1 => ?_⟩ (by show (2 - (i + 1)).toNat < (2 - i).toNat; omega)) ⟨rfl, rfl, rfl, trivial⟩
      change j < i + 1 at j1
      show (wrR K2 104 i t).2.1 104 j = K.2.1 129 j
      by_cases z : j = i
      · rw [z, wrR_self, ht2]
      · rw [wrR_ne (fun q => z q.2)]; exact x5 j j0 (by omega)
  refine ev_iconst (X := M_X2_takeFrom) (pc := 0) dX2_takeFrom_0 ?_
  refine ev_istore_nL (X := M_X2_takeFrom) (pc := 1) (ls' := [_, _, _]) dX2_takeFrom_1 (by decide) rfl ?_
  refine ev_weak (ev_while (σ := Int × Sk) (fun z => 0 ≤ z.1 ∧ z.1 ≤ 6 ∧ z.2.1 = K.1 ∧ z.2.2.2 = K.2.2 ∧ (∀ c j, c ≠ 103 → z.2.2.1 c j = K.2.1 c j) ∧ ∀ j, 0 ≤ j → j < z.1 → z.2.2.1 103 j = K.2.1 128 j) (fun z => (6 - z.1).toNat) (fun z => [vR 102, vR 127, vI z.1]) (fun z => z.2) (fun _ => V) ?_ (0, K) ⟨Int.le_refl 0, by show (0 : Int) ≤ 6; decide, rfl, rfl, fun _ _ _ => rfl, fun j j0 j1 => by change j < 0 at j1; omega⟩) ⟨rfl, rfl, rfl, trivial⟩
  rintro ⟨i, K1⟩ ⟨i0, i1, x1, x2, x3, x4⟩ ih
  dsimp only at i0 i1 x1 x2 x3 x4 ih ⊢
  have hLo := hL
  have hL : Lay K1 := hLo.mv (fun c _ => by rw [x1]) (fun c j _ y1 y2 y3 y4 => x3 c j (by omega)) (by omega)
  obtain ⟨c, hc⟩ : ∃ c, K.2.1 128 i = c := ⟨_, rfl⟩
  have hx : K1.2.1 128 i = c := by rw [x3 128 i (by decide)]; exact hc
  have hcl : i < 6 → c = 0 ∨ ∃ ci, (K1.1 c).1 = ci + 10 ∧ asgW 5 ci := fun z => by
    have hA := hLT.1 i ⟨i0, z⟩
    have hA : LawA K V c i (D (3 + i)) (D (9 + i)) := by rw [← hc]; exact hA
    exact Or.inr ⟨_, by rw [x1]; exact hA.1, asg_lcl _⟩
  refine ev_iload_n (X := M_X2_takeFrom) (pc := 2) dX2_takeFrom_2 rfl ?_
  refine ev_bipush (X := M_X2_takeFrom) (pc := 3) dX2_takeFrom_3 (by decide) ?_
  refine ev_icmp_ge (X := M_X2_takeFrom) (pc := 5) (tgt := 26) dX2_takeFrom_5 (by decide) (by omega) (by omega) (fun h5 => ?_) (fun h5 => ?_)
  · exact ev_weak (ph2 K1 hL x1 x2 x3 (fun j j0 j1 => x4 j j0 (by omega))) ⟨rfl, rfl, trivial⟩
  · refine ev_aload_n (X := M_X2_takeFrom) (pc := 8) dX2_takeFrom_8 rfl ?_
    refine ev_getRe (X := M_X2_takeFrom) (pc := 9) dX2_takeFrom_9 fl_X2_11_2 (lO_102 hL) rfl (lR_102_0 hL) ?_
    refine ev_iload_n (X := M_X2_takeFrom) (pc := 12) dX2_takeFrom_12 rfl ?_
    refine ev_aload_n (X := M_X2_takeFrom) (pc := 13) dX2_takeFrom_13 rfl ?_
    refine ev_getRe (X := M_X2_takeFrom) (pc := 14) dX2_takeFrom_14 fl_X2_11_2 (lO_127 hL) rfl (lR_127_0 hL) ?_
    refine ev_iload_n (X := M_X2_takeFrom) (pc := 17) dX2_takeFrom_17 rfl ?_
    refine ev_aaloadE (X := M_X2_takeFrom) (pc := 18) dX2_takeFrom_18 (lS_128 hL) (by decide) (by decide) (by omega) (hx) ?_
    refine ev_aastore (X := M_X2_takeFrom) (pc := 19) dX2_takeFrom_19 (by decide) (lS_103 hL) (by decide) (by decide) (by omega) (hcl (by omega)) ?_
    refine ev_iincL (X := M_X2_takeFrom) (pc := 20) (ls' := [_, _, _]) dX2_takeFrom_20 rfl (by decide) rfl ?_
    refine ev_goto (X := M_X2_takeFrom) (pc := 23) (tgt := 2) dX2_takeFrom_23 (by decide) ?_
    refine ev_weak (ih (i + 1, wrR K1 103 i c) ⟨by omega, by omega, x1, x2, fun b j c1 => by show (wrR K1 103 i c).2.1 b j = _; rw [wrR_ne (fun q => c1 q.1)]; exact x3 b j c1, fun j j0 j1 => ?_⟩ (by show (6 - (i + 1)).toNat < (6 - i).toNat; omega)) ⟨rfl, rfl, rfl, trivial⟩
    change j < i + 1 at j1
    show (wrR K1 103 i c).2.1 103 j = K.2.1 128 j
    by_cases z : j = i
    · rw [z, wrR_self, hc]
    · rw [wrR_ne (fun q => z q.2)]; exact x4 j j0 (by omega)
/-- what an island holds, taken over -/
theorem LTA.tk {K K' : Sk} {V W : Mm} {a b : Nat} {D : Int → Int} (h : LTA K V b D) (hT : TkF K V a b K' W) (ha : a = 102 ∨ a = 127) : LTA K' W a D := by
  obtain ⟨k1, k2, k3, k4, k5, k6, _⟩ := hT
  have hkk : ∀ c, (K.1 c).1 ≠ 0 → K'.1 c = K.1 c := fun c _ => by rw [k1]
  have hr : ∀ c j, 178 ≤ c → (K.1 c).1 ≠ 0 → K'.2.1 c j = K.2.1 c j := fun c j z _ => k3 c j (by omega) (by omega)
  have hv : ∀ c, ownA c → ¬ vrow K c → (K.1 c).1 ≠ 0 → W c = V c := fun c z _ _ => by
    have ho : (112 ≤ c ∧ c ≤ 117) ∨ (137 ≤ c ∧ c ≤ 142) ∨ 178 ≤ c := z
    exact k6 c (by omega) (by omega)
  refine ⟨fun p hp => by rw [k4 p hp.1 hp.2]; exact (h.1 p hp).mv hkk hv, ?_, ?_⟩
  · have := h.2.1
    unfold TI at this ⊢
    rw [k5 0 (by decide) (by decide)]
    rcases this with z | z
    · exact Or.inl z
    · exact Or.inr ⟨z.1, z.2.mv hkk hr hv⟩
  · have := h.2.2
    unfold TI at this ⊢
    rw [k5 1 (by decide) (by decide)]
    rcases this with z | z
    · exact Or.inl z
    · exact Or.inr ⟨z.1, z.2.mv hkk hr hv⟩
theorem SCA.tk {K K' : Sk} {V W : Mm} {a b : Nat} {D : Int → Int} (h : SCA V b D) (hT : TkF K V a b K' W) : SCA W a D := by
  obtain ⟨_, _, _, _, _, _, k7, k8, k9, k10, k11⟩ := hT
  obtain ⟨s1, s2, s3, s4, s5, s6, s7, s8, s9⟩ := h
  exact ⟨by rw [k7 4 (by decide) (by decide)]; exact s1, by rw [k7 5 (by decide) (by decide)]; exact s2, by rw [k7 6 (by decide) (by decide)]; exact s3, by rw [k7 7 (by decide) (by decide)]; exact s4, by rw [k7 8 (by decide) (by decide)]; exact s5, by rw [k8]; exact s6, fun i i0 i1 => by rw [k9 i i0 (by rw [s6]; exact i1)]; exact s7 i i0 i1, by rw [k10]; exact s8, fun i i0 i1 => by rw [k11 i i0 (by rw [s8]; exact i1)]; exact s9 i i0 i1⟩
theorem Lay.tk {K K' : Sk} {V W : Mm} {a b : Nat} (hL : Lay K) (hT : TkF K V a b K' W) (ha : a = 102 ∨ a = 127) : Lay K' := by
  obtain ⟨k1, k2, k3, _⟩ := hT
  exact hL.mv (fun c _ => by rw [k1]) (fun c j _ y1 y2 y3 y4 => k3 c j (by omega) (by omega)) (by omega)
theorem c_image {γ : Gh} {K : Sk} {V : Mm} {D E : Int → Int} {im : Int} {er : Int → Int} (h : CI K V D E im er) (hw : DL D) (h24 : 0 ≤ D 24 ∧ D 24 ≤ 50) (h25 : 0 ≤ D 25 ∧ D 25 ≤ 20) (him : 0 ≤ im) : Call γ M_X11_image 4 0 0 [vR 100] K V (Qg (some (vI (im + 1))) (fun K' W => kF K K' ∧ oF V W ∧ CI K' W D D (im + 1) er)) := by
  refine call_of (by decide +kernel) (by intro v hv; simp only [List.mem_cons, List.not_mem_nil, or_false] at hv; rcases hv with rfl <;> exact fun q => by cases q) (Nat.le_of_ble_eq_true rfl) ?_
  refine ev_lsE (ls' := [_]) rfl ?_
  have hL := h.1.L
  have h7 : V 100 7 = im := h.1.2.2.2.2.2.1
  have s6 : V 105 1 = D 24 := h.2.2.2.2.2.2.1
  have s8 : V 107 1 = D 25 := h.2.2.2.2.2.2.2.2.1
  refine ev_aload_n (X := M_X11_image) (pc := 0) dX11_image_0 rfl ?_
  refine ev_getRe (X := M_X11_image) (pc := 1) dX11_image_1 fl_X11_29_11 (lO_100 hL) rfl (lR_100_1 hL) ?_
  refine ev_aload_n (X := M_X11_image) (pc := 4) dX11_image_4 rfl ?_
  refine ev_getRe (X := M_X11_image) (pc := 5) dX11_image_5 fl_X11_20_11 (lO_100 hL) rfl (lR_100_0 hL) ?_
  refine ev_virtH (X := M_X11_image) (Y := M_X2_takeFrom) (pc := 8) (ci := 2) dX11_image_8 mk_X2_takeFrom rfl kw_953 kw_954 kw_955 (lO_127 hL) (c_take_127 hL h.1.2.2.2.2.1 (by rw [s6]; exact h24) (by rw [s8]; exact h25)) rfl (by decide) rfl (Nat.le_of_ble_eq_true rfl) (Nat.zero_add _) (Nat.zero_add _) (fun K1 W hW => ?_)
  have hLo := hL
  have hL : Lay K1 := hLo.tk hW (Or.inr rfl)
  have k6 := hW.2.2.2.2.2.1
  have f7 : W 100 7 = im := by rw [k6 100 (by decide) (by decide)]; exact h7
  refine ev_aload_n (X := M_X11_image) (pc := 11) dX11_image_11 rfl ?_
  refine ev_dup (X := M_X11_image) (pc := 12) dX11_image_12 (fun _ q => by cases q) ?_
  refine ev_getIe (X := M_X11_image) (pc := 13) (ki := 7) dX11_image_13 fl_X11_274_11 (lO_100 hL) (by decide) rfl (f7) ?_
  refine ev_iconst (X := M_X11_image) (pc := 16) dX11_image_16 ?_
  refine ev_iadd (X := M_X11_image) (pc := 17) dX11_image_17 ?_
  refine ev_putI (X := M_X11_image) (pc := 18) (ki := 7) dX11_image_18 fl_X11_274_11 (by decide) (lO_100 hL) (fun _ h q => by cases h; cases q) (Or.inl rfl) rfl ?_
  obtain ⟨W1, hW1⟩ : ∃ W1, wr W 100 7 (im + 1) = W1 := ⟨_, rfl⟩
  have y0 : ∀ c, c ≠ 100 → W1 c = W c := fun c z => by rw [← hW1, wr_off z]
  have y1 : W1 100 7 = im + 1 := by rw [← hW1, wr_self]
  rw [hW1]
  clear hW1
  refine ev_aload_n (X := M_X11_image) (pc := 21) dX11_image_21 rfl ?_
  refine ev_getIe (X := M_X11_image) (pc := 22) (ki := 7) dX11_image_22 fl_X11_274_11 (lO_100 hL) (by decide) rfl (y1) ?_
  refine ev_iret (X := M_X11_image) (pc := 25) dX11_image_25 rfl ?_
  have kf : ∀ c, c ≠ 100 → c ≠ 127 → ¬ (130 ≤ c ∧ c ≤ 133) → W1 c = V c := fun c a1 a2 a3 => by rw [y0 c a1]; exact k6 c a2 a3
  obtain ⟨k1, k2, k3, _⟩ := id hW
  have hkk : ∀ c, (K.1 c).1 ≠ 0 → K1.1 c = K.1 c := fun c _ => by rw [k1]
  obtain ⟨a1, a2, ⟨b1, b2, b3, b4, b5, b6, b7, b8⟩, a4, a5, a6, a7, a8⟩ := h.1
  have no : ∀ c, ownA c → W1 c = V c := fun c z => by
    have ho : (112 ≤ c ∧ c ≤ 117) ∨ (137 ≤ c ∧ c ≤ 142) ∨ 178 ≤ c := z
    exact kf c (by omega) (by omega) (by omega)
  have f0 : ∀ c, c < 127 → c ≠ 100 → W1 c = V c := fun c z y => kf c y (by omega) (by omega)
  have own0 : ∀ c, ownA c → W1 c = W c := fun c z => by
    have ho : (112 ≤ c ∧ c ≤ 117) ∨ (137 ≤ c ∧ c ≤ 142) ∨ 178 ≤ c := z
    exact y0 c (by omega)
  have hF1 : Fr K1 := fun c z => by rw [k1]; exact a1 c (by omega)
  refine ⟨rfl, fun c z => by rw [k1], fun c z => kf c (by omega) (by omega) (by omega), ⟨hF1, a2.mv hkk (fun c j z => k3 c j (by omega) (by omega)) (fun c z => f0 c (by omega) (by omega)), ⟨hL, ?_, ?_, b4, b5, ⟨by rw [f0 102 (by decide) (by decide)]; exact b6.1, fun p hp => by rw [f0 110 (by decide) (by decide), f0 111 (by decide) (by decide)]; exact b6.2 p hp⟩, fun q hq => by rw [f0 118 (by decide) (by decide)]; exact b7 q hq, by rw [f0 119 (by decide) (by decide)]; exact b8⟩, fun p hp => by rw [f0 109 (by decide) (by decide)]; exact a4 p hp, a5.mv hkk (fun c j z _ => k3 c j (by omega) (by omega)) (by rw [lS_103 hLo]; show (5 : Nat) ≠ 0; decide) (by rw [lS_104 hLo]; show (6 : Nat) ≠ 0; decide) (fun c z _ _ => no c z), y1, fun _ => ⟨(a5.tk hW (Or.inr rfl)).w (fun c z _ => own0 c z), (h.2.tk hW).mv (fun c z => y0 c (by omega))⟩, by rw [kf 155 (by decide) (by decide) (by decide)]; exact a8⟩, h.2.mv (fun c z => f0 c (by omega) (by omega))⟩
  · unfold SV; rw [f0 1 (by decide) (by decide), f0 2 (by decide) (by decide), f0 3 (by decide) (by decide)]; exact b2
  · unfold SV2; rw [f0 4 (by decide) (by decide), f0 5 (by decide) (by decide)]; exact b3
theorem c_restore {γ : Gh} {K : Sk} {V : Mm} {D E : Int → Int} {im : Int} {er : Int → Int} (h : CI K V D E im er) (hw : DL D) (him : 0 ≤ im ∧ im < 1000000) (hE : 0 < im → DL E ∧ (0 ≤ E 24 ∧ E 24 ≤ 50) ∧ (0 ≤ E 25 ∧ E 25 ≤ 20)) : Call γ M_X11_restore 6 0 0 [vR 100] K V (Qg (some (vI (aR (if im = 0 then 2 else 0) (nowS E)))) (fun K' W => kF K K' ∧ oF V W ∧ CI K' W (aD (if im = 0 then 2 else 0) D E) E im (erK er (if im = 0 then 2 else 0)))) := by
  refine call_of (by decide +kernel) (by intro v hv; simp only [List.mem_cons, List.not_mem_nil, or_false] at hv; rcases hv with rfl <;> exact fun q => by cases q) (Nat.le_of_ble_eq_true rfl) ?_
  refine ev_lsE (ls' := [_]) rfl ?_
  have hL := h.1.L
  have h7 : V 100 7 = im := h.1.2.2.2.2.2.1
  refine ev_aload_n (X := M_X11_restore) (pc := 0) dX11_restore_0 rfl ?_
  refine ev_getIe (X := M_X11_restore) (pc := 1) (ki := 7) dX11_restore_1 fl_X11_274_11 (lO_100 hL) (by decide) rfl (h7) ?_
  refine ev_if_ne (X := M_X11_restore) (pc := 4) (tgt := 14) dX11_restore_4 (by decide) (by omega) (fun h4 => ?_) (fun h4 => ?_)
  · have hk : (if im = 0 then (2 : Int) else 0) = 0 := if_neg h4
    obtain ⟨e1, e2, e3⟩ := hE (by omega)
    obtain ⟨q1, q2⟩ := h.1.2.2.2.2.2.2.1 (by omega)
    have s6 : V 130 1 = E 24 := q2.2.2.2.2.2.1
    have s8 : V 132 1 = E 25 := q2.2.2.2.2.2.2.2.1
    refine ev_aload_n (X := M_X11_restore) (pc := 14) dX11_restore_14 rfl ?_
    refine ev_getRe (X := M_X11_restore) (pc := 15) dX11_restore_15 fl_X11_20_11 (lO_100 hL) rfl (lR_100_0 hL) ?_
    refine ev_aload_n (X := M_X11_restore) (pc := 18) dX11_restore_18 rfl ?_
    refine ev_getRe (X := M_X11_restore) (pc := 19) dX11_restore_19 fl_X11_29_11 (lO_100 hL) rfl (lR_100_1 hL) ?_
    refine ev_virtH (X := M_X11_restore) (Y := M_X2_takeFrom) (pc := 22) (ci := 2) dX11_restore_22 mk_X2_takeFrom rfl kw_953 kw_954 kw_955 (lO_102 hL) (c_take_102 hL q1 (by rw [s6]; exact e2) (by rw [s8]; exact e3)) rfl (by decide) rfl (Nat.le_of_ble_eq_true rfl) (Nat.zero_add _) (Nat.zero_add _) (fun K1 W hW => ?_)
    have hLo := hL
    have hL : Lay K1 := hLo.tk hW (Or.inl rfl)
    have k6 := hW.2.2.2.2.2.1
    obtain ⟨k1, k2, k3, _⟩ := id hW
    have hkk : ∀ c, (K.1 c).1 ≠ 0 → K1.1 c = K.1 c := fun c _ => by rw [k1]
    obtain ⟨a1, a2, ⟨b1, b2, b3, b4, b5, b6, b7, b8⟩, a4, a5, a6, a7, a8⟩ := h.1
    have hF1 : Fr K1 := fun c z => by rw [k1]; exact a1 c (by omega)
    have f0 : ∀ c, c < 102 → W c = V c := fun c z => k6 c (by omega) (by omega)
    have hSV1 : SV W := by unfold SV; rw [f0 1 (by decide), f0 2 (by decide), f0 3 (by decide)]; exact b2
    have hLT : LTA K1 W 102 E := q1.tk hW (Or.inl rfl)
    have hsc : SCA W 102 E := q2.tk hW
    refine ev_aload_n (X := M_X11_restore) (pc := 25) dX11_restore_25 rfl ?_
    refine ev_virtY (X := M_X11_restore) (Y := M_X11_rulesChanged) (pc := 26) (ci := 11) dX11_restore_26 mk_X11_rulesChanged rfl kw_409 kw_411 kp_1 (lO_100 hL) (c_rulesChanged hL hSV1 e1.2.1 hLT.2.1 hLT.1) rfl (by decide) rfl (Nat.le_of_ble_eq_true rfl) (Nat.zero_add _) (Nat.zero_add _) (fun W2 hW2 => ?_)
    have hrc := CL.rc (E := E) (im := im) (er := er) hL hF1 (a2.mv hkk (fun c j z => k3 c j (by omega) (by omega)) (fun c z => f0 c (by omega))) hSV1 (by unfold SV2; rw [f0 4 (by decide), f0 5 (by decide)]; exact b3) (fun q hq => by rw [k6 118 (by decide) (by decide)]; exact b7 q hq) e1.2.1 e1.2.2.1 hsc.2.1 hLT (by rw [f0 100 (by decide)]; exact a6) (fun z => ⟨q1.mv hkk (fun c j z _ => k3 c j (by omega) (by omega)) (by rw [lS_128 hLo]; show (5 : Nat) ≠ 0; decide) (by rw [lS_129 hLo]; show (6 : Nat) ≠ 0; decide) (fun c z _ _ => by
        have ho : (112 ≤ c ∧ c ≤ 117) ∨ (137 ≤ c ∧ c ≤ 142) ∨ 178 ≤ c := z
        exact k6 c (by omega) (by omega)), q2.mv (fun c z => k6 c (by omega) (by omega))⟩) (by rw [k6 155 (by decide) (by decide)]; exact a8) hW2
    have hsc2 := hrc.2 hsc
    refine ev_aload_n (X := M_X11_restore) (pc := 29) dX11_restore_29 rfl ?_
    refine ev_getRe (X := M_X11_restore) (pc := 30) dX11_restore_30 fl_X11_20_11 (lO_100 hL) rfl (lR_100_0 hL) ?_
    refine ev_getIe (X := M_X11_restore) (pc := 33) (ki := 4) dX11_restore_33 fl_X11_61_2 (lO_102 hL) (by decide) rfl (hsc2.1) ?_
    refine ev_iret (X := M_X11_restore) (pc := 36) dX11_restore_36 rfl ?_
    rw [hk]
    exact ⟨rfl, (fun c z => by rw [k1]), (fun c z => by rw [fR_oF hW2.1 c z]; exact k6 c (by omega) (by omega)), hrc.1, hsc2⟩
  · have hk : (if im = 0 then (2 : Int) else 0) = 2 := if_pos h4
    refine ev_aload_n (X := M_X11_restore) (pc := 7) dX11_restore_7 rfl ?_
    refine ev_ldc (X := M_X11_restore) (pc := 8) (v := -1000000002) dX11_restore_8 kw_682 (by decide) ?_
    refine ev_virtR (X := M_X11_restore) (Y := M_X11_error) (pc := 10) (ci := 11) dX11_restore_10 mk_X11_error rfl kw_319 kw_321 kp_0 (lO_100 hL) (c_error hL (k := 2) (by decide) rfl) rfl (by decide) rfl (Nat.le_of_ble_eq_true rfl) (Nat.zero_add _) (Nat.zero_add _) ?_
    refine ev_iret (X := M_X11_restore) (pc := 13) dX11_restore_13 rfl ?_
    rw [hk]
    exact ⟨rfl, kF.rf, oF_err, h.e hw (by decide)⟩
