theorem c_isState0 {γ : Gh} {K : Sk} {V : Mm} (hV : SV V) (h3 : K.1 3 = (1, 3)) {x : Int} (hx : -2147483648 ≤ x ∧ x < 2147483648) : Call γ M_X11_isState 1 0 0 [vI x] K V (Rt (some (vI (if isSt x then 1 else 0))) K V) := by
  refine call_of (by decide +kernel) (by intro v hv; simp only [List.mem_cons, List.not_mem_nil, or_false] at hv; rcases hv with rfl <;> exact fun q => by cases q) (Nat.le_of_ble_eq_true rfl) ?_
  refine ev_lsE (ls' := [_]) rfl ?_
  refine ev_iload_n (X := M_X11_isState) (pc := 0) dX11_isState_0 rfl ?_
  refine ev_if_lt (X := M_X11_isState) (pc := 1) (tgt := 29) dX11_isState_1 (by decide) (by omega) (fun h1 => ?_) (fun h1 => ?_)
  · refine ev_iconst (X := M_X11_isState) (pc := 29) dX11_isState_29 ?_
    refine ev_bret (X := M_X11_isState) (pc := 30) dX11_isState_30 rfl (by omega) ?_
    exact ⟨by unfold isSt; first | rw [if_pos (by first | omega | exact ⟨by omega, by omega, by assumption⟩)] | rw [if_neg (by first | omega | exact fun q => absurd q.2.2 (by assumption))], rfl, rfl⟩
  · refine ev_iload_n (X := M_X11_isState) (pc := 4) dX11_isState_4 rfl ?_
    refine ev_bipush (X := M_X11_isState) (pc := 5) dX11_isState_5 (by decide) ?_
    refine ev_gets (X := M_X11_isState) (pc := 7) (q := ("GreenPath", "WEIGHT", "[I", vR 3)) dX11_isState_7 st_3 kw_180 ?_
    refine ev_iconst (X := M_X11_isState) (pc := 10) dX11_isState_10 ?_
    refine ev_ialoadE (X := M_X11_isState) (pc := 11) dX11_isState_11 h3 (by omega) (show V 3 0 = 169 by rw [hV.2.2]; rfl) ?_
    refine ev_imul (X := M_X11_isState) (pc := 12) dX11_isState_12 ?_
    refine ev_icmp_gt (X := M_X11_isState) (pc := 13) (tgt := 29) dX11_isState_13 (by decide) (by omega) (by omega) (fun h13 => ?_) (fun h13 => ?_)
    · refine ev_iconst (X := M_X11_isState) (pc := 29) dX11_isState_29 ?_
      refine ev_bret (X := M_X11_isState) (pc := 30) dX11_isState_30 rfl (by omega) ?_
      exact ⟨by unfold isSt; first | rw [if_pos (by first | omega | exact ⟨by omega, by omega, by assumption⟩)] | rw [if_neg (by first | omega | exact fun q => absurd q.2.2 (by assumption))], rfl, rfl⟩
    · refine ev_iload_n (X := M_X11_isState) (pc := 16) dX11_isState_16 rfl ?_
      refine ev_staticR (X := M_X11_isState) (Y := M_X11_beingsOf) (pc := 17) dX11_isState_17 mk_X11_beingsOf kw_181 kw_182 (c_beingsOf (by omega)) rfl (by decide) rfl (Nat.le_of_ble_eq_true rfl) (Nat.zero_add _) (Nat.zero_add _) ?_
      refine ev_bipush (X := M_X11_isState) (pc := 20) dX11_isState_20 (by decide) ?_
      refine ev_icmp_gt (X := M_X11_isState) (pc := 22) (tgt := 29) dX11_isState_22 (by decide) (by have := bei_r (s := x) (by omega); omega) (by have := bei_r (s := x) (by omega); omega) (fun h22 => ?_) (fun h22 => ?_)
      · refine ev_iconst (X := M_X11_isState) (pc := 29) dX11_isState_29 ?_
        refine ev_bret (X := M_X11_isState) (pc := 30) dX11_isState_30 rfl (by omega) ?_
        exact ⟨by unfold isSt; first | rw [if_pos (by first | omega | exact ⟨by omega, by omega, by assumption⟩)] | rw [if_neg (by first | omega | exact fun q => absurd q.2.2 (by assumption))], rfl, rfl⟩
      · refine ev_iconst (X := M_X11_isState) (pc := 25) dX11_isState_25 ?_
        refine ev_goto (X := M_X11_isState) (pc := 26) (tgt := 30) dX11_isState_26 (by decide) ?_
        refine ev_bret (X := M_X11_isState) (pc := 30) dX11_isState_30 rfl (by omega) ?_
        exact ⟨by unfold isSt; first | rw [if_pos (by first | omega | exact ⟨by omega, by omega, by assumption⟩)] | rw [if_neg (by first | omega | exact fun q => absurd q.2.2 (by assumption))], rfl, rfl⟩
theorem Rk_end9 {q : Int} (h : Rk 2029 q) : q = 455 := by
  obtain ⟨h0, h2, h3⟩ := h
  have : ¬ q < 455 := fun z => by
    have := h3 q (Int.le_refl _) z
    have hj := (stF_at (i := q) ⟨by omega, z⟩).1.2.1
    omega
  omega
theorem Bl.vw {K0 : Sk} {V0 : Mm} {a N : Nat} {S : List (Nat × Nat × Nat)} {R : List (Nat × Int × Nat)} {Z Z' : List Nat} {F F' : List (Nat × Int × Int)} {K : Sk} {V W : Mm} (x y : Nat) (h : Bl K0 V0 a N S R Z F K V) (hx : a ≤ x) (hxy : x ≤ y) (hW : ∀ c, ¬ (x ≤ c ∧ c ≤ y) → W c = V c) (hZ : ∀ q ∈ Z', q ∈ Z ∧ ¬ (x ≤ q ∧ q ≤ y)) (hF : ∀ q ∈ F', q ∈ F ∧ ¬ (x ≤ q.1 ∧ q.1 ≤ y)) : Bl K0 V0 a N S R Z' F' K W := by
  obtain ⟨a1, a2, a3, a4, a5, a6, a7⟩ := h
  refine ⟨a1, a2, a3, fun q hq j => ?_, fun q hq => ?_, fun c hc => ?_, a7⟩
  · rw [hW q (hZ q hq).2]; exact a4 q (hZ q hq).1 j
  · rw [hW q.1 (hF q hq).2]; exact a5 q (hF q hq).1
  · obtain ⟨x1, x2, x3⟩ := a6 c hc
    exact ⟨x1, x2, by rw [hW c (by omega)]; exact x3⟩
theorem c_Search_init {γ : Gh} {K : Sk} {V : Mm} (hT : K.1 101 = (16, 0)) (h1 : K.1 1 = (1, 6)) (h2 : K.1 2 = (1, 6)) (h3 : K.1 3 = (1, 3)) (hV : SV V) (hN : K.2.2 = 102) (hz : ∀ j, V 101 j = 0) : Call γ M_X6_init 5 25 6524 [vR 101] K V (Qg none (fun K' W => Bl K V 101 127 [(126, 2, 455), (125, 2, 455), (124, 1, 455), (123, 1, 455), (122, 1, 455), (121, 1, 455), (120, 1, 455), (119, 1, 2730), (118, 1, 455), (117, 19, 0), (116, 19, 0), (115, 19, 0), (114, 19, 0), (113, 19, 0), (112, 19, 0), (111, 1, 6), (110, 1, 6), (109, 1, 18), (108, 1, 20), (107, 15, 0), (106, 1, 50), (105, 15, 0), (104, 6, 2), (103, 5, 6), (102, 12, 0), (1, 1, 6), (2, 1, 6), (101, 16, 0), (1, 1, 6), (2, 1, 6), (3, 1, 3)] [(101, 10, 126), (101, 9, 125), (101, 8, 124), (101, 7, 123), (101, 5, 122), (101, 4, 121), (101, 3, 120), (101, 2, 119), (101, 1, 118), (101, 0, 102), (103, 5, 117), (103, 4, 116), (103, 3, 115), (103, 2, 114), (103, 1, 113), (103, 0, 112), (102, 11, 111), (102, 10, 110), (102, 9, 109), (102, 3, 107), (107, 0, 108), (102, 2, 105), (105, 0, 106), (102, 1, 104), (104, 0, 0), (104, 1, 0), (102, 0, 103)] [126, 125, 124, 123, 122, 121, 120, 111, 110, 109, 108, 107, 106, 105, 104, 103, 101] [(117, 0, 1), (117, 1, 5), (117, 2, 0), (117, 3, lesF 5), (117, 4, greF 5), (116, 0, 1), (116, 1, 4), (116, 2, 0), (116, 3, lesF 4), (116, 4, greF 4), (115, 0, 1), (115, 1, 3), (115, 2, 0), (115, 3, lesF 3), (115, 4, greF 3), (114, 0, 1), (114, 1, 2), (114, 2, 0), (114, 3, lesF 2), (114, 4, greF 2), (113, 0, 1), (113, 1, 1), (113, 2, 0), (113, 3, lesF 1), (113, 4, greF 1), (112, 0, 1), (112, 1, 0), (112, 2, 0), (112, 3, lesF 0), (112, 4, greF 0), (102, 8, 1), (102, 7, 0), (102, 6, 0), (102, 5, 0), (102, 4, 0)] K' W ∧ (∀ j, 0 ≤ j → j < 455 → W 118 j = stF j) ∧ ∀ j, 0 ≤ j → j < 2730 → W 119 j = -2)) := by
  refine call_of (by decide +kernel) (by intro v hv; simp only [List.mem_cons, List.not_mem_nil, or_false] at hv; rcases hv with rfl <;> exact fun q => by cases q) (Nat.le_of_ble_eq_true rfl) ?_
  refine ev_lsE (ls' := [_, _, _]) rfl ?_
  have hB : Bl K V 101 102 [(101, 16, 0), (1, 1, 6), (2, 1, 6), (3, 1, 3)] [] [101] [] K V := by
    refine ⟨hN, fun q hq => ?_, fun q hq => absurd hq List.not_mem_nil, fun q hq j => ?_, fun q hq => absurd hq List.not_mem_nil, fun c _ => ⟨rfl, fun _ => rfl, rfl⟩, fun _ _ => rfl⟩
    · simp only [List.mem_cons, List.not_mem_nil, or_false] at hq
      rcases hq with rfl | rfl | rfl | rfl
      · exact hT
      · exact h1
      · exact h2
      · exact h3
    · rw [List.mem_singleton.mp hq]; exact hz j
  refine ev_aload_n (X := M_X6_init) (pc := 0) dX6_init_0 rfl ?_
  refine ev_objInit (X := M_X6_init) (pc := 1) dX6_init_1 kw_36 kw_29 kw_30 (by decide) (by decide) (Nat.le_of_ble_eq_true rfl) ?_
  refine ev_aload_n (X := M_X6_init) (pc := 4) dX6_init_4 rfl ?_
  refine ev_new (X := M_X6_init) (pc := 5) (mc := 24) (ms := 6512) (ci := 2) dX6_init_5 rfl kw_37 kw_38 kw_3 ?_
  show Ev _ _ _ _ _ _ _ _ (nwK K 12 0) _ _
  have eN := hB.1
  rw [eN]
  have hB := hB.new (k := 12) (n := 0) (by decide) (by decide) (by decide) (by decide) (by decide)
  obtain ⟨K1, hK1⟩ : ∃ x, nwK K 12 0 = x := ⟨_, rfl⟩
  obtain ⟨V1, hV1⟩ : ∃ x, nwV K V = x := ⟨_, rfl⟩
  rw [hK1, hV1] at hB ⊢
  clear hK1 hV1
  clear eN
  refine ev_dup (X := M_X6_init) (pc := 8) dX6_init_8 (fun _ q => by cases q) ?_
  refine ev_initH (X := M_X6_init) (Y := M_X2_init) (pc := 9) dX6_init_9 mk_X2_init rfl rfl kw_39 kw_40 (by decide) (c_Isl_102 (hB.2.1 (102, 12, 0) (List.mem_of_getElem? (i := 0) rfl)) (hB.2.1 (1, 1, 6) (List.mem_of_getElem? (i := 2) rfl)) (hB.2.1 (2, 1, 6) (List.mem_of_getElem? (i := 3) rfl)) (hB.sv (by decide) hV) hB.1 (hB.2.2.2.1 102 (List.mem_of_getElem? (i := 0) rfl))) rfl (by decide) rfl (Nat.le_of_ble_eq_true rfl) (show 15 + 9 = 24 from rfl) (show 142 + 6370 = 6512 from rfl) (fun KI VI hI => ?_)
  have hB := hB.join (S1 := [(101, 16, 0), (1, 1, 6), (2, 1, 6), (3, 1, 3)]) (R1 := []) (Z1 := [101]) (F1 := []) hI (by decide) (by decide) (by decide) (by decide) (by decide) (by decide)
  clear hI
  obtain ⟨KI102, hKI⟩ : ∃ x, KI = x := ⟨_, rfl⟩
  obtain ⟨VI102, hVI⟩ : ∃ x, VI = x := ⟨_, rfl⟩
  rw [hKI, hVI] at hB ⊢
  clear hKI hVI
  have hB : Bl K V 101 118 [(117, 19, 0), (116, 19, 0), (115, 19, 0), (114, 19, 0), (113, 19, 0), (112, 19, 0), (111, 1, 6), (110, 1, 6), (109, 1, 18), (108, 1, 20), (107, 15, 0), (106, 1, 50), (105, 15, 0), (104, 6, 2), (103, 5, 6), (102, 12, 0), (1, 1, 6), (2, 1, 6), (101, 16, 0), (1, 1, 6), (2, 1, 6), (3, 1, 3)] [(103, 5, 117), (103, 4, 116), (103, 3, 115), (103, 2, 114), (103, 1, 113), (103, 0, 112), (102, 11, 111), (102, 10, 110), (102, 9, 109), (102, 3, 107), (107, 0, 108), (102, 2, 105), (105, 0, 106), (102, 1, 104), (104, 0, 0), (104, 1, 0), (102, 0, 103)] [111, 110, 109, 108, 107, 106, 105, 104, 103, 101] [(117, 0, 1), (117, 1, 5), (117, 2, 0), (117, 3, lesF 5), (117, 4, greF 5), (116, 0, 1), (116, 1, 4), (116, 2, 0), (116, 3, lesF 4), (116, 4, greF 4), (115, 0, 1), (115, 1, 3), (115, 2, 0), (115, 3, lesF 3), (115, 4, greF 3), (114, 0, 1), (114, 1, 2), (114, 2, 0), (114, 3, lesF 2), (114, 4, greF 2), (113, 0, 1), (113, 1, 1), (113, 2, 0), (113, 3, lesF 1), (113, 4, greF 1), (112, 0, 1), (112, 1, 0), (112, 2, 0), (112, 3, lesF 0), (112, 4, greF 0), (102, 8, 1), (102, 7, 0), (102, 6, 0), (102, 5, 0), (102, 4, 0)] KI102 VI102 := hB
  refine ev_putR (X := M_X6_init) (pc := 12) (ki := 0) dX6_init_12 fl_X6_12_6 (by decide) (congrArg Prod.fst (hB.2.1 (101, 16, 0) (List.mem_of_getElem? (i := 18) rfl))) (fun _ h q => by cases h; exact ⟨rfl, rfl⟩) rfl rfl ?_
  have hB := hB.put (o := 101) (f := 0) (x := 102) (by decide) (by decide)
  obtain ⟨K2, hK2⟩ : ∃ x, wrR KI102 101 0 102 = x := ⟨_, rfl⟩
  rw [hK2] at hB ⊢
  clear hK2
  refine ev_aload_n (X := M_X6_init) (pc := 15) dX6_init_15 rfl ?_
  refine ev_sipush (X := M_X6_init) (pc := 16) dX6_init_16 (by decide) ?_
  refine ev_newarrayL (X := M_X6_init) (pc := 19) (mc := 8) (ms := 5915) (k := 1) (N := 455) dX6_init_19 (by decide) (by decide) rfl kw_67 rfl (by decide) ?_
  have eN := hB.1
  rw [eN]
  have hB := hB.new (k := 1) (n := 455) (by decide) (by decide) (by decide) (by decide) (by decide)
  obtain ⟨K3, hK3⟩ : ∃ x, nwK K2 1 455 = x := ⟨_, rfl⟩
  obtain ⟨V3, hV3⟩ : ∃ x, nwV K2 VI102 = x := ⟨_, rfl⟩
  rw [hK3, hV3] at hB ⊢
  clear hK3 hV3
  clear eN
  refine ev_putR (X := M_X6_init) (pc := 21) (ki := 1) dX6_init_21 fl_X6_18_6 (by decide) (congrArg Prod.fst (hB.2.1 (101, 16, 0) (List.mem_of_getElem? (i := 19) rfl))) (fun _ h q => by cases h; exact ⟨rfl, rfl⟩) rfl rfl ?_
  have hB := hB.put (o := 101) (f := 1) (x := 118) (by decide) (by decide)
  obtain ⟨K4, hK4⟩ : ∃ x, wrR K3 101 1 118 = x := ⟨_, rfl⟩
  rw [hK4] at hB ⊢
  clear hK4
  refine ev_aload_n (X := M_X6_init) (pc := 24) dX6_init_24 rfl ?_
  refine ev_sipush (X := M_X6_init) (pc := 25) dX6_init_25 (by decide) ?_
  refine ev_newarrayL (X := M_X6_init) (pc := 28) (mc := 7) (ms := 3185) (k := 1) (N := 2730) dX6_init_28 (by decide) (by decide) rfl kw_67 rfl (by decide) ?_
  have eN := hB.1
  rw [eN]
  have hB := hB.new (k := 1) (n := 2730) (by decide) (by decide) (by decide) (by decide) (by decide)
  obtain ⟨K5, hK5⟩ : ∃ x, nwK K4 1 2730 = x := ⟨_, rfl⟩
  obtain ⟨V5, hV5⟩ : ∃ x, nwV K4 V3 = x := ⟨_, rfl⟩
  rw [hK5, hV5] at hB ⊢
  clear hK5 hV5
  clear eN
  refine ev_putR (X := M_X6_init) (pc := 30) (ki := 2) dX6_init_30 fl_X6_22_6 (by decide) (congrArg Prod.fst (hB.2.1 (101, 16, 0) (List.mem_of_getElem? (i := 20) rfl))) (fun _ h q => by cases h; exact ⟨rfl, rfl⟩) rfl rfl ?_
  have hB := hB.put (o := 101) (f := 2) (x := 119) (by decide) (by decide)
  obtain ⟨K6, hK6⟩ : ∃ x, wrR K5 101 2 119 = x := ⟨_, rfl⟩
  rw [hK6] at hB ⊢
  clear hK6
  refine ev_aload_n (X := M_X6_init) (pc := 33) dX6_init_33 rfl ?_
  refine ev_sipush (X := M_X6_init) (pc := 34) dX6_init_34 (by decide) ?_
  refine ev_newarrayL (X := M_X6_init) (pc := 37) (mc := 6) (ms := 2730) (k := 1) (N := 455) dX6_init_37 (by decide) (by decide) rfl kw_67 rfl (by decide) ?_
  have eN := hB.1
  rw [eN]
  have hB := hB.new (k := 1) (n := 455) (by decide) (by decide) (by decide) (by decide) (by decide)
  obtain ⟨K7, hK7⟩ : ∃ x, nwK K6 1 455 = x := ⟨_, rfl⟩
  obtain ⟨V7, hV7⟩ : ∃ x, nwV K6 V5 = x := ⟨_, rfl⟩
  rw [hK7, hV7] at hB ⊢
  clear hK7 hV7
  clear eN
  refine ev_putR (X := M_X6_init) (pc := 39) (ki := 3) dX6_init_39 fl_X6_25_6 (by decide) (congrArg Prod.fst (hB.2.1 (101, 16, 0) (List.mem_of_getElem? (i := 21) rfl))) (fun _ h q => by cases h; exact ⟨rfl, rfl⟩) rfl rfl ?_
  have hB := hB.put (o := 101) (f := 3) (x := 120) (by decide) (by decide)
  obtain ⟨K8, hK8⟩ : ∃ x, wrR K7 101 3 120 = x := ⟨_, rfl⟩
  rw [hK8] at hB ⊢
  clear hK8
  refine ev_aload_n (X := M_X6_init) (pc := 42) dX6_init_42 rfl ?_
  refine ev_sipush (X := M_X6_init) (pc := 43) dX6_init_43 (by decide) ?_
  refine ev_newarrayL (X := M_X6_init) (pc := 46) (mc := 5) (ms := 2275) (k := 1) (N := 455) dX6_init_46 (by decide) (by decide) rfl kw_67 rfl (by decide) ?_
  have eN := hB.1
  rw [eN]
  have hB := hB.new (k := 1) (n := 455) (by decide) (by decide) (by decide) (by decide) (by decide)
  obtain ⟨K9, hK9⟩ : ∃ x, nwK K8 1 455 = x := ⟨_, rfl⟩
  obtain ⟨V9, hV9⟩ : ∃ x, nwV K8 V7 = x := ⟨_, rfl⟩
  rw [hK9, hV9] at hB ⊢
  clear hK9 hV9
  clear eN
  refine ev_putR (X := M_X6_init) (pc := 48) (ki := 4) dX6_init_48 fl_X6_28_6 (by decide) (congrArg Prod.fst (hB.2.1 (101, 16, 0) (List.mem_of_getElem? (i := 22) rfl))) (fun _ h q => by cases h; exact ⟨rfl, rfl⟩) rfl rfl ?_
  have hB := hB.put (o := 101) (f := 4) (x := 121) (by decide) (by decide)
  obtain ⟨K10, hK10⟩ : ∃ x, wrR K9 101 4 121 = x := ⟨_, rfl⟩
  rw [hK10] at hB ⊢
  clear hK10
  refine ev_aload_n (X := M_X6_init) (pc := 51) dX6_init_51 rfl ?_
  refine ev_sipush (X := M_X6_init) (pc := 52) dX6_init_52 (by decide) ?_
  refine ev_newarrayL (X := M_X6_init) (pc := 55) (mc := 4) (ms := 1820) (k := 1) (N := 455) dX6_init_55 (by decide) (by decide) rfl kw_67 rfl (by decide) ?_
  have eN := hB.1
  rw [eN]
  have hB := hB.new (k := 1) (n := 455) (by decide) (by decide) (by decide) (by decide) (by decide)
  obtain ⟨K11, hK11⟩ : ∃ x, nwK K10 1 455 = x := ⟨_, rfl⟩
  obtain ⟨V11, hV11⟩ : ∃ x, nwV K10 V9 = x := ⟨_, rfl⟩
  rw [hK11, hV11] at hB ⊢
  clear hK11 hV11
  clear eN
  refine ev_putR (X := M_X6_init) (pc := 57) (ki := 5) dX6_init_57 fl_X6_31_6 (by decide) (congrArg Prod.fst (hB.2.1 (101, 16, 0) (List.mem_of_getElem? (i := 23) rfl))) (fun _ h q => by cases h; exact ⟨rfl, rfl⟩) rfl rfl ?_
  have hB := hB.put (o := 101) (f := 5) (x := 122) (by decide) (by decide)
  obtain ⟨K12, hK12⟩ : ∃ x, wrR K11 101 5 122 = x := ⟨_, rfl⟩
  rw [hK12] at hB ⊢
  clear hK12
  refine ev_aload_n (X := M_X6_init) (pc := 60) dX6_init_60 rfl ?_
  refine ev_sipush (X := M_X6_init) (pc := 61) dX6_init_61 (by decide) ?_
  refine ev_newarrayL (X := M_X6_init) (pc := 64) (mc := 3) (ms := 1365) (k := 1) (N := 455) dX6_init_64 (by decide) (by decide) rfl kw_67 rfl (by decide) ?_
  have eN := hB.1
  rw [eN]
  have hB := hB.new (k := 1) (n := 455) (by decide) (by decide) (by decide) (by decide) (by decide)
  obtain ⟨K13, hK13⟩ : ∃ x, nwK K12 1 455 = x := ⟨_, rfl⟩
  obtain ⟨V13, hV13⟩ : ∃ x, nwV K12 V11 = x := ⟨_, rfl⟩
  rw [hK13, hV13] at hB ⊢
  clear hK13 hV13
  clear eN
  refine ev_putR (X := M_X6_init) (pc := 66) (ki := 7) dX6_init_66 fl_X6_34_6 (by decide) (congrArg Prod.fst (hB.2.1 (101, 16, 0) (List.mem_of_getElem? (i := 24) rfl))) (fun _ h q => by cases h; cases q) rfl rfl ?_
  have hB := hB.put (o := 101) (f := 7) (x := 123) (by decide) (by decide)
  obtain ⟨K14, hK14⟩ : ∃ x, wrR K13 101 7 123 = x := ⟨_, rfl⟩
  rw [hK14] at hB ⊢
  clear hK14
  refine ev_aload_n (X := M_X6_init) (pc := 69) dX6_init_69 rfl ?_
  refine ev_sipush (X := M_X6_init) (pc := 70) dX6_init_70 (by decide) ?_
  refine ev_newarrayL (X := M_X6_init) (pc := 73) (mc := 2) (ms := 910) (k := 1) (N := 455) dX6_init_73 (by decide) (by decide) rfl kw_67 rfl (by decide) ?_
  have eN := hB.1
  rw [eN]
  have hB := hB.new (k := 1) (n := 455) (by decide) (by decide) (by decide) (by decide) (by decide)
  obtain ⟨K15, hK15⟩ : ∃ x, nwK K14 1 455 = x := ⟨_, rfl⟩
  obtain ⟨V15, hV15⟩ : ∃ x, nwV K14 V13 = x := ⟨_, rfl⟩
  rw [hK15, hV15] at hB ⊢
  clear hK15 hV15
  clear eN
  refine ev_putR (X := M_X6_init) (pc := 75) (ki := 8) dX6_init_75 fl_X6_37_6 (by decide) (congrArg Prod.fst (hB.2.1 (101, 16, 0) (List.mem_of_getElem? (i := 25) rfl))) (fun _ h q => by cases h; cases q) rfl rfl ?_
  have hB := hB.put (o := 101) (f := 8) (x := 124) (by decide) (by decide)
  obtain ⟨K16, hK16⟩ : ∃ x, wrR K15 101 8 124 = x := ⟨_, rfl⟩
  rw [hK16] at hB ⊢
  clear hK16
  refine ev_aload_n (X := M_X6_init) (pc := 78) dX6_init_78 rfl ?_
  refine ev_sipush (X := M_X6_init) (pc := 79) dX6_init_79 (by decide) ?_
  refine ev_newarrayL (X := M_X6_init) (pc := 82) (mc := 1) (ms := 455) (k := 2) (N := 455) dX6_init_82 (by decide) (by decide) rfl kw_223 rfl (by decide) ?_
  have eN := hB.1
  rw [eN]
  have hB := hB.new (k := 2) (n := 455) (by decide) (by decide) (by decide) (by decide) (by decide)
  obtain ⟨K17, hK17⟩ : ∃ x, nwK K16 2 455 = x := ⟨_, rfl⟩
  obtain ⟨V17, hV17⟩ : ∃ x, nwV K16 V15 = x := ⟨_, rfl⟩
  rw [hK17, hV17] at hB ⊢
  clear hK17 hV17
  clear eN
  refine ev_putR (X := M_X6_init) (pc := 84) (ki := 9) dX6_init_84 fl_X6_40_6 (by decide) (congrArg Prod.fst (hB.2.1 (101, 16, 0) (List.mem_of_getElem? (i := 26) rfl))) (fun _ h q => by cases h; cases q) rfl rfl ?_
  have hB := hB.put (o := 101) (f := 9) (x := 125) (by decide) (by decide)
  obtain ⟨K18, hK18⟩ : ∃ x, wrR K17 101 9 125 = x := ⟨_, rfl⟩
  rw [hK18] at hB ⊢
  clear hK18
  refine ev_aload_n (X := M_X6_init) (pc := 87) dX6_init_87 rfl ?_
  refine ev_sipush (X := M_X6_init) (pc := 88) dX6_init_88 (by decide) ?_
  refine ev_newarrayL (X := M_X6_init) (pc := 91) (mc := 0) (ms := 0) (k := 2) (N := 455) dX6_init_91 (by decide) (by decide) rfl kw_223 rfl (by decide) ?_
  have eN := hB.1
  rw [eN]
  have hB := hB.new (k := 2) (n := 455) (by decide) (by decide) (by decide) (by decide) (by decide)
  obtain ⟨K19, hK19⟩ : ∃ x, nwK K18 2 455 = x := ⟨_, rfl⟩
  obtain ⟨V19, hV19⟩ : ∃ x, nwV K18 V17 = x := ⟨_, rfl⟩
  rw [hK19, hV19] at hB ⊢
  clear hK19 hV19
  clear eN
  refine ev_putR (X := M_X6_init) (pc := 93) (ki := 10) dX6_init_93 fl_X6_44_6 (by decide) (congrArg Prod.fst (hB.2.1 (101, 16, 0) (List.mem_of_getElem? (i := 27) rfl))) (fun _ h q => by cases h; cases q) rfl rfl ?_
  have hB := hB.put (o := 101) (f := 10) (x := 126) (by decide) (by decide)
  obtain ⟨K20, hK20⟩ : ∃ x, wrR K19 101 10 126 = x := ⟨_, rfl⟩
  rw [hK20] at hB ⊢
  clear hK20
  refine ev_iconst (X := M_X6_init) (pc := 96) dX6_init_96 ?_
  refine ev_istore_nL (X := M_X6_init) (pc := 97) (ls' := [_, _, _]) dX6_init_97 (by decide) rfl ?_
  refine ev_iconst (X := M_X6_init) (pc := 98) dX6_init_98 ?_
  refine ev_istore_nL (X := M_X6_init) (pc := 99) (ls' := [_, _, _]) dX6_init_99 (by decide) rfl ?_
  have hB0 := hB
  refine ev_weak (ev_while (σ := Int × Int × Mm) (fun z => (0 ≤ z.1 ∧ z.1 ≤ 2029) ∧ Rk z.1 z.2.1 ∧ (∀ c, c ≠ 118 → z.2.2 c = V19 c) ∧ ∀ j, 0 ≤ j → j < z.2.1 → z.2.2 118 j = stF j) (fun z => (2029 - z.1).toNat) (fun z => [vR 101, vI z.2.1, vI z.1]) (fun _ => K20) (fun z => z.2.2) ?_ (0, 0, V19) ⟨by show (0 : Int) ≤ 0 ∧ (0 : Int) ≤ 2029; decide, Rk_0, fun _ _ => rfl, fun j j0 j1 => by change j < 0 at j1; omega⟩) ⟨rfl, rfl, rfl, trivial⟩
  rintro ⟨s, q, W⟩ ⟨s0, hR, w1, w2⟩ ih
  dsimp only at s0 hR w1 w2 ih ⊢
  have hq := hR.1
  have hVW : SV W := by have := hB.sv (by decide) hV; unfold SV at this ⊢; rw [w1 1 (by decide), w1 2 (by decide), w1 3 (by decide)]; exact this
  refine ev_iload_n (X := M_X6_init) (pc := 100) dX6_init_100 rfl ?_
  refine ev_bipush (X := M_X6_init) (pc := 101) dX6_init_101 (by decide) ?_
  refine ev_getsN (X := M_X6_init) (pc := 103) (q := ("GreenPath", "WEIGHT", "[I", vR 3)) (host := "GreenPath") dX6_init_103 st_3 kn_175 ?_
  refine ev_iconst (X := M_X6_init) (pc := 106) dX6_init_106 ?_
  refine ev_ialoadE (X := M_X6_init) (pc := 107) dX6_init_107 (hB.2.1 (3, 1, 3) (List.mem_of_getElem? (i := 30) rfl)) (by omega) (show W 3 0 = 169 by rw [hVW.2.2]; rfl) ?_
  refine ev_imul (X := M_X6_init) (pc := 108) dX6_init_108 ?_
  refine ev_icmp_gt (X := M_X6_init) (pc := 109) (tgt := 142) dX6_init_109 (by decide) (by omega) (by decide) (fun h109 => ?_) (fun h109 => ?_)
  · have hs : s = 2029 := by omega
    rw [hs] at hR
    have hq5 := Rk_end9 hR
    rw [hq5] at w2
    refine ev_aload_n (X := M_X6_init) (pc := 142) dX6_init_142 rfl ?_
    refine ev_getRe (X := M_X6_init) (pc := 143) dX6_init_143 fl_X6_22_6 (congrArg Prod.fst (hB.2.1 (101, 16, 0) (List.mem_of_getElem? (i := 27) rfl))) rfl (hB.2.2.1 (101, 2, 119) (List.mem_of_getElem? (i := 7) rfl)) ?_
    refine ev_bipush (X := M_X6_init) (pc := 146) dX6_init_146 (by decide) ?_
    refine ev_staticV (X := M_X6_init) (Y := M_J7_fill_53178) (pc := 148) dX6_init_148 mk_J7_fill_53178 kw_184 kw_185 (c_fillI (n := 2730) (by decide) (hB.2.1 (119, 1, 2730) (List.mem_of_getElem? (i := 7) rfl)) (by decide)) rfl (by decide) rfl (Nat.le_of_ble_eq_true rfl) (Nat.zero_add _) (Nat.zero_add _) ?_
    refine ev_vret (X := M_X6_init) (pc := 151) dX6_init_151 rfl ?_
    have hfl : ∀ c, ¬ (118 ≤ c ∧ c ≤ 119) → setr W 119 (flr (W 119) ((2730 : Nat) : Int) (-2)) c = V19 c := fun c hc => by rw [setr_ne (by omega)]; exact w1 c (by omega)
    refine ⟨rfl, hB.vw 118 119 (by decide) (by decide) hfl (by decide) (by decide), fun j j0 j1 => ?_, fun j j0 j1 => ?_⟩
    · rw [setr_ne (by decide)]; exact w2 j j0 j1
    · rw [setr_self]; unfold flr; rw [if_pos (by omega)]
  · refine ev_iload_n (X := M_X6_init) (pc := 112) dX6_init_112 rfl ?_
    refine ev_staticNR (X := M_X6_init) (Y := M_X11_isState) (pc := 113) (host := "GreenPath") dX6_init_113 mk_X11_isState kn_177 kw_178 (c_isState0 hVW (hB.2.1 (3, 1, 3) (List.mem_of_getElem? (i := 30) rfl)) (by omega)) rfl (by decide) rfl (Nat.le_of_ble_eq_true rfl) (Nat.zero_add _) (Nat.zero_add _) ?_
    refine ev_if_eq (X := M_X6_init) (pc := 116) (tgt := 136) dX6_init_116 (by decide) (by split <;> decide) (fun h116 => ?_) (fun h116 => ?_)
    · have hno : ¬ isSt s := fun z => by rw [if_pos z] at h116; exact absurd h116 (by decide)
      have hR2 := Rk_no hno hR
      refine ev_iincL (X := M_X6_init) (pc := 136) (ls' := [_, _, _]) dX6_init_136 rfl (by decide) rfl ?_
      refine ev_goto (X := M_X6_init) (pc := 139) (tgt := 100) dX6_init_139 (by decide) ?_
      first
        | exact ev_weak (ih (s + 1, q, W) ⟨by omega, hR2, w1, w2⟩ (by show (2029 - (s + 1)).toNat < (2029 - s).toNat; omega)) ⟨rfl, rfl, rfl, trivial⟩
        | (refine ev_weak (ih (s + 1, q + 1, wr W 118 q s) ⟨by omega, e4, fun c hc => by show wr W 118 q s c = _; rw [wr_off hc]; exact w1 c hc, fun j j0 j1 => ?_⟩ (by show (2029 - (s + 1)).toNat < (2029 - s).toNat; omega)) ⟨rfl, rfl, rfl, trivial⟩
           change j < q + 1 at j1
           show wr W 118 q s 118 j = stF j
           rw [wr_row]
           by_cases z : j = q
           · rw [z, up_self, e2]
           · rw [up_ne z]; exact w2 j j0 (by omega))
    · have hye : isSt s := Decidable.byContradiction fun z => h116 (by rw [if_neg z])
      obtain ⟨e1, e2, e3, e4⟩ := Rk_st hye hR
      refine ev_iload_n (X := M_X6_init) (pc := 119) dX6_init_119 rfl ?_
      refine ev_sipush (X := M_X6_init) (pc := 120) dX6_init_120 (by decide) ?_
      refine ev_icmp_ge (X := M_X6_init) (pc := 123) (tgt := 136) dX6_init_123 (by decide) (by omega) (by decide) (fun h123 => ?_) (fun h123 => ?_)
      · exact absurd h123 (by omega)
      · refine ev_aload_n (X := M_X6_init) (pc := 126) dX6_init_126 rfl ?_
        refine ev_getRe (X := M_X6_init) (pc := 127) dX6_init_127 fl_X6_18_6 (congrArg Prod.fst (hB.2.1 (101, 16, 0) (List.mem_of_getElem? (i := 27) rfl))) rfl (hB.2.2.1 (101, 1, 118) (List.mem_of_getElem? (i := 8) rfl)) ?_
        refine ev_iload_n (X := M_X6_init) (pc := 130) dX6_init_130 rfl ?_
        refine ev_iload_n (X := M_X6_init) (pc := 131) dX6_init_131 rfl ?_
        refine ev_iastore (X := M_X6_init) (pc := 132) dX6_init_132 (by decide) (hB.2.1 (118, 1, 455) (List.mem_of_getElem? (i := 8) rfl)) (by omega) ?_
        refine ev_iincL (X := M_X6_init) (pc := 133) (ls' := [_, _, _]) dX6_init_133 rfl (by decide) rfl ?_
        refine ev_iincL (X := M_X6_init) (pc := 136) (ls' := [_, _, _]) dX6_init_136 rfl (by decide) rfl ?_
        refine ev_goto (X := M_X6_init) (pc := 139) (tgt := 100) dX6_init_139 (by decide) ?_
        first
          | exact ev_weak (ih (s + 1, q, W) ⟨by omega, hR2, w1, w2⟩ (by show (2029 - (s + 1)).toNat < (2029 - s).toNat; omega)) ⟨rfl, rfl, rfl, trivial⟩
          | (refine ev_weak (ih (s + 1, q + 1, wr W 118 q s) ⟨by omega, e4, fun c hc => by show wr W 118 q s c = _; rw [wr_off hc]; exact w1 c hc, fun j j0 j1 => ?_⟩ (by show (2029 - (s + 1)).toNat < (2029 - s).toNat; omega)) ⟨rfl, rfl, rfl, trivial⟩
             change j < q + 1 at j1
             show wr W 118 q s 118 j = stF j
             rw [wr_row]
             by_cases z : j = q
             · rw [z, up_self, e2]
             · rw [up_ne z]; exact w2 j j0 (by omega))
