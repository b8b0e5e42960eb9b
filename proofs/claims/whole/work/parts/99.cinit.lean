/-! ===== the constructors ===== -/
/-- the row of a new object -/
def dI : Int → Int := fun j => if (3 ≤ j ∧ j < 9) ∨ j = 23 then 1 else 0
theorem dI_K : Kds dI := by
  refine ⟨fun p h0 h1 => ?_, ⟨by decide, by decide⟩, fun z => absurd z (by decide)⟩
  unfold dI
  repeat' split
  all_goals omega
theorem dI_3 : ∀ p, 0 ≤ p ∧ p < 6 → dI (3 + p) = 1 ∧ dI (9 + p) = 0 := fun p hp => by
  unfold dI
  rw [if_pos (by omega), if_neg (by omega)]
  exact ⟨rfl, rfl⟩
theorem c_Green_init {γ : Gh} {K : Sk} {V : Mm} (hT : K.1 100 = (21, 0)) (h1 : K.1 1 = (1, 6)) (h2 : K.1 2 = (1, 6)) (h3 : K.1 3 = (1, 3)) (h4 : K.1 4 = (1, 13)) (h5 : K.1 5 = (2, 6)) (hV : SV V) (hN : K.2.2 = 101) (hz : ∀ j, V 100 j = 0) : Call γ M_X11_init 6 55 6913 [vR 100] K V (Qg none (fun K' W => Bl K V 100 156 [(155, 1, 6), (154, 1, 4), (153, 1, 40), (152, 15, 0), (151, 1, 40), (150, 15, 0), (149, 1, 40), (148, 15, 0), (147, 1, 40), (146, 15, 0), (145, 7, 4), (144, 1, 40), (143, 15, 0), (142, 19, 0), (141, 19, 0), (140, 19, 0), (139, 19, 0), (138, 19, 0), (137, 19, 0), (136, 1, 6), (135, 1, 6), (134, 1, 18), (133, 1, 20), (132, 15, 0), (131, 1, 50), (130, 15, 0), (129, 6, 2), (128, 5, 6), (127, 12, 0), (1, 1, 6), (2, 1, 6), (126, 2, 455), (125, 2, 455), (124, 1, 455), (123, 1, 455), (122, 1, 455), (121, 1, 455), (120, 1, 455), (119, 1, 2730), (118, 1, 455), (117, 19, 0), (116, 19, 0), (115, 19, 0), (114, 19, 0), (113, 19, 0), (112, 19, 0), (111, 1, 6), (110, 1, 6), (109, 1, 18), (108, 1, 20), (107, 15, 0), (106, 1, 50), (105, 15, 0), (104, 6, 2), (103, 5, 6), (102, 12, 0), (1, 1, 6), (2, 1, 6), (101, 16, 0), (1, 1, 6), (2, 1, 6), (3, 1, 3), (100, 21, 0), (1, 1, 6), (2, 1, 6), (3, 1, 3), (4, 1, 13), (5, 2, 6)] [(100, 6, 155), (100, 5, 154), (145, 3, 152), (152, 0, 153), (145, 2, 150), (150, 0, 151), (145, 1, 148), (148, 0, 149), (145, 0, 146), (146, 0, 147), (100, 4, 145), (100, 3, 143), (143, 0, 144), (100, 1, 127), (128, 5, 142), (128, 4, 141), (128, 3, 140), (128, 2, 139), (128, 1, 138), (128, 0, 137), (127, 11, 136), (127, 10, 135), (127, 9, 134), (127, 3, 132), (132, 0, 133), (127, 2, 130), (130, 0, 131), (127, 1, 129), (129, 0, 0), (129, 1, 0), (127, 0, 128), (100, 0, 102), (100, 2, 101), (101, 10, 126), (101, 9, 125), (101, 8, 124), (101, 7, 123), (101, 5, 122), (101, 4, 121), (101, 3, 120), (101, 2, 119), (101, 1, 118), (101, 0, 102), (103, 5, 117), (103, 4, 116), (103, 3, 115), (103, 2, 114), (103, 1, 113), (103, 0, 112), (102, 11, 111), (102, 10, 110), (102, 9, 109), (102, 3, 107), (107, 0, 108), (102, 2, 105), (105, 0, 106), (102, 1, 104), (104, 0, 0), (104, 1, 0), (102, 0, 103)] [155, 154, 153, 152, 151, 150, 149, 148, 147, 146, 145, 144, 143, 136, 135, 134, 133, 132, 131, 130, 129, 128, 126, 125, 124, 123, 122, 121, 120, 108, 107, 106, 105, 104, 103, 101, 100] [(142, 0, 1), (142, 1, 5), (142, 2, 0), (142, 3, lesF 5), (142, 4, greF 5), (141, 0, 1), (141, 1, 4), (141, 2, 0), (141, 3, lesF 4), (141, 4, greF 4), (140, 0, 1), (140, 1, 3), (140, 2, 0), (140, 3, lesF 3), (140, 4, greF 3), (139, 0, 1), (139, 1, 2), (139, 2, 0), (139, 3, lesF 2), (139, 4, greF 2), (138, 0, 1), (138, 1, 1), (138, 2, 0), (138, 3, lesF 1), (138, 4, greF 1), (137, 0, 1), (137, 1, 0), (137, 2, 0), (137, 3, lesF 0), (137, 4, greF 0), (127, 8, 1), (127, 7, 0), (127, 6, 0), (127, 5, 0), (127, 4, 0), (117, 0, 1), (117, 1, 5), (117, 2, 0), (117, 3, lesF 5), (117, 4, greF 5), (116, 0, 1), (116, 1, 4), (116, 2, 0), (116, 3, lesF 4), (116, 4, greF 4), (115, 0, 1), (115, 1, 3), (115, 2, 0), (115, 3, lesF 3), (115, 4, greF 3), (114, 0, 1), (114, 1, 2), (114, 2, 0), (114, 3, lesF 2), (114, 4, greF 2), (113, 0, 1), (113, 1, 1), (113, 2, 0), (113, 3, lesF 1), (113, 4, greF 1), (112, 0, 1), (112, 1, 0), (112, 2, 0), (112, 3, lesF 0), (112, 4, greF 0), (102, 8, 1), (102, 7, 0), (102, 6, 0), (102, 5, 0), (102, 4, 0)] K' W ∧ (∀ j, 0 ≤ j → j < 455 → W 118 j = stF j) ∧ (∀ j, 0 ≤ j → j < 2730 → W 119 j = -2) ∧ St6 dI 6 W)) := by
  refine call_of (by decide +kernel) (by intro v hv; simp only [List.mem_cons, List.not_mem_nil, or_false] at hv; rcases hv with rfl <;> exact fun q => by cases q) (Nat.le_of_ble_eq_true rfl) ?_
  refine ev_lsE (ls' := [_, _]) rfl ?_
  have hB : Bl K V 100 101 [(100, 21, 0), (1, 1, 6), (2, 1, 6), (3, 1, 3), (4, 1, 13), (5, 2, 6)] [] [100] [] K V := by
    refine ⟨hN, fun q hq => ?_, fun q hq => absurd hq List.not_mem_nil, fun q hq j => ?_, fun q hq => absurd hq List.not_mem_nil, fun c _ => ⟨rfl, fun _ => rfl, rfl⟩, fun _ _ => rfl⟩
    · simp only [List.mem_cons, List.not_mem_nil, or_false] at hq
      rcases hq with rfl | rfl | rfl | rfl | rfl | rfl
      · exact hT
      · exact h1
      · exact h2
      · exact h3
      · exact h4
      · exact h5
    · rw [List.mem_singleton.mp hq]; exact hz j
  refine ev_aload_n (X := M_X11_init) (pc := 0) dX11_init_0 rfl ?_
  refine ev_objInit (X := M_X11_init) (pc := 1) dX11_init_1 kw_28 kw_29 kw_30 (by decide) (by decide) (Nat.le_of_ble_eq_true rfl) ?_
  refine ev_aload_n (X := M_X11_init) (pc := 4) dX11_init_4 rfl ?_
  refine ev_new (X := M_X11_init) (pc := 5) (mc := 54) (ms := 6902) (ci := 6) dX11_init_5 rfl kw_31 kw_32 kw_2 ?_
  show Ev _ _ _ _ _ _ _ _ (nwK K 16 0) _ _
  have eN := hB.1
  rw [eN]
  have hB := hB.new (k := 16) (n := 0) (by decide) (by decide) (by decide) (by decide) (by decide)
  obtain ⟨K1, hK1⟩ : ∃ x, nwK K 16 0 = x := ⟨_, rfl⟩
  obtain ⟨V1, hV1⟩ : ∃ x, nwV K V = x := ⟨_, rfl⟩
  rw [hK1, hV1] at hB ⊢
  clear hK1 hV1
  clear eN
  refine ev_dup (X := M_X11_init) (pc := 8) dX11_init_8 (fun _ q => by cases q) ?_
  refine ev_initH (X := M_X11_init) (Y := M_X6_init) (pc := 9) dX11_init_9 mk_X6_init rfl rfl kw_33 kw_34 (by decide) (c_Search_init (hB.2.1 (101, 16, 0) (List.mem_of_getElem? (i := 0) rfl)) (hB.2.1 (1, 1, 6) (List.mem_of_getElem? (i := 2) rfl)) (hB.2.1 (2, 1, 6) (List.mem_of_getElem? (i := 3) rfl)) (hB.2.1 (3, 1, 3) (List.mem_of_getElem? (i := 4) rfl)) (hB.sv (by decide) hV) hB.1 (hB.2.2.2.1 101 (List.mem_of_getElem? (i := 0) rfl))) rfl (by decide) rfl (Nat.le_of_ble_eq_true rfl) (show 25 + 29 = 54 from rfl) (show 6524 + 378 = 6902 from rfl) (fun KS VS hI => ?_)
  obtain ⟨hI, h118, h119⟩ := hI
  have hB := hB.join (S1 := [(100, 21, 0), (1, 1, 6), (2, 1, 6), (3, 1, 3), (4, 1, 13), (5, 2, 6)]) (R1 := []) (Z1 := [100]) (F1 := []) hI (by decide) (by decide) (by decide) (by decide) (by decide) (by decide)
  clear hI
  have hB : Bl K V 100 127 [(126, 2, 455), (125, 2, 455), (124, 1, 455), (123, 1, 455), (122, 1, 455), (121, 1, 455), (120, 1, 455), (119, 1, 2730), (118, 1, 455), (117, 19, 0), (116, 19, 0), (115, 19, 0), (114, 19, 0), (113, 19, 0), (112, 19, 0), (111, 1, 6), (110, 1, 6), (109, 1, 18), (108, 1, 20), (107, 15, 0), (106, 1, 50), (105, 15, 0), (104, 6, 2), (103, 5, 6), (102, 12, 0), (1, 1, 6), (2, 1, 6), (101, 16, 0), (1, 1, 6), (2, 1, 6), (3, 1, 3), (100, 21, 0), (1, 1, 6), (2, 1, 6), (3, 1, 3), (4, 1, 13), (5, 2, 6)] [(101, 10, 126), (101, 9, 125), (101, 8, 124), (101, 7, 123), (101, 5, 122), (101, 4, 121), (101, 3, 120), (101, 2, 119), (101, 1, 118), (101, 0, 102), (103, 5, 117), (103, 4, 116), (103, 3, 115), (103, 2, 114), (103, 1, 113), (103, 0, 112), (102, 11, 111), (102, 10, 110), (102, 9, 109), (102, 3, 107), (107, 0, 108), (102, 2, 105), (105, 0, 106), (102, 1, 104), (104, 0, 0), (104, 1, 0), (102, 0, 103)] [126, 125, 124, 123, 122, 121, 120, 111, 110, 109, 108, 107, 106, 105, 104, 103, 101, 100] [(117, 0, 1), (117, 1, 5), (117, 2, 0), (117, 3, lesF 5), (117, 4, greF 5), (116, 0, 1), (116, 1, 4), (116, 2, 0), (116, 3, lesF 4), (116, 4, greF 4), (115, 0, 1), (115, 1, 3), (115, 2, 0), (115, 3, lesF 3), (115, 4, greF 3), (114, 0, 1), (114, 1, 2), (114, 2, 0), (114, 3, lesF 2), (114, 4, greF 2), (113, 0, 1), (113, 1, 1), (113, 2, 0), (113, 3, lesF 1), (113, 4, greF 1), (112, 0, 1), (112, 1, 0), (112, 2, 0), (112, 3, lesF 0), (112, 4, greF 0), (102, 8, 1), (102, 7, 0), (102, 6, 0), (102, 5, 0), (102, 4, 0)] KS VS := hB
  refine ev_putR (X := M_X11_init) (pc := 12) (ki := 2) dX11_init_12 fl_X11_12_11 (by decide) (congrArg Prod.fst (hB.2.1 (100, 21, 0) (List.mem_of_getElem? (i := 31) rfl))) (fun _ h q => by cases h; exact ⟨rfl, rfl⟩) rfl rfl ?_
  have hB := hB.put (o := 100) (f := 2) (x := 101) (by decide) (by decide)
  obtain ⟨K2, hK2⟩ : ∃ x, wrR KS 100 2 101 = x := ⟨_, rfl⟩
  rw [hK2] at hB ⊢
  clear hK2
  refine ev_aload_n (X := M_X11_init) (pc := 15) dX11_init_15 rfl ?_
  refine ev_aload_n (X := M_X11_init) (pc := 16) dX11_init_16 rfl ?_
  refine ev_getRe (X := M_X11_init) (pc := 17) dX11_init_17 fl_X11_12_11 (congrArg Prod.fst (hB.2.1 (100, 21, 0) (List.mem_of_getElem? (i := 31) rfl))) rfl (hB.2.2.1 (100, 2, 101) (List.mem_of_getElem? (i := 0) rfl)) ?_
  refine ev_getRe (X := M_X11_init) (pc := 20) dX11_init_20 fl_X11_16_6 (congrArg Prod.fst (hB.2.1 (101, 16, 0) (List.mem_of_getElem? (i := 27) rfl))) rfl (hB.2.2.1 (101, 0, 102) (List.mem_of_getElem? (i := 10) rfl)) ?_
  refine ev_putR (X := M_X11_init) (pc := 23) (ki := 0) dX11_init_23 fl_X11_20_11 (by decide) (congrArg Prod.fst (hB.2.1 (100, 21, 0) (List.mem_of_getElem? (i := 31) rfl))) (fun _ h q => by cases h; exact ⟨rfl, rfl⟩) rfl rfl ?_
  have hB := hB.put (o := 100) (f := 0) (x := 102) (by decide) (by decide)
  obtain ⟨K3, hK3⟩ : ∃ x, wrR K2 100 0 102 = x := ⟨_, rfl⟩
  rw [hK3] at hB ⊢
  clear hK3
  refine ev_aload_n (X := M_X11_init) (pc := 26) dX11_init_26 rfl ?_
  refine ev_getRe (X := M_X11_init) (pc := 27) dX11_init_27 fl_X11_20_11 (congrArg Prod.fst (hB.2.1 (100, 21, 0) (List.mem_of_getElem? (i := 31) rfl))) rfl (hB.2.2.1 (100, 0, 102) (List.mem_of_getElem? (i := 0) rfl)) ?_
  have hL0 : Lay0 K3 := ⟨(congrArg Prod.fst (hB.2.1 (102, 12, 0) (List.mem_of_getElem? (i := 24) rfl))), (hB.2.2.1 (102, 0, 103) (List.mem_of_getElem? (i := 28) rfl)), (hB.2.2.1 (102, 9, 109) (List.mem_of_getElem? (i := 20) rfl)), (hB.2.2.1 (102, 10, 110) (List.mem_of_getElem? (i := 19) rfl)), (hB.2.2.1 (102, 11, 111) (List.mem_of_getElem? (i := 18) rfl)), (hB.2.1 (103, 5, 6) (List.mem_of_getElem? (i := 23) rfl)), (hB.2.1 (109, 1, 18) (List.mem_of_getElem? (i := 17) rfl)), (hB.2.1 (110, 1, 6) (List.mem_of_getElem? (i := 16) rfl)), (hB.2.1 (111, 1, 6) (List.mem_of_getElem? (i := 15) rfl)), (hB.2.1 (1, 1, 6) (List.mem_of_getElem? (i := 25) rfl)), (hB.2.1 (2, 1, 6) (List.mem_of_getElem? (i := 26) rfl)), (hB.2.1 (3, 1, 3) (List.mem_of_getElem? (i := 30) rfl))⟩
  have hAl : ∀ p, 0 ≤ p ∧ p < 6 → LawA K3 VS (K3.2.1 103 p) p (dI (3 + p)) (dI (9 + p)) := fun p hp => by
    obtain ⟨z1, z2⟩ := dI_3 p hp
    rw [z1, z2]
    clear z1 z2
    rcases (show p = 0 ∨ p = 1 ∨ p = 2 ∨ p = 3 ∨ p = 4 ∨ p = 5 by omega) with z | z | z | z | z | z <;> subst z
    · rw [(hB.2.2.1 (103, 0, 112) (List.mem_of_getElem? (i := 17) rfl))]
      exact ⟨(congrArg Prod.fst (hB.2.1 (112, 19, 0) (List.mem_of_getElem? (i := 14) rfl))), (hB.2.2.2.2.1 (112, 0, 1) (List.mem_of_getElem? (i := 25) rfl)), (hB.2.2.2.2.1 (112, 1, 0) (List.mem_of_getElem? (i := 26) rfl)), (hB.2.2.2.2.1 (112, 2, 0) (List.mem_of_getElem? (i := 27) rfl)), (hB.2.2.2.2.1 (112, 3, lesF 0) (List.mem_of_getElem? (i := 28) rfl)), (hB.2.2.2.2.1 (112, 4, greF 0) (List.mem_of_getElem? (i := 29) rfl)), Or.inl ⟨by decide, by decide⟩⟩
    · rw [(hB.2.2.1 (103, 1, 113) (List.mem_of_getElem? (i := 16) rfl))]
      exact ⟨(congrArg Prod.fst (hB.2.1 (113, 19, 0) (List.mem_of_getElem? (i := 13) rfl))), (hB.2.2.2.2.1 (113, 0, 1) (List.mem_of_getElem? (i := 20) rfl)), (hB.2.2.2.2.1 (113, 1, 1) (List.mem_of_getElem? (i := 21) rfl)), (hB.2.2.2.2.1 (113, 2, 0) (List.mem_of_getElem? (i := 22) rfl)), (hB.2.2.2.2.1 (113, 3, lesF 1) (List.mem_of_getElem? (i := 23) rfl)), (hB.2.2.2.2.1 (113, 4, greF 1) (List.mem_of_getElem? (i := 24) rfl)), Or.inl ⟨by decide, by decide⟩⟩
    · rw [(hB.2.2.1 (103, 2, 114) (List.mem_of_getElem? (i := 15) rfl))]
      exact ⟨(congrArg Prod.fst (hB.2.1 (114, 19, 0) (List.mem_of_getElem? (i := 12) rfl))), (hB.2.2.2.2.1 (114, 0, 1) (List.mem_of_getElem? (i := 15) rfl)), (hB.2.2.2.2.1 (114, 1, 2) (List.mem_of_getElem? (i := 16) rfl)), (hB.2.2.2.2.1 (114, 2, 0) (List.mem_of_getElem? (i := 17) rfl)), (hB.2.2.2.2.1 (114, 3, lesF 2) (List.mem_of_getElem? (i := 18) rfl)), (hB.2.2.2.2.1 (114, 4, greF 2) (List.mem_of_getElem? (i := 19) rfl)), Or.inl ⟨by decide, by decide⟩⟩
    · rw [(hB.2.2.1 (103, 3, 115) (List.mem_of_getElem? (i := 14) rfl))]
      exact ⟨(congrArg Prod.fst (hB.2.1 (115, 19, 0) (List.mem_of_getElem? (i := 11) rfl))), (hB.2.2.2.2.1 (115, 0, 1) (List.mem_of_getElem? (i := 10) rfl)), (hB.2.2.2.2.1 (115, 1, 3) (List.mem_of_getElem? (i := 11) rfl)), (hB.2.2.2.2.1 (115, 2, 0) (List.mem_of_getElem? (i := 12) rfl)), (hB.2.2.2.2.1 (115, 3, lesF 3) (List.mem_of_getElem? (i := 13) rfl)), (hB.2.2.2.2.1 (115, 4, greF 3) (List.mem_of_getElem? (i := 14) rfl)), Or.inl ⟨by decide, by decide⟩⟩
    · rw [(hB.2.2.1 (103, 4, 116) (List.mem_of_getElem? (i := 13) rfl))]
      exact ⟨(congrArg Prod.fst (hB.2.1 (116, 19, 0) (List.mem_of_getElem? (i := 10) rfl))), (hB.2.2.2.2.1 (116, 0, 1) (List.mem_of_getElem? (i := 5) rfl)), (hB.2.2.2.2.1 (116, 1, 4) (List.mem_of_getElem? (i := 6) rfl)), (hB.2.2.2.2.1 (116, 2, 0) (List.mem_of_getElem? (i := 7) rfl)), (hB.2.2.2.2.1 (116, 3, lesF 4) (List.mem_of_getElem? (i := 8) rfl)), (hB.2.2.2.2.1 (116, 4, greF 4) (List.mem_of_getElem? (i := 9) rfl)), Or.inl ⟨by decide, by decide⟩⟩
    · rw [(hB.2.2.1 (103, 5, 117) (List.mem_of_getElem? (i := 12) rfl))]
      exact ⟨(congrArg Prod.fst (hB.2.1 (117, 19, 0) (List.mem_of_getElem? (i := 9) rfl))), (hB.2.2.2.2.1 (117, 0, 1) (List.mem_of_getElem? (i := 0) rfl)), (hB.2.2.2.2.1 (117, 1, 5) (List.mem_of_getElem? (i := 1) rfl)), (hB.2.2.2.2.1 (117, 2, 0) (List.mem_of_getElem? (i := 2) rfl)), (hB.2.2.2.2.1 (117, 3, lesF 5) (List.mem_of_getElem? (i := 3) rfl)), (hB.2.2.2.2.1 (117, 4, greF 5) (List.mem_of_getElem? (i := 4) rfl)), Or.inl ⟨by decide, by decide⟩⟩
  refine ev_virtY (X := M_X11_init) (Y := M_X2_settle) (pc := 30) (ci := 2) dX11_init_30 mk_X2_settle rfl kw_224 kw_225 kw_226 (congrArg Prod.fst (hB.2.1 (102, 12, 0) (List.mem_of_getElem? (i := 24) rfl))) (c_settle0 hL0 (hB.sv (by decide) hV) dI_K (fun p hp => (dI_3 p hp).1) hAl) rfl (by decide) rfl (Nat.le_of_ble_eq_true rfl) (Nat.zero_add _) (Nat.zero_add _) (fun VT hT2 => ?_)
  have hB : Bl K V 100 127 [(126, 2, 455), (125, 2, 455), (124, 1, 455), (123, 1, 455), (122, 1, 455), (121, 1, 455), (120, 1, 455), (119, 1, 2730), (118, 1, 455), (117, 19, 0), (116, 19, 0), (115, 19, 0), (114, 19, 0), (113, 19, 0), (112, 19, 0), (111, 1, 6), (110, 1, 6), (109, 1, 18), (108, 1, 20), (107, 15, 0), (106, 1, 50), (105, 15, 0), (104, 6, 2), (103, 5, 6), (102, 12, 0), (1, 1, 6), (2, 1, 6), (101, 16, 0), (1, 1, 6), (2, 1, 6), (3, 1, 3), (100, 21, 0), (1, 1, 6), (2, 1, 6), (3, 1, 3), (4, 1, 13), (5, 2, 6)] [(100, 0, 102), (100, 2, 101), (101, 10, 126), (101, 9, 125), (101, 8, 124), (101, 7, 123), (101, 5, 122), (101, 4, 121), (101, 3, 120), (101, 2, 119), (101, 1, 118), (101, 0, 102), (103, 5, 117), (103, 4, 116), (103, 3, 115), (103, 2, 114), (103, 1, 113), (103, 0, 112), (102, 11, 111), (102, 10, 110), (102, 9, 109), (102, 3, 107), (107, 0, 108), (102, 2, 105), (105, 0, 106), (102, 1, 104), (104, 0, 0), (104, 1, 0), (102, 0, 103)] [126, 125, 124, 123, 122, 121, 120, 108, 107, 106, 105, 104, 103, 101, 100] [(117, 0, 1), (117, 1, 5), (117, 2, 0), (117, 3, lesF 5), (117, 4, greF 5), (116, 0, 1), (116, 1, 4), (116, 2, 0), (116, 3, lesF 4), (116, 4, greF 4), (115, 0, 1), (115, 1, 3), (115, 2, 0), (115, 3, lesF 3), (115, 4, greF 3), (114, 0, 1), (114, 1, 2), (114, 2, 0), (114, 3, lesF 2), (114, 4, greF 2), (113, 0, 1), (113, 1, 1), (113, 2, 0), (113, 3, lesF 1), (113, 4, greF 1), (112, 0, 1), (112, 1, 0), (112, 2, 0), (112, 3, lesF 0), (112, 4, greF 0), (102, 8, 1), (102, 7, 0), (102, 6, 0), (102, 5, 0), (102, 4, 0)] K3 VT := hB.vw 109 111 (by decide) (by decide) (fun c z => hT2.1 c (by omega) (by omega) (by omega)) (by decide) (by decide)
  have h118 : ∀ j, 0 ≤ j → j < 455 → VT 118 j = stF j := fun j j0 j1 => by rw [hT2.1 118 (by decide) (by decide) (by decide)]; exact h118 j j0 j1
  have h119 : ∀ j, 0 ≤ j → j < 2730 → VT 119 j = -2 := fun j j0 j1 => by rw [hT2.1 119 (by decide) (by decide) (by decide)]; exact h119 j j0 j1
  have hS6 := hT2.2
  clear hT2 hAl hL0
  have hk : ∀ c, 109 ≤ c → c ≤ 126 → VT c = VT c := fun _ _ _ => rfl
  refine ev_aload_n (X := M_X11_init) (pc := 33) dX11_init_33 rfl ?_
  refine ev_new (X := M_X11_init) (pc := 34) (mc := 28) (ms := 366) (ci := 2) dX11_init_34 rfl kw_283 kw_38 kw_3 ?_
  show Ev _ _ _ _ _ _ _ _ (nwK K3 12 0) _ _
  have eN := hB.1
  rw [eN]
  have hB := hB.new (k := 12) (n := 0) (by decide) (by decide) (by decide) (by decide) (by decide)
  obtain ⟨K4, hK4⟩ : ∃ x, nwK K3 12 0 = x := ⟨_, rfl⟩
  obtain ⟨V4, hV4⟩ : ∃ x, nwV K3 VT = x := ⟨_, rfl⟩
  have hk : ∀ c, 109 ≤ c → c ≤ 126 → V4 c = VT c := fun c z1 z2 => by rw [← hV4, nwV_old (by rw [eN]; omega)]; first | done | exact hk c z1 z2
  rw [hK4, hV4] at hB ⊢
  clear hK4 hV4
  clear eN
  refine ev_dup (X := M_X11_init) (pc := 37) dX11_init_37 (fun _ q => by cases q) ?_
  refine ev_initH (X := M_X11_init) (Y := M_X2_init) (pc := 38) dX11_init_38 mk_X2_init rfl rfl kw_284 kw_40 (by decide) (c_Isl_127 (hB.2.1 (127, 12, 0) (List.mem_of_getElem? (i := 0) rfl)) (hB.2.1 (1, 1, 6) (List.mem_of_getElem? (i := 26) rfl)) (hB.2.1 (2, 1, 6) (List.mem_of_getElem? (i := 27) rfl)) (hB.sv (by decide) hV) hB.1 (hB.2.2.2.1 127 (List.mem_of_getElem? (i := 0) rfl))) rfl (by decide) rfl (Nat.le_of_ble_eq_true rfl) (show 15 + 13 = 28 from rfl) (show 142 + 224 = 366 from rfl) (fun KI VI hI => ?_)
  have hk : ∀ c, 109 ≤ c → c ≤ 126 → VI c = VT c := fun c z1 z2 => by rw [(hI.2.2.2.2.2.1 c (by omega)).2.2]; exact hk c z1 z2
  have hB := hB.join (S1 := [(126, 2, 455), (125, 2, 455), (124, 1, 455), (123, 1, 455), (122, 1, 455), (121, 1, 455), (120, 1, 455), (119, 1, 2730), (118, 1, 455), (117, 19, 0), (116, 19, 0), (115, 19, 0), (114, 19, 0), (113, 19, 0), (112, 19, 0), (111, 1, 6), (110, 1, 6), (109, 1, 18), (108, 1, 20), (107, 15, 0), (106, 1, 50), (105, 15, 0), (104, 6, 2), (103, 5, 6), (102, 12, 0), (1, 1, 6), (2, 1, 6), (101, 16, 0), (1, 1, 6), (2, 1, 6), (3, 1, 3), (100, 21, 0), (1, 1, 6), (2, 1, 6), (3, 1, 3), (4, 1, 13), (5, 2, 6)]) (R1 := [(100, 0, 102), (100, 2, 101), (101, 10, 126), (101, 9, 125), (101, 8, 124), (101, 7, 123), (101, 5, 122), (101, 4, 121), (101, 3, 120), (101, 2, 119), (101, 1, 118), (101, 0, 102), (103, 5, 117), (103, 4, 116), (103, 3, 115), (103, 2, 114), (103, 1, 113), (103, 0, 112), (102, 11, 111), (102, 10, 110), (102, 9, 109), (102, 3, 107), (107, 0, 108), (102, 2, 105), (105, 0, 106), (102, 1, 104), (104, 0, 0), (104, 1, 0), (102, 0, 103)]) (Z1 := [126, 125, 124, 123, 122, 121, 120, 108, 107, 106, 105, 104, 103, 101, 100]) (F1 := [(117, 0, 1), (117, 1, 5), (117, 2, 0), (117, 3, lesF 5), (117, 4, greF 5), (116, 0, 1), (116, 1, 4), (116, 2, 0), (116, 3, lesF 4), (116, 4, greF 4), (115, 0, 1), (115, 1, 3), (115, 2, 0), (115, 3, lesF 3), (115, 4, greF 3), (114, 0, 1), (114, 1, 2), (114, 2, 0), (114, 3, lesF 2), (114, 4, greF 2), (113, 0, 1), (113, 1, 1), (113, 2, 0), (113, 3, lesF 1), (113, 4, greF 1), (112, 0, 1), (112, 1, 0), (112, 2, 0), (112, 3, lesF 0), (112, 4, greF 0), (102, 8, 1), (102, 7, 0), (102, 6, 0), (102, 5, 0), (102, 4, 0)]) hI (by decide) (by decide) (by decide) (by decide) (by decide) (by decide)
  clear hI
  have hB : Bl K V 100 143 [(142, 19, 0), (141, 19, 0), (140, 19, 0), (139, 19, 0), (138, 19, 0), (137, 19, 0), (136, 1, 6), (135, 1, 6), (134, 1, 18), (133, 1, 20), (132, 15, 0), (131, 1, 50), (130, 15, 0), (129, 6, 2), (128, 5, 6), (127, 12, 0), (1, 1, 6), (2, 1, 6), (126, 2, 455), (125, 2, 455), (124, 1, 455), (123, 1, 455), (122, 1, 455), (121, 1, 455), (120, 1, 455), (119, 1, 2730), (118, 1, 455), (117, 19, 0), (116, 19, 0), (115, 19, 0), (114, 19, 0), (113, 19, 0), (112, 19, 0), (111, 1, 6), (110, 1, 6), (109, 1, 18), (108, 1, 20), (107, 15, 0), (106, 1, 50), (105, 15, 0), (104, 6, 2), (103, 5, 6), (102, 12, 0), (1, 1, 6), (2, 1, 6), (101, 16, 0), (1, 1, 6), (2, 1, 6), (3, 1, 3), (100, 21, 0), (1, 1, 6), (2, 1, 6), (3, 1, 3), (4, 1, 13), (5, 2, 6)] [(128, 5, 142), (128, 4, 141), (128, 3, 140), (128, 2, 139), (128, 1, 138), (128, 0, 137), (127, 11, 136), (127, 10, 135), (127, 9, 134), (127, 3, 132), (132, 0, 133), (127, 2, 130), (130, 0, 131), (127, 1, 129), (129, 0, 0), (129, 1, 0), (127, 0, 128), (100, 0, 102), (100, 2, 101), (101, 10, 126), (101, 9, 125), (101, 8, 124), (101, 7, 123), (101, 5, 122), (101, 4, 121), (101, 3, 120), (101, 2, 119), (101, 1, 118), (101, 0, 102), (103, 5, 117), (103, 4, 116), (103, 3, 115), (103, 2, 114), (103, 1, 113), (103, 0, 112), (102, 11, 111), (102, 10, 110), (102, 9, 109), (102, 3, 107), (107, 0, 108), (102, 2, 105), (105, 0, 106), (102, 1, 104), (104, 0, 0), (104, 1, 0), (102, 0, 103)] [136, 135, 134, 133, 132, 131, 130, 129, 128, 126, 125, 124, 123, 122, 121, 120, 108, 107, 106, 105, 104, 103, 101, 100] [(142, 0, 1), (142, 1, 5), (142, 2, 0), (142, 3, lesF 5), (142, 4, greF 5), (141, 0, 1), (141, 1, 4), (141, 2, 0), (141, 3, lesF 4), (141, 4, greF 4), (140, 0, 1), (140, 1, 3), (140, 2, 0), (140, 3, lesF 3), (140, 4, greF 3), (139, 0, 1), (139, 1, 2), (139, 2, 0), (139, 3, lesF 2), (139, 4, greF 2), (138, 0, 1), (138, 1, 1), (138, 2, 0), (138, 3, lesF 1), (138, 4, greF 1), (137, 0, 1), (137, 1, 0), (137, 2, 0), (137, 3, lesF 0), (137, 4, greF 0), (127, 8, 1), (127, 7, 0), (127, 6, 0), (127, 5, 0), (127, 4, 0), (117, 0, 1), (117, 1, 5), (117, 2, 0), (117, 3, lesF 5), (117, 4, greF 5), (116, 0, 1), (116, 1, 4), (116, 2, 0), (116, 3, lesF 4), (116, 4, greF 4), (115, 0, 1), (115, 1, 3), (115, 2, 0), (115, 3, lesF 3), (115, 4, greF 3), (114, 0, 1), (114, 1, 2), (114, 2, 0), (114, 3, lesF 2), (114, 4, greF 2), (113, 0, 1), (113, 1, 1), (113, 2, 0), (113, 3, lesF 1), (113, 4, greF 1), (112, 0, 1), (112, 1, 0), (112, 2, 0), (112, 3, lesF 0), (112, 4, greF 0), (102, 8, 1), (102, 7, 0), (102, 6, 0), (102, 5, 0), (102, 4, 0)] KI VI := hB
  refine ev_putR (X := M_X11_init) (pc := 41) (ki := 1) dX11_init_41 fl_X11_29_11 (by decide) (congrArg Prod.fst (hB.2.1 (100, 21, 0) (List.mem_of_getElem? (i := 49) rfl))) (fun _ h q => by cases h; exact ⟨rfl, rfl⟩) rfl rfl ?_
  have hB := hB.put (o := 100) (f := 1) (x := 127) (by decide) (by decide)
  obtain ⟨K5, hK5⟩ : ∃ x, wrR KI 100 1 127 = x := ⟨_, rfl⟩
  rw [hK5] at hB ⊢
  clear hK5
  refine ev_aload_n (X := M_X11_init) (pc := 44) dX11_init_44 rfl ?_
  refine ev_new (X := M_X11_init) (pc := 45) (mc := 12) (ms := 222) (ci := 5) dX11_init_45 rfl kw_285 kw_48 kw_4 ?_
  show Ev _ _ _ _ _ _ _ _ (nwK K5 15 0) _ _
  have eN := hB.1
  rw [eN]
  have hB := hB.new (k := 15) (n := 0) (by decide) (by decide) (by decide) (by decide) (by decide)
  obtain ⟨K6, hK6⟩ : ∃ x, nwK K5 15 0 = x := ⟨_, rfl⟩
  obtain ⟨V6, hV6⟩ : ∃ x, nwV K5 VI = x := ⟨_, rfl⟩
  have hk : ∀ c, 109 ≤ c → c ≤ 126 → V6 c = VT c := fun c z1 z2 => by rw [← hV6, nwV_old (by rw [eN]; omega)]; first | done | exact hk c z1 z2
  rw [hK6, hV6] at hB ⊢
  clear hK6 hV6
  clear eN
  refine ev_dup (X := M_X11_init) (pc := 48) dX11_init_48 (fun _ q => by cases q) ?_
  refine ev_bipush (X := M_X11_init) (pc := 49) dX11_init_49 (by decide) ?_
  have eN := hB.1
  refine ev_initV (X := M_X11_init) (Y := M_X5_init) (pc := 51) dX11_init_51 mk_X5_init rfl rfl kw_286 kw_50 (by decide) (c_Row_init (a := 143) (n := 40) (congrArg Prod.fst (hB.2.1 (143, 15, 0) (List.mem_of_getElem? (i := 0) rfl))) (by decide) (by rw [eN]; decide) (by decide)) rfl (by decide) rfl (Nat.le_of_ble_eq_true rfl) (show 1 + 11 = 12 from rfl) (show 40 + 182 = 222 from rfl) ?_
  rw [eN]
  have hB := (hB.new (k := 1) (n := 40) (by decide) (by decide) (by decide) (by decide) (by decide)).put (o := 143) (f := 0) (x := 144) (by decide) (by decide)
  obtain ⟨K7, hK7⟩ : ∃ x, wrR (nwK K6 1 40) 143 0 144 = x := ⟨_, rfl⟩
  obtain ⟨V7, hV7⟩ : ∃ x, nwV K6 V6 = x := ⟨_, rfl⟩
  have hk : ∀ c, 109 ≤ c → c ≤ 126 → V7 c = VT c := fun c z1 z2 => by rw [← hV7, nwV_old (by rw [eN]; omega)]; first | done | exact hk c z1 z2
  rw [hK7, hV7] at hB ⊢
  clear hK7 hV7
  clear eN
  refine ev_putR (X := M_X11_init) (pc := 54) (ki := 3) dX11_init_54 fl_X11_37_11 (by decide) (congrArg Prod.fst (hB.2.1 (100, 21, 0) (List.mem_of_getElem? (i := 51) rfl))) (fun _ h q => by cases h; exact ⟨rfl, rfl⟩) rfl rfl ?_
  have hB := hB.put (o := 100) (f := 3) (x := 143) (by decide) (by decide)
  obtain ⟨K8, hK8⟩ : ∃ x, wrR K7 100 3 143 = x := ⟨_, rfl⟩
  rw [hK8] at hB ⊢
  clear hK8
  refine ev_aload_n (X := M_X11_init) (pc := 57) dX11_init_57 rfl ?_
  refine ev_iconst (X := M_X11_init) (pc := 58) dX11_init_58 ?_
  refine ev_anewarrayL (X := M_X11_init) (pc := 59) (mc := 10) (ms := 178) (k := 7) (N := 4) dX11_init_59 (by decide) (by decide) rfl kw_285 (fun U h => h.2.2.2.2.2.1) rfl (by decide) ?_
  have eN := hB.1
  rw [eN]
  have hB := hB.new (k := 7) (n := 4) (by decide) (by decide) (by decide) (by decide) (by decide)
  obtain ⟨K9, hK9⟩ : ∃ x, nwK K8 7 4 = x := ⟨_, rfl⟩
  obtain ⟨V9, hV9⟩ : ∃ x, nwV K8 V7 = x := ⟨_, rfl⟩
  have hk : ∀ c, 109 ≤ c → c ≤ 126 → V9 c = VT c := fun c z1 z2 => by rw [← hV9, nwV_old (by rw [eN]; omega)]; first | done | exact hk c z1 z2
  rw [hK9, hV9] at hB ⊢
  clear hK9 hV9
  clear eN
  refine ev_putR (X := M_X11_init) (pc := 62) (ki := 4) dX11_init_62 fl_X11_41_11 (by decide) (congrArg Prod.fst (hB.2.1 (100, 21, 0) (List.mem_of_getElem? (i := 52) rfl))) (fun _ h q => by cases h; exact ⟨rfl, rfl⟩) rfl rfl ?_
  have hB := hB.put (o := 100) (f := 4) (x := 145) (by decide) (by decide)
  obtain ⟨K10, hK10⟩ : ∃ x, wrR K9 100 4 145 = x := ⟨_, rfl⟩
  rw [hK10] at hB ⊢
  clear hK10
  refine ev_iconst (X := M_X11_init) (pc := 65) dX11_init_65 ?_
  refine ev_istore_nL (X := M_X11_init) (pc := 66) (ls' := [_, _]) dX11_init_66 (by decide) rfl ?_
  refine ev_weak (ls' := [vR 100, vI 0]) ?_ ⟨rfl, rfl, trivial⟩
  refine ev_iload_n (X := M_X11_init) (pc := 67) dX11_init_67 rfl ?_
  refine ev_iconst (X := M_X11_init) (pc := 68) dX11_init_68 ?_
  refine ev_icmp_ge (X := M_X11_init) (pc := 69) (tgt := 93) dX11_init_69 (by decide) (by omega) (by omega) (fun h69 => ?_) (fun h69 => ?_)
  · exact absurd h69 (by decide)
  · refine ev_aload_n (X := M_X11_init) (pc := 72) dX11_init_72 rfl ?_
    refine ev_getRe (X := M_X11_init) (pc := 73) dX11_init_73 fl_X11_41_11 (congrArg Prod.fst (hB.2.1 (100, 21, 0) (List.mem_of_getElem? (i := 52) rfl))) rfl (hB.2.2.1 (100, 4, 145) (List.mem_of_getElem? (i := 0) rfl)) ?_
    refine ev_iload_n (X := M_X11_init) (pc := 76) dX11_init_76 rfl ?_
    refine ev_new (X := M_X11_init) (pc := 77) (mc := 9) (ms := 176) (ci := 5) dX11_init_77 rfl kw_285 kw_48 kw_4 ?_
    show Ev _ _ _ _ _ _ _ _ (nwK K10 15 0) _ _
    have eN := hB.1
    rw [eN]
    have hB := hB.new (k := 15) (n := 0) (by decide) (by decide) (by decide) (by decide) (by decide)
    obtain ⟨K11, hK11⟩ : ∃ x, nwK K10 15 0 = x := ⟨_, rfl⟩
    obtain ⟨V11, hV11⟩ : ∃ x, nwV K10 V9 = x := ⟨_, rfl⟩
    have hk : ∀ c, 109 ≤ c → c ≤ 126 → V11 c = VT c := fun c z1 z2 => by rw [← hV11, nwV_old (by rw [eN]; omega)]; first | done | exact hk c z1 z2
    rw [hK11, hV11] at hB ⊢
    clear hK11 hV11
    clear eN
    refine ev_dup (X := M_X11_init) (pc := 80) dX11_init_80 (fun _ q => by cases q) ?_
    refine ev_bipush (X := M_X11_init) (pc := 81) dX11_init_81 (by decide) ?_
    have eN := hB.1
    refine ev_initV (X := M_X11_init) (Y := M_X5_init) (pc := 83) dX11_init_83 mk_X5_init rfl rfl kw_286 kw_50 (by decide) (c_Row_init (a := 146) (n := 40) (congrArg Prod.fst (hB.2.1 (146, 15, 0) (List.mem_of_getElem? (i := 0) rfl))) (by decide) (by rw [eN]; decide) (by decide)) rfl (by decide) rfl (Nat.le_of_ble_eq_true rfl) (show 1 + 8 = 9 from rfl) (show 40 + 136 = 176 from rfl) ?_
    rw [eN]
    have hB := (hB.new (k := 1) (n := 40) (by decide) (by decide) (by decide) (by decide) (by decide)).put (o := 146) (f := 0) (x := 147) (by decide) (by decide)
    obtain ⟨K12, hK12⟩ : ∃ x, wrR (nwK K11 1 40) 146 0 147 = x := ⟨_, rfl⟩
    obtain ⟨V12, hV12⟩ : ∃ x, nwV K11 V11 = x := ⟨_, rfl⟩
    have hk : ∀ c, 109 ≤ c → c ≤ 126 → V12 c = VT c := fun c z1 z2 => by rw [← hV12, nwV_old (by rw [eN]; omega)]; first | done | exact hk c z1 z2
    rw [hK12, hV12] at hB ⊢
    clear hK12 hV12
    clear eN
    refine ev_aastore (X := M_X11_init) (pc := 86) dX11_init_86 (by decide) (hB.2.1 (145, 7, 4) (List.mem_of_getElem? (i := 2) rfl)) (by decide) (by decide) (by decide) (Or.inr ⟨5, (congrArg Prod.fst (hB.2.1 (146, 15, 0) (List.mem_of_getElem? (i := 1) rfl))), ⟨_, rfl, Or.inl rfl⟩⟩) ?_
    have hB := hB.put (o := 145) (f := 0) (x := 146) (by decide) (by decide)
    obtain ⟨K13, hK13⟩ : ∃ x, wrR K12 145 0 146 = x := ⟨_, rfl⟩
    rw [hK13] at hB ⊢
    clear hK13
    refine ev_iincL (X := M_X11_init) (pc := 87) (ls' := [_, _]) dX11_init_87 rfl (by decide) rfl ?_
    refine ev_goto (X := M_X11_init) (pc := 90) (tgt := 67) dX11_init_90 (by decide) ?_
    refine ev_weak (ls' := [vR 100, vI 1]) ?_ ⟨rfl, rfl, trivial⟩
    refine ev_iload_n (X := M_X11_init) (pc := 67) dX11_init_67 rfl ?_
    refine ev_iconst (X := M_X11_init) (pc := 68) dX11_init_68 ?_
    refine ev_icmp_ge (X := M_X11_init) (pc := 69) (tgt := 93) dX11_init_69 (by decide) (by omega) (by omega) (fun h69 => ?_) (fun h69 => ?_)
    · exact absurd h69 (by decide)
    · refine ev_aload_n (X := M_X11_init) (pc := 72) dX11_init_72 rfl ?_
      refine ev_getRe (X := M_X11_init) (pc := 73) dX11_init_73 fl_X11_41_11 (congrArg Prod.fst (hB.2.1 (100, 21, 0) (List.mem_of_getElem? (i := 54) rfl))) rfl (hB.2.2.1 (100, 4, 145) (List.mem_of_getElem? (i := 2) rfl)) ?_
      refine ev_iload_n (X := M_X11_init) (pc := 76) dX11_init_76 rfl ?_
      refine ev_new (X := M_X11_init) (pc := 77) (mc := 7) (ms := 134) (ci := 5) dX11_init_77 rfl kw_285 kw_48 kw_4 ?_
      show Ev _ _ _ _ _ _ _ _ (nwK K13 15 0) _ _
      have eN := hB.1
      rw [eN]
      have hB := hB.new (k := 15) (n := 0) (by decide) (by decide) (by decide) (by decide) (by decide)
      obtain ⟨K14, hK14⟩ : ∃ x, nwK K13 15 0 = x := ⟨_, rfl⟩
      obtain ⟨V14, hV14⟩ : ∃ x, nwV K13 V12 = x := ⟨_, rfl⟩
      have hk : ∀ c, 109 ≤ c → c ≤ 126 → V14 c = VT c := fun c z1 z2 => by rw [← hV14, nwV_old (by rw [eN]; omega)]; first | done | exact hk c z1 z2
      rw [hK14, hV14] at hB ⊢
      clear hK14 hV14
      clear eN
      refine ev_dup (X := M_X11_init) (pc := 80) dX11_init_80 (fun _ q => by cases q) ?_
      refine ev_bipush (X := M_X11_init) (pc := 81) dX11_init_81 (by decide) ?_
      have eN := hB.1
      refine ev_initV (X := M_X11_init) (Y := M_X5_init) (pc := 83) dX11_init_83 mk_X5_init rfl rfl kw_286 kw_50 (by decide) (c_Row_init (a := 148) (n := 40) (congrArg Prod.fst (hB.2.1 (148, 15, 0) (List.mem_of_getElem? (i := 0) rfl))) (by decide) (by rw [eN]; decide) (by decide)) rfl (by decide) rfl (Nat.le_of_ble_eq_true rfl) (show 1 + 6 = 7 from rfl) (show 40 + 94 = 134 from rfl) ?_
      rw [eN]
      have hB := (hB.new (k := 1) (n := 40) (by decide) (by decide) (by decide) (by decide) (by decide)).put (o := 148) (f := 0) (x := 149) (by decide) (by decide)
      obtain ⟨K15, hK15⟩ : ∃ x, wrR (nwK K14 1 40) 148 0 149 = x := ⟨_, rfl⟩
      obtain ⟨V15, hV15⟩ : ∃ x, nwV K14 V14 = x := ⟨_, rfl⟩
      have hk : ∀ c, 109 ≤ c → c ≤ 126 → V15 c = VT c := fun c z1 z2 => by rw [← hV15, nwV_old (by rw [eN]; omega)]; first | done | exact hk c z1 z2
      rw [hK15, hV15] at hB ⊢
      clear hK15 hV15
      clear eN
      refine ev_aastore (X := M_X11_init) (pc := 86) dX11_init_86 (by decide) (hB.2.1 (145, 7, 4) (List.mem_of_getElem? (i := 4) rfl)) (by decide) (by decide) (by decide) (Or.inr ⟨5, (congrArg Prod.fst (hB.2.1 (148, 15, 0) (List.mem_of_getElem? (i := 1) rfl))), ⟨_, rfl, Or.inl rfl⟩⟩) ?_
      have hB := hB.put (o := 145) (f := 1) (x := 148) (by decide) (by decide)
      obtain ⟨K16, hK16⟩ : ∃ x, wrR K15 145 1 148 = x := ⟨_, rfl⟩
      rw [hK16] at hB ⊢
      clear hK16
      refine ev_iincL (X := M_X11_init) (pc := 87) (ls' := [_, _]) dX11_init_87 rfl (by decide) rfl ?_
      refine ev_goto (X := M_X11_init) (pc := 90) (tgt := 67) dX11_init_90 (by decide) ?_
      refine ev_weak (ls' := [vR 100, vI 2]) ?_ ⟨rfl, rfl, trivial⟩
      refine ev_iload_n (X := M_X11_init) (pc := 67) dX11_init_67 rfl ?_
      refine ev_iconst (X := M_X11_init) (pc := 68) dX11_init_68 ?_
      refine ev_icmp_ge (X := M_X11_init) (pc := 69) (tgt := 93) dX11_init_69 (by decide) (by omega) (by omega) (fun h69 => ?_) (fun h69 => ?_)
      · exact absurd h69 (by decide)
      · refine ev_aload_n (X := M_X11_init) (pc := 72) dX11_init_72 rfl ?_
        refine ev_getRe (X := M_X11_init) (pc := 73) dX11_init_73 fl_X11_41_11 (congrArg Prod.fst (hB.2.1 (100, 21, 0) (List.mem_of_getElem? (i := 56) rfl))) rfl (hB.2.2.1 (100, 4, 145) (List.mem_of_getElem? (i := 4) rfl)) ?_
        refine ev_iload_n (X := M_X11_init) (pc := 76) dX11_init_76 rfl ?_
        refine ev_new (X := M_X11_init) (pc := 77) (mc := 5) (ms := 92) (ci := 5) dX11_init_77 rfl kw_285 kw_48 kw_4 ?_
        show Ev _ _ _ _ _ _ _ _ (nwK K16 15 0) _ _
        have eN := hB.1
        rw [eN]
        have hB := hB.new (k := 15) (n := 0) (by decide) (by decide) (by decide) (by decide) (by decide)
        obtain ⟨K17, hK17⟩ : ∃ x, nwK K16 15 0 = x := ⟨_, rfl⟩
        obtain ⟨V17, hV17⟩ : ∃ x, nwV K16 V15 = x := ⟨_, rfl⟩
        have hk : ∀ c, 109 ≤ c → c ≤ 126 → V17 c = VT c := fun c z1 z2 => by rw [← hV17, nwV_old (by rw [eN]; omega)]; first | done | exact hk c z1 z2
        rw [hK17, hV17] at hB ⊢
        clear hK17 hV17
        clear eN
        refine ev_dup (X := M_X11_init) (pc := 80) dX11_init_80 (fun _ q => by cases q) ?_
        refine ev_bipush (X := M_X11_init) (pc := 81) dX11_init_81 (by decide) ?_
        have eN := hB.1
        refine ev_initV (X := M_X11_init) (Y := M_X5_init) (pc := 83) dX11_init_83 mk_X5_init rfl rfl kw_286 kw_50 (by decide) (c_Row_init (a := 150) (n := 40) (congrArg Prod.fst (hB.2.1 (150, 15, 0) (List.mem_of_getElem? (i := 0) rfl))) (by decide) (by rw [eN]; decide) (by decide)) rfl (by decide) rfl (Nat.le_of_ble_eq_true rfl) (show 1 + 4 = 5 from rfl) (show 40 + 52 = 92 from rfl) ?_
        rw [eN]
        have hB := (hB.new (k := 1) (n := 40) (by decide) (by decide) (by decide) (by decide) (by decide)).put (o := 150) (f := 0) (x := 151) (by decide) (by decide)
        obtain ⟨K18, hK18⟩ : ∃ x, wrR (nwK K17 1 40) 150 0 151 = x := ⟨_, rfl⟩
        obtain ⟨V18, hV18⟩ : ∃ x, nwV K17 V17 = x := ⟨_, rfl⟩
        have hk : ∀ c, 109 ≤ c → c ≤ 126 → V18 c = VT c := fun c z1 z2 => by rw [← hV18, nwV_old (by rw [eN]; omega)]; first | done | exact hk c z1 z2
        rw [hK18, hV18] at hB ⊢
        clear hK18 hV18
        clear eN
        refine ev_aastore (X := M_X11_init) (pc := 86) dX11_init_86 (by decide) (hB.2.1 (145, 7, 4) (List.mem_of_getElem? (i := 6) rfl)) (by decide) (by decide) (by decide) (Or.inr ⟨5, (congrArg Prod.fst (hB.2.1 (150, 15, 0) (List.mem_of_getElem? (i := 1) rfl))), ⟨_, rfl, Or.inl rfl⟩⟩) ?_
        have hB := hB.put (o := 145) (f := 2) (x := 150) (by decide) (by decide)
        obtain ⟨K19, hK19⟩ : ∃ x, wrR K18 145 2 150 = x := ⟨_, rfl⟩
        rw [hK19] at hB ⊢
        clear hK19
        refine ev_iincL (X := M_X11_init) (pc := 87) (ls' := [_, _]) dX11_init_87 rfl (by decide) rfl ?_
        refine ev_goto (X := M_X11_init) (pc := 90) (tgt := 67) dX11_init_90 (by decide) ?_
        refine ev_weak (ls' := [vR 100, vI 3]) ?_ ⟨rfl, rfl, trivial⟩
        refine ev_iload_n (X := M_X11_init) (pc := 67) dX11_init_67 rfl ?_
        refine ev_iconst (X := M_X11_init) (pc := 68) dX11_init_68 ?_
        refine ev_icmp_ge (X := M_X11_init) (pc := 69) (tgt := 93) dX11_init_69 (by decide) (by omega) (by omega) (fun h69 => ?_) (fun h69 => ?_)
        · exact absurd h69 (by decide)
        · refine ev_aload_n (X := M_X11_init) (pc := 72) dX11_init_72 rfl ?_
          refine ev_getRe (X := M_X11_init) (pc := 73) dX11_init_73 fl_X11_41_11 (congrArg Prod.fst (hB.2.1 (100, 21, 0) (List.mem_of_getElem? (i := 58) rfl))) rfl (hB.2.2.1 (100, 4, 145) (List.mem_of_getElem? (i := 6) rfl)) ?_
          refine ev_iload_n (X := M_X11_init) (pc := 76) dX11_init_76 rfl ?_
          refine ev_new (X := M_X11_init) (pc := 77) (mc := 3) (ms := 50) (ci := 5) dX11_init_77 rfl kw_285 kw_48 kw_4 ?_
          show Ev _ _ _ _ _ _ _ _ (nwK K19 15 0) _ _
          have eN := hB.1
          rw [eN]
          have hB := hB.new (k := 15) (n := 0) (by decide) (by decide) (by decide) (by decide) (by decide)
          obtain ⟨K20, hK20⟩ : ∃ x, nwK K19 15 0 = x := ⟨_, rfl⟩
          obtain ⟨V20, hV20⟩ : ∃ x, nwV K19 V18 = x := ⟨_, rfl⟩
          have hk : ∀ c, 109 ≤ c → c ≤ 126 → V20 c = VT c := fun c z1 z2 => by rw [← hV20, nwV_old (by rw [eN]; omega)]; first | done | exact hk c z1 z2
          rw [hK20, hV20] at hB ⊢
          clear hK20 hV20
          clear eN
          refine ev_dup (X := M_X11_init) (pc := 80) dX11_init_80 (fun _ q => by cases q) ?_
          refine ev_bipush (X := M_X11_init) (pc := 81) dX11_init_81 (by decide) ?_
          have eN := hB.1
          refine ev_initV (X := M_X11_init) (Y := M_X5_init) (pc := 83) dX11_init_83 mk_X5_init rfl rfl kw_286 kw_50 (by decide) (c_Row_init (a := 152) (n := 40) (congrArg Prod.fst (hB.2.1 (152, 15, 0) (List.mem_of_getElem? (i := 0) rfl))) (by decide) (by rw [eN]; decide) (by decide)) rfl (by decide) rfl (Nat.le_of_ble_eq_true rfl) (show 1 + 2 = 3 from rfl) (show 40 + 10 = 50 from rfl) ?_
          rw [eN]
          have hB := (hB.new (k := 1) (n := 40) (by decide) (by decide) (by decide) (by decide) (by decide)).put (o := 152) (f := 0) (x := 153) (by decide) (by decide)
          obtain ⟨K21, hK21⟩ : ∃ x, wrR (nwK K20 1 40) 152 0 153 = x := ⟨_, rfl⟩
          obtain ⟨V21, hV21⟩ : ∃ x, nwV K20 V20 = x := ⟨_, rfl⟩
          have hk : ∀ c, 109 ≤ c → c ≤ 126 → V21 c = VT c := fun c z1 z2 => by rw [← hV21, nwV_old (by rw [eN]; omega)]; first | done | exact hk c z1 z2
          rw [hK21, hV21] at hB ⊢
          clear hK21 hV21
          clear eN
          refine ev_aastore (X := M_X11_init) (pc := 86) dX11_init_86 (by decide) (hB.2.1 (145, 7, 4) (List.mem_of_getElem? (i := 8) rfl)) (by decide) (by decide) (by decide) (Or.inr ⟨5, (congrArg Prod.fst (hB.2.1 (152, 15, 0) (List.mem_of_getElem? (i := 1) rfl))), ⟨_, rfl, Or.inl rfl⟩⟩) ?_
          have hB := hB.put (o := 145) (f := 3) (x := 152) (by decide) (by decide)
          obtain ⟨K22, hK22⟩ : ∃ x, wrR K21 145 3 152 = x := ⟨_, rfl⟩
          rw [hK22] at hB ⊢
          clear hK22
          refine ev_iincL (X := M_X11_init) (pc := 87) (ls' := [_, _]) dX11_init_87 rfl (by decide) rfl ?_
          refine ev_goto (X := M_X11_init) (pc := 90) (tgt := 67) dX11_init_90 (by decide) ?_
          refine ev_weak (ls' := [vR 100, vI 4]) ?_ ⟨rfl, rfl, trivial⟩
          refine ev_iload_n (X := M_X11_init) (pc := 67) dX11_init_67 rfl ?_
          refine ev_iconst (X := M_X11_init) (pc := 68) dX11_init_68 ?_
          refine ev_icmp_ge (X := M_X11_init) (pc := 69) (tgt := 93) dX11_init_69 (by decide) (by omega) (by omega) (fun h69 => ?_) (fun h69 => ?_)
          · refine ev_aload_n (X := M_X11_init) (pc := 93) dX11_init_93 rfl ?_
            refine ev_iconst (X := M_X11_init) (pc := 94) dX11_init_94 ?_
            refine ev_newarrayL (X := M_X11_init) (pc := 95) (mc := 1) (ms := 6) (k := 1) (N := 4) dX11_init_95 (by decide) (by decide) rfl kw_67 rfl (by decide) ?_
            have eN := hB.1
            rw [eN]
            have hB := hB.new (k := 1) (n := 4) (by decide) (by decide) (by decide) (by decide) (by decide)
            obtain ⟨K23, hK23⟩ : ∃ x, nwK K22 1 4 = x := ⟨_, rfl⟩
            obtain ⟨V23, hV23⟩ : ∃ x, nwV K22 V21 = x := ⟨_, rfl⟩
            have hk : ∀ c, 109 ≤ c → c ≤ 126 → V23 c = VT c := fun c z1 z2 => by rw [← hV23, nwV_old (by rw [eN]; omega)]; first | done | exact hk c z1 z2
            rw [hK23, hV23] at hB ⊢
            clear hK23 hV23
            clear eN
            refine ev_putR (X := M_X11_init) (pc := 97) (ki := 5) dX11_init_97 fl_X11_45_11 (by decide) (congrArg Prod.fst (hB.2.1 (100, 21, 0) (List.mem_of_getElem? (i := 61) rfl))) (fun _ h q => by cases h; exact ⟨rfl, rfl⟩) rfl rfl ?_
            have hB := hB.put (o := 100) (f := 5) (x := 154) (by decide) (by decide)
            obtain ⟨K24, hK24⟩ : ∃ x, wrR K23 100 5 154 = x := ⟨_, rfl⟩
            rw [hK24] at hB ⊢
            clear hK24
            refine ev_aload_n (X := M_X11_init) (pc := 100) dX11_init_100 rfl ?_
            refine ev_bipush (X := M_X11_init) (pc := 101) dX11_init_101 (by decide) ?_
            refine ev_newarrayL (X := M_X11_init) (pc := 103) (mc := 0) (ms := 0) (k := 1) (N := 6) dX11_init_103 (by decide) (by decide) rfl kw_67 rfl (by decide) ?_
            have eN := hB.1
            rw [eN]
            have hB := hB.new (k := 1) (n := 6) (by decide) (by decide) (by decide) (by decide) (by decide)
            obtain ⟨K25, hK25⟩ : ∃ x, nwK K24 1 6 = x := ⟨_, rfl⟩
            obtain ⟨V25, hV25⟩ : ∃ x, nwV K24 V23 = x := ⟨_, rfl⟩
            have hk : ∀ c, 109 ≤ c → c ≤ 126 → V25 c = VT c := fun c z1 z2 => by rw [← hV25, nwV_old (by rw [eN]; omega)]; first | done | exact hk c z1 z2
            rw [hK25, hV25] at hB ⊢
            clear hK25 hV25
            clear eN
            refine ev_putR (X := M_X11_init) (pc := 105) (ki := 6) dX11_init_105 fl_X11_49_11 (by decide) (congrArg Prod.fst (hB.2.1 (100, 21, 0) (List.mem_of_getElem? (i := 62) rfl))) (fun _ h q => by cases h; exact ⟨rfl, rfl⟩) rfl rfl ?_
            have hB := hB.put (o := 100) (f := 6) (x := 155) (by decide) (by decide)
            obtain ⟨K26, hK26⟩ : ∃ x, wrR K25 100 6 155 = x := ⟨_, rfl⟩
            rw [hK26] at hB ⊢
            clear hK26
            refine ev_vret (X := M_X11_init) (pc := 108) dX11_init_108 rfl ?_
            refine ⟨rfl, hB, fun j j0 j1 => by rw [hk 118 (by decide) (by decide)]; exact h118 j j0 j1, fun j j0 j1 => by rw [hk 119 (by decide) (by decide)]; exact h119 j j0 j1, ?_⟩
            unfold St6 at hS6 ⊢
            rw [hk 109 (by decide) (by decide), hk 110 (by decide) (by decide), hk 111 (by decide) (by decide)]
            exact hS6
          · exact absurd (by decide) h69
theorem c_Model_init {γ : Gh} {K : Sk} {V : Mm} (hT : K.1 156 = (22, 0)) (hN : K.2.2 = 157) (hz : ∀ j, V 156 j = 0) : Call γ M_X12_init 1 21 24843 [vR 156] K V (Qg none (fun K' W => Bl K V 156 178 [(177, 1, 40), (176, 1, 160), (175, 1, 4), (174, 1, 4), (173, 1, 40), (172, 3, 2197), (171, 3, 2197), (170, 3, 2197), (169, 3, 2197), (168, 3, 2197), (167, 3, 2197), (166, 2, 2197), (165, 2, 2197), (164, 3, 2197), (163, 1, 2197), (162, 1, 2197), (161, 1, 18), (160, 1, 4), (159, 1, 6), (158, 1, 200), (157, 1, 200), (156, 22, 0)] [(156, 29, 177), (156, 28, 176), (156, 27, 175), (156, 26, 174), (156, 23, 173), (156, 22, 172), (156, 21, 171), (156, 20, 170), (156, 19, 169), (156, 18, 168), (156, 17, 167), (156, 16, 166), (156, 15, 165), (156, 14, 164), (156, 13, 163), (156, 12, 162), (156, 11, 161), (156, 10, 160), (156, 3, 159), (156, 1, 158), (156, 0, 157)] [177, 176, 175, 174, 173, 172, 171, 170, 169, 168, 167, 166, 165, 164, 163, 162, 161, 160, 159, 158, 156] [(157, 23, 1), (157, 8, 1), (157, 7, 1), (157, 6, 1), (157, 5, 1), (157, 4, 1), (157, 3, 1)] K' W ∧ W 157 = dI)) := by
  refine call_of (by decide +kernel) (by intro v hv; simp only [List.mem_cons, List.not_mem_nil, or_false] at hv; rcases hv with rfl <;> exact fun q => by cases q) (Nat.le_of_ble_eq_true rfl) ?_
  refine ev_lsE (ls' := [_, _]) rfl ?_
  have hB : Bl K V 156 157 [(156, 22, 0)] [] [156] [] K V := by
    refine ⟨hN, fun q hq => ?_, fun q hq => absurd hq List.not_mem_nil, fun q hq j => ?_, fun q hq => absurd hq List.not_mem_nil, fun c _ => ⟨rfl, fun _ => rfl, rfl⟩, fun _ _ => rfl⟩
    · simp only [List.mem_cons, List.not_mem_nil, or_false] at hq
      rcases hq with rfl
      exact hT
    · rw [List.mem_singleton.mp hq]; exact hz j
  refine ev_aload_n (X := M_X12_init) (pc := 0) dX12_init_0 rfl ?_
  refine ev_objInit (X := M_X12_init) (pc := 1) dX12_init_1 kw_991 kw_29 kw_30 (by decide) (by decide) (Nat.le_of_ble_eq_true rfl) ?_
  refine ev_aload_n (X := M_X12_init) (pc := 4) dX12_init_4 rfl ?_
  refine ev_sipush (X := M_X12_init) (pc := 5) dX12_init_5 (by decide) ?_
  refine ev_newarrayL (X := M_X12_init) (pc := 8) (mc := 20) (ms := 24643) (k := 1) (N := 200) dX12_init_8 (by decide) (by decide) rfl kw_67 rfl (by decide) ?_
  have eN := hB.1
  rw [eN]
  have hB := hB.new (k := 1) (n := 200) (by decide) (by decide) (by decide) (by decide) (by decide)
  obtain ⟨K1, hK1⟩ : ∃ x, nwK K 1 200 = x := ⟨_, rfl⟩
  obtain ⟨V1, hV1⟩ : ∃ x, nwV K V = x := ⟨_, rfl⟩
  rw [hK1, hV1] at hB ⊢
  clear hK1 hV1
  clear eN
  refine ev_putR (X := M_X12_init) (pc := 10) (ki := 0) dX12_init_10 fl_X12_7_12 (by decide) (congrArg Prod.fst (hB.2.1 (156, 22, 0) (List.mem_of_getElem? (i := 1) rfl))) (fun _ h q => by cases h; exact ⟨rfl, rfl⟩) rfl rfl ?_
  have hB := hB.put (o := 156) (f := 0) (x := 157) (by decide) (by decide)
  obtain ⟨K2, hK2⟩ : ∃ x, wrR K1 156 0 157 = x := ⟨_, rfl⟩
  rw [hK2] at hB ⊢
  clear hK2
  refine ev_aload_n (X := M_X12_init) (pc := 13) dX12_init_13 rfl ?_
  refine ev_sipush (X := M_X12_init) (pc := 14) dX12_init_14 (by decide) ?_
  refine ev_newarrayL (X := M_X12_init) (pc := 17) (mc := 19) (ms := 24443) (k := 1) (N := 200) dX12_init_17 (by decide) (by decide) rfl kw_67 rfl (by decide) ?_
  have eN := hB.1
  rw [eN]
  have hB := hB.new (k := 1) (n := 200) (by decide) (by decide) (by decide) (by decide) (by decide)
  obtain ⟨K3, hK3⟩ : ∃ x, nwK K2 1 200 = x := ⟨_, rfl⟩
  obtain ⟨V3, hV3⟩ : ∃ x, nwV K2 V1 = x := ⟨_, rfl⟩
  rw [hK3, hV3] at hB ⊢
  clear hK3 hV3
  clear eN
  refine ev_putR (X := M_X12_init) (pc := 19) (ki := 1) dX12_init_19 fl_X12_13_12 (by decide) (congrArg Prod.fst (hB.2.1 (156, 22, 0) (List.mem_of_getElem? (i := 2) rfl))) (fun _ h q => by cases h; exact ⟨rfl, rfl⟩) rfl rfl ?_
  have hB := hB.put (o := 156) (f := 1) (x := 158) (by decide) (by decide)
  obtain ⟨K4, hK4⟩ : ∃ x, wrR K3 156 1 158 = x := ⟨_, rfl⟩
  rw [hK4] at hB ⊢
  clear hK4
  refine ev_aload_n (X := M_X12_init) (pc := 22) dX12_init_22 rfl ?_
  refine ev_bipush (X := M_X12_init) (pc := 23) dX12_init_23 (by decide) ?_
  refine ev_newarrayL (X := M_X12_init) (pc := 25) (mc := 18) (ms := 24437) (k := 1) (N := 6) dX12_init_25 (by decide) (by decide) rfl kw_67 rfl (by decide) ?_
  have eN := hB.1
  rw [eN]
  have hB := hB.new (k := 1) (n := 6) (by decide) (by decide) (by decide) (by decide) (by decide)
  obtain ⟨K5, hK5⟩ : ∃ x, nwK K4 1 6 = x := ⟨_, rfl⟩
  obtain ⟨V5, hV5⟩ : ∃ x, nwV K4 V3 = x := ⟨_, rfl⟩
  rw [hK5, hV5] at hB ⊢
  clear hK5 hV5
  clear eN
  refine ev_putR (X := M_X12_init) (pc := 27) (ki := 3) dX12_init_27 fl_X12_16_12 (by decide) (congrArg Prod.fst (hB.2.1 (156, 22, 0) (List.mem_of_getElem? (i := 3) rfl))) (fun _ h q => by cases h; exact ⟨rfl, rfl⟩) rfl rfl ?_
  have hB := hB.put (o := 156) (f := 3) (x := 159) (by decide) (by decide)
  obtain ⟨K6, hK6⟩ : ∃ x, wrR K5 156 3 159 = x := ⟨_, rfl⟩
  rw [hK6] at hB ⊢
  clear hK6
  refine ev_aload_n (X := M_X12_init) (pc := 30) dX12_init_30 rfl ?_
  refine ev_iconst (X := M_X12_init) (pc := 31) dX12_init_31 ?_
  refine ev_newarrayL (X := M_X12_init) (pc := 32) (mc := 17) (ms := 24433) (k := 1) (N := 4) dX12_init_32 (by decide) (by decide) rfl kw_67 rfl (by decide) ?_
  have eN := hB.1
  rw [eN]
  have hB := hB.new (k := 1) (n := 4) (by decide) (by decide) (by decide) (by decide) (by decide)
  obtain ⟨K7, hK7⟩ : ∃ x, nwK K6 1 4 = x := ⟨_, rfl⟩
  obtain ⟨V7, hV7⟩ : ∃ x, nwV K6 V5 = x := ⟨_, rfl⟩
  rw [hK7, hV7] at hB ⊢
  clear hK7 hV7
  clear eN
  refine ev_putR (X := M_X12_init) (pc := 34) (ki := 10) dX12_init_34 fl_X12_19_12 (by decide) (congrArg Prod.fst (hB.2.1 (156, 22, 0) (List.mem_of_getElem? (i := 4) rfl))) (fun _ h q => by cases h; exact ⟨rfl, rfl⟩) rfl rfl ?_
  have hB := hB.put (o := 156) (f := 10) (x := 160) (by decide) (by decide)
  obtain ⟨K8, hK8⟩ : ∃ x, wrR K7 156 10 160 = x := ⟨_, rfl⟩
  rw [hK8] at hB ⊢
  clear hK8
  refine ev_aload_n (X := M_X12_init) (pc := 37) dX12_init_37 rfl ?_
  refine ev_bipush (X := M_X12_init) (pc := 38) dX12_init_38 (by decide) ?_
  refine ev_newarrayL (X := M_X12_init) (pc := 40) (mc := 16) (ms := 24415) (k := 1) (N := 18) dX12_init_40 (by decide) (by decide) rfl kw_67 rfl (by decide) ?_
  have eN := hB.1
  rw [eN]
  have hB := hB.new (k := 1) (n := 18) (by decide) (by decide) (by decide) (by decide) (by decide)
  obtain ⟨K9, hK9⟩ : ∃ x, nwK K8 1 18 = x := ⟨_, rfl⟩
  obtain ⟨V9, hV9⟩ : ∃ x, nwV K8 V7 = x := ⟨_, rfl⟩
  rw [hK9, hV9] at hB ⊢
  clear hK9 hV9
  clear eN
  refine ev_putR (X := M_X12_init) (pc := 42) (ki := 11) dX12_init_42 fl_X12_22_12 (by decide) (congrArg Prod.fst (hB.2.1 (156, 22, 0) (List.mem_of_getElem? (i := 5) rfl))) (fun _ h q => by cases h; exact ⟨rfl, rfl⟩) rfl rfl ?_
  have hB := hB.put (o := 156) (f := 11) (x := 161) (by decide) (by decide)
  obtain ⟨K10, hK10⟩ : ∃ x, wrR K9 156 11 161 = x := ⟨_, rfl⟩
  rw [hK10] at hB ⊢
  clear hK10
  refine ev_aload_n (X := M_X12_init) (pc := 45) dX12_init_45 rfl ?_
  refine ev_sipush (X := M_X12_init) (pc := 46) dX12_init_46 (by decide) ?_
  refine ev_newarrayL (X := M_X12_init) (pc := 49) (mc := 15) (ms := 22218) (k := 1) (N := 2197) dX12_init_49 (by decide) (by decide) rfl kw_67 rfl (by decide) ?_
  have eN := hB.1
  rw [eN]
  have hB := hB.new (k := 1) (n := 2197) (by decide) (by decide) (by decide) (by decide) (by decide)
  obtain ⟨K11, hK11⟩ : ∃ x, nwK K10 1 2197 = x := ⟨_, rfl⟩
  obtain ⟨V11, hV11⟩ : ∃ x, nwV K10 V9 = x := ⟨_, rfl⟩
  rw [hK11, hV11] at hB ⊢
  clear hK11 hV11
  clear eN
  refine ev_putR (X := M_X12_init) (pc := 51) (ki := 12) dX12_init_51 fl_X12_25_12 (by decide) (congrArg Prod.fst (hB.2.1 (156, 22, 0) (List.mem_of_getElem? (i := 6) rfl))) (fun _ h q => by cases h; exact ⟨rfl, rfl⟩) rfl rfl ?_
  have hB := hB.put (o := 156) (f := 12) (x := 162) (by decide) (by decide)
  obtain ⟨K12, hK12⟩ : ∃ x, wrR K11 156 12 162 = x := ⟨_, rfl⟩
  rw [hK12] at hB ⊢
  clear hK12
  refine ev_aload_n (X := M_X12_init) (pc := 54) dX12_init_54 rfl ?_
  refine ev_sipush (X := M_X12_init) (pc := 55) dX12_init_55 (by decide) ?_
  refine ev_newarrayL (X := M_X12_init) (pc := 58) (mc := 14) (ms := 20021) (k := 1) (N := 2197) dX12_init_58 (by decide) (by decide) rfl kw_67 rfl (by decide) ?_
  have eN := hB.1
  rw [eN]
  have hB := hB.new (k := 1) (n := 2197) (by decide) (by decide) (by decide) (by decide) (by decide)
  obtain ⟨K13, hK13⟩ : ∃ x, nwK K12 1 2197 = x := ⟨_, rfl⟩
  obtain ⟨V13, hV13⟩ : ∃ x, nwV K12 V11 = x := ⟨_, rfl⟩
  rw [hK13, hV13] at hB ⊢
  clear hK13 hV13
  clear eN
  refine ev_putR (X := M_X12_init) (pc := 60) (ki := 13) dX12_init_60 fl_X12_28_12 (by decide) (congrArg Prod.fst (hB.2.1 (156, 22, 0) (List.mem_of_getElem? (i := 7) rfl))) (fun _ h q => by cases h; exact ⟨rfl, rfl⟩) rfl rfl ?_
  have hB := hB.put (o := 156) (f := 13) (x := 163) (by decide) (by decide)
  obtain ⟨K14, hK14⟩ : ∃ x, wrR K13 156 13 163 = x := ⟨_, rfl⟩
  rw [hK14] at hB ⊢
  clear hK14
  refine ev_aload_n (X := M_X12_init) (pc := 63) dX12_init_63 rfl ?_
  refine ev_sipush (X := M_X12_init) (pc := 64) dX12_init_64 (by decide) ?_
  refine ev_newarrayL (X := M_X12_init) (pc := 67) (mc := 13) (ms := 17824) (k := 3) (N := 2197) dX12_init_67 (by decide) (by decide) rfl kw_1083 rfl (by decide) ?_
  have eN := hB.1
  rw [eN]
  have hB := hB.new (k := 3) (n := 2197) (by decide) (by decide) (by decide) (by decide) (by decide)
  obtain ⟨K15, hK15⟩ : ∃ x, nwK K14 3 2197 = x := ⟨_, rfl⟩
  obtain ⟨V15, hV15⟩ : ∃ x, nwV K14 V13 = x := ⟨_, rfl⟩
  rw [hK15, hV15] at hB ⊢
  clear hK15 hV15
  clear eN
  refine ev_putR (X := M_X12_init) (pc := 69) (ki := 14) dX12_init_69 fl_X12_31_12 (by decide) (congrArg Prod.fst (hB.2.1 (156, 22, 0) (List.mem_of_getElem? (i := 8) rfl))) (fun _ h q => by cases h; exact ⟨rfl, rfl⟩) rfl rfl ?_
  have hB := hB.put (o := 156) (f := 14) (x := 164) (by decide) (by decide)
  obtain ⟨K16, hK16⟩ : ∃ x, wrR K15 156 14 164 = x := ⟨_, rfl⟩
  rw [hK16] at hB ⊢
  clear hK16
  refine ev_aload_n (X := M_X12_init) (pc := 72) dX12_init_72 rfl ?_
  refine ev_sipush (X := M_X12_init) (pc := 73) dX12_init_73 (by decide) ?_
  refine ev_newarrayL (X := M_X12_init) (pc := 76) (mc := 12) (ms := 15627) (k := 2) (N := 2197) dX12_init_76 (by decide) (by decide) rfl kw_223 rfl (by decide) ?_
  have eN := hB.1
  rw [eN]
  have hB := hB.new (k := 2) (n := 2197) (by decide) (by decide) (by decide) (by decide) (by decide)
  obtain ⟨K17, hK17⟩ : ∃ x, nwK K16 2 2197 = x := ⟨_, rfl⟩
  obtain ⟨V17, hV17⟩ : ∃ x, nwV K16 V15 = x := ⟨_, rfl⟩
  rw [hK17, hV17] at hB ⊢
  clear hK17 hV17
  clear eN
  refine ev_putR (X := M_X12_init) (pc := 78) (ki := 15) dX12_init_78 fl_X12_35_12 (by decide) (congrArg Prod.fst (hB.2.1 (156, 22, 0) (List.mem_of_getElem? (i := 9) rfl))) (fun _ h q => by cases h; exact ⟨rfl, rfl⟩) rfl rfl ?_
  have hB := hB.put (o := 156) (f := 15) (x := 165) (by decide) (by decide)
  obtain ⟨K18, hK18⟩ : ∃ x, wrR K17 156 15 165 = x := ⟨_, rfl⟩
  rw [hK18] at hB ⊢
  clear hK18
  refine ev_aload_n (X := M_X12_init) (pc := 81) dX12_init_81 rfl ?_
  refine ev_sipush (X := M_X12_init) (pc := 82) dX12_init_82 (by decide) ?_
  refine ev_newarrayL (X := M_X12_init) (pc := 85) (mc := 11) (ms := 13430) (k := 2) (N := 2197) dX12_init_85 (by decide) (by decide) rfl kw_223 rfl (by decide) ?_
  have eN := hB.1
  rw [eN]
  have hB := hB.new (k := 2) (n := 2197) (by decide) (by decide) (by decide) (by decide) (by decide)
  obtain ⟨K19, hK19⟩ : ∃ x, nwK K18 2 2197 = x := ⟨_, rfl⟩
  obtain ⟨V19, hV19⟩ : ∃ x, nwV K18 V17 = x := ⟨_, rfl⟩
  rw [hK19, hV19] at hB ⊢
  clear hK19 hV19
  clear eN
  refine ev_putR (X := M_X12_init) (pc := 87) (ki := 16) dX12_init_87 fl_X12_39_12 (by decide) (congrArg Prod.fst (hB.2.1 (156, 22, 0) (List.mem_of_getElem? (i := 10) rfl))) (fun _ h q => by cases h; exact ⟨rfl, rfl⟩) rfl rfl ?_
  have hB := hB.put (o := 156) (f := 16) (x := 166) (by decide) (by decide)
  obtain ⟨K20, hK20⟩ : ∃ x, wrR K19 156 16 166 = x := ⟨_, rfl⟩
  rw [hK20] at hB ⊢
  clear hK20
  refine ev_aload_n (X := M_X12_init) (pc := 90) dX12_init_90 rfl ?_
  refine ev_sipush (X := M_X12_init) (pc := 91) dX12_init_91 (by decide) ?_
  refine ev_newarrayL (X := M_X12_init) (pc := 94) (mc := 10) (ms := 11233) (k := 3) (N := 2197) dX12_init_94 (by decide) (by decide) rfl kw_1083 rfl (by decide) ?_
  have eN := hB.1
  rw [eN]
  have hB := hB.new (k := 3) (n := 2197) (by decide) (by decide) (by decide) (by decide) (by decide)
  obtain ⟨K21, hK21⟩ : ∃ x, nwK K20 3 2197 = x := ⟨_, rfl⟩
  obtain ⟨V21, hV21⟩ : ∃ x, nwV K20 V19 = x := ⟨_, rfl⟩
  rw [hK21, hV21] at hB ⊢
  clear hK21 hV21
  clear eN
  refine ev_putR (X := M_X12_init) (pc := 96) (ki := 17) dX12_init_96 fl_X12_42_12 (by decide) (congrArg Prod.fst (hB.2.1 (156, 22, 0) (List.mem_of_getElem? (i := 11) rfl))) (fun _ h q => by cases h; exact ⟨rfl, rfl⟩) rfl rfl ?_
  have hB := hB.put (o := 156) (f := 17) (x := 167) (by decide) (by decide)
  obtain ⟨K22, hK22⟩ : ∃ x, wrR K21 156 17 167 = x := ⟨_, rfl⟩
  rw [hK22] at hB ⊢
  clear hK22
  refine ev_aload_n (X := M_X12_init) (pc := 99) dX12_init_99 rfl ?_
  refine ev_sipush (X := M_X12_init) (pc := 100) dX12_init_100 (by decide) ?_
  refine ev_newarrayL (X := M_X12_init) (pc := 103) (mc := 9) (ms := 9036) (k := 3) (N := 2197) dX12_init_103 (by decide) (by decide) rfl kw_1083 rfl (by decide) ?_
  have eN := hB.1
  rw [eN]
  have hB := hB.new (k := 3) (n := 2197) (by decide) (by decide) (by decide) (by decide) (by decide)
  obtain ⟨K23, hK23⟩ : ∃ x, nwK K22 3 2197 = x := ⟨_, rfl⟩
  obtain ⟨V23, hV23⟩ : ∃ x, nwV K22 V21 = x := ⟨_, rfl⟩
  rw [hK23, hV23] at hB ⊢
  clear hK23 hV23
  clear eN
  refine ev_putR (X := M_X12_init) (pc := 105) (ki := 18) dX12_init_105 fl_X12_45_12 (by decide) (congrArg Prod.fst (hB.2.1 (156, 22, 0) (List.mem_of_getElem? (i := 12) rfl))) (fun _ h q => by cases h; exact ⟨rfl, rfl⟩) rfl rfl ?_
  have hB := hB.put (o := 156) (f := 18) (x := 168) (by decide) (by decide)
  obtain ⟨K24, hK24⟩ : ∃ x, wrR K23 156 18 168 = x := ⟨_, rfl⟩
  rw [hK24] at hB ⊢
  clear hK24
  refine ev_aload_n (X := M_X12_init) (pc := 108) dX12_init_108 rfl ?_
  refine ev_sipush (X := M_X12_init) (pc := 109) dX12_init_109 (by decide) ?_
  refine ev_newarrayL (X := M_X12_init) (pc := 112) (mc := 8) (ms := 6839) (k := 3) (N := 2197) dX12_init_112 (by decide) (by decide) rfl kw_1083 rfl (by decide) ?_
  have eN := hB.1
  rw [eN]
  have hB := hB.new (k := 3) (n := 2197) (by decide) (by decide) (by decide) (by decide) (by decide)
  obtain ⟨K25, hK25⟩ : ∃ x, nwK K24 3 2197 = x := ⟨_, rfl⟩
  obtain ⟨V25, hV25⟩ : ∃ x, nwV K24 V23 = x := ⟨_, rfl⟩
  rw [hK25, hV25] at hB ⊢
  clear hK25 hV25
  clear eN
  refine ev_putR (X := M_X12_init) (pc := 114) (ki := 19) dX12_init_114 fl_X12_48_12 (by decide) (congrArg Prod.fst (hB.2.1 (156, 22, 0) (List.mem_of_getElem? (i := 13) rfl))) (fun _ h q => by cases h; exact ⟨rfl, rfl⟩) rfl rfl ?_
  have hB := hB.put (o := 156) (f := 19) (x := 169) (by decide) (by decide)
  obtain ⟨K26, hK26⟩ : ∃ x, wrR K25 156 19 169 = x := ⟨_, rfl⟩
  rw [hK26] at hB ⊢
  clear hK26
  refine ev_aload_n (X := M_X12_init) (pc := 117) dX12_init_117 rfl ?_
  refine ev_sipush (X := M_X12_init) (pc := 118) dX12_init_118 (by decide) ?_
  refine ev_newarrayL (X := M_X12_init) (pc := 121) (mc := 7) (ms := 4642) (k := 3) (N := 2197) dX12_init_121 (by decide) (by decide) rfl kw_1083 rfl (by decide) ?_
  have eN := hB.1
  rw [eN]
  have hB := hB.new (k := 3) (n := 2197) (by decide) (by decide) (by decide) (by decide) (by decide)
  obtain ⟨K27, hK27⟩ : ∃ x, nwK K26 3 2197 = x := ⟨_, rfl⟩
  obtain ⟨V27, hV27⟩ : ∃ x, nwV K26 V25 = x := ⟨_, rfl⟩
  rw [hK27, hV27] at hB ⊢
  clear hK27 hV27
  clear eN
  refine ev_putR (X := M_X12_init) (pc := 123) (ki := 20) dX12_init_123 fl_X12_51_12 (by decide) (congrArg Prod.fst (hB.2.1 (156, 22, 0) (List.mem_of_getElem? (i := 14) rfl))) (fun _ h q => by cases h; exact ⟨rfl, rfl⟩) rfl rfl ?_
  have hB := hB.put (o := 156) (f := 20) (x := 170) (by decide) (by decide)
  obtain ⟨K28, hK28⟩ : ∃ x, wrR K27 156 20 170 = x := ⟨_, rfl⟩
  rw [hK28] at hB ⊢
  clear hK28
  refine ev_aload_n (X := M_X12_init) (pc := 126) dX12_init_126 rfl ?_
  refine ev_sipush (X := M_X12_init) (pc := 127) dX12_init_127 (by decide) ?_
  refine ev_newarrayL (X := M_X12_init) (pc := 130) (mc := 6) (ms := 2445) (k := 3) (N := 2197) dX12_init_130 (by decide) (by decide) rfl kw_1083 rfl (by decide) ?_
  have eN := hB.1
  rw [eN]
  have hB := hB.new (k := 3) (n := 2197) (by decide) (by decide) (by decide) (by decide) (by decide)
  obtain ⟨K29, hK29⟩ : ∃ x, nwK K28 3 2197 = x := ⟨_, rfl⟩
  obtain ⟨V29, hV29⟩ : ∃ x, nwV K28 V27 = x := ⟨_, rfl⟩
  rw [hK29, hV29] at hB ⊢
  clear hK29 hV29
  clear eN
  refine ev_putR (X := M_X12_init) (pc := 132) (ki := 21) dX12_init_132 fl_X12_54_12 (by decide) (congrArg Prod.fst (hB.2.1 (156, 22, 0) (List.mem_of_getElem? (i := 15) rfl))) (fun _ h q => by cases h; exact ⟨rfl, rfl⟩) rfl rfl ?_
  have hB := hB.put (o := 156) (f := 21) (x := 171) (by decide) (by decide)
  obtain ⟨K30, hK30⟩ : ∃ x, wrR K29 156 21 171 = x := ⟨_, rfl⟩
  rw [hK30] at hB ⊢
  clear hK30
  refine ev_aload_n (X := M_X12_init) (pc := 135) dX12_init_135 rfl ?_
  refine ev_sipush (X := M_X12_init) (pc := 136) dX12_init_136 (by decide) ?_
  refine ev_newarrayL (X := M_X12_init) (pc := 139) (mc := 5) (ms := 248) (k := 3) (N := 2197) dX12_init_139 (by decide) (by decide) rfl kw_1083 rfl (by decide) ?_
  have eN := hB.1
  rw [eN]
  have hB := hB.new (k := 3) (n := 2197) (by decide) (by decide) (by decide) (by decide) (by decide)
  obtain ⟨K31, hK31⟩ : ∃ x, nwK K30 3 2197 = x := ⟨_, rfl⟩
  obtain ⟨V31, hV31⟩ : ∃ x, nwV K30 V29 = x := ⟨_, rfl⟩
  rw [hK31, hV31] at hB ⊢
  clear hK31 hV31
  clear eN
  refine ev_putR (X := M_X12_init) (pc := 141) (ki := 22) dX12_init_141 fl_X12_57_12 (by decide) (congrArg Prod.fst (hB.2.1 (156, 22, 0) (List.mem_of_getElem? (i := 16) rfl))) (fun _ h q => by cases h; exact ⟨rfl, rfl⟩) rfl rfl ?_
  have hB := hB.put (o := 156) (f := 22) (x := 172) (by decide) (by decide)
  obtain ⟨K32, hK32⟩ : ∃ x, wrR K31 156 22 172 = x := ⟨_, rfl⟩
  rw [hK32] at hB ⊢
  clear hK32
  refine ev_aload_n (X := M_X12_init) (pc := 144) dX12_init_144 rfl ?_
  refine ev_bipush (X := M_X12_init) (pc := 145) dX12_init_145 (by decide) ?_
  refine ev_newarrayL (X := M_X12_init) (pc := 147) (mc := 4) (ms := 208) (k := 1) (N := 40) dX12_init_147 (by decide) (by decide) rfl kw_67 rfl (by decide) ?_
  have eN := hB.1
  rw [eN]
  have hB := hB.new (k := 1) (n := 40) (by decide) (by decide) (by decide) (by decide) (by decide)
  obtain ⟨K33, hK33⟩ : ∃ x, nwK K32 1 40 = x := ⟨_, rfl⟩
  obtain ⟨V33, hV33⟩ : ∃ x, nwV K32 V31 = x := ⟨_, rfl⟩
  rw [hK33, hV33] at hB ⊢
  clear hK33 hV33
  clear eN
  refine ev_putR (X := M_X12_init) (pc := 149) (ki := 23) dX12_init_149 fl_X12_60_12 (by decide) (congrArg Prod.fst (hB.2.1 (156, 22, 0) (List.mem_of_getElem? (i := 17) rfl))) (fun _ h q => by cases h; exact ⟨rfl, rfl⟩) rfl rfl ?_
  have hB := hB.put (o := 156) (f := 23) (x := 173) (by decide) (by decide)
  obtain ⟨K34, hK34⟩ : ∃ x, wrR K33 156 23 173 = x := ⟨_, rfl⟩
  rw [hK34] at hB ⊢
  clear hK34
  refine ev_aload_n (X := M_X12_init) (pc := 152) dX12_init_152 rfl ?_
  refine ev_iconst (X := M_X12_init) (pc := 153) dX12_init_153 ?_
  refine ev_newarrayL (X := M_X12_init) (pc := 154) (mc := 3) (ms := 204) (k := 1) (N := 4) dX12_init_154 (by decide) (by decide) rfl kw_67 rfl (by decide) ?_
  have eN := hB.1
  rw [eN]
  have hB := hB.new (k := 1) (n := 4) (by decide) (by decide) (by decide) (by decide) (by decide)
  obtain ⟨K35, hK35⟩ : ∃ x, nwK K34 1 4 = x := ⟨_, rfl⟩
  obtain ⟨V35, hV35⟩ : ∃ x, nwV K34 V33 = x := ⟨_, rfl⟩
  rw [hK35, hV35] at hB ⊢
  clear hK35 hV35
  clear eN
  refine ev_putR (X := M_X12_init) (pc := 156) (ki := 26) dX12_init_156 fl_X12_63_12 (by decide) (congrArg Prod.fst (hB.2.1 (156, 22, 0) (List.mem_of_getElem? (i := 18) rfl))) (fun _ h q => by cases h; exact ⟨rfl, rfl⟩) rfl rfl ?_
  have hB := hB.put (o := 156) (f := 26) (x := 174) (by decide) (by decide)
  obtain ⟨K36, hK36⟩ : ∃ x, wrR K35 156 26 174 = x := ⟨_, rfl⟩
  rw [hK36] at hB ⊢
  clear hK36
  refine ev_aload_n (X := M_X12_init) (pc := 159) dX12_init_159 rfl ?_
  refine ev_iconst (X := M_X12_init) (pc := 160) dX12_init_160 ?_
  refine ev_newarrayL (X := M_X12_init) (pc := 161) (mc := 2) (ms := 200) (k := 1) (N := 4) dX12_init_161 (by decide) (by decide) rfl kw_67 rfl (by decide) ?_
  have eN := hB.1
  rw [eN]
  have hB := hB.new (k := 1) (n := 4) (by decide) (by decide) (by decide) (by decide) (by decide)
  obtain ⟨K37, hK37⟩ : ∃ x, nwK K36 1 4 = x := ⟨_, rfl⟩
  obtain ⟨V37, hV37⟩ : ∃ x, nwV K36 V35 = x := ⟨_, rfl⟩
  rw [hK37, hV37] at hB ⊢
  clear hK37 hV37
  clear eN
  refine ev_putR (X := M_X12_init) (pc := 163) (ki := 27) dX12_init_163 fl_X12_66_12 (by decide) (congrArg Prod.fst (hB.2.1 (156, 22, 0) (List.mem_of_getElem? (i := 19) rfl))) (fun _ h q => by cases h; exact ⟨rfl, rfl⟩) rfl rfl ?_
  have hB := hB.put (o := 156) (f := 27) (x := 175) (by decide) (by decide)
  obtain ⟨K38, hK38⟩ : ∃ x, wrR K37 156 27 175 = x := ⟨_, rfl⟩
  rw [hK38] at hB ⊢
  clear hK38
  refine ev_aload_n (X := M_X12_init) (pc := 166) dX12_init_166 rfl ?_
  refine ev_sipush (X := M_X12_init) (pc := 167) dX12_init_167 (by decide) ?_
  refine ev_newarrayL (X := M_X12_init) (pc := 170) (mc := 1) (ms := 40) (k := 1) (N := 160) dX12_init_170 (by decide) (by decide) rfl kw_67 rfl (by decide) ?_
  have eN := hB.1
  rw [eN]
  have hB := hB.new (k := 1) (n := 160) (by decide) (by decide) (by decide) (by decide) (by decide)
  obtain ⟨K39, hK39⟩ : ∃ x, nwK K38 1 160 = x := ⟨_, rfl⟩
  obtain ⟨V39, hV39⟩ : ∃ x, nwV K38 V37 = x := ⟨_, rfl⟩
  rw [hK39, hV39] at hB ⊢
  clear hK39 hV39
  clear eN
  refine ev_putR (X := M_X12_init) (pc := 172) (ki := 28) dX12_init_172 fl_X12_69_12 (by decide) (congrArg Prod.fst (hB.2.1 (156, 22, 0) (List.mem_of_getElem? (i := 20) rfl))) (fun _ h q => by cases h; exact ⟨rfl, rfl⟩) rfl rfl ?_
  have hB := hB.put (o := 156) (f := 28) (x := 176) (by decide) (by decide)
  obtain ⟨K40, hK40⟩ : ∃ x, wrR K39 156 28 176 = x := ⟨_, rfl⟩
  rw [hK40] at hB ⊢
  clear hK40
  refine ev_aload_n (X := M_X12_init) (pc := 175) dX12_init_175 rfl ?_
  refine ev_bipush (X := M_X12_init) (pc := 176) dX12_init_176 (by decide) ?_
  refine ev_newarrayL (X := M_X12_init) (pc := 178) (mc := 0) (ms := 0) (k := 1) (N := 40) dX12_init_178 (by decide) (by decide) rfl kw_67 rfl (by decide) ?_
  have eN := hB.1
  rw [eN]
  have hB := hB.new (k := 1) (n := 40) (by decide) (by decide) (by decide) (by decide) (by decide)
  obtain ⟨K41, hK41⟩ : ∃ x, nwK K40 1 40 = x := ⟨_, rfl⟩
  obtain ⟨V41, hV41⟩ : ∃ x, nwV K40 V39 = x := ⟨_, rfl⟩
  rw [hK41, hV41] at hB ⊢
  clear hK41 hV41
  clear eN
  refine ev_putR (X := M_X12_init) (pc := 180) (ki := 29) dX12_init_180 fl_X12_72_12 (by decide) (congrArg Prod.fst (hB.2.1 (156, 22, 0) (List.mem_of_getElem? (i := 21) rfl))) (fun _ h q => by cases h; exact ⟨rfl, rfl⟩) rfl rfl ?_
  have hB := hB.put (o := 156) (f := 29) (x := 177) (by decide) (by decide)
  obtain ⟨K42, hK42⟩ : ∃ x, wrR K41 156 29 177 = x := ⟨_, rfl⟩
  rw [hK42] at hB ⊢
  clear hK42
  refine ev_iconst (X := M_X12_init) (pc := 183) dX12_init_183 ?_
  refine ev_istore_nL (X := M_X12_init) (pc := 184) (ls' := [_, _]) dX12_init_184 (by decide) rfl ?_
  have hd : V41 157 = fun _ => 0 := funext fun j => hB.2.2.2.1 157 (List.mem_of_getElem? (i := 20) rfl) j
  refine ev_weak (ls' := [vR 156, vI 0]) ?_ ⟨rfl, rfl, trivial⟩
  refine ev_iload_n (X := M_X12_init) (pc := 185) dX12_init_185 rfl ?_
  refine ev_bipush (X := M_X12_init) (pc := 186) dX12_init_186 (by decide) ?_
  refine ev_icmp_ge (X := M_X12_init) (pc := 188) (tgt := 206) dX12_init_188 (by decide) (by decide) (by decide) (fun h188 => ?_) (fun h188 => ?_)
  · exact absurd h188 (by decide)
  · refine ev_aload_n (X := M_X12_init) (pc := 191) dX12_init_191 rfl ?_
    refine ev_getRe (X := M_X12_init) (pc := 192) dX12_init_192 fl_X12_7_12 (congrArg Prod.fst (hB.2.1 (156, 22, 0) (List.mem_of_getElem? (i := 21) rfl))) rfl (hB.2.2.1 (156, 0, 157) (List.mem_of_getElem? (i := 20) rfl)) ?_
    refine ev_iconst (X := M_X12_init) (pc := 195) dX12_init_195 ?_
    refine ev_iload_n (X := M_X12_init) (pc := 196) dX12_init_196 rfl ?_
    refine ev_iadd (X := M_X12_init) (pc := 197) dX12_init_197 ?_
    refine ev_iconst (X := M_X12_init) (pc := 198) dX12_init_198 ?_
    refine ev_iastore (X := M_X12_init) (pc := 199) dX12_init_199 (by decide) (hB.2.1 (157, 1, 200) (List.mem_of_getElem? (i := 20) rfl)) (by decide) ?_
    show Ev _ _ _ _ _ _ _ _ _ (wr V41 157 3 1) _
    have hB := hB.wr (c := 157) (i := 3) (x := 1) (Z' := [177, 176, 175, 174, 173, 172, 171, 170, 169, 168, 167, 166, 165, 164, 163, 162, 161, 160, 159, 158, 156]) (F' := []) (by decide) (by decide) (by decide)
    obtain ⟨V43, hV43⟩ : ∃ x, wr V41 157 3 1 = x := ⟨_, rfl⟩
    have hd : V43 157 = (up (fun _ => 0) 3 1) := by rw [← hV43, wr_row, hd]
    rw [hV43] at hB ⊢
    clear hV43
    refine ev_iincL (X := M_X12_init) (pc := 200) (ls' := [_, _]) dX12_init_200 rfl (by decide) rfl ?_
    refine ev_goto (X := M_X12_init) (pc := 203) (tgt := 185) dX12_init_203 (by decide) ?_
    refine ev_weak (ls' := [vR 156, vI 1]) ?_ ⟨rfl, rfl, trivial⟩
    refine ev_iload_n (X := M_X12_init) (pc := 185) dX12_init_185 rfl ?_
    refine ev_bipush (X := M_X12_init) (pc := 186) dX12_init_186 (by decide) ?_
    refine ev_icmp_ge (X := M_X12_init) (pc := 188) (tgt := 206) dX12_init_188 (by decide) (by decide) (by decide) (fun h188 => ?_) (fun h188 => ?_)
    · exact absurd h188 (by decide)
    · refine ev_aload_n (X := M_X12_init) (pc := 191) dX12_init_191 rfl ?_
      refine ev_getRe (X := M_X12_init) (pc := 192) dX12_init_192 fl_X12_7_12 (congrArg Prod.fst (hB.2.1 (156, 22, 0) (List.mem_of_getElem? (i := 21) rfl))) rfl (hB.2.2.1 (156, 0, 157) (List.mem_of_getElem? (i := 20) rfl)) ?_
      refine ev_iconst (X := M_X12_init) (pc := 195) dX12_init_195 ?_
      refine ev_iload_n (X := M_X12_init) (pc := 196) dX12_init_196 rfl ?_
      refine ev_iadd (X := M_X12_init) (pc := 197) dX12_init_197 ?_
      refine ev_iconst (X := M_X12_init) (pc := 198) dX12_init_198 ?_
      refine ev_iastore (X := M_X12_init) (pc := 199) dX12_init_199 (by decide) (hB.2.1 (157, 1, 200) (List.mem_of_getElem? (i := 20) rfl)) (by decide) ?_
      show Ev _ _ _ _ _ _ _ _ _ (wr V43 157 4 1) _
      have hB := hB.wr (c := 157) (i := 4) (x := 1) (Z' := [177, 176, 175, 174, 173, 172, 171, 170, 169, 168, 167, 166, 165, 164, 163, 162, 161, 160, 159, 158, 156]) (F' := [(157, 3, 1)]) (by decide) (by decide) (by decide)
      obtain ⟨V44, hV44⟩ : ∃ x, wr V43 157 4 1 = x := ⟨_, rfl⟩
      have hd : V44 157 = (up (up (fun _ => 0) 3 1) 4 1) := by rw [← hV44, wr_row, hd]
      rw [hV44] at hB ⊢
      clear hV44
      refine ev_iincL (X := M_X12_init) (pc := 200) (ls' := [_, _]) dX12_init_200 rfl (by decide) rfl ?_
      refine ev_goto (X := M_X12_init) (pc := 203) (tgt := 185) dX12_init_203 (by decide) ?_
      refine ev_weak (ls' := [vR 156, vI 2]) ?_ ⟨rfl, rfl, trivial⟩
      refine ev_iload_n (X := M_X12_init) (pc := 185) dX12_init_185 rfl ?_
      refine ev_bipush (X := M_X12_init) (pc := 186) dX12_init_186 (by decide) ?_
      refine ev_icmp_ge (X := M_X12_init) (pc := 188) (tgt := 206) dX12_init_188 (by decide) (by decide) (by decide) (fun h188 => ?_) (fun h188 => ?_)
      · exact absurd h188 (by decide)
      · refine ev_aload_n (X := M_X12_init) (pc := 191) dX12_init_191 rfl ?_
        refine ev_getRe (X := M_X12_init) (pc := 192) dX12_init_192 fl_X12_7_12 (congrArg Prod.fst (hB.2.1 (156, 22, 0) (List.mem_of_getElem? (i := 21) rfl))) rfl (hB.2.2.1 (156, 0, 157) (List.mem_of_getElem? (i := 20) rfl)) ?_
        refine ev_iconst (X := M_X12_init) (pc := 195) dX12_init_195 ?_
        refine ev_iload_n (X := M_X12_init) (pc := 196) dX12_init_196 rfl ?_
        refine ev_iadd (X := M_X12_init) (pc := 197) dX12_init_197 ?_
        refine ev_iconst (X := M_X12_init) (pc := 198) dX12_init_198 ?_
        refine ev_iastore (X := M_X12_init) (pc := 199) dX12_init_199 (by decide) (hB.2.1 (157, 1, 200) (List.mem_of_getElem? (i := 20) rfl)) (by decide) ?_
        show Ev _ _ _ _ _ _ _ _ _ (wr V44 157 5 1) _
        have hB := hB.wr (c := 157) (i := 5) (x := 1) (Z' := [177, 176, 175, 174, 173, 172, 171, 170, 169, 168, 167, 166, 165, 164, 163, 162, 161, 160, 159, 158, 156]) (F' := [(157, 4, 1), (157, 3, 1)]) (by decide) (by decide) (by decide)
        obtain ⟨V45, hV45⟩ : ∃ x, wr V44 157 5 1 = x := ⟨_, rfl⟩
        have hd : V45 157 = (up (up (up (fun _ => 0) 3 1) 4 1) 5 1) := by rw [← hV45, wr_row, hd]
        rw [hV45] at hB ⊢
        clear hV45
        refine ev_iincL (X := M_X12_init) (pc := 200) (ls' := [_, _]) dX12_init_200 rfl (by decide) rfl ?_
        refine ev_goto (X := M_X12_init) (pc := 203) (tgt := 185) dX12_init_203 (by decide) ?_
        refine ev_weak (ls' := [vR 156, vI 3]) ?_ ⟨rfl, rfl, trivial⟩
        refine ev_iload_n (X := M_X12_init) (pc := 185) dX12_init_185 rfl ?_
        refine ev_bipush (X := M_X12_init) (pc := 186) dX12_init_186 (by decide) ?_
        refine ev_icmp_ge (X := M_X12_init) (pc := 188) (tgt := 206) dX12_init_188 (by decide) (by decide) (by decide) (fun h188 => ?_) (fun h188 => ?_)
        · exact absurd h188 (by decide)
        · refine ev_aload_n (X := M_X12_init) (pc := 191) dX12_init_191 rfl ?_
          refine ev_getRe (X := M_X12_init) (pc := 192) dX12_init_192 fl_X12_7_12 (congrArg Prod.fst (hB.2.1 (156, 22, 0) (List.mem_of_getElem? (i := 21) rfl))) rfl (hB.2.2.1 (156, 0, 157) (List.mem_of_getElem? (i := 20) rfl)) ?_
          refine ev_iconst (X := M_X12_init) (pc := 195) dX12_init_195 ?_
          refine ev_iload_n (X := M_X12_init) (pc := 196) dX12_init_196 rfl ?_
          refine ev_iadd (X := M_X12_init) (pc := 197) dX12_init_197 ?_
          refine ev_iconst (X := M_X12_init) (pc := 198) dX12_init_198 ?_
          refine ev_iastore (X := M_X12_init) (pc := 199) dX12_init_199 (by decide) (hB.2.1 (157, 1, 200) (List.mem_of_getElem? (i := 20) rfl)) (by decide) ?_
          show Ev _ _ _ _ _ _ _ _ _ (wr V45 157 6 1) _
          have hB := hB.wr (c := 157) (i := 6) (x := 1) (Z' := [177, 176, 175, 174, 173, 172, 171, 170, 169, 168, 167, 166, 165, 164, 163, 162, 161, 160, 159, 158, 156]) (F' := [(157, 5, 1), (157, 4, 1), (157, 3, 1)]) (by decide) (by decide) (by decide)
          obtain ⟨V46, hV46⟩ : ∃ x, wr V45 157 6 1 = x := ⟨_, rfl⟩
          have hd : V46 157 = (up (up (up (up (fun _ => 0) 3 1) 4 1) 5 1) 6 1) := by rw [← hV46, wr_row, hd]
          rw [hV46] at hB ⊢
          clear hV46
          refine ev_iincL (X := M_X12_init) (pc := 200) (ls' := [_, _]) dX12_init_200 rfl (by decide) rfl ?_
          refine ev_goto (X := M_X12_init) (pc := 203) (tgt := 185) dX12_init_203 (by decide) ?_
          refine ev_weak (ls' := [vR 156, vI 4]) ?_ ⟨rfl, rfl, trivial⟩
          refine ev_iload_n (X := M_X12_init) (pc := 185) dX12_init_185 rfl ?_
          refine ev_bipush (X := M_X12_init) (pc := 186) dX12_init_186 (by decide) ?_
          refine ev_icmp_ge (X := M_X12_init) (pc := 188) (tgt := 206) dX12_init_188 (by decide) (by decide) (by decide) (fun h188 => ?_) (fun h188 => ?_)
          · exact absurd h188 (by decide)
          · refine ev_aload_n (X := M_X12_init) (pc := 191) dX12_init_191 rfl ?_
            refine ev_getRe (X := M_X12_init) (pc := 192) dX12_init_192 fl_X12_7_12 (congrArg Prod.fst (hB.2.1 (156, 22, 0) (List.mem_of_getElem? (i := 21) rfl))) rfl (hB.2.2.1 (156, 0, 157) (List.mem_of_getElem? (i := 20) rfl)) ?_
            refine ev_iconst (X := M_X12_init) (pc := 195) dX12_init_195 ?_
            refine ev_iload_n (X := M_X12_init) (pc := 196) dX12_init_196 rfl ?_
            refine ev_iadd (X := M_X12_init) (pc := 197) dX12_init_197 ?_
            refine ev_iconst (X := M_X12_init) (pc := 198) dX12_init_198 ?_
            refine ev_iastore (X := M_X12_init) (pc := 199) dX12_init_199 (by decide) (hB.2.1 (157, 1, 200) (List.mem_of_getElem? (i := 20) rfl)) (by decide) ?_
            show Ev _ _ _ _ _ _ _ _ _ (wr V46 157 7 1) _
            have hB := hB.wr (c := 157) (i := 7) (x := 1) (Z' := [177, 176, 175, 174, 173, 172, 171, 170, 169, 168, 167, 166, 165, 164, 163, 162, 161, 160, 159, 158, 156]) (F' := [(157, 6, 1), (157, 5, 1), (157, 4, 1), (157, 3, 1)]) (by decide) (by decide) (by decide)
            obtain ⟨V47, hV47⟩ : ∃ x, wr V46 157 7 1 = x := ⟨_, rfl⟩
            have hd : V47 157 = (up (up (up (up (up (fun _ => 0) 3 1) 4 1) 5 1) 6 1) 7 1) := by rw [← hV47, wr_row, hd]
            rw [hV47] at hB ⊢
            clear hV47
            refine ev_iincL (X := M_X12_init) (pc := 200) (ls' := [_, _]) dX12_init_200 rfl (by decide) rfl ?_
            refine ev_goto (X := M_X12_init) (pc := 203) (tgt := 185) dX12_init_203 (by decide) ?_
            refine ev_weak (ls' := [vR 156, vI 5]) ?_ ⟨rfl, rfl, trivial⟩
            refine ev_iload_n (X := M_X12_init) (pc := 185) dX12_init_185 rfl ?_
            refine ev_bipush (X := M_X12_init) (pc := 186) dX12_init_186 (by decide) ?_
            refine ev_icmp_ge (X := M_X12_init) (pc := 188) (tgt := 206) dX12_init_188 (by decide) (by decide) (by decide) (fun h188 => ?_) (fun h188 => ?_)
            · exact absurd h188 (by decide)
            · refine ev_aload_n (X := M_X12_init) (pc := 191) dX12_init_191 rfl ?_
              refine ev_getRe (X := M_X12_init) (pc := 192) dX12_init_192 fl_X12_7_12 (congrArg Prod.fst (hB.2.1 (156, 22, 0) (List.mem_of_getElem? (i := 21) rfl))) rfl (hB.2.2.1 (156, 0, 157) (List.mem_of_getElem? (i := 20) rfl)) ?_
              refine ev_iconst (X := M_X12_init) (pc := 195) dX12_init_195 ?_
              refine ev_iload_n (X := M_X12_init) (pc := 196) dX12_init_196 rfl ?_
              refine ev_iadd (X := M_X12_init) (pc := 197) dX12_init_197 ?_
              refine ev_iconst (X := M_X12_init) (pc := 198) dX12_init_198 ?_
              refine ev_iastore (X := M_X12_init) (pc := 199) dX12_init_199 (by decide) (hB.2.1 (157, 1, 200) (List.mem_of_getElem? (i := 20) rfl)) (by decide) ?_
              show Ev _ _ _ _ _ _ _ _ _ (wr V47 157 8 1) _
              have hB := hB.wr (c := 157) (i := 8) (x := 1) (Z' := [177, 176, 175, 174, 173, 172, 171, 170, 169, 168, 167, 166, 165, 164, 163, 162, 161, 160, 159, 158, 156]) (F' := [(157, 7, 1), (157, 6, 1), (157, 5, 1), (157, 4, 1), (157, 3, 1)]) (by decide) (by decide) (by decide)
              obtain ⟨V48, hV48⟩ : ∃ x, wr V47 157 8 1 = x := ⟨_, rfl⟩
              have hd : V48 157 = (up (up (up (up (up (up (fun _ => 0) 3 1) 4 1) 5 1) 6 1) 7 1) 8 1) := by rw [← hV48, wr_row, hd]
              rw [hV48] at hB ⊢
              clear hV48
              refine ev_iincL (X := M_X12_init) (pc := 200) (ls' := [_, _]) dX12_init_200 rfl (by decide) rfl ?_
              refine ev_goto (X := M_X12_init) (pc := 203) (tgt := 185) dX12_init_203 (by decide) ?_
              refine ev_weak (ls' := [vR 156, vI 6]) ?_ ⟨rfl, rfl, trivial⟩
              refine ev_iload_n (X := M_X12_init) (pc := 185) dX12_init_185 rfl ?_
              refine ev_bipush (X := M_X12_init) (pc := 186) dX12_init_186 (by decide) ?_
              refine ev_icmp_ge (X := M_X12_init) (pc := 188) (tgt := 206) dX12_init_188 (by decide) (by decide) (by decide) (fun h188 => ?_) (fun h188 => ?_)
              · refine ev_aload_n (X := M_X12_init) (pc := 206) dX12_init_206 rfl ?_
                refine ev_getRe (X := M_X12_init) (pc := 207) dX12_init_207 fl_X12_7_12 (congrArg Prod.fst (hB.2.1 (156, 22, 0) (List.mem_of_getElem? (i := 21) rfl))) rfl (hB.2.2.1 (156, 0, 157) (List.mem_of_getElem? (i := 20) rfl)) ?_
                refine ev_bipush (X := M_X12_init) (pc := 210) dX12_init_210 (by decide) ?_
                refine ev_iconst (X := M_X12_init) (pc := 212) dX12_init_212 ?_
                refine ev_iastore (X := M_X12_init) (pc := 213) dX12_init_213 (by decide) (hB.2.1 (157, 1, 200) (List.mem_of_getElem? (i := 20) rfl)) (by decide) ?_
                show Ev _ _ _ _ _ _ _ _ _ (wr V48 157 23 1) _
                have hB := hB.wr (c := 157) (i := 23) (x := 1) (Z' := [177, 176, 175, 174, 173, 172, 171, 170, 169, 168, 167, 166, 165, 164, 163, 162, 161, 160, 159, 158, 156]) (F' := [(157, 8, 1), (157, 7, 1), (157, 6, 1), (157, 5, 1), (157, 4, 1), (157, 3, 1)]) (by decide) (by decide) (by decide)
                obtain ⟨V49, hV49⟩ : ∃ x, wr V48 157 23 1 = x := ⟨_, rfl⟩
                have hd : V49 157 = (up (up (up (up (up (up (up (fun _ => 0) 3 1) 4 1) 5 1) 6 1) 7 1) 8 1) 23 1) := by rw [← hV49, wr_row, hd]
                rw [hV49] at hB ⊢
                clear hV49
                refine ev_vret (X := M_X12_init) (pc := 214) dX12_init_214 rfl ?_
                refine ⟨rfl, hB, ?_⟩
                rw [hd]
                funext j
                unfold dI up
                repeat' split
                all_goals first | rfl | omega
              · exact absurd (by decide) h188
