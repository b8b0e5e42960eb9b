/-! ===== the law's loop ===== -/
theorem Inv.mo {n : Int} {L : Nat} {g : Int → Int} {K : Sk} {V : Mm} (h : Inv n L g K V) : Inv (n + 1) L g K V := by
  obtain ⟨D, E, im, er, h⟩ := h
  exact h.mo
theorem law_loop {γ : Gh} {L : Nat} {g : Int → Int} (hg : ∀ j, R32 (g j)) (hLb : L ≤ 384) : ∀ (k : Nat) (i n : Int) (K : Sk) (V : Mm), 0 ≤ i → i ≤ 400 → (L : Int) - 6 - i < 6 * k → n + k < 1000 → Inv n L g K V → Ev γ M_L_law 60 (4 * k) (108 * k) 18 [vR 30, vR 100, vR 156, vI i] [] K V (fun r _ _ => r = some (vI 1)) := by
  intro k
  induction k with
  | zero =>
    intro i n K V i0 i4 hk hn h
    have hk30 : K.1 30 = (1, L) := by obtain ⟨D, E, im, er, h⟩ := h; exact h.s30.1
    refine ev_iload_n (X := M_L_law) (pc := 18) dL_law_18 rfl ?_
    refine ev_aload_n (X := M_L_law) (pc := 19) dL_law_19 rfl ?_
    refine ev_alen (X := M_L_law) (pc := 20) dL_law_20 hk30 (by decide) (by decide) ?_
    refine ev_bipush (X := M_L_law) (pc := 21) dL_law_21 (by decide) ?_
    refine ev_isub (X := M_L_law) (pc := 23) dL_law_23 ?_
    refine ev_icmp_gt (X := M_L_law) (pc := 24) (tgt := 1261) dL_law_24 (by decide) (by omega) (by omega) (fun h24 => ?_) (fun h24 => ?_)
    · refine ev_iconst (X := M_L_law) (pc := 1261) dL_law_1261 ?_
      refine ev_bret (X := M_L_law) (pc := 1262) dL_law_1262 rfl (by omega) ?_
      exact rfl
    · exact absurd (show (L : Int) - 6 < i by omega) (by omega)
  | succ k ih =>
    intro i n K V i0 i4 hk hn h
    have hs : K.1 30 = (1, L) ∧ V 30 = g := by obtain ⟨D, E, im, er, h⟩ := h; exact h.s30
    obtain ⟨hk30, hv30⟩ := hs
    obtain ⟨c, hc⟩ : ∃ c, op_iand (g i) 63 = c := ⟨_, rfl⟩
    have hc63 := iand_63 (g i)
    rw [hc] at hc63
    refine ev_less (mc' := 4 + 4 * k) (ms' := 108 + 108 * k) ?_ (by omega) (by omega)
    refine ev_iload_n (X := M_L_law) (pc := 18) dL_law_18 rfl ?_
    refine ev_aload_n (X := M_L_law) (pc := 19) dL_law_19 rfl ?_
    refine ev_alen (X := M_L_law) (pc := 20) dL_law_20 hk30 (by decide) (by decide) ?_
    refine ev_bipush (X := M_L_law) (pc := 21) dL_law_21 (by decide) ?_
    refine ev_isub (X := M_L_law) (pc := 23) dL_law_23 ?_
    refine ev_icmp_gt (X := M_L_law) (pc := 24) (tgt := 1261) dL_law_24 (by decide) (by omega) (by omega) (fun h24 => ?_) (fun h24 => ?_)
    · refine ev_iconst (X := M_L_law) (pc := 1261) dL_law_1261 ?_
      refine ev_bret (X := M_L_law) (pc := 1262) dL_law_1262 rfl (by omega) ?_
      exact rfl
    · refine ev_aload_n (X := M_L_law) (pc := 27) dL_law_27 rfl ?_
      refine ev_iload_n (X := M_L_law) (pc := 28) dL_law_28 rfl ?_
      refine ev_ialoadE (X := M_L_law) (pc := 29) dL_law_29 hk30 (by omega) (congrFun hv30 _) ?_
      refine ev_bipush (X := M_L_law) (pc := 30) dL_law_30 (by decide) ?_
      refine ev_iand (X := M_L_law) (pc := 32) dL_law_32 ?_
      rw [hc]
      rcases (show c = 0 ∨ c = 1 ∨ c = 2 ∨ c = 3 ∨ c = 4 ∨ c = 5 ∨ c = 6 ∨ c = 7 ∨ c = 8 ∨ c = 9 ∨ c = 10 ∨ c = 11 ∨ c = 12 ∨ c = 13 ∨ c = 14 ∨ c = 15 ∨ c = 16 ∨ c = 17 ∨ c = 18 ∨ c = 19 ∨ c = 20 ∨ c = 21 ∨ c = 22 ∨ c = 23 ∨ c = 24 ∨ c = 25 ∨ c = 26 ∨ c = 27 ∨ c = 28 ∨ c = 29 ∨ c = 30 ∨ c = 31 ∨ c = 32 ∨ c = 33 ∨ c = 34 ∨ (c < 0 ∨ 34 < c) by omega) with h33 | h33 | h33 | h33 | h33 | h33 | h33 | h33 | h33 | h33 | h33 | h33 | h33 | h33 | h33 | h33 | h33 | h33 | h33 | h33 | h33 | h33 | h33 | h33 | h33 | h33 | h33 | h33 | h33 | h33 | h33 | h33 | h33 | h33 | h33 | h33
      · refine ev_tableIn (X := M_L_law) (pc := 33) (off := 155) (tgt := 188) dL_law_33 (by omega) (by omega) (by omega) (by rw [h33]; rfl) (by decide) ?_
        exact lc_be h hg ⟨i0, by omega⟩ (by omega) (fun K2 V2 h2 => ih (i + 6) (n + 1) K2 V2 (by omega) (by omega) (by omega) (by omega) h2)
      · refine ev_tableIn (X := M_L_law) (pc := 33) (off := 188) (tgt := 221) dL_law_33 (by omega) (by omega) (by omega) (by rw [h33]; rfl) (by decide) ?_
        exact lc_of h hg ⟨i0, by omega⟩ (by omega) (fun K2 V2 h2 => ih (i + 6) (n + 1) K2 V2 (by omega) (by omega) (by omega) (by omega) h2)
      · refine ev_tableIn (X := M_L_law) (pc := 33) (off := 211) (tgt := 244) dL_law_33 (by omega) (by omega) (by omega) (by rw [h33]; rfl) (by decide) ?_
        exact lc_law h hg ⟨i0, by omega⟩ (by omega) (fun K2 V2 h2 => ih (i + 6) (n + 1) K2 V2 (by omega) (by omega) (by omega) (by omega) h2)
      · refine ev_tableIn (X := M_L_law) (pc := 33) (off := 244) (tgt := 277) dL_law_33 (by omega) (by omega) (by omega) (by rw [h33]; rfl) (by decide) ?_
        exact lc_fence h hg ⟨i0, by omega⟩ (by omega) (fun K2 V2 h2 => ih (i + 6) (n + 1) K2 V2 (by omega) (by omega) (by omega) (by omega) h2)
      · refine ev_tableIn (X := M_L_law) (pc := 33) (off := 277) (tgt := 310) dL_law_33 (by omega) (by omega) (by omega) (by rw [h33]; rfl) (by decide) ?_
        exact lc_ofPair h hg ⟨i0, by omega⟩ (by omega) (fun K2 V2 h2 => ih (i + 6) (n + 1) K2 V2 (by omega) (by omega) (by omega) (by omega) h2)
      · refine ev_tableIn (X := M_L_law) (pc := 33) (off := 310) (tgt := 343) dL_law_33 (by omega) (by omega) (by omega) (by rw [h33]; rfl) (by decide) ?_
        exact lc_as h hg ⟨i0, by omega⟩ (by omega) (fun K2 V2 h2 => ih (i + 6) (n + 1) K2 V2 (by omega) (by omega) (by omega) (by omega) h2)
      · refine ev_tableIn (X := M_L_law) (pc := 33) (off := 343) (tgt := 376) dL_law_33 (by omega) (by omega) (by omega) (by rw [h33]; rfl) (by decide) ?_
        exact lc_feed h hg ⟨i0, by omega⟩ (by omega) (fun K2 V2 h2 => ih (i + 6) (n + 1) K2 V2 (by omega) (by omega) (by omega) (by omega) h2)
      · refine ev_tableIn (X := M_L_law) (pc := 33) (off := 406) (tgt := 439) dL_law_33 (by omega) (by omega) (by omega) (by rw [h33]; rfl) (by decide) ?_
        exact lc_text h hg ⟨i0, by omega⟩ (by omega) (fun K2 V2 h2 => ih (i + 6) (n + 1) K2 V2 (by omega) (by omega) (by omega) (by omega) h2)
      · refine ev_tableIn (X := M_L_law) (pc := 33) (off := 429) (tgt := 462) dL_law_33 (by omega) (by omega) (by omega) (by rw [h33]; rfl) (by decide) ?_
        exact lc_gives h hg ⟨i0, by omega⟩ (by omega) (fun K2 V2 h2 => ih (i + 6) (n + 1) K2 V2 (by omega) (by omega) (by omega) (by omega) h2)
      · refine ev_tableIn (X := M_L_law) (pc := 33) (off := 492) (tgt := 525) dL_law_33 (by omega) (by omega) (by omega) (by rw [h33]; rfl) (by decide) ?_
        exact lc_meet h hg ⟨i0, by omega⟩ (by omega) (fun K2 V2 h2 => ih (i + 6) (n + 1) K2 V2 (by omega) (by omega) (by omega) (by omega) h2)
      · refine ev_tableIn (X := M_L_law) (pc := 33) (off := 515) (tgt := 548) dL_law_33 (by omega) (by omega) (by omega) (by rw [h33]; rfl) (by decide) ?_
        exact lc_chance h hg ⟨i0, by omega⟩ (by omega) (fun K2 V2 h2 => ih (i + 6) (n + 1) K2 V2 (by omega) (by omega) (by omega) (by omega) h2)
      · refine ev_tableIn (X := M_L_law) (pc := 33) (off := 538) (tgt := 571) dL_law_33 (by omega) (by omega) (by omega) (by rw [h33]; rfl) (by decide) ?_
        exact lc_reach h hg ⟨i0, by omega⟩ (by omega) (fun K2 V2 h2 => ih (i + 6) (n + 1) K2 V2 (by omega) (by omega) (by omega) (by omega) h2)
      · refine ev_tableIn (X := M_L_law) (pc := 33) (off := 561) (tgt := 594) dL_law_33 (by omega) (by omega) (by omega) (by rw [h33]; rfl) (by decide) ?_
        exact lc_way h hg ⟨i0, by omega⟩ (by omega) (fun K2 V2 h2 => ih (i + 6) (n + 1) K2 V2 (by omega) (by omega) (by omega) (by omega) h2)
      · refine ev_tableIn (X := M_L_law) (pc := 33) (off := 594) (tgt := 627) dL_law_33 (by omega) (by omega) (by omega) (by rw [h33]; rfl) (by decide) ?_
        exact lc_can h hg ⟨i0, by omega⟩ (by omega) (fun K2 V2 h2 => ih (i + 6) (n + 1) K2 V2 (by omega) (by omega) (by omega) (by omega) h2)
      · refine ev_tableIn (X := M_L_law) (pc := 33) (off := 627) (tgt := 660) dL_law_33 (by omega) (by omega) (by omega) (by rw [h33]; rfl) (by decide) ?_
        exact lc_reached h hg ⟨i0, by omega⟩ (by omega) (fun K2 V2 h2 => ih (i + 6) (n + 1) K2 V2 (by omega) (by omega) (by omega) (by omega) h2)
      · refine ev_tableIn (X := M_L_law) (pc := 33) (off := 640) (tgt := 673) dL_law_33 (by omega) (by omega) (by omega) (by rw [h33]; rfl) (by decide) ?_
        exact lc_stays h hg ⟨i0, by omega⟩ (by omega) (fun K2 V2 h2 => ih (i + 6) (n + 1) K2 V2 (by omega) (by omega) (by omega) (by omega) h2)
      · refine ev_tableIn (X := M_L_law) (pc := 33) (off := 673) (tgt := 706) dL_law_33 (by omega) (by omega) (by omega) (by rw [h33]; rfl) (by decide) ?_
        exact lc_bars h hg ⟨i0, by omega⟩ (by omega) (fun K2 V2 h2 => ih (i + 6) (n + 1) K2 V2 (by omega) (by omega) (by omega) (by omega) h2)
      · refine ev_tableIn (X := M_L_law) (pc := 33) (off := 706) (tgt := 739) dL_law_33 (by omega) (by omega) (by omega) (by rw [h33]; rfl) (by decide) ?_
        exact lc_ways h hg ⟨i0, by omega⟩ (by omega) (fun K2 V2 h2 => ih (i + 6) (n + 1) K2 V2 (by omega) (by omega) (by omega) (by omega) h2)
      · refine ev_tableIn (X := M_L_law) (pc := 33) (off := 740) (tgt := 773) dL_law_33 (by omega) (by omega) (by omega) (by rw [h33]; rfl) (by decide) ?_
        exact lc_allWays h hg ⟨i0, by omega⟩ (by omega) (fun K2 V2 h2 => ih (i + 6) (n + 1) K2 V2 (by omega) (by omega) (by omega) (by omega) h2)
      · refine ev_tableIn (X := M_L_law) (pc := 33) (off := 764) (tgt := 797) dL_law_33 (by omega) (by omega) (by omega) (by rw [h33]; rfl) (by decide) ?_
        exact lc_fences h hg ⟨i0, by omega⟩ (by omega) (fun K2 V2 h2 => ih (i + 6) (n + 1) K2 V2 (by omega) (by omega) (by omega) (by omega) h2)
      · refine ev_tableIn (X := M_L_law) (pc := 33) (off := 797) (tgt := 830) dL_law_33 (by omega) (by omega) (by omega) (by rw [h33]; rfl) (by decide) ?_
        exact lc_was h hg ⟨i0, by omega⟩ (by omega) (fun K2 V2 h2 => ih (i + 6) (n + 1) K2 V2 (by omega) (by omega) (by omega) (by omega) h2)
      · refine ev_tableIn (X := M_L_law) (pc := 33) (off := 830) (tgt := 863) dL_law_33 (by omega) (by omega) (by omega) (by rw [h33]; rfl) (by decide) ?_
        exact lc_force h hg ⟨i0, by omega⟩ (by omega) (fun K2 V2 h2 => ih (i + 6) (n + 1) K2 V2 (by omega) (by omega) (by omega) (by omega) h2)
      · refine ev_tableIn (X := M_L_law) (pc := 33) (off := 853) (tgt := 886) dL_law_33 (by omega) (by omega) (by omega) (by rw [h33]; rfl) (by decide) ?_
        exact lc_seed h hg ⟨i0, by omega⟩ (by omega) (fun K2 V2 h2 => ih (i + 6) (n + 1) K2 V2 (by omega) (by omega) (by omega) (by omega) h2)
      · refine ev_tableIn (X := M_L_law) (pc := 33) (off := 876) (tgt := 909) dL_law_33 (by omega) (by omega) (by omega) (by rw [h33]; rfl) (by decide) ?_
        exact lc_voice h hg ⟨i0, by omega⟩ (by omega) (fun K2 V2 h2 => ih (i + 6) (n + 1) K2 V2 (by omega) (by omega) (by omega) (by omega) h2)
      · refine ev_tableIn (X := M_L_law) (pc := 33) (off := 919) (tgt := 952) dL_law_33 (by omega) (by omega) (by omega) (by rw [h33]; rfl) (by decide) ?_
        exact lc_trace h hg ⟨i0, by omega⟩ (by omega) (fun K2 V2 h2 => ih (i + 6) (n + 1) K2 V2 (by omega) (by omega) (by omega) (by omega) h2)
      · refine ev_tableIn (X := M_L_law) (pc := 33) (off := 942) (tgt := 975) dL_law_33 (by omega) (by omega) (by omega) (by rw [h33]; rfl) (by decide) ?_
        exact lc_sheet h hg ⟨i0, by omega⟩ (by omega) (fun K2 V2 h2 => ih (i + 6) (n + 1) K2 V2 (by omega) (by omega) (by omega) (by omega) h2)
      · refine ev_tableIn (X := M_L_law) (pc := 33) (off := 985) (tgt := 1018) dL_law_33 (by omega) (by omega) (by omega) (by rw [h33]; rfl) (by decide) ?_
        exact lc_put h hg ⟨i0, by omega⟩ (by omega) (fun K2 V2 h2 => ih (i + 6) (n + 1) K2 V2 (by omega) (by omega) (by omega) (by omega) h2)
      · refine ev_tableIn (X := M_L_law) (pc := 33) (off := 1028) (tgt := 1061) dL_law_33 (by omega) (by omega) (by omega) (by rw [h33]; rfl) (by decide) ?_
        exact lc_move h hg ⟨i0, by omega⟩ (by omega) (fun K2 V2 h2 => ih (i + 6) (n + 1) K2 V2 (by omega) (by omega) (by omega) (by omega) h2)
      · refine ev_tableIn (X := M_L_law) (pc := 33) (off := 1091) (tgt := 1124) dL_law_33 (by omega) (by omega) (by omega) (by rw [h33]; rfl) (by decide) ?_
        exact lc_judge h hg ⟨i0, by omega⟩ (by omega) (fun K2 V2 h2 => ih (i + 6) (n + 1) K2 V2 (by omega) (by omega) (by omega) (by omega) h2)
      · refine ev_tableIn (X := M_L_law) (pc := 33) (off := 1114) (tgt := 1147) dL_law_33 (by omega) (by omega) (by omega) (by rw [h33]; rfl) (by decide) ?_
        exact lc_image h hg ⟨i0, by omega⟩ (by omega) (fun K2 V2 h2 => ih (i + 6) (n + 1) K2 V2 (by omega) (by omega) (by omega) (by omega) h2)
      · refine ev_tableIn (X := M_L_law) (pc := 33) (off := 1127) (tgt := 1160) dL_law_33 (by omega) (by omega) (by omega) (by rw [h33]; rfl) (by decide) ?_
        exact lc_restore h hg ⟨i0, by omega⟩ (by omega) (fun K2 V2 h2 => ih (i + 6) (n + 1) K2 V2 (by omega) (by omega) (by omega) (by omega) h2)
      · refine ev_tableIn (X := M_L_law) (pc := 33) (off := 1140) (tgt := 1173) dL_law_33 (by omega) (by omega) (by omega) (by rw [h33]; rfl) (by decide) ?_
        exact lc_tell h hg ⟨i0, by omega⟩ (by omega) (fun K2 V2 h2 => ih (i + 6) (n + 1) K2 V2 (by omega) (by omega) (by omega) (by omega) h2)
      · refine ev_tableIn (X := M_L_law) (pc := 33) (off := 1163) (tgt := 1196) dL_law_33 (by omega) (by omega) (by omega) (by rw [h33]; rfl) (by decide) ?_
        exact lc_check h hg ⟨i0, by omega⟩ (by omega) (fun K2 V2 h2 => ih (i + 6) (n + 1) K2 V2 (by omega) (by omega) (by omega) (by omega) h2)
      · refine ev_tableIn (X := M_L_law) (pc := 33) (off := 1176) (tgt := 1209) dL_law_33 (by omega) (by omega) (by omega) (by rw [h33]; rfl) (by decide) ?_
        exact lc_count h hg ⟨i0, by omega⟩ (by omega) (fun K2 V2 h2 => ih (i + 6) (n + 1) K2 V2 (by omega) (by omega) (by omega) (by omega) h2)
      · refine ev_tableIn (X := M_L_law) (pc := 33) (off := 1199) (tgt := 1232) dL_law_33 (by omega) (by omega) (by omega) (by rw [h33]; rfl) (by decide) ?_
        exact lc_told h hg ⟨i0, by omega⟩ (by omega) (fun K2 V2 h2 => ih (i + 6) (n + 1) K2 V2 (by omega) (by omega) (by omega) (by omega) h2)
      · refine ev_tableOut (X := M_L_law) (pc := 33) (tgt := 1255) dL_law_33 (by omega) (by omega) (by decide) ?_
        refine ev_iincL (X := M_L_law) (pc := 1255) (ls' := [_, _, _, _]) dL_law_1255 rfl (by decide) rfl ?_
        refine ev_goto (X := M_L_law) (pc := 1258) (tgt := 18) dL_law_1258 (by decide) ?_
        exact ev_less (ih (i + 6) (n + 1) K V (by omega) (by omega) (by omega) (by omega) h.mo) (by omega) (by omega)
theorem dI_W : DW dI ∧ DZ dI := by
  have e : ∀ j, ¬ ((3 ≤ j ∧ j < 9) ∨ j = 23) → dI j = 0 := fun j h => if_neg h
  refine ⟨⟨⟨by unfold DCnt; decide, dI_K, fun p hp => Or.inl (e _ (by omega)), ⟨by decide, fun z => absurd z (by decide)⟩, by decide⟩, by decide, by decide, fun i i0 i1 => ?_, by decide, fun i i0 i1 => ?_⟩, fun j hj => e j (by omega)⟩
  · rw [e 24 (by decide)] at i1; omega
  · rw [e 25 (by decide)] at i1; omega
/-- what both constructors leave is the invariant -/
theorem inv_start {L : Nat} {g : Int → Int} {K0 K1 K4 : Sk} {V0 V1 V4 : Mm} (hF : Fr K0) (hN : K0.2.2 = 100) (hS : SS K0 V0) (hV : SV V0) (hV2 : SV2 V0) (h30 : K0.1 30 = (1, L)) (hg : V0 30 = g) (hK1 : ∀ c, c ≠ 100 → K1.1 c = K0.1 c) (hR1 : ∀ c j, c ≠ 100 → K1.2.1 c j = K0.2.1 c j) (hV1 : ∀ c, c ≠ 100 → V1 c = V0 c) (hB : Bl K1 V1 100 178 [(177, 1, 40), (176, 1, 160), (175, 1, 4), (174, 1, 4), (173, 1, 40), (172, 3, 2197), (171, 3, 2197), (170, 3, 2197), (169, 3, 2197), (168, 3, 2197), (167, 3, 2197), (166, 2, 2197), (165, 2, 2197), (164, 3, 2197), (163, 1, 2197), (162, 1, 2197), (161, 1, 18), (160, 1, 4), (159, 1, 6), (158, 1, 200), (157, 1, 200), (156, 22, 0), (155, 1, 6), (154, 1, 4), (153, 1, 40), (152, 15, 0), (151, 1, 40), (150, 15, 0), (149, 1, 40), (148, 15, 0), (147, 1, 40), (146, 15, 0), (145, 7, 4), (144, 1, 40), (143, 15, 0), (142, 19, 0), (141, 19, 0), (140, 19, 0), (139, 19, 0), (138, 19, 0), (137, 19, 0), (136, 1, 6), (135, 1, 6), (134, 1, 18), (133, 1, 20), (132, 15, 0), (131, 1, 50), (130, 15, 0), (129, 6, 2), (128, 5, 6), (127, 12, 0), (1, 1, 6), (2, 1, 6), (126, 2, 455), (125, 2, 455), (124, 1, 455), (123, 1, 455), (122, 1, 455), (121, 1, 455), (120, 1, 455), (119, 1, 2730), (118, 1, 455), (117, 19, 0), (116, 19, 0), (115, 19, 0), (114, 19, 0), (113, 19, 0), (112, 19, 0), (111, 1, 6), (110, 1, 6), (109, 1, 18), (108, 1, 20), (107, 15, 0), (106, 1, 50), (105, 15, 0), (104, 6, 2), (103, 5, 6), (102, 12, 0), (1, 1, 6), (2, 1, 6), (101, 16, 0), (1, 1, 6), (2, 1, 6), (3, 1, 3), (100, 21, 0), (1, 1, 6), (2, 1, 6), (3, 1, 3), (4, 1, 13), (5, 2, 6)] [(156, 29, 177), (156, 28, 176), (156, 27, 175), (156, 26, 174), (156, 23, 173), (156, 22, 172), (156, 21, 171), (156, 20, 170), (156, 19, 169), (156, 18, 168), (156, 17, 167), (156, 16, 166), (156, 15, 165), (156, 14, 164), (156, 13, 163), (156, 12, 162), (156, 11, 161), (156, 10, 160), (156, 3, 159), (156, 1, 158), (156, 0, 157), (100, 6, 155), (100, 5, 154), (145, 3, 152), (152, 0, 153), (145, 2, 150), (150, 0, 151), (145, 1, 148), (148, 0, 149), (145, 0, 146), (146, 0, 147), (100, 4, 145), (100, 3, 143), (143, 0, 144), (100, 1, 127), (128, 5, 142), (128, 4, 141), (128, 3, 140), (128, 2, 139), (128, 1, 138), (128, 0, 137), (127, 11, 136), (127, 10, 135), (127, 9, 134), (127, 3, 132), (132, 0, 133), (127, 2, 130), (130, 0, 131), (127, 1, 129), (129, 0, 0), (129, 1, 0), (127, 0, 128), (100, 0, 102), (100, 2, 101), (101, 10, 126), (101, 9, 125), (101, 8, 124), (101, 7, 123), (101, 5, 122), (101, 4, 121), (101, 3, 120), (101, 2, 119), (101, 1, 118), (101, 0, 102), (103, 5, 117), (103, 4, 116), (103, 3, 115), (103, 2, 114), (103, 1, 113), (103, 0, 112), (102, 11, 111), (102, 10, 110), (102, 9, 109), (102, 3, 107), (107, 0, 108), (102, 2, 105), (105, 0, 106), (102, 1, 104), (104, 0, 0), (104, 1, 0), (102, 0, 103)] [177, 176, 175, 174, 173, 172, 171, 170, 169, 168, 167, 166, 165, 164, 163, 162, 161, 160, 159, 158, 156, 155, 154, 153, 152, 151, 150, 149, 148, 147, 146, 145, 144, 143, 136, 135, 134, 133, 132, 131, 130, 129, 128, 126, 125, 124, 123, 122, 121, 120, 108, 107, 106, 105, 104, 103, 101, 100] [(157, 23, 1), (157, 8, 1), (157, 7, 1), (157, 6, 1), (157, 5, 1), (157, 4, 1), (157, 3, 1), (142, 0, 1), (142, 1, 5), (142, 2, 0), (142, 3, lesF 5), (142, 4, greF 5), (141, 0, 1), (141, 1, 4), (141, 2, 0), (141, 3, lesF 4), (141, 4, greF 4), (140, 0, 1), (140, 1, 3), (140, 2, 0), (140, 3, lesF 3), (140, 4, greF 3), (139, 0, 1), (139, 1, 2), (139, 2, 0), (139, 3, lesF 2), (139, 4, greF 2), (138, 0, 1), (138, 1, 1), (138, 2, 0), (138, 3, lesF 1), (138, 4, greF 1), (137, 0, 1), (137, 1, 0), (137, 2, 0), (137, 3, lesF 0), (137, 4, greF 0), (127, 8, 1), (127, 7, 0), (127, 6, 0), (127, 5, 0), (127, 4, 0), (117, 0, 1), (117, 1, 5), (117, 2, 0), (117, 3, lesF 5), (117, 4, greF 5), (116, 0, 1), (116, 1, 4), (116, 2, 0), (116, 3, lesF 4), (116, 4, greF 4), (115, 0, 1), (115, 1, 3), (115, 2, 0), (115, 3, lesF 3), (115, 4, greF 3), (114, 0, 1), (114, 1, 2), (114, 2, 0), (114, 3, lesF 2), (114, 4, greF 2), (113, 0, 1), (113, 1, 1), (113, 2, 0), (113, 3, lesF 1), (113, 4, greF 1), (112, 0, 1), (112, 1, 0), (112, 2, 0), (112, 3, lesF 0), (112, 4, greF 0), (102, 8, 1), (102, 7, 0), (102, 6, 0), (102, 5, 0), (102, 4, 0)] K4 V4) (h118 : ∀ j, 0 ≤ j → j < 455 → V4 118 j = stF j) (h119 : ∀ j, 0 ≤ j → j < 2730 → V4 119 j = -2) (h6 : St6 dI 6 V4) (h157 : V4 157 = dI) : Inv 0 L g K4 V4 := by
  obtain ⟨b1, b2, b3, b4, b5, b6, b7⟩ := hB
  have z4 : ∀ c, c < 100 → V4 c = V0 c := fun c hc => by rw [(b6 c hc).2.2, hV1 c (by omega)]
  have k4 : ∀ c, c < 100 → K4.1 c = K0.1 c := fun c hc => by rw [(b6 c hc).1, hK1 c (by omega)]
  have r4 : ∀ c j, c < 100 → K4.2.1 c j = K0.2.1 c j := fun c j hc => by rw [(b6 c hc).2.1 j, hR1 c j (by omega)]
  have hL : Lay K4 := by
    have q1 : ∀ q ∈ layS, q ∈ ([(177, 1, 40), (176, 1, 160), (175, 1, 4), (174, 1, 4), (173, 1, 40), (172, 3, 2197), (171, 3, 2197), (170, 3, 2197), (169, 3, 2197), (168, 3, 2197), (167, 3, 2197), (166, 2, 2197), (165, 2, 2197), (164, 3, 2197), (163, 1, 2197), (162, 1, 2197), (161, 1, 18), (160, 1, 4), (159, 1, 6), (158, 1, 200), (157, 1, 200), (156, 22, 0), (155, 1, 6), (154, 1, 4), (153, 1, 40), (152, 15, 0), (151, 1, 40), (150, 15, 0), (149, 1, 40), (148, 15, 0), (147, 1, 40), (146, 15, 0), (145, 7, 4), (144, 1, 40), (143, 15, 0), (142, 19, 0), (141, 19, 0), (140, 19, 0), (139, 19, 0), (138, 19, 0), (137, 19, 0), (136, 1, 6), (135, 1, 6), (134, 1, 18), (133, 1, 20), (132, 15, 0), (131, 1, 50), (130, 15, 0), (129, 6, 2), (128, 5, 6), (127, 12, 0), (1, 1, 6), (2, 1, 6), (126, 2, 455), (125, 2, 455), (124, 1, 455), (123, 1, 455), (122, 1, 455), (121, 1, 455), (120, 1, 455), (119, 1, 2730), (118, 1, 455), (117, 19, 0), (116, 19, 0), (115, 19, 0), (114, 19, 0), (113, 19, 0), (112, 19, 0), (111, 1, 6), (110, 1, 6), (109, 1, 18), (108, 1, 20), (107, 15, 0), (106, 1, 50), (105, 15, 0), (104, 6, 2), (103, 5, 6), (102, 12, 0), (1, 1, 6), (2, 1, 6), (101, 16, 0), (1, 1, 6), (2, 1, 6), (3, 1, 3), (100, 21, 0), (1, 1, 6), (2, 1, 6), (3, 1, 3), (4, 1, 13), (5, 2, 6)] : List (Nat × Nat × Nat)) := by decide +kernel
    have q2 : ∀ q ∈ layR, q ∈ ([(156, 29, 177), (156, 28, 176), (156, 27, 175), (156, 26, 174), (156, 23, 173), (156, 22, 172), (156, 21, 171), (156, 20, 170), (156, 19, 169), (156, 18, 168), (156, 17, 167), (156, 16, 166), (156, 15, 165), (156, 14, 164), (156, 13, 163), (156, 12, 162), (156, 11, 161), (156, 10, 160), (156, 3, 159), (156, 1, 158), (156, 0, 157), (100, 6, 155), (100, 5, 154), (145, 3, 152), (152, 0, 153), (145, 2, 150), (150, 0, 151), (145, 1, 148), (148, 0, 149), (145, 0, 146), (146, 0, 147), (100, 4, 145), (100, 3, 143), (143, 0, 144), (100, 1, 127), (128, 5, 142), (128, 4, 141), (128, 3, 140), (128, 2, 139), (128, 1, 138), (128, 0, 137), (127, 11, 136), (127, 10, 135), (127, 9, 134), (127, 3, 132), (132, 0, 133), (127, 2, 130), (130, 0, 131), (127, 1, 129), (129, 0, 0), (129, 1, 0), (127, 0, 128), (100, 0, 102), (100, 2, 101), (101, 10, 126), (101, 9, 125), (101, 8, 124), (101, 7, 123), (101, 5, 122), (101, 4, 121), (101, 3, 120), (101, 2, 119), (101, 1, 118), (101, 0, 102), (103, 5, 117), (103, 4, 116), (103, 3, 115), (103, 2, 114), (103, 1, 113), (103, 0, 112), (102, 11, 111), (102, 10, 110), (102, 9, 109), (102, 3, 107), (107, 0, 108), (102, 2, 105), (105, 0, 106), (102, 1, 104), (104, 0, 0), (104, 1, 0), (102, 0, 103)] : List (Nat × Int × Nat)) := by decide +kernel
    exact ⟨fun q hq => b2 q (q1 q hq), fun q hq => b3 q (q2 q hq), Or.inl ⟨(b3 (101, 7, 123) (List.mem_of_getElem? (i := 57) rfl)), (b3 (101, 8, 124) (List.mem_of_getElem? (i := 56) rfl))⟩, Or.inl ⟨(b3 (101, 9, 125) (List.mem_of_getElem? (i := 55) rfl)), (b3 (101, 10, 126) (List.mem_of_getElem? (i := 54) rfl))⟩, by rw [b1]; decide⟩
  have hFr : Fr K4 := fun c hc => by
    rw [b1] at hc
    rw [b7 c hc, hK1 c (by omega)]
    exact hF c (by omega)
  have hSS : SS K4 V4 := by
    intro k hk7
    obtain ⟨⟨s1, s2, s3, s4, s5, s6, s7⟩, s8⟩ := hS k hk7
    rw [← z4 (20 + k) (by omega)] at s7 s8
    exact ⟨⟨by rw [k4 _ (by omega)]; exact s1, by rw [z4 _ (by omega)]; exact s2, by rw [r4 _ _ (by omega)]; exact s3, by rw [k4 _ (by omega)]; exact s4, s5, s6, s7⟩, s8⟩
  obtain ⟨c6, _⟩ := h6
  have hwF : wfF dI := dI_W.1.1.2.2.1
  have hf0 : fS dI = 0 := by decide
  have hTI : ∀ u, K4.2.1 (102 + 2) u = 0 → dI (26 + u) = 0 → TI K4 V4 (102 + 2) dI u := fun u h1 h2 => Or.inl ⟨h1, h2⟩
  have hLT : LTA K4 V4 102 dI := by
    refine ⟨fun p hp => ?_, hTI 0 (b3 (104, 0, 0) (List.mem_of_getElem? (i := 78) rfl)) (by decide), hTI 1 (b3 (104, 1, 0) (List.mem_of_getElem? (i := 79) rfl)) (by decide)⟩
    obtain ⟨z1, z2⟩ := dI_3 p hp
    rw [z1, z2]
    clear z1 z2
    show LawA K4 V4 (K4.2.1 103 p) p 1 0
    rcases (show p = 0 ∨ p = 1 ∨ p = 2 ∨ p = 3 ∨ p = 4 ∨ p = 5 by omega) with z | z | z | z | z | z <;> subst z
    · rw [(b3 (103, 0, 112) (List.mem_of_getElem? (i := 69) rfl))]
      exact ⟨congrArg Prod.fst (b2 (112, 19, 0) (List.mem_of_getElem? (i := 67) rfl)), (b5 (112, 0, 1) (List.mem_of_getElem? (i := 67) rfl)), (b5 (112, 1, 0) (List.mem_of_getElem? (i := 68) rfl)), (b5 (112, 2, 0) (List.mem_of_getElem? (i := 69) rfl)), (b5 (112, 3, lesF 0) (List.mem_of_getElem? (i := 70) rfl)), (b5 (112, 4, greF 0) (List.mem_of_getElem? (i := 71) rfl)), Or.inl ⟨by decide, by decide⟩⟩
    · rw [(b3 (103, 1, 113) (List.mem_of_getElem? (i := 68) rfl))]
      exact ⟨congrArg Prod.fst (b2 (113, 19, 0) (List.mem_of_getElem? (i := 66) rfl)), (b5 (113, 0, 1) (List.mem_of_getElem? (i := 62) rfl)), (b5 (113, 1, 1) (List.mem_of_getElem? (i := 63) rfl)), (b5 (113, 2, 0) (List.mem_of_getElem? (i := 64) rfl)), (b5 (113, 3, lesF 1) (List.mem_of_getElem? (i := 65) rfl)), (b5 (113, 4, greF 1) (List.mem_of_getElem? (i := 66) rfl)), Or.inl ⟨by decide, by decide⟩⟩
    · rw [(b3 (103, 2, 114) (List.mem_of_getElem? (i := 67) rfl))]
      exact ⟨congrArg Prod.fst (b2 (114, 19, 0) (List.mem_of_getElem? (i := 65) rfl)), (b5 (114, 0, 1) (List.mem_of_getElem? (i := 57) rfl)), (b5 (114, 1, 2) (List.mem_of_getElem? (i := 58) rfl)), (b5 (114, 2, 0) (List.mem_of_getElem? (i := 59) rfl)), (b5 (114, 3, lesF 2) (List.mem_of_getElem? (i := 60) rfl)), (b5 (114, 4, greF 2) (List.mem_of_getElem? (i := 61) rfl)), Or.inl ⟨by decide, by decide⟩⟩
    · rw [(b3 (103, 3, 115) (List.mem_of_getElem? (i := 66) rfl))]
      exact ⟨congrArg Prod.fst (b2 (115, 19, 0) (List.mem_of_getElem? (i := 64) rfl)), (b5 (115, 0, 1) (List.mem_of_getElem? (i := 52) rfl)), (b5 (115, 1, 3) (List.mem_of_getElem? (i := 53) rfl)), (b5 (115, 2, 0) (List.mem_of_getElem? (i := 54) rfl)), (b5 (115, 3, lesF 3) (List.mem_of_getElem? (i := 55) rfl)), (b5 (115, 4, greF 3) (List.mem_of_getElem? (i := 56) rfl)), Or.inl ⟨by decide, by decide⟩⟩
    · rw [(b3 (103, 4, 116) (List.mem_of_getElem? (i := 65) rfl))]
      exact ⟨congrArg Prod.fst (b2 (116, 19, 0) (List.mem_of_getElem? (i := 63) rfl)), (b5 (116, 0, 1) (List.mem_of_getElem? (i := 47) rfl)), (b5 (116, 1, 4) (List.mem_of_getElem? (i := 48) rfl)), (b5 (116, 2, 0) (List.mem_of_getElem? (i := 49) rfl)), (b5 (116, 3, lesF 4) (List.mem_of_getElem? (i := 50) rfl)), (b5 (116, 4, greF 4) (List.mem_of_getElem? (i := 51) rfl)), Or.inl ⟨by decide, by decide⟩⟩
    · rw [(b3 (103, 5, 117) (List.mem_of_getElem? (i := 64) rfl))]
      exact ⟨congrArg Prod.fst (b2 (117, 19, 0) (List.mem_of_getElem? (i := 62) rfl)), (b5 (117, 0, 1) (List.mem_of_getElem? (i := 42) rfl)), (b5 (117, 1, 5) (List.mem_of_getElem? (i := 43) rfl)), (b5 (117, 2, 0) (List.mem_of_getElem? (i := 44) rfl)), (b5 (117, 3, lesF 5) (List.mem_of_getElem? (i := 45) rfl)), (b5 (117, 4, greF 5) (List.mem_of_getElem? (i := 46) rfl)), Or.inl ⟨by decide, by decide⟩⟩
  have hSrP : SrP K4 V4 (comF dI) (fS dI) := by
    refine ⟨hL, ?_, ?_, comF_wf dI_K, fS_r hwF, ⟨by rw [hf0]; exact (b5 (102, 5, 0) (List.mem_of_getElem? (i := 75) rfl)), fun p hp => (c6 p hp).2⟩, fun q hq => h118 q hq.1 hq.2, fun q p hq hp => Or.inl (h119 _ (by omega) (by omega))⟩
    · unfold SV; rw [z4 1 (by decide), z4 2 (by decide), z4 3 (by decide)]; exact hV
    · unfold SV2; rw [z4 4 (by decide), z4 5 (by decide)]; exact hV2
  have hCh : ChD V4 (comF dI) := fun p hp => by
    have a := (c6 p hp).1
    have a0 := a 0 (by decide)
    rw [Int.add_zero] at a0
    exact ⟨a0, a 1 (by decide), a 2 (by decide)⟩
  have hsc : SCA V4 102 dI := by
    refine ⟨(b5 (102, 4, 0) (List.mem_of_getElem? (i := 76) rfl)), (by rw [hf0]; exact (b5 (102, 5, 0) (List.mem_of_getElem? (i := 75) rfl))), (b5 (102, 6, 0) (List.mem_of_getElem? (i := 74) rfl)), (b5 (102, 7, 0) (List.mem_of_getElem? (i := 73) rfl)), (b5 (102, 8, 1) (List.mem_of_getElem? (i := 72) rfl)), (b4 105 (List.mem_of_getElem? (i := 53) rfl)) 1, fun i i0 i1 => by rw [show dI 24 = 0 by decide] at i1; omega, (b4 107 (List.mem_of_getElem? (i := 51) rfl)) 1, fun i i0 i1 => by rw [show dI 25 = 0 by decide] at i1; omega⟩
  have e5 : V4 155 = V4 159 := funext fun j => by rw [(b4 155 (List.mem_of_getElem? (i := 21) rfl)) j, (b4 159 (List.mem_of_getElem? (i := 18) rfl)) j]
  refine ⟨dI, V4 158, 0, V4 155, ⟨⟨hFr, hSS, hSrP, hCh, hLT, (b4 100 (List.mem_of_getElem? (i := 57) rfl)) 7, fun z => absurd z (by decide), rfl⟩, hsc⟩, ⟨h157, rfl, (b4 156 (List.mem_of_getElem? (i := 20) rfl)) 2, e5.symm, fun j _ => (b4 161 (List.mem_of_getElem? (i := 16) rfl)) j⟩, dI_W.1, dI_W.2, fun j _ => (b4 158 (List.mem_of_getElem? (i := 19) rfl)) j, fun z => absurd z (by decide), ⟨by decide, by decide⟩, ⟨by rw [(b4 143 (List.mem_of_getElem? (i := 33) rfl)) 1, (b4 156 (List.mem_of_getElem? (i := 20) rfl)) 24], by rw [(b4 156 (List.mem_of_getElem? (i := 20) rfl)) 24]; decide, fun i i0 i1 => by rw [(b4 156 (List.mem_of_getElem? (i := 20) rfl)) 24] at i1; omega⟩, ⟨funext fun j => by rw [(b4 154 (List.mem_of_getElem? (i := 22) rfl)) j, (b4 174 (List.mem_of_getElem? (i := 3) rfl)) j], fun s s0 s1 => ?_⟩, by rw [k4 30 (by decide)]; exact h30, by rw [z4 30 (by decide)]; exact hg⟩
  have hz : ∀ c, 146 ≤ c → c ≤ 153 → ∀ j, V4 c j = 0 := fun c z1 z2 j => by
    rcases (show c = 146 ∨ c = 147 ∨ c = 148 ∨ c = 149 ∨ c = 150 ∨ c = 151 ∨ c = 152 ∨ c = 153 by omega) with z | z | z | z | z | z | z | z <;> subst z
    · exact (b4 146 (List.mem_of_getElem? (i := 30) rfl)) j
    · exact (b4 147 (List.mem_of_getElem? (i := 29) rfl)) j
    · exact (b4 148 (List.mem_of_getElem? (i := 28) rfl)) j
    · exact (b4 149 (List.mem_of_getElem? (i := 27) rfl)) j
    · exact (b4 150 (List.mem_of_getElem? (i := 26) rfl)) j
    · exact (b4 151 (List.mem_of_getElem? (i := 25) rfl)) j
    · exact (b4 152 (List.mem_of_getElem? (i := 24) rfl)) j
    · exact (b4 153 (List.mem_of_getElem? (i := 23) rfl)) j
  have hA := shA_r ⟨s0, s1⟩
  rw [(b4 174 (List.mem_of_getElem? (i := 3) rfl)) s, (b4 175 (List.mem_of_getElem? (i := 2) rfl)) s, hz (shA s) (by omega) (by omega) 1]
  exact ⟨Or.inl rfl, rfl, by decide, fun i i0 i1 => by omega⟩
theorem law_body {γ : Gh} {L : Nat} {g : Int → Int} {K : Sk} {V : Mm} (hg : ∀ j, R32 (g j)) (hLb : L ≤ 384) (hF : Fr K) (hN : K.2.2 = 100) (hS : SS K V) (hV : SV V) (hV2 : SV2 V) (h30 : K.1 30 = (1, L)) (h30v : V 30 = g) (h1 : K.1 1 = (1, 6)) (h2 : K.1 2 = (1, 6)) (h3 : K.1 3 = (1, 3)) (h4 : K.1 4 = (1, 13)) (h5 : K.1 5 = (2, 6)) : Ev γ M_L_law 60 338 38814 0 [vR 30, vU, vU, vU] [] K V (fun r _ _ => r = some (vI 1)) := by
  refine ev_new (X := M_L_law) (pc := 0) (mc := 337) (ms := 38806) (ci := 11) dL_law_0 rfl kw_23 kw_24 kw_1 ?_
  show Ev _ _ _ _ _ _ _ _ (nwK K 21 0) _ _
  rw [hN]
  obtain ⟨K1, hK1⟩ : ∃ x, nwK K 21 0 = x := ⟨_, rfl⟩
  obtain ⟨V1, hV1⟩ : ∃ x, nwV K V = x := ⟨_, rfl⟩
  have a1 : K1.1 100 = (21, 0) := by rw [← hK1, ← hN]; exact nwK_new
  have a2 : ∀ c, c ≠ 100 → K1.1 c = K.1 c := fun c z => by rw [← hK1]; exact nwK_old (by rw [hN]; exact z)
  have a3 : ∀ c j, c ≠ 100 → K1.2.1 c j = K.2.1 c j := fun c j z => by rw [← hK1]; exact nwK_ref (by rw [hN]; exact z)
  have a4 : K1.2.2 = 101 := by rw [← hK1]; show K.2.2 + 1 = 101; rw [hN]
  have a5 : ∀ c, c ≠ 100 → V1 c = V c := fun c z => by rw [← hV1]; exact nwV_old (by rw [hN]; exact z)
  have a6 : ∀ j, V1 100 j = 0 := fun j => by rw [← hV1]; unfold nwV; rw [hN, setr_self]
  have hV1s : SV V1 := by unfold SV; rw [a5 1 (by decide), a5 2 (by decide), a5 3 (by decide)]; exact hV
  rw [hK1, hV1]
  clear hK1 hV1
  refine ev_dup (X := M_L_law) (pc := 3) dL_law_3 (fun _ q => by cases q) ?_
  refine ev_initH (X := M_L_law) (Y := M_X11_init) (pc := 4) dL_law_4 mk_X11_init rfl rfl kw_25 kw_26 (by decide) (c_Green_init a1 (by rw [a2 1 (by decide)]; exact h1) (by rw [a2 2 (by decide)]; exact h2) (by rw [a2 3 (by decide)]; exact h3) (by rw [a2 4 (by decide)]; exact h4) (by rw [a2 5 (by decide)]; exact h5) hV1s a4 a6) rfl (by decide) rfl (Nat.le_of_ble_eq_true rfl) (show 55 + 282 = 337 from rfl) (show 6913 + 31893 = 38806 from rfl) (fun K2 V2 hX => ?_)
  obtain ⟨hB, h118, h119, h6⟩ := hX
  refine ev_astore_nL (X := M_L_law) (pc := 7) (ls' := [_, _, _, _]) dL_law_7 (by decide) rfl ?_
  refine ev_new (X := M_L_law) (pc := 8) (mc := 281) (ms := 31863) (ci := 12) dL_law_8 rfl kw_986 kw_987 kw_10 ?_
  show Ev _ _ _ _ _ _ _ _ (nwK K2 22 0) _ _
  have eN := hB.1
  rw [eN]
  have hB := hB.new (k := 22) (n := 0) (by decide) (by decide) (by decide) (by decide) (by decide)
  obtain ⟨K3, hK3⟩ : ∃ x, nwK K2 22 0 = x := ⟨_, rfl⟩
  obtain ⟨V3, hV3⟩ : ∃ x, nwV K2 V2 = x := ⟨_, rfl⟩
  have c5 : ∀ c, c ≠ 156 → V3 c = V2 c := fun c z => by rw [← hV3]; exact nwV_old (by rw [eN]; exact z)
  rw [hK3, hV3] at hB ⊢
  clear hK3 hV3 eN
  refine ev_dup (X := M_L_law) (pc := 11) dL_law_11 (fun _ q => by cases q) ?_
  refine ev_initH (X := M_L_law) (Y := M_X12_init) (pc := 12) dL_law_12 mk_X12_init rfl rfl kw_988 kw_989 (by decide) (c_Model_init (hB.2.1 (156, 22, 0) (List.mem_of_getElem? (i := 0) rfl)) hB.1 (hB.2.2.2.1 156 (List.mem_of_getElem? (i := 0) rfl))) rfl (by decide) rfl (Nat.le_of_ble_eq_true rfl) (show 21 + 260 = 281 from rfl) (show 24843 + 7020 = 31863 from rfl) (fun K4 V4 hX => ?_)
  obtain ⟨hI, h157⟩ := hX
  have d5 : ∀ c, c < 156 → V4 c = V2 c := fun c z => by rw [(hI.2.2.2.2.2.1 c z).2.2, c5 c (by omega)]
  have hB := hB.join (S1 := [(155, 1, 6), (154, 1, 4), (153, 1, 40), (152, 15, 0), (151, 1, 40), (150, 15, 0), (149, 1, 40), (148, 15, 0), (147, 1, 40), (146, 15, 0), (145, 7, 4), (144, 1, 40), (143, 15, 0), (142, 19, 0), (141, 19, 0), (140, 19, 0), (139, 19, 0), (138, 19, 0), (137, 19, 0), (136, 1, 6), (135, 1, 6), (134, 1, 18), (133, 1, 20), (132, 15, 0), (131, 1, 50), (130, 15, 0), (129, 6, 2), (128, 5, 6), (127, 12, 0), (1, 1, 6), (2, 1, 6), (126, 2, 455), (125, 2, 455), (124, 1, 455), (123, 1, 455), (122, 1, 455), (121, 1, 455), (120, 1, 455), (119, 1, 2730), (118, 1, 455), (117, 19, 0), (116, 19, 0), (115, 19, 0), (114, 19, 0), (113, 19, 0), (112, 19, 0), (111, 1, 6), (110, 1, 6), (109, 1, 18), (108, 1, 20), (107, 15, 0), (106, 1, 50), (105, 15, 0), (104, 6, 2), (103, 5, 6), (102, 12, 0), (1, 1, 6), (2, 1, 6), (101, 16, 0), (1, 1, 6), (2, 1, 6), (3, 1, 3), (100, 21, 0), (1, 1, 6), (2, 1, 6), (3, 1, 3), (4, 1, 13), (5, 2, 6)]) (R1 := [(100, 6, 155), (100, 5, 154), (145, 3, 152), (152, 0, 153), (145, 2, 150), (150, 0, 151), (145, 1, 148), (148, 0, 149), (145, 0, 146), (146, 0, 147), (100, 4, 145), (100, 3, 143), (143, 0, 144), (100, 1, 127), (128, 5, 142), (128, 4, 141), (128, 3, 140), (128, 2, 139), (128, 1, 138), (128, 0, 137), (127, 11, 136), (127, 10, 135), (127, 9, 134), (127, 3, 132), (132, 0, 133), (127, 2, 130), (130, 0, 131), (127, 1, 129), (129, 0, 0), (129, 1, 0), (127, 0, 128), (100, 0, 102), (100, 2, 101), (101, 10, 126), (101, 9, 125), (101, 8, 124), (101, 7, 123), (101, 5, 122), (101, 4, 121), (101, 3, 120), (101, 2, 119), (101, 1, 118), (101, 0, 102), (103, 5, 117), (103, 4, 116), (103, 3, 115), (103, 2, 114), (103, 1, 113), (103, 0, 112), (102, 11, 111), (102, 10, 110), (102, 9, 109), (102, 3, 107), (107, 0, 108), (102, 2, 105), (105, 0, 106), (102, 1, 104), (104, 0, 0), (104, 1, 0), (102, 0, 103)]) (Z1 := [155, 154, 153, 152, 151, 150, 149, 148, 147, 146, 145, 144, 143, 136, 135, 134, 133, 132, 131, 130, 129, 128, 126, 125, 124, 123, 122, 121, 120, 108, 107, 106, 105, 104, 103, 101, 100]) (F1 := [(142, 0, 1), (142, 1, 5), (142, 2, 0), (142, 3, lesF 5), (142, 4, greF 5), (141, 0, 1), (141, 1, 4), (141, 2, 0), (141, 3, lesF 4), (141, 4, greF 4), (140, 0, 1), (140, 1, 3), (140, 2, 0), (140, 3, lesF 3), (140, 4, greF 3), (139, 0, 1), (139, 1, 2), (139, 2, 0), (139, 3, lesF 2), (139, 4, greF 2), (138, 0, 1), (138, 1, 1), (138, 2, 0), (138, 3, lesF 1), (138, 4, greF 1), (137, 0, 1), (137, 1, 0), (137, 2, 0), (137, 3, lesF 0), (137, 4, greF 0), (127, 8, 1), (127, 7, 0), (127, 6, 0), (127, 5, 0), (127, 4, 0), (117, 0, 1), (117, 1, 5), (117, 2, 0), (117, 3, lesF 5), (117, 4, greF 5), (116, 0, 1), (116, 1, 4), (116, 2, 0), (116, 3, lesF 4), (116, 4, greF 4), (115, 0, 1), (115, 1, 3), (115, 2, 0), (115, 3, lesF 3), (115, 4, greF 3), (114, 0, 1), (114, 1, 2), (114, 2, 0), (114, 3, lesF 2), (114, 4, greF 2), (113, 0, 1), (113, 1, 1), (113, 2, 0), (113, 3, lesF 1), (113, 4, greF 1), (112, 0, 1), (112, 1, 0), (112, 2, 0), (112, 3, lesF 0), (112, 4, greF 0), (102, 8, 1), (102, 7, 0), (102, 6, 0), (102, 5, 0), (102, 4, 0)]) hI (by decide) (by decide) (by decide +kernel) (by decide +kernel) (by decide +kernel) (by decide +kernel)
  have h6 : St6 dI 6 V4 := by unfold St6 at h6 ⊢; rw [d5 109 (by decide), d5 110 (by decide), d5 111 (by decide)]; exact h6
  have hInv : Inv 0 L g K4 V4 := inv_start hF hN hS hV hV2 h30 h30v a2 a3 a5 hB (fun j j0 j1 => by rw [d5 118 (by decide)]; exact h118 j j0 j1) (fun j j0 j1 => by rw [d5 119 (by decide)]; exact h119 j j0 j1) h6 h157
  clear hB hI h6
  refine ev_astore_nL (X := M_L_law) (pc := 15) (ls' := [_, _, _, _]) dL_law_15 (by decide) rfl ?_
  refine ev_iconst (X := M_L_law) (pc := 16) dL_law_16 ?_
  refine ev_istore_nL (X := M_L_law) (pc := 17) (ls' := [_, _, _, _]) dL_law_17 (by decide) rfl ?_
  exact ev_weak (ev_less (law_loop hg hLb 65 0 0 K4 V4 (by decide) (by decide) (by omega) (by decide) hInv) (by decide) (by decide)) ⟨rfl, rfl, rfl, rfl, trivial⟩
