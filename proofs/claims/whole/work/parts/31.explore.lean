/-- the class's rows hold the search -/
def CE (W : Mm) (B : BS) : Prop := W 101 6 = B.2.2.1 ∧ (∀ i, 0 ≤ i ∧ i < B.2.2.1 → W 120 i = pl (B.2.1 i)) ∧ (∀ q, 0 ≤ q ∧ q < 455 → W 121 q = B.1 (stF q)) ∧ ∀ i, 1 ≤ i ∧ i < B.2.2.1 → W 122 (pl (B.2.1 i)) = 6 * pl (B.2.1 (B.2.2.2 (B.2.1 i) / 6)) + B.2.2.2 (B.2.1 i) % 6
def fr5 (V W : Mm) : Prop := ∀ c, c ≠ 101 → c ≠ 119 → c ≠ 120 → c ≠ 121 → c ≠ 122 → W c = V c
theorem SrP.fr {K : Sk} {V W : Mm} {C : Int → Int} {F : Int} (h : SrP K V C F) (hf : fr5 V W) (hO : COk C F (W 119)) : SrP K W C F := by
  obtain ⟨hL, hV, hV2, hC, hF, hD, hS, -⟩ := h
  have e : ∀ c, c ≠ 101 ∧ c ≠ 119 ∧ c ≠ 120 ∧ c ≠ 121 ∧ c ≠ 122 → W c = V c := fun c hc => hf c hc.1 hc.2.1 hc.2.2.1 hc.2.2.2.1 hc.2.2.2.2
  refine ⟨hL, ?_, ?_, hC, hF, ?_, ?_, hO⟩
  · unfold SV
    rw [e 1 (by decide), e 2 (by decide), e 3 (by decide)]
    exact hV
  · unfold SV2
    rw [e 4 (by decide), e 5 (by decide)]
    exact hV2
  · unfold IslD
    rw [e 102 (by decide), e 110 (by decide), e 111 (by decide)]
    exact hD
  · rw [e 118 (by decide)]
    exact hS
theorem CE_step {W : Mm} {B : BS} {C : Int → Int} {F s0 e : Int} (hI : BI s0 B) (hO : BO C F s0 e B) (h : CE W B) (hc : bc C F e B) (hv : isSt (bv C F e B)) (he : 0 ≤ e) : CE (fnd W (pl (bv C F e B)) (B.1 (B.2.1 (e / 6)) + 1) (pl (B.2.1 (e / 6)) * 6 + e % 6)) (bStep C F e B) := by
  rw [bStep_yes hc]
  obtain ⟨c1, c2, c3⟩ := hc
  obtain ⟨h1, h2, h3, h4⟩ := h
  generalize bv C F e B = v at *
  have hnv : ∀ i, 0 ≤ i ∧ i < B.2.2.1 → B.2.1 i ≠ v := fun i hi q => by
    have := (hI.2.2.1 i hi).1
    rw [q, c3] at this
    omega
  have hn1 := hI.1
  have r120 : fnd W (pl v) (B.1 (B.2.1 (e / 6)) + 1) (pl (B.2.1 (e / 6)) * 6 + e % 6) 120 = up (W 120) (W 101 6) (pl v) := by
    unfold fnd
    rw [wr_off (by decide), wr_row, wr_off (by decide), wr_off (by decide)]
  have r121 : fnd W (pl v) (B.1 (B.2.1 (e / 6)) + 1) (pl (B.2.1 (e / 6)) * 6 + e % 6) 121 = up (W 121) (pl v) (B.1 (B.2.1 (e / 6)) + 1) := by
    unfold fnd
    rw [wr_off (by decide), wr_off (by decide), wr_off (by decide), wr_row]
  have r122 : fnd W (pl v) (B.1 (B.2.1 (e / 6)) + 1) (pl (B.2.1 (e / 6)) * 6 + e % 6) 122 = up (W 122) (pl v) (pl (B.2.1 (e / 6)) * 6 + e % 6) := by
    unfold fnd
    rw [wr_off (by decide), wr_off (by decide), wr_row, wr_off (by decide)]
  have r101 : fnd W (pl v) (B.1 (B.2.1 (e / 6)) + 1) (pl (B.2.1 (e / 6)) * 6 + e % 6) 101 6 = W 101 6 + 1 := by
    unfold fnd
    rw [wr_row, up_self]
  refine ⟨?_, fun i hi => ?_, fun q hq => ?_, fun i hi => ?_⟩
  · rw [r101, h1]
  · show fnd W _ _ _ 120 i = pl (up B.2.1 B.2.2.1 v i)
    have hi2 : i < B.2.2.1 + 1 := hi.2
    rw [r120, h1]
    by_cases q : i = B.2.2.1
    · rw [q, up_self, up_self]
    · rw [up_ne q, up_ne q, h2 i ⟨hi.1, by omega⟩]
  · show fnd W _ _ _ 121 q = up B.1 v _ (stF q)
    rw [r121]
    by_cases z : q = pl v
    · rw [z, up_self, (pl_st hv).2.2, up_self]
    · rw [up_ne z, up_ne (fun y => z (by rw [← y, (stF_at hq).2])), h3 q hq]
  · show fnd W _ _ _ 122 (pl (up B.2.1 B.2.2.1 v i)) = 6 * pl (up B.2.1 B.2.2.1 v (up B.2.2.2 v e (up B.2.1 B.2.2.1 v i) / 6)) + up B.2.2.2 v e (up B.2.1 B.2.2.1 v i) % 6
    have hi2 : i < B.2.2.1 + 1 := hi.2
    rw [r122]
    by_cases q : i = B.2.2.1
    · rw [q, up_self, up_self, up_self, up_ne (show e / 6 ≠ B.2.2.1 by omega)]
      omega
    · have hi3 : 0 ≤ i ∧ i < B.2.2.1 := ⟨by omega, by omega⟩
      have ho := (hO.1 i ⟨hi.1, by omega⟩).2.2.1
      rw [up_ne q, up_ne (fun z => hnv i hi3 (pl_inj (hI.2.1 i hi3) hv z)), up_ne (hnv i hi3), up_ne (show B.2.2.2 (B.2.1 i) / 6 ≠ B.2.2.1 by omega), h4 i ⟨hi.1, by omega⟩]
theorem fr5_fnd {V W : Mm} {q far by' : Int} (h : fr5 V W) : fr5 V (fnd W q far by') := by
  intro c g1 g2 g3 g4 g5
  unfold fnd
  rw [wr_off g1, wr_off g3, wr_off g5, wr_off g4]
  exact h c g1 g2 g3 g4 g5
theorem fnd_119 {W : Mm} {q far by' : Int} : fnd W q far by' 119 = W 119 := by
  unfold fnd
  rw [wr_off (by decide), wr_off (by decide), wr_off (by decide), wr_off (by decide)]
theorem CE.o119 {V W : Mm} {B : BS} (h : CE V B) (hf : fr1 119 V W) : CE W B := by
  unfold CE
  rw [hf 101 (by decide), hf 120 (by decide), hf 121 (by decide), hf 122 (by decide)]
  exact h
theorem fr5.o119 {U V W : Mm} (h : fr5 U V) (hf : fr1 119 V W) : fr5 U W := fun c g1 g2 g3 g4 g5 => by rw [hf c g2]; exact h c g1 g2 g3 g4 g5
theorem c_explore {γ : Gh} {K : Sk} {V : Mm} {C : Int → Int} {F s0 : Int} (h : SrP K V C F) (hs : isSt s0) (hn : V 102 4 = s0) : Call γ M_X6_explore 4 0 0 [vR 101] K V (Qx none K (fun W => CE W (bF C F s0) ∧ COk C F (W 119) ∧ fr5 V W)) := by
  refine call_of (by decide +kernel) (by intro v hv; simp only [List.mem_cons, List.not_mem_nil, or_false] at hv; rcases hv with rfl <;> exact fun q => by cases q) (Nat.le_of_ble_eq_true rfl) ?_
  refine ev_lsE (ls' := [_, _, _, _, _]) rfl ?_
  have hL := h.1
  have hV := h.2.1
  have hC := h.2.2.2.1
  have hs' := isSt_lt hs
  obtain ⟨p0, p1, p2⟩ := pl_st hs
  refine ev_aload_n (X := M_X6_explore) (pc := 0) dX6_explore_0 rfl ?_
  refine ev_getRe (X := M_X6_explore) (pc := 1) dX6_explore_1 fl_X6_28_6 (lO_101 hL) rfl (lR_101_4 hL) ?_
  refine ev_iconst (X := M_X6_explore) (pc := 4) dX6_explore_4 ?_
  refine ev_staticV (X := M_X6_explore) (Y := M_J7_fill_53178) (pc := 5) dX6_explore_5 mk_J7_fill_53178 kw_184 kw_185 (c_fillI (by decide) (lS_121 hL) (by decide)) rfl (by decide) rfl (Nat.le_of_ble_eq_true rfl) (Nat.zero_add _) (Nat.zero_add _) ?_
  refine ev_aload_n (X := M_X6_explore) (pc := 8) dX6_explore_8 rfl ?_
  refine ev_iconst (X := M_X6_explore) (pc := 9) dX6_explore_9 ?_
  refine ev_putI (X := M_X6_explore) (pc := 10) (ki := 6) dX6_explore_10 fl_X6_74_6 (by decide) (lO_101 hL) (fun _ h q => by cases h; cases q) (Or.inl rfl) rfl ?_
  refine ev_aload_n (X := M_X6_explore) (pc := 13) dX6_explore_13 rfl ?_
  refine ev_aload_n (X := M_X6_explore) (pc := 14) dX6_explore_14 rfl ?_
  refine ev_getRe (X := M_X6_explore) (pc := 15) dX6_explore_15 fl_X6_12_6 (lO_101 hL) rfl (lR_101_0 hL) ?_
  refine ev_getIe (X := M_X6_explore) (pc := 18) (ki := 4) dX6_explore_18 fl_X6_78_2 (lO_102 hL) (by decide) rfl (show _ = s0 from hn) ?_
  refine ev_staticR (X := M_X6_explore) (Y := M_X6_placeOf) (pc := 21) dX6_explore_21 mk_X6_placeOf kw_659 kw_660 (c_placeOf (V := wr (setr V 121 (flr (V 121) 455 (-1))) 101 6 0) hL hV h.2.2.1 hs') rfl (by decide) rfl (Nat.le_of_ble_eq_true rfl) (Nat.zero_add _) (Nat.zero_add _) ?_
  refine ev_iconst (X := M_X6_explore) (pc := 24) dX6_explore_24 ?_
  refine ev_iconst (X := M_X6_explore) (pc := 25) dX6_explore_25 ?_
  refine ev_virtV (X := M_X6_explore) (Y := M_X6_find) (pc := 26) (ci := 6) dX6_explore_26 mk_X6_find rfl kw_665 kw_666 kw_667 (lO_101 hL) (c_find hL ⟨p0, p1⟩ (by show 0 ≤ (0 : Int) ∧ (0 : Int) < 455; decide)) rfl (by decide) rfl (Nat.le_of_ble_eq_true rfl) (Nat.zero_add _) (Nat.zero_add _) ?_
  refine ev_iconst (X := M_X6_explore) (pc := 29) dX6_explore_29 ?_
  refine ev_istore_nL (X := M_X6_explore) (pc := 30) (ls' := [_, _, _, _, _]) dX6_explore_30 (by decide) rfl ?_
  generalize hW0 : fnd (wr (setr V 121 (flr (V 121) 455 (-1))) 101 6 0) (pl s0) 0 (-1) = W0
  refine ev_weak (ev_while (σ := Int × Mm) (fun s => 0 ≤ s.1 ∧ s.1 ≤ 455 ∧ CE s.2 (bi C F s0 (6 * s.1)) ∧ COk C F (s.2 119) ∧ fr5 V s.2) (fun s => (455 - s.1).toNat) (fun s => [vR 101, vI s.1, vU, vU, vU]) (fun _ => K) (fun s => s.2) ?_ (0, W0) ⟨Int.le_refl 0, by show (0 : Int) ≤ 455; decide, ?_, ?_, ?_⟩) ⟨rfl, rfl, trivial⟩
  rotate_left
  · subst hW0
    refine ⟨rfl, fun i hi => ?_, fun q hq => ?_, fun i hi => ?_⟩
    · have hi2 : i < 1 := hi.2
      have hi1 : 0 ≤ i := hi.1
      rw [show i = 0 by omega]
      show fnd (wr (setr V 121 (flr (V 121) 455 (-1))) 101 6 0) (pl s0) 0 (-1) 120 0 = pl s0
      unfold fnd
      rw [wr_off (by decide), wr_row]
      show up _ 0 _ 0 = _
      rw [up_self]
    · show fnd (wr (setr V 121 (flr (V 121) 455 (-1))) 101 6 0) (pl s0) 0 (-1) 121 q = if stF q = s0 then 0 else -1
      unfold fnd
      rw [wr_off (by decide), wr_off (by decide), wr_off (by decide), wr_row]
      by_cases z : q = pl s0
      · rw [z, up_self, p2, if_pos rfl]
      · rw [up_ne z, if_neg (fun y => z (by rw [← y, (stF_at hq).2])), wr_off (by decide), setr_self]
        unfold flr
        rw [if_pos (by omega)]
    · have hi2 : i < 1 := hi.2
      omega
  · subst hW0
    show COk C F (fnd (wr (setr V 121 (flr (V 121) 455 (-1))) 101 6 0) (pl s0) 0 (-1) 119)
    rw [fnd_119, wr_off (by decide), setr_ne (by decide)]
    exact h.2.2.2.2.2.2.2
  · subst hW0
    refine fr5_fnd (fun c g1 g2 g3 g4 g5 => ?_)
    rw [wr_off g1, setr_ne g4]
  rintro ⟨k, W⟩ ⟨hk0, hk1, hE, hO, hfr⟩ ih
  dsimp only at hk0 hk1 hE hO hfr ih ⊢
  have hI0 := bi_I (e := 6 * k) (F := F) hC hs
  have hn0 := hI0.n_le
  have hn1 := hI0.1
  refine ev_iload_n (X := M_X6_explore) (pc := 31) dX6_explore_31 rfl ?_
  refine ev_aload_n (X := M_X6_explore) (pc := 32) dX6_explore_32 rfl ?_
  refine ev_getIe (X := M_X6_explore) (pc := 33) (ki := 6) dX6_explore_33 fl_X6_74_6 (lO_101 hL) (by decide) rfl (hE.1) ?_
  refine ev_icmp_ge (X := M_X6_explore) (pc := 36) (tgt := 118) dX6_explore_36 (by decide) (by omega) (by omega) (fun h36 => ?_) (fun h36 => ?_)
  · refine ev_vret (X := M_X6_explore) (pc := 118) dX6_explore_118 rfl ?_
    first
      | (exfalso; omega)
      | (have e6 := bi_end (C := C) (F := F) (s0 := s0) ⟨hk0, hk1⟩ (by omega)
         rw [e6] at hE
         exact ⟨rfl, rfl, hE, hO, hfr⟩)
  · refine ev_iload_n (X := M_X6_explore) (pc := 39) dX6_explore_39 rfl ?_
    refine ev_sipush (X := M_X6_explore) (pc := 40) dX6_explore_40 (by decide) ?_
    refine ev_icmp_ge (X := M_X6_explore) (pc := 43) (tgt := 118) dX6_explore_43 (by decide) (by omega) (by omega) (fun h43 => ?_) (fun h43 => ?_)
    · refine ev_vret (X := M_X6_explore) (pc := 118) dX6_explore_118 rfl ?_
      first
        | (exfalso; omega)
        | (have e6 := bi_end (C := C) (F := F) (s0 := s0) ⟨hk0, hk1⟩ (by omega)
           rw [e6] at hE
           exact ⟨rfl, rfl, hE, hO, hfr⟩)
    · refine ev_aload_n (X := M_X6_explore) (pc := 46) dX6_explore_46 rfl ?_
      refine ev_getRe (X := M_X6_explore) (pc := 47) dX6_explore_47 fl_X6_25_6 (lO_101 hL) rfl (lR_101_3 hL) ?_
      refine ev_iload_n (X := M_X6_explore) (pc := 50) dX6_explore_50 rfl ?_
      refine ev_ialoadE (X := M_X6_explore) (pc := 51) dX6_explore_51 (lS_120 hL) (by omega) (hE.2.1 k ⟨by omega, by omega⟩) ?_
      refine ev_istore_nL (X := M_X6_explore) (pc := 52) (ls' := [_, _, _, _, _]) dX6_explore_52 (by decide) rfl ?_
      refine ev_iconst (X := M_X6_explore) (pc := 53) dX6_explore_53 ?_
      refine ev_istore_nL (X := M_X6_explore) (pc := 54) (ls' := [_, _, _, _, _]) dX6_explore_54 (by decide) rfl ?_
      have hu := hI0.2.1 k ⟨by omega, by omega⟩
      generalize hue : (bi C F s0 (6 * k)).2.1 k = u at *
      obtain ⟨u0, u1, u2⟩ := pl_st hu
      have hkn : k < (bi C F s0 (6 * k)).2.2.1 := by omega
      refine ev_weak (ev_while (σ := Int × Mm) (fun s => 0 ≤ s.1 ∧ s.1 ≤ 6 ∧ CE s.2 (bi C F s0 (6 * k + s.1)) ∧ COk C F (s.2 119) ∧ fr5 V s.2 ∧ k < (bi C F s0 (6 * k + s.1)).2.2.1 ∧ (bi C F s0 (6 * k + s.1)).2.1 k = u) (fun s => (6 - s.1).toNat) (fun s => [vR 101, vI k, vI (pl u), vI s.1, vU]) (fun _ => K) (fun s => s.2) ?_ (0, W) ⟨Int.le_refl 0, by show (0 : Int) ≤ 6; decide, by rw [show 6 * k + 0 = 6 * k by omega]; exact hE, hO, hfr, by rw [show 6 * k + 0 = 6 * k by omega]; exact hkn, by rw [show 6 * k + 0 = 6 * k by omega]; exact hue⟩) ⟨rfl, rfl, rfl, rfl, trivial⟩
      clear hE hO hfr hn0 hn1 hI0
      rintro ⟨p, W⟩ ⟨hp0, hp1, hE, hO, hfr, hk, hku⟩ ih2
      dsimp only at hp0 hp1 hE hO hfr hk hku ih2 ⊢
      have hI := bi_I (e := 6 * k + p) (F := F) hC hs
      have hB := bi_O (e := 6 * k + p) (F := F) hC hs (by omega)
      have hn455 := hI.n_le
      have e1 : bi C F s0 (6 * k + (p + 1)) = bStep C F (6 * k + p) (bi C F s0 (6 * k + p)) := by
        rw [show 6 * k + (p + 1) = 6 * k + p + 1 by omega, bi_s (by omega)]
      have hdiv : p < 6 → (6 * k + p) / 6 = k ∧ (6 * k + p) % 6 = p := fun q => by omega
      have hSr := h.fr hfr hO
      generalize hBe : bi C F s0 (6 * k + p) = B at *
      refine ev_iload_n (X := M_X6_explore) (pc := 55) dX6_explore_55 rfl ?_
      refine ev_bipush (X := M_X6_explore) (pc := 56) dX6_explore_56 (by decide) ?_
      refine ev_icmp_ge (X := M_X6_explore) (pc := 58) (tgt := 112) dX6_explore_58 (by decide) (by omega) (by omega) (fun h58 => ?_) (fun h58 => ?_)
      · have e6 : bi C F s0 (6 * (k + 1)) = B := by rw [show 6 * (k + 1) = 6 * k + p by omega, hBe]
        refine ev_iincL (X := M_X6_explore) (pc := 112) (ls' := [_, _, _, _, _]) dX6_explore_112 rfl (by decide) rfl ?_
        refine ev_goto (X := M_X6_explore) (pc := 115) (tgt := 31) dX6_explore_115 (by decide) ?_
        refine ev_weak (ih (k + 1, W) ⟨by omega, by omega, by rw [e6]; exact hE, hO, hfr⟩ (by show (455 - (k + 1)).toNat < (455 - k).toNat; omega)) ⟨rfl, rfl, trivial⟩
      · obtain ⟨hd1, hd2⟩ := hdiv (by omega)
        have hbv : bv C F (6 * k + p) B = nx C F u p := by unfold bv; rw [hd1, hd2, hku]
        have hlr := ld_r (F := F) hC (q := pl u) (p := p) ⟨u0, u1⟩ (by omega)
        have hld : ld C F (pl u) p = if nx C F u p = -1 then -1 else pl (nx C F u p) := by unfold ld; rw [u2]
        refine ev_aload_n (X := M_X6_explore) (pc := 61) dX6_explore_61 rfl ?_
        refine ev_iload_n (X := M_X6_explore) (pc := 62) dX6_explore_62 rfl ?_
        refine ev_iload_n (X := M_X6_explore) (pc := 63) dX6_explore_63 rfl ?_
        refine ev_virtX (X := M_X6_explore) (Y := M_X6_lead) (pc := 64) (ci := 6) dX6_explore_64 mk_X6_lead rfl kw_669 kw_670 kw_671 (lO_101 hL) (c_lead hSr ⟨u0, u1⟩ (by omega)) rfl (by decide) rfl (Nat.le_of_ble_eq_true rfl) (Nat.zero_add _) (Nat.zero_add _) (fun W1 hW1 => ?_)
        refine ev_istoreL (X := M_X6_explore) (pc := 67) (ls' := [_, _, _, _, _]) dX6_explore_67 (by decide) rfl ?_
        refine ev_iload (X := M_X6_explore) (pc := 69) dX6_explore_69 rfl ?_
        refine ev_iconst (X := M_X6_explore) (pc := 71) dX6_explore_71 ?_
        refine ev_icmp_eq (X := M_X6_explore) (pc := 72) (tgt := 106) dX6_explore_72 (by decide) (by omega) (by decide) (fun h72 => ?_) (fun h72 => ?_)
        · have hno : ¬ bc C F (6 * k + p) B := fun q => q.2.1 (by
            rw [hbv]
            by_cases z : nx C F u p = -1
            · exact z
            · rw [if_neg z] at hld
              have := (pl_st (nx_st hC (by omega) hu z)).1
              omega)
          rw [bStep_no hno] at e1
          have hE2 := hE.o119 hW1.1
          have hO2 := hW1.2
          have hfr3 := hfr.o119 hW1.1
          have hk2 := hk
          have hku2 := hku
          refine ev_iincL (X := M_X6_explore) (pc := 106) (ls' := [_, _, _, _, _]) dX6_explore_106 rfl (by decide) rfl ?_
          refine ev_goto (X := M_X6_explore) (pc := 109) (tgt := 55) dX6_explore_109 (by decide) ?_
          refine ev_weak (ih2 (p + 1, _) ⟨by omega, by omega, by rw [e1]; exact hE2, hO2, hfr3, by rw [e1]; exact hk2, by rw [e1]; exact hku2⟩ (by show (6 - (p + 1)).toNat < (6 - p).toNat; omega)) ⟨rfl, rfl, rfl, rfl, trivial⟩
        · have hne : nx C F u p ≠ -1 := fun z => h72 (by rw [hld, if_pos z])
          rw [if_neg hne] at hld
          have hvst := nx_st hC (show 0 ≤ p ∧ p < 6 by omega) hu hne
          obtain ⟨v0, v1, v2⟩ := pl_st hvst
          have hfar := hI.far_r (nx C F u p)
          have hE2' := hE.o119 hW1.1
          have hd : W1 121 (pl (nx C F u p)) = B.1 (nx C F u p) := by rw [hE2'.2.2.1 _ ⟨v0, v1⟩, v2]
          have hdu : W1 121 (pl u) = B.1 u := by rw [hE2'.2.2.1 _ ⟨u0, u1⟩, u2]
          rw [hld]
          refine ev_aload_n (X := M_X6_explore) (pc := 75) dX6_explore_75 rfl ?_
          refine ev_getRe (X := M_X6_explore) (pc := 76) dX6_explore_76 fl_X6_28_6 (lO_101 hL) rfl (lR_101_4 hL) ?_
          refine ev_iload (X := M_X6_explore) (pc := 79) dX6_explore_79 rfl ?_
          refine ev_ialoadE (X := M_X6_explore) (pc := 81) dX6_explore_81 (lS_121 hL) (by omega) (hd) ?_
          refine ev_iconst (X := M_X6_explore) (pc := 82) dX6_explore_82 ?_
          refine ev_icmp_ne (X := M_X6_explore) (pc := 83) (tgt := 106) dX6_explore_83 (by decide) (by omega) (by decide) (fun h83 => ?_) (fun h83 => ?_)
          · have hno : ¬ bc C F (6 * k + p) B := fun q => h83 (by rw [← hbv]; exact q.2.2)
            rw [bStep_no hno] at e1
            have hE2 := hE2'
            have hO2 := hW1.2
            have hfr3 := hfr.o119 hW1.1
            have hk2 := hk
            have hku2 := hku
            refine ev_iincL (X := M_X6_explore) (pc := 106) (ls' := [_, _, _, _, _]) dX6_explore_106 rfl (by decide) rfl ?_
            refine ev_goto (X := M_X6_explore) (pc := 109) (tgt := 55) dX6_explore_109 (by decide) ?_
            refine ev_weak (ih2 (p + 1, _) ⟨by omega, by omega, by rw [e1]; exact hE2, hO2, hfr3, by rw [e1]; exact hk2, by rw [e1]; exact hku2⟩ (by show (6 - (p + 1)).toNat < (6 - p).toNat; omega)) ⟨rfl, rfl, rfl, rfl, trivial⟩
          · have hbc : bc C F (6 * k + p) B := ⟨by rw [hd1]; exact hk, by rw [hbv]; exact hne, by rw [hbv]; exact h83⟩
            have hE2 := CE_step hI hB hE2' hbc (by rw [hbv]; exact hvst) (by omega)
            rw [hbv, hd1, hd2, hku] at hE2
            have hO2 : COk C F (fnd W1 (pl (nx C F u p)) (B.1 u + 1) (pl u * 6 + p) 119) := by rw [fnd_119]; exact hW1.2
            have hfr3 : fr5 V (fnd W1 (pl (nx C F u p)) (B.1 u + 1) (pl u * 6 + p)) := fr5_fnd (hfr.o119 hW1.1)
            have hsn := bStep_n (C := C) (F := F) (e := 6 * k + p) (B := B)
            have hk2 : k < (bStep C F (6 * k + p) B).2.2.1 := by omega
            have hku2 : (bStep C F (6 * k + p) B).2.1 k = u := by rw [hsn.2 k hk]; exact hku
            have hfn : 0 ≤ W1 101 6 ∧ W1 101 6 < 455 := by
              rw [hE2'.1]
              have h5 := (bi_I (e := 6 * k + (p + 1)) (F := F) hC hs).n_le
              rw [e1, bStep_yes hbc] at h5
              have h6 : B.2.2.1 + 1 ≤ 455 := h5
              omega
            refine ev_aload_n (X := M_X6_explore) (pc := 86) dX6_explore_86 rfl ?_
            refine ev_iload (X := M_X6_explore) (pc := 87) dX6_explore_87 rfl ?_
            refine ev_aload_n (X := M_X6_explore) (pc := 89) dX6_explore_89 rfl ?_
            refine ev_getRe (X := M_X6_explore) (pc := 90) dX6_explore_90 fl_X6_28_6 (lO_101 hL) rfl (lR_101_4 hL) ?_
            refine ev_iload_n (X := M_X6_explore) (pc := 93) dX6_explore_93 rfl ?_
            refine ev_ialoadE (X := M_X6_explore) (pc := 94) dX6_explore_94 (lS_121 hL) (by omega) (hdu) ?_
            refine ev_iconst (X := M_X6_explore) (pc := 95) dX6_explore_95 ?_
            refine ev_iadd (X := M_X6_explore) (pc := 96) dX6_explore_96 ?_
            refine ev_iload_n (X := M_X6_explore) (pc := 97) dX6_explore_97 rfl ?_
            refine ev_bipush (X := M_X6_explore) (pc := 98) dX6_explore_98 (by decide) ?_
            refine ev_imul (X := M_X6_explore) (pc := 100) dX6_explore_100 ?_
            refine ev_iload_n (X := M_X6_explore) (pc := 101) dX6_explore_101 rfl ?_
            refine ev_iadd (X := M_X6_explore) (pc := 102) dX6_explore_102 ?_
            refine ev_virtV (X := M_X6_explore) (Y := M_X6_find) (pc := 103) (ci := 6) dX6_explore_103 mk_X6_find rfl kw_665 kw_666 kw_667 (lO_101 hL) (c_find hL ⟨v0, v1⟩ hfn) rfl (by decide) rfl (Nat.le_of_ble_eq_true rfl) (Nat.zero_add _) (Nat.zero_add _) ?_
            refine ev_iincL (X := M_X6_explore) (pc := 106) (ls' := [_, _, _, _, _]) dX6_explore_106 rfl (by decide) rfl ?_
            refine ev_goto (X := M_X6_explore) (pc := 109) (tgt := 55) dX6_explore_109 (by decide) ?_
            refine ev_weak (ih2 (p + 1, _) ⟨by omega, by omega, by rw [e1]; exact hE2, hO2, hfr3, by rw [e1]; exact hk2, by rw [e1]; exact hku2⟩ (by show (6 - (p + 1)).toNat < (6 - p).toNat; omega)) ⟨rfl, rfl, rfl, rfl, trivial⟩
theorem c_distanceOf {γ : Gh} {K : Sk} {V : Mm} (hL : Lay K) (hV : SV V) (hV2 : SV2 V) {s : Int} (hs : isSt s) : Call γ M_X6_distanceOf 2 0 0 [vR 101, vI s] K V (Rt (some (vI (V 121 (pl s)))) K V) := by
  refine call_of (by decide +kernel) (by intro v hv; simp only [List.mem_cons, List.not_mem_nil, or_false] at hv; rcases hv with rfl | rfl <;> exact fun q => by cases q) (Nat.le_of_ble_eq_true rfl) ?_
  refine ev_lsE (ls' := [_, _]) rfl ?_
  obtain ⟨p0, p1, p2⟩ := pl_st hs
  refine ev_aload_n (X := M_X6_distanceOf) (pc := 0) dX6_distanceOf_0 rfl ?_
  refine ev_getRe (X := M_X6_distanceOf) (pc := 1) dX6_distanceOf_1 fl_X6_28_6 (lO_101 hL) rfl (lR_101_4 hL) ?_
  refine ev_iload_n (X := M_X6_distanceOf) (pc := 4) dX6_distanceOf_4 rfl ?_
  refine ev_staticR (X := M_X6_distanceOf) (Y := M_X6_placeOf) (pc := 5) dX6_distanceOf_5 mk_X6_placeOf kw_659 kw_660 (c_placeOf hL hV hV2 (isSt_lt hs)) rfl (by decide) rfl (Nat.le_of_ble_eq_true rfl) (Nat.zero_add _) (Nat.zero_add _) ?_
  refine ev_iaload (X := M_X6_distanceOf) (pc := 8) dX6_distanceOf_8 (lS_121 hL) (by omega) ?_
  refine ev_iret (X := M_X6_distanceOf) (pc := 9) dX6_distanceOf_9 rfl ?_
  exact ⟨rfl, rfl, rfl⟩
