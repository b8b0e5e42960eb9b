/-! ===== the class: meetings ===== -/
theorem vr_small {K : Sk} {c : Nat} (h : c < 178) : ¬ vrow K c := fun z => by have := z.1; omega
theorem c_become {γ : Gh} {K : Sk} {V : Mm} (hL : Lay K) (hV : SV V) {D : Int → Int} (hLT : LTA K V 102 D) (hw : DL D) (h21 : 0 ≤ D 21 ∧ D 21 < 9999) (s6 : V 102 6 = D 21) (s7 : V 102 7 = D 22) {p s : Int} (hp : 0 ≤ p ∧ p < 6) : Call γ M_X2_become 3 0 0 [vR 102, vI p, vI s] K V (Qx none K (fun W => (∀ c, c ≠ 102 → ¬ vrow K c → W c = V c) ∧ W 102 = up (up (up (V 102) 7 (spD D p)) 6 (D 21 + 1)) 4 s)) := by
  refine call_of (by decide +kernel) (by intro v hv; simp only [List.mem_cons, List.not_mem_nil, or_false] at hv; rcases hv with rfl | rfl | rfl <;> exact fun q => by cases q) (Nat.le_of_ble_eq_true rfl) ?_
  refine ev_lsE (ls' := [_, _, _, _]) rfl ?_
  have l1 := les_r p hp
  have l2 := gre_r p hp
  have hk3 := (hw.2.1.1 p hp.1 hp.2).1
  have hA := hLT.1 p hp
  obtain ⟨c, hc⟩ : ∃ c, K.2.1 103 p = c := ⟨_, rfl⟩
  have hA : LawA K V c p (D (3 + p)) (D (9 + p)) := by rw [← hc]; exact hA
  have hgr := giv1_r (D := D) (a := lesF p) (b := greF p) (c := D (3 + p)) (d := D 21)
  have h22 : -99999 ≤ D 22 ∧ D 22 ≤ 99999 := hw.2.2.2.2
  refine ev_aload_n (X := M_X2_become) (pc := 0) dX2_become_0 rfl ?_
  refine ev_getsN (X := M_X2_become) (pc := 1) (q := ("GreenPath", "LESSER", "[I", vR 1)) (host := "GreenPath") dX2_become_1 st_1 kn_229 ?_
  refine ev_iload_n (X := M_X2_become) (pc := 4) dX2_become_4 rfl ?_
  refine ev_ialoadE (X := M_X2_become) (pc := 5) dX2_become_5 (lS_1 hL) (by omega) (congrFun hV.1 _) ?_
  refine ev_getsN (X := M_X2_become) (pc := 6) (q := ("GreenPath", "GREATER", "[I", vR 2)) (host := "GreenPath") dX2_become_6 st_2 kn_237 ?_
  refine ev_iload_n (X := M_X2_become) (pc := 9) dX2_become_9 rfl ?_
  refine ev_ialoadE (X := M_X2_become) (pc := 10) dX2_become_10 (lS_2 hL) (by omega) (congrFun hV.2.1 _) ?_
  refine ev_aload_n (X := M_X2_become) (pc := 11) dX2_become_11 rfl ?_
  refine ev_getRe (X := M_X2_become) (pc := 12) dX2_become_12 fl_X2_11_2 (lO_102 hL) rfl (lR_102_0 hL) ?_
  refine ev_iload_n (X := M_X2_become) (pc := 15) dX2_become_15 rfl ?_
  refine ev_aaloadE (X := M_X2_become) (pc := 16) dX2_become_16 (lS_103 hL) (by decide) (by decide) (by omega) (hc) ?_
  refine ev_getIe (X := M_X2_become) (pc := 17) (ki := 0) dX2_become_17 (fls_X2_110 _) hA.1 (Or.inl (lcl_int _ 0 (by decide))) rfl (hA.2.1) ?_
  refine ev_aload_n (X := M_X2_become) (pc := 20) dX2_become_20 rfl ?_
  refine ev_getIe (X := M_X2_become) (pc := 21) (ki := 6) dX2_become_21 fl_X2_64_2 (lO_102 hL) (by decide) rfl (s6) ?_
  refine ev_virtX (X := M_X2_become) (Y := M_X2_priceGiven) (pc := 24) (ci := 2) dX2_become_24 mk_X2_priceGiven rfl kw_629 kw_616 kw_617 (lO_102 hL) (c_priceGiven hL hLT.2.2 hw.2.2.2.1 (by omega) (by omega) (by omega) (by omega)) rfl (by decide) rfl (Nat.le_of_ble_eq_true rfl) (Nat.zero_add _) (Nat.zero_add _) (fun W hW => ?_)
  have n0 : ∀ c, ¬ vrow K c → W c = V c := fun c z => hW c (fun q => z (vr_t hLT.2.2 q))
  have e2 := n0 102 (vr_small (by decide))
  have s7' : W 102 7 = D 22 := by rw [e2]; exact s7
  obtain ⟨g, hg⟩ : ∃ g, giv D 1 (lesF p) (greF p) (D (3 + p)) (D 21) = g := ⟨_, rfl⟩
  have hsp : spD D p = heldF (D 22 + g) (-99999) 99999 := by unfold spD; rw [hg]
  rw [hg] at hgr ⊢
  refine ev_istore_nL (X := M_X2_become) (pc := 27) (ls' := [_, _, _, _]) dX2_become_27 (by decide) rfl ?_
  refine ev_aload_n (X := M_X2_become) (pc := 28) dX2_become_28 rfl ?_
  refine ev_ldc (X := M_X2_become) (pc := 29) (v := -99999) dX2_become_29 kw_630 (by decide) ?_
  refine ev_ldc (X := M_X2_become) (pc := 31) (v := 99999) dX2_become_31 kw_631 (by decide) ?_
  refine ev_aload_n (X := M_X2_become) (pc := 33) dX2_become_33 rfl ?_
  refine ev_getIe (X := M_X2_become) (pc := 34) (ki := 7) dX2_become_34 fl_X2_67_2 (lO_102 hL) (by decide) rfl (s7') ?_
  refine ev_iload_n (X := M_X2_become) (pc := 37) dX2_become_37 rfl ?_
  refine ev_iadd (X := M_X2_become) (pc := 38) dX2_become_38 ?_
  refine ev_mmin (X := M_X2_become) (pc := 39) dX2_become_39 kw_619 kw_544 kw_5 kw_545 (by decide) (Nat.le_of_ble_eq_true rfl) (by decide) (by omega) ?_
  refine ev_mmax (X := M_X2_become) (pc := 42) dX2_become_42 kw_278 kw_54 kw_5 kw_55 (by decide) (Nat.le_of_ble_eq_true rfl) (by decide) (by split <;> omega) ?_
  have hval : (if -99999 < (if D 22 + g < 99999 then D 22 + g else 99999) then (if D 22 + g < 99999 then D 22 + g else 99999) else -99999) = spD D p := by
    rw [hsp]
    unfold heldF
    repeat' split
    all_goals omega
  rw [hval]
  refine ev_putI (X := M_X2_become) (pc := 45) (ki := 7) dX2_become_45 fl_X2_67_2 (by decide) (lO_102 hL) (fun _ h q => by cases h; cases q) (Or.inl rfl) rfl ?_
  have s6' : wr W 102 7 (spD D p) 102 6 = D 21 := by rw [wr_ne (by decide), e2]; exact s6
  refine ev_aload_n (X := M_X2_become) (pc := 48) dX2_become_48 rfl ?_
  refine ev_dup (X := M_X2_become) (pc := 49) dX2_become_49 (fun _ q => by cases q) ?_
  refine ev_getIe (X := M_X2_become) (pc := 50) (ki := 6) dX2_become_50 fl_X2_64_2 (lO_102 hL) (by decide) rfl (s6') ?_
  refine ev_iconst (X := M_X2_become) (pc := 53) dX2_become_53 ?_
  refine ev_iadd (X := M_X2_become) (pc := 54) dX2_become_54 ?_
  refine ev_putI (X := M_X2_become) (pc := 55) (ki := 6) dX2_become_55 fl_X2_64_2 (by decide) (lO_102 hL) (fun _ h q => by cases h; cases q) (Or.inl rfl) rfl ?_
  refine ev_aload_n (X := M_X2_become) (pc := 58) dX2_become_58 rfl ?_
  refine ev_iload_n (X := M_X2_become) (pc := 59) dX2_become_59 rfl ?_
  refine ev_putI (X := M_X2_become) (pc := 60) (ki := 4) dX2_become_60 fl_X2_58_2 (by decide) (lO_102 hL) (fun _ h q => by cases h; cases q) (Or.inl rfl) rfl ?_
  refine ev_vret (X := M_X2_become) (pc := 63) dX2_become_63 rfl ?_
  refine ⟨rfl, rfl, fun c c1 c2 => ?_, ?_⟩
  · rw [wr_off c1, wr_off c1, wr_off c1]
    exact n0 c c2
  · rw [wr_row, wr_row, wr_row, e2]
theorem me_CI {K : Sk} {V W : Mm} {D E : Int → Int} {im F p : Int} {er : Int → Int} (h : CI K V D E im er) (hw : DL D) (h25 : D 25 ≤ 20) (h24 : D 24 ≤ 50) (hp : 0 ≤ p ∧ p < 6) (hm : may (comF D) F (nowS D) p) (h1 : ∀ c, c ≠ 102 → ¬ vrow K c → W c = V c) (h2 : W 102 = up (up (up (V 102) 7 (spD D p)) 6 (D 21 + 1)) 4 (aft (comF D) (nowS D) p)) : CI K W (meD D p) E im er := by
  have cg : ∀ i, 3 ≤ i → i ≠ 21 → i ≠ 22 → meD D p i = D i := fun i a b c => meD_at (by omega) b c
  have haf := aft_st (comF_wf hw.2.1) hp (nowS_st hw.1) hm
  have h119 := h1 119 (by decide) (vr_small (by decide))
  have h155 := h1 155 (by decide) (vr_small (by decide))
  refine ⟨h.1.sc (fun i z => cg i (by omega) (by omega) (by omega)) hw.d26 hw.d27 (fun c c1 _ c3 => h1 c c1 (fun q => c3 (Or.inr (Or.inr (Or.inr q))))) ?_ (by rw [h119]; exact h.1.ok) (by rw [h155]; exact h.1.2.2.2.2.2.2.2), ?_⟩
  · rw [h2, up_ne (by decide), up_ne (by decide), up_ne (by decide)]
  obtain ⟨s1, s2, s3, s4, s5, s6, s7, s8, s9⟩ := h.2
  have e2 : fS (meD D p) = fS D := fS_cg (fun i y1 y2 => cg i (by omega) (by omega) (by omega))
  have e1 : nowS (meD D p) = aft (comF D) (nowS D) p := bcD_now (isSt_lt haf)
  obtain ⟨m1, m2⟩ := me_21 (D := D) (p := p)
  refine ⟨by rw [h2, up_self, e1], ?_, ?_, ?_, ?_, ?_, fun i i0 i1 => ?_, ?_, fun i i0 i1 => ?_⟩
  · rw [h2, up_ne (by decide), up_ne (by decide), up_ne (by decide), e2]; exact s2
  · rw [h2, up_ne (by decide), up_self, m1]
  · rw [h2, up_ne (by decide), up_ne (by decide), up_self, m2]
  · rw [h2, up_ne (by decide), up_ne (by decide), up_ne (by decide), cg 23 (by decide) (by decide) (by decide)]; exact s5
  · rw [h1 (102 + 3) (by decide) (vr_small (by decide)), cg 24 (by decide) (by decide) (by decide)]; exact s6
  · rw [cg 24 (by decide) (by decide) (by decide)] at i1
    rw [h1 (102 + 4) (by decide) (vr_small (by decide)), cg _ (by omega) (by omega) (by omega)]; exact s7 i i0 i1
  · rw [h1 (102 + 5) (by decide) (vr_small (by decide)), cg 25 (by decide) (by decide) (by decide)]; exact s8
  · rw [cg 25 (by decide) (by decide) (by decide)] at i1
    rw [h1 (102 + 6) (by decide) (vr_small (by decide)), cg _ (by omega) (by omega) (by omega)]; exact s9 i i0 i1
theorem c_meet {γ : Gh} {K : Sk} {V : Mm} {D E : Int → Int} {im : Int} {er : Int → Int} (h : CI K V D E im er) (hw : DL D) (h21 : 0 ≤ D 21 ∧ D 21 ≤ 9999) (h25 : D 25 ≤ 20) (h24 : D 24 ≤ 50) {p : Int} (hp : R32 p) : Call γ M_X11_meet 4 0 0 [vR 100, vI p] K V (Qx (some (vI (aR (mtK D p) (nx (comF D) (fS D) (nowS D) p)))) K (fun W => oF V W ∧ CI K W (aD (mtK D p) D (meD D p)) E im (erK er (mtK D p)))) := by
  refine call_of (by decide +kernel) (by intro v hv; simp only [List.mem_cons, List.not_mem_nil, or_false] at hv; rcases hv with rfl | rfl <;> exact fun q => by cases q) (Nat.le_of_ble_eq_true rfl) ?_
  refine ev_lsE (ls' := [_, _, _]) rfl ?_
  have hL := h.1.L
  obtain ⟨⟨q1, q2, ⟨b1, b2, b3, b4, b5, b6, b7, b8⟩, q4, q5, q6, q7, q8⟩, sc⟩ := id h
  have hs0 := nowS_st hw.1
  have hsl := isSt_lt hs0
  refine ev_iload_n (X := M_X11_meet) (pc := 0) dX11_meet_0 rfl ?_
  refine ev_staticR (X := M_X11_meet) (Y := M_X11_isPair) (pc := 1) dX11_meet_1 mk_X11_isPair kw_336 kw_337 (c_isPair hp) rfl (by decide) rfl (Nat.le_of_ble_eq_true rfl) (Nat.zero_add _) (Nat.zero_add _) ?_
  refine ev_if_ne (X := M_X11_meet) (pc := 4) (tgt := 14) dX11_meet_4 (by decide) (by split <;> decide) (fun h4 => ?_) (fun h4 => ?_)
  · have hs3 : 0 ≤ p ∧ p < 6 := Decidable.byContradiction fun z => h4 (by rw [if_neg z])
    have hk0 : mtK D p = if nx (comF D) (fS D) (nowS D) p = -1 ∨ D 21 = 9999 then 3 else 0 := by unfold mtK; rw [if_pos hs3]
    have hnn := nx_ne (F := fS D) b4 hs3 hs0
    have hnr := nx_r (F := fS D) b4 ⟨hsl.1, hsl.2⟩ hs3
    refine ev_aload_n (X := M_X11_meet) (pc := 14) dX11_meet_14 rfl ?_
    refine ev_getRe (X := M_X11_meet) (pc := 15) dX11_meet_15 fl_X11_20_11 (lO_100 hL) rfl (lR_100_0 hL) ?_
    refine ev_aload_n (X := M_X11_meet) (pc := 18) dX11_meet_18 rfl ?_
    refine ev_getRe (X := M_X11_meet) (pc := 19) dX11_meet_19 fl_X11_20_11 (lO_100 hL) rfl (lR_100_0 hL) ?_
    refine ev_getIe (X := M_X11_meet) (pc := 22) (ki := 4) dX11_meet_22 fl_X11_61_2 (lO_102 hL) (by decide) rfl (sc.1) ?_
    refine ev_iload_n (X := M_X11_meet) (pc := 25) dX11_meet_25 rfl ?_
    refine ev_virtR (X := M_X11_meet) (Y := M_X2_next) (pc := 26) (ci := 2) dX11_meet_26 mk_X2_next rfl kw_429 kw_430 kw_431 (lO_102 hL) (c_next hL b2 b4 b5 hs3 b6 (by omega)) rfl (by decide) rfl (Nat.le_of_ble_eq_true rfl) (Nat.zero_add _) (Nat.zero_add _) ?_
    refine ev_istore_nL (X := M_X11_meet) (pc := 29) (ls' := [_, _, _]) dX11_meet_29 (by decide) rfl ?_
    refine ev_iload_n (X := M_X11_meet) (pc := 30) dX11_meet_30 rfl ?_
    refine ev_iconst (X := M_X11_meet) (pc := 31) dX11_meet_31 ?_
    refine ev_icmp_eq (X := M_X11_meet) (pc := 32) (tgt := 48) dX11_meet_32 (by decide) (by omega) (by decide) (fun h32 => ?_) (fun h32 => ?_)
    · have hk : mtK D p = 3 := by rw [hk0, if_pos (Or.inl h32)]
      refine ev_aload_n (X := M_X11_meet) (pc := 48) dX11_meet_48 rfl ?_
      refine ev_ldc (X := M_X11_meet) (pc := 49) (v := -1000000003) dX11_meet_49 kw_624 (by decide) ?_
      refine ev_virtR (X := M_X11_meet) (Y := M_X11_error) (pc := 51) (ci := 11) dX11_meet_51 mk_X11_error rfl kw_319 kw_321 kp_0 (lO_100 hL) (c_error hL (k := 3) (by decide) rfl) rfl (by decide) rfl (Nat.le_of_ble_eq_true rfl) (Nat.zero_add _) (Nat.zero_add _) ?_
      refine ev_iret (X := M_X11_meet) (pc := 54) dX11_meet_54 rfl ?_
      rw [hk]
      exact ⟨rfl, rfl, oF_err, h.e hw (by decide)⟩
    · refine ev_aload_n (X := M_X11_meet) (pc := 35) dX11_meet_35 rfl ?_
      refine ev_getRe (X := M_X11_meet) (pc := 36) dX11_meet_36 fl_X11_20_11 (lO_100 hL) rfl (lR_100_0 hL) ?_
      refine ev_getIe (X := M_X11_meet) (pc := 39) (ki := 6) dX11_meet_39 fl_X11_156_2 (lO_102 hL) (by decide) rfl (sc.2.2.1) ?_
      refine ev_sipush (X := M_X11_meet) (pc := 42) dX11_meet_42 (by decide) ?_
      refine ev_icmp_lt (X := M_X11_meet) (pc := 45) (tgt := 55) dX11_meet_45 (by decide) (by omega) (by decide) (fun h45 => ?_) (fun h45 => ?_)
      · have hk : mtK D p = 0 := by rw [hk0, if_neg (fun z => by rcases z with z | z; exact h32 z; omega)]
        have hm : may (comF D) (fS D) (nowS D) p := hnn.mp h32
        have hnx : nx (comF D) (fS D) (nowS D) p = aft (comF D) (nowS D) p := by unfold nx; rw [if_pos hm]
        refine ev_aload_n (X := M_X11_meet) (pc := 55) dX11_meet_55 rfl ?_
        refine ev_getRe (X := M_X11_meet) (pc := 56) dX11_meet_56 fl_X11_20_11 (lO_100 hL) rfl (lR_100_0 hL) ?_
        refine ev_iload_n (X := M_X11_meet) (pc := 59) dX11_meet_59 rfl ?_
        refine ev_iload_n (X := M_X11_meet) (pc := 60) dX11_meet_60 rfl ?_
        refine ev_virtY (X := M_X11_meet) (Y := M_X2_become) (pc := 61) (ci := 2) dX11_meet_61 mk_X2_become rfl kw_625 kw_626 kw_627 (lO_102 hL) (c_become hL b2 q5 hw ⟨h21.1, by omega⟩ sc.2.2.1 sc.2.2.2.1 hs3) rfl (by decide) rfl (Nat.le_of_ble_eq_true rfl) (Nat.zero_add _) (Nat.zero_add _) (fun W hW => ?_)
        have h4' : W 102 4 = nx (comF D) (fS D) (nowS D) p := by rw [hW.2, up_self]
        refine ev_aload_n (X := M_X11_meet) (pc := 64) dX11_meet_64 rfl ?_
        refine ev_getRe (X := M_X11_meet) (pc := 65) dX11_meet_65 fl_X11_20_11 (lO_100 hL) rfl (lR_100_0 hL) ?_
        refine ev_getIe (X := M_X11_meet) (pc := 68) (ki := 4) dX11_meet_68 fl_X11_61_2 (lO_102 hL) (by decide) rfl (h4') ?_
        refine ev_iret (X := M_X11_meet) (pc := 71) dX11_meet_71 rfl ?_
        rw [hk]
        exact ⟨rfl, rfl, (fun c z => hW.1 c (by omega) (fun q => by have := q.1; omega)), me_CI h hw h25 h24 hs3 hm hW.1 (by rw [hW.2, hnx])⟩
      · have hk : mtK D p = 3 := by rw [hk0, if_pos (Or.inr (by omega))]
        refine ev_aload_n (X := M_X11_meet) (pc := 48) dX11_meet_48 rfl ?_
        refine ev_ldc (X := M_X11_meet) (pc := 49) (v := -1000000003) dX11_meet_49 kw_624 (by decide) ?_
        refine ev_virtR (X := M_X11_meet) (Y := M_X11_error) (pc := 51) (ci := 11) dX11_meet_51 mk_X11_error rfl kw_319 kw_321 kp_0 (lO_100 hL) (c_error hL (k := 3) (by decide) rfl) rfl (by decide) rfl (Nat.le_of_ble_eq_true rfl) (Nat.zero_add _) (Nat.zero_add _) ?_
        refine ev_iret (X := M_X11_meet) (pc := 54) dX11_meet_54 rfl ?_
        rw [hk]
        exact ⟨rfl, rfl, oF_err, h.e hw (by decide)⟩
  · have hk : mtK D p = 1 := by unfold mtK; rw [if_neg (fun z => by rw [if_pos z] at h4; exact absurd h4 (by decide))]
    refine ev_aload_n (X := M_X11_meet) (pc := 7) dX11_meet_7 rfl ?_
    refine ev_ldc (X := M_X11_meet) (pc := 8) (v := -1000000001) dX11_meet_8 kw_318 (by decide) ?_
    refine ev_virtR (X := M_X11_meet) (Y := M_X11_error) (pc := 10) (ci := 11) dX11_meet_10 mk_X11_error rfl kw_319 kw_321 kp_0 (lO_100 hL) (c_error hL (k := 1) (by decide) rfl) rfl (by decide) rfl (Nat.le_of_ble_eq_true rfl) (Nat.zero_add _) (Nat.zero_add _) ?_
    refine ev_iret (X := M_X11_meet) (pc := 13) dX11_meet_13 rfl ?_
    rw [hk]
    exact ⟨rfl, rfl, oF_err, h.e hw (by decide)⟩
theorem z_CI {K : Sk} {V W : Mm} {D E : Int → Int} {im z : Int} {er : Int → Int} (h : CI K V D E im er) (hw : DL D) (h25 : D 25 ≤ 20) (hf : ∀ c, c ≠ 102 → W c = V c) (h2 : W 102 = up (V 102) 8 z) : CI K W (up D 23 z) E im er := by
  have cg : ∀ i, i ≠ 23 → up D 23 z i = D i := fun i a => up_ne a
  refine ⟨h.1.sc (fun i y => cg i (by omega)) hw.d26 hw.d27 (fun c c1 _ _ => hf c c1) (by rw [h2, up_ne (by decide)]) (by rw [hf 119 (by decide)]; exact h.1.ok) (by rw [hf 155 (by decide)]; exact h.1.2.2.2.2.2.2.2), ?_⟩
  obtain ⟨s1, s2, s3, s4, s5, s6, s7, s8, s9⟩ := h.2
  refine ⟨by rw [h2, up_ne (by decide)]; exact s1, by rw [h2, up_ne (by decide)]; exact s2, by rw [h2, up_ne (by decide), cg 21 (by decide)]; exact s3, by rw [h2, up_ne (by decide), cg 22 (by decide)]; exact s4, by rw [h2, up_self, up_self], by rw [hf _ (by decide), cg 24 (by decide)]; exact s6, fun i i0 i1 => ?_, by rw [hf _ (by decide), cg 25 (by decide)]; exact s8, fun i i0 i1 => ?_⟩
  · rw [cg 24 (by decide)] at i1; rw [hf _ (by decide), cg _ (by omega)]; exact s7 i i0 i1
  · rw [cg 25 (by decide)] at i1; rw [hf _ (by decide), cg _ (by omega)]; exact s9 i i0 i1
theorem c_meetByChance {γ : Gh} {K : Sk} {V : Mm} {D E : Int → Int} {im : Int} {er : Int → Int} (h : CI K V D E im er) (hw : DL D) (h21 : 0 ≤ D 21 ∧ D 21 < 9999) (h25 : D 25 ≤ 20) (h24 : D 24 ≤ 50) : Call γ M_X2_meetByChance 4 0 0 [vR 102] K V (Qx none K (fun W => oF V W ∧ CI K W (chD D) E im er)) := by
  refine call_of (by decide +kernel) (by intro v hv; simp only [List.mem_cons, List.not_mem_nil, or_false] at hv; rcases hv with rfl <;> exact fun q => by cases q) (Nat.le_of_ble_eq_true rfl) ?_
  refine ev_lsE (ls' := [_, _, _, _, _, _, _, _]) rfl ?_
  have hL := h.1.L
  obtain ⟨⟨q1, q2, ⟨b1, b2, b3, b4, b5, b6, b7, b8⟩, q4, q5, q6, q7, q8⟩, sc⟩ := id h
  have hs0 := nowS_st hw.1
  have hsl := isSt_lt hs0
  obtain ⟨n0, n1, n2, n3⟩ := nowS_cnt hw.1
  have hct2 : 0 ≤ D 0 ∧ 0 ≤ D 1 ∧ 0 ≤ D 2 ∧ D 0 + D 1 + D 2 ≤ 12 := hw.1
  have hz1 := zD_r (D 23)
  have hz2 := zD_r (zN (D 23))
  have s8 : V 102 8 = D 23 := sc.2.2.2.2.1
  refine ev_aload_n (X := M_X2_meetByChance) (pc := 0) dX2_meetByChance_0 rfl ?_
  refine ev_getIe (X := M_X2_meetByChance) (pc := 1) (ki := 4) dX2_meetByChance_1 fl_X2_58_2 (lO_102 hL) (by decide) rfl (sc.1) ?_
  refine ev_staticNR (X := M_X2_meetByChance) (Y := M_X11_beingsOf) (pc := 4) (host := "GreenPath") dX2_meetByChance_4 mk_X11_beingsOf kn_435 kw_182 (c_beingsOf (by omega)) rfl (by decide) rfl (Nat.le_of_ble_eq_true rfl) (Nat.zero_add _) (Nat.zero_add _) ?_
  rw [n3]
  refine ev_istore_nL (X := M_X2_meetByChance) (pc := 7) (ls' := [_, _, _, _, _, _, _, _]) dX2_meetByChance_7 (by decide) rfl ?_
  refine ev_iload_n (X := M_X2_meetByChance) (pc := 8) dX2_meetByChance_8 rfl ?_
  refine ev_iconst (X := M_X2_meetByChance) (pc := 9) dX2_meetByChance_9 ?_
  refine ev_icmp_ge (X := M_X2_meetByChance) (pc := 10) (tgt := 14) dX2_meetByChance_10 (by decide) (by omega) (by decide) (fun h10 => ?_) (fun h10 => ?_)
  · have hr1 := Int.emod_nonneg (zD (D 23)) (show D 0 + D 1 + D 2 ≠ 0 by omega)
    have hr2 := Int.emod_lt_of_pos (zD (D 23)) (show 0 < D 0 + D 1 + D 2 by omega)
    have hr3 := Int.emod_nonneg (zD (zN (D 23))) (show D 0 + D 1 + D 2 - 1 ≠ 0 by omega)
    have hr4 := Int.emod_lt_of_pos (zD (zN (D 23))) (show 0 < D 0 + D 1 + D 2 - 1 by omega)
    obtain ⟨ha, hg⟩ := chA_ge hw.1 (by omega)
    obtain ⟨_, hs2, hs3⟩ := soF_2 (j := zD (zN (D 23)) % (D 0 + D 1 + D 2 - 1)) hw.1 ha hg
    have hb : 0 ≤ chB D ∧ chB D < 3 := sAt_r
    have hP := chP_r (D := D)
    refine ev_aload_n (X := M_X2_meetByChance) (pc := 14) dX2_meetByChance_14 rfl ?_
    refine ev_getIe (X := M_X2_meetByChance) (pc := 15) (ki := 4) dX2_meetByChance_15 fl_X2_58_2 (lO_102 hL) (by decide) rfl (sc.1) ?_
    refine ev_aload_n (X := M_X2_meetByChance) (pc := 18) dX2_meetByChance_18 rfl ?_
    refine ev_virtR (X := M_X2_meetByChance) (Y := M_X2_draw) (pc := 19) (ci := 2) dX2_meetByChance_19 mk_X2_draw rfl kw_640 kw_641 kw_642 (lO_102 hL) (c_draw hL) rfl (by decide) rfl (Nat.le_of_ble_eq_true rfl) (Nat.zero_add _) (Nat.zero_add _) ?_
    rw [s8]
    obtain ⟨V1, hV1⟩ : ∃ V1, wr V 102 8 (zN (D 23)) = V1 := ⟨_, rfl⟩
    have v0 : ∀ c, c ≠ 102 → V1 c = V c := fun c z => by rw [← hV1, wr_off z]
    have v1 : V1 102 = up (V 102) 8 (zN (D 23)) := by rw [← hV1, wr_row]
    rw [hV1]
    clear hV1
    have hV : SV V1 := by unfold SV; rw [v0 1 (by decide), v0 2 (by decide), v0 3 (by decide)]; exact b2
    have v4 : V1 102 4 = nowS D := by rw [v1, up_ne (by decide)]; exact sc.1
    have v8 : V1 102 8 = zN (D 23) := by rw [v1, up_self]
    refine ev_iload_n (X := M_X2_meetByChance) (pc := 22) dX2_meetByChance_22 rfl ?_
    refine ev_irem (X := M_X2_meetByChance) (pc := 23) dX2_meetByChance_23 (by omega) (by omega) ?_
    refine ev_staticR (X := M_X2_meetByChance) (Y := M_X2_sortAt) (pc := 24) dX2_meetByChance_24 mk_X2_sortAt kw_645 kw_646 (c_sortAt hL hV (by omega) (by omega)) rfl (by decide) rfl (Nat.le_of_ble_eq_true rfl) (Nat.zero_add _) (Nat.zero_add _) ?_
    have e1 : sAt (nowS D) (zD (D 23) % (D 0 + D 1 + D 2)) = chA D := rfl
    rw [e1]
    refine ev_istore_nL (X := M_X2_meetByChance) (pc := 27) (ls' := [_, _, _, _, _, _, _, _]) dX2_meetByChance_27 (by decide) rfl ?_
    refine ev_aload_n (X := M_X2_meetByChance) (pc := 28) dX2_meetByChance_28 rfl ?_
    refine ev_getIe (X := M_X2_meetByChance) (pc := 29) (ki := 4) dX2_meetByChance_29 fl_X2_58_2 (lO_102 hL) (by decide) rfl (v4) ?_
    refine ev_getsN (X := M_X2_meetByChance) (pc := 32) (q := ("GreenPath", "WEIGHT", "[I", vR 3)) (host := "GreenPath") dX2_meetByChance_32 st_3 kn_282 ?_
    refine ev_iload_n (X := M_X2_meetByChance) (pc := 35) dX2_meetByChance_35 rfl ?_
    refine ev_ialoadE (X := M_X2_meetByChance) (pc := 36) dX2_meetByChance_36 (lS_3 hL) (by omega) (congrFun hV.2.2 _) ?_
    refine ev_isub (X := M_X2_meetByChance) (pc := 37) dX2_meetByChance_37 ?_
    refine ev_aload_n (X := M_X2_meetByChance) (pc := 38) dX2_meetByChance_38 rfl ?_
    refine ev_virtR (X := M_X2_meetByChance) (Y := M_X2_draw) (pc := 39) (ci := 2) dX2_meetByChance_39 mk_X2_draw rfl kw_640 kw_641 kw_642 (lO_102 hL) (c_draw hL) rfl (by decide) rfl (Nat.le_of_ble_eq_true rfl) (Nat.zero_add _) (Nat.zero_add _) ?_
    rw [v8]
    obtain ⟨V2, hV2⟩ : ∃ V2, wr V1 102 8 (zN (zN (D 23))) = V2 := ⟨_, rfl⟩
    have u0 : ∀ c, c ≠ 102 → V2 c = V c := fun c z => by rw [← hV2, wr_off z]; exact v0 c z
    have u1 : V2 102 = up (V 102) 8 (zN (zN (D 23))) := by
      rw [← hV2, wr_row, v1]
      funext j
      by_cases z : j = 8
      · rw [z, up_self, up_self]
      · rw [up_ne z, up_ne z, up_ne z]
    rw [hV2]
    clear hV2
    have hV : SV V2 := by unfold SV; rw [u0 1 (by decide), u0 2 (by decide), u0 3 (by decide)]; exact b2
    have u4 : V2 102 4 = nowS D := by rw [u1, up_ne (by decide)]; exact sc.1
    have hCI2 := z_CI h hw h25 u0 u1
    have hD2 : DL (up D 23 (zN (zN (D 23)))) := hw.z _
    have qc : comF (up D 23 (zN (zN (D 23)))) = comF D := Sm3.z.com hw.2.1
    refine ev_iload_n (X := M_X2_meetByChance) (pc := 42) dX2_meetByChance_42 rfl ?_
    refine ev_iconst (X := M_X2_meetByChance) (pc := 43) dX2_meetByChance_43 ?_
    refine ev_isub (X := M_X2_meetByChance) (pc := 44) dX2_meetByChance_44 ?_
    refine ev_irem (X := M_X2_meetByChance) (pc := 45) dX2_meetByChance_45 (by omega) (by omega) ?_
    refine ev_staticR (X := M_X2_meetByChance) (Y := M_X2_sortAt) (pc := 46) dX2_meetByChance_46 mk_X2_sortAt kw_645 kw_646 (c_sortAt hL hV (by omega) (by omega)) rfl (by decide) rfl (Nat.le_of_ble_eq_true rfl) (Nat.zero_add _) (Nat.zero_add _) ?_
    have e2 : sAt (nowS D - wgtF (chA D)) (zD (zN (D 23)) % (D 0 + D 1 + D 2 - 1)) = chB D := rfl
    rw [e2]
    obtain ⟨a, hae⟩ : ∃ a, chA D = a := ⟨_, rfl⟩
    obtain ⟨b, hbe⟩ : ∃ b, chB D = b := ⟨_, rfl⟩
    have hcP : chP D = prF a b := by unfold chP; rw [hae, hbe]
    rw [hae] at ha ⊢
    rw [hbe] at hb ⊢
    refine ev_istore_nL (X := M_X2_meetByChance) (pc := 49) (ls' := [_, _, _, _, _, _, _, _]) dX2_meetByChance_49 (by decide) rfl ?_
    refine ev_iload_n (X := M_X2_meetByChance) (pc := 50) dX2_meetByChance_50 rfl ?_
    refine ev_iload_n (X := M_X2_meetByChance) (pc := 51) dX2_meetByChance_51 rfl ?_
    refine ev_mmin (X := M_X2_meetByChance) (pc := 52) dX2_meetByChance_52 kw_619 kw_544 kw_5 kw_545 (by decide) (Nat.le_of_ble_eq_true rfl) (by omega) (by omega) ?_
    refine ev_istoreL (X := M_X2_meetByChance) (pc := 55) (ls' := [_, _, _, _, _, _, _, _]) dX2_meetByChance_55 (by decide) rfl ?_
    refine ev_iload_n (X := M_X2_meetByChance) (pc := 57) dX2_meetByChance_57 rfl ?_
    refine ev_iload_n (X := M_X2_meetByChance) (pc := 58) dX2_meetByChance_58 rfl ?_
    refine ev_mmax (X := M_X2_meetByChance) (pc := 59) dX2_meetByChance_59 kw_278 kw_54 kw_5 kw_55 (by decide) (Nat.le_of_ble_eq_true rfl) (by omega) (by omega) ?_
    refine ev_istoreL (X := M_X2_meetByChance) (pc := 62) (ls' := [_, _, _, _, _, _, _, _]) dX2_meetByChance_62 (by decide) rfl ?_
    refine ev_iload (X := M_X2_meetByChance) (pc := 64) dX2_meetByChance_64 rfl ?_
    refine ev_if_ne (X := M_X2_meetByChance) (pc := 66) (tgt := 74) dX2_meetByChance_66 (by decide) (by split <;> omega) (fun h66 => ?_) (fun h66 => ?_)
    · refine ev_iload (X := M_X2_meetByChance) (pc := 74) dX2_meetByChance_74 rfl ?_
      refine ev_iload (X := M_X2_meetByChance) (pc := 76) dX2_meetByChance_76 rfl ?_
      refine ev_iadd (X := M_X2_meetByChance) (pc := 78) dX2_meetByChance_78 ?_
      refine ev_iconst (X := M_X2_meetByChance) (pc := 79) dX2_meetByChance_79 ?_
      refine ev_iadd (X := M_X2_meetByChance) (pc := 80) dX2_meetByChance_80 ?_
      have htail : ∀ x, x = chP D → ∀ y z, Ev γ M_X2_meetByChance 4 0 0 81 [vR 102, vI (D 0 + D 1 + D 2), vI a, vI b, vI y, vI z, vU, vU] [vI x] K V2 (Qx none K (fun W => oF V W ∧ CI K W (chD D) E im er)) := by
        intro x hx y z
        rw [hx]
        have hIs : IslD V2 (comF D) (fS D) := by
          have := hCI2.1.2.2.1.2.2.2.2.2.1
          rw [qc, show fS (up D 23 (zN (zN (D 23)))) = fS D from Sm3.z.fS] at this
          exact this
        have hnr := nx_r (F := fS D) b4 ⟨hsl.1, hsl.2⟩ hP
        have hnn := nx_ne (F := fS D) b4 hP hs0
        refine ev_istoreL (X := M_X2_meetByChance) (pc := 81) (ls' := [_, _, _, _, _, _, _, _]) dX2_meetByChance_81 (by decide) rfl ?_
        refine ev_aload_n (X := M_X2_meetByChance) (pc := 83) dX2_meetByChance_83 rfl ?_
        refine ev_aload_n (X := M_X2_meetByChance) (pc := 84) dX2_meetByChance_84 rfl ?_
        refine ev_getIe (X := M_X2_meetByChance) (pc := 85) (ki := 4) dX2_meetByChance_85 fl_X2_58_2 (lO_102 hL) (by decide) rfl (u4) ?_
        refine ev_iload (X := M_X2_meetByChance) (pc := 88) dX2_meetByChance_88 rfl ?_
        refine ev_virtR (X := M_X2_meetByChance) (Y := M_X2_next) (pc := 90) (ci := 2) dX2_meetByChance_90 mk_X2_next rfl kw_648 kw_430 kw_431 (lO_102 hL) (c_next hL hV b4 b5 hP hIs (by omega)) rfl (by decide) rfl (Nat.le_of_ble_eq_true rfl) (Nat.zero_add _) (Nat.zero_add _) ?_
        refine ev_istoreL (X := M_X2_meetByChance) (pc := 93) (ls' := [_, _, _, _, _, _, _, _]) dX2_meetByChance_93 (by decide) rfl ?_
        refine ev_iload (X := M_X2_meetByChance) (pc := 95) dX2_meetByChance_95 rfl ?_
        refine ev_iconst (X := M_X2_meetByChance) (pc := 97) dX2_meetByChance_97 ?_
        refine ev_icmp_eq (X := M_X2_meetByChance) (pc := 98) (tgt := 109) dX2_meetByChance_98 (by decide) (by omega) (by decide) (fun h98 => ?_) (fun h98 => ?_)
        · have hch : chD D = up D 23 (zN (zN (D 23))) := by unfold chD; rw [if_neg (by omega), if_pos h98]
          refine ev_vret (X := M_X2_meetByChance) (pc := 109) dX2_meetByChance_109 rfl ?_
          first
            | (refine ⟨rfl, rfl, fun c q => u0 c (by omega), ?_⟩
               rw [hch]
               exact hCI2)
            | (refine ⟨rfl, rfl, fun c q => (hW.1 c (by omega) (fun w => by have := w.1; omega)).trans (u0 c (by omega)), ?_⟩
               rw [hch]
               refine me_CI (F := fS D) hCI2 hD2 ?_ ?_ hP ?_ hW.1 ?_
               · rw [up_ne (by decide)]; exact h25
               · rw [up_ne (by decide)]; exact h24
               · rw [qc]; exact hm
               · rw [hW.2, hnx, qc]; rfl)
        · have hm : may (comF D) (fS D) (nowS D) (chP D) := hnn.mp h98
          have hnx : nx (comF D) (fS D) (nowS D) (chP D) = aft (comF D) (nowS D) (chP D) := by unfold nx; rw [if_pos hm]
          have hch : chD D = meD (up D 23 (zN (zN (D 23)))) (chP D) := by unfold chD; rw [if_neg (by omega), if_neg h98]
          have h21' : 0 ≤ up D 23 (zN (zN (D 23))) 21 ∧ up D 23 (zN (zN (D 23))) 21 < 9999 := by rw [up_ne (by decide)]; exact h21
          refine ev_aload_n (X := M_X2_meetByChance) (pc := 101) dX2_meetByChance_101 rfl ?_
          refine ev_iload (X := M_X2_meetByChance) (pc := 102) dX2_meetByChance_102 rfl ?_
          refine ev_iload (X := M_X2_meetByChance) (pc := 104) dX2_meetByChance_104 rfl ?_
          refine ev_virtY (X := M_X2_meetByChance) (Y := M_X2_become) (pc := 106) (ci := 2) dX2_meetByChance_106 mk_X2_become rfl kw_649 kw_626 kw_627 (lO_102 hL) (c_become hL hV hCI2.1.2.2.2.2.1 hD2 h21' hCI2.2.2.2.1 hCI2.2.2.2.2.1 hP) rfl (by decide) rfl (Nat.le_of_ble_eq_true rfl) (Nat.zero_add _) (Nat.zero_add _) (fun W hW => ?_)
          refine ev_vret (X := M_X2_meetByChance) (pc := 109) dX2_meetByChance_109 rfl ?_
          first
            | (refine ⟨rfl, rfl, fun c q => u0 c (by omega), ?_⟩
               rw [hch]
               exact hCI2)
            | (refine ⟨rfl, rfl, fun c q => (hW.1 c (by omega) (fun w => by have := w.1; omega)).trans (u0 c (by omega)), ?_⟩
               rw [hch]
               refine me_CI (F := fS D) hCI2 hD2 ?_ ?_ hP ?_ hW.1 ?_
               · rw [up_ne (by decide)]; exact h25
               · rw [up_ne (by decide)]; exact h24
               · rw [qc]; exact hm
               · rw [hW.2, hnx, qc]; rfl)
      refine ev_weak (htail _ ?_ _ _) ⟨rfl, rfl, rfl, rfl, rfl, rfl, trivial⟩
      rw [hcP]
      unfold prF
      clear htail
      repeat' split
      all_goals omega
    · refine ev_iload (X := M_X2_meetByChance) (pc := 69) dX2_meetByChance_69 rfl ?_
      refine ev_goto (X := M_X2_meetByChance) (pc := 71) (tgt := 81) dX2_meetByChance_71 (by decide) ?_
      have htail : ∀ x, x = chP D → ∀ y z, Ev γ M_X2_meetByChance 4 0 0 81 [vR 102, vI (D 0 + D 1 + D 2), vI a, vI b, vI y, vI z, vU, vU] [vI x] K V2 (Qx none K (fun W => oF V W ∧ CI K W (chD D) E im er)) := by
        intro x hx y z
        rw [hx]
        have hIs : IslD V2 (comF D) (fS D) := by
          have := hCI2.1.2.2.1.2.2.2.2.2.1
          rw [qc, show fS (up D 23 (zN (zN (D 23)))) = fS D from Sm3.z.fS] at this
          exact this
        have hnr := nx_r (F := fS D) b4 ⟨hsl.1, hsl.2⟩ hP
        have hnn := nx_ne (F := fS D) b4 hP hs0
        refine ev_istoreL (X := M_X2_meetByChance) (pc := 81) (ls' := [_, _, _, _, _, _, _, _]) dX2_meetByChance_81 (by decide) rfl ?_
        refine ev_aload_n (X := M_X2_meetByChance) (pc := 83) dX2_meetByChance_83 rfl ?_
        refine ev_aload_n (X := M_X2_meetByChance) (pc := 84) dX2_meetByChance_84 rfl ?_
        refine ev_getIe (X := M_X2_meetByChance) (pc := 85) (ki := 4) dX2_meetByChance_85 fl_X2_58_2 (lO_102 hL) (by decide) rfl (u4) ?_
        refine ev_iload (X := M_X2_meetByChance) (pc := 88) dX2_meetByChance_88 rfl ?_
        refine ev_virtR (X := M_X2_meetByChance) (Y := M_X2_next) (pc := 90) (ci := 2) dX2_meetByChance_90 mk_X2_next rfl kw_648 kw_430 kw_431 (lO_102 hL) (c_next hL hV b4 b5 hP hIs (by omega)) rfl (by decide) rfl (Nat.le_of_ble_eq_true rfl) (Nat.zero_add _) (Nat.zero_add _) ?_
        refine ev_istoreL (X := M_X2_meetByChance) (pc := 93) (ls' := [_, _, _, _, _, _, _, _]) dX2_meetByChance_93 (by decide) rfl ?_
        refine ev_iload (X := M_X2_meetByChance) (pc := 95) dX2_meetByChance_95 rfl ?_
        refine ev_iconst (X := M_X2_meetByChance) (pc := 97) dX2_meetByChance_97 ?_
        refine ev_icmp_eq (X := M_X2_meetByChance) (pc := 98) (tgt := 109) dX2_meetByChance_98 (by decide) (by omega) (by decide) (fun h98 => ?_) (fun h98 => ?_)
        · have hch : chD D = up D 23 (zN (zN (D 23))) := by unfold chD; rw [if_neg (by omega), if_pos h98]
          refine ev_vret (X := M_X2_meetByChance) (pc := 109) dX2_meetByChance_109 rfl ?_
          first
            | (refine ⟨rfl, rfl, fun c q => u0 c (by omega), ?_⟩
               rw [hch]
               exact hCI2)
            | (refine ⟨rfl, rfl, fun c q => (hW.1 c (by omega) (fun w => by have := w.1; omega)).trans (u0 c (by omega)), ?_⟩
               rw [hch]
               refine me_CI (F := fS D) hCI2 hD2 ?_ ?_ hP ?_ hW.1 ?_
               · rw [up_ne (by decide)]; exact h25
               · rw [up_ne (by decide)]; exact h24
               · rw [qc]; exact hm
               · rw [hW.2, hnx, qc]; rfl)
        · have hm : may (comF D) (fS D) (nowS D) (chP D) := hnn.mp h98
          have hnx : nx (comF D) (fS D) (nowS D) (chP D) = aft (comF D) (nowS D) (chP D) := by unfold nx; rw [if_pos hm]
          have hch : chD D = meD (up D 23 (zN (zN (D 23)))) (chP D) := by unfold chD; rw [if_neg (by omega), if_neg h98]
          have h21' : 0 ≤ up D 23 (zN (zN (D 23))) 21 ∧ up D 23 (zN (zN (D 23))) 21 < 9999 := by rw [up_ne (by decide)]; exact h21
          refine ev_aload_n (X := M_X2_meetByChance) (pc := 101) dX2_meetByChance_101 rfl ?_
          refine ev_iload (X := M_X2_meetByChance) (pc := 102) dX2_meetByChance_102 rfl ?_
          refine ev_iload (X := M_X2_meetByChance) (pc := 104) dX2_meetByChance_104 rfl ?_
          refine ev_virtY (X := M_X2_meetByChance) (Y := M_X2_become) (pc := 106) (ci := 2) dX2_meetByChance_106 mk_X2_become rfl kw_649 kw_626 kw_627 (lO_102 hL) (c_become hL hV hCI2.1.2.2.2.2.1 hD2 h21' hCI2.2.2.2.1 hCI2.2.2.2.2.1 hP) rfl (by decide) rfl (Nat.le_of_ble_eq_true rfl) (Nat.zero_add _) (Nat.zero_add _) (fun W hW => ?_)
          refine ev_vret (X := M_X2_meetByChance) (pc := 109) dX2_meetByChance_109 rfl ?_
          first
            | (refine ⟨rfl, rfl, fun c q => u0 c (by omega), ?_⟩
               rw [hch]
               exact hCI2)
            | (refine ⟨rfl, rfl, fun c q => (hW.1 c (by omega) (fun w => by have := w.1; omega)).trans (u0 c (by omega)), ?_⟩
               rw [hch]
               refine me_CI (F := fS D) hCI2 hD2 ?_ ?_ hP ?_ hW.1 ?_
               · rw [up_ne (by decide)]; exact h25
               · rw [up_ne (by decide)]; exact h24
               · rw [qc]; exact hm
               · rw [hW.2, hnx, qc]; rfl)
      refine ev_weak (htail _ ?_ _ _) ⟨rfl, rfl, rfl, rfl, rfl, rfl, trivial⟩
      rw [hcP]
      unfold prF
      clear htail
      repeat' split
      all_goals omega
  · have hch : chD D = D := by unfold chD; rw [if_pos (by omega)]
    refine ev_vret (X := M_X2_meetByChance) (pc := 13) dX2_meetByChance_13 rfl ?_
    exact ⟨rfl, rfl, oF.rf, by rw [hch]; exact h⟩
theorem c_chance {γ : Gh} {K : Sk} {V : Mm} {D E : Int → Int} {im : Int} {er : Int → Int} (h : CI K V D E im er) (hw : DL D) (h21 : 0 ≤ D 21 ∧ D 21 ≤ 9999) (h25 : D 25 ≤ 20) (h24 : D 24 ≤ 50) {n : Int} (hnr : R32 n) : Call γ M_X11_chance 5 0 0 [vR 100, vI n] K V (Qx (some (vI (aR (cnK D n) (nowS (chN D n.toNat))))) K (fun W => oF V W ∧ CI K W (aD (cnK D n) D (chN D n.toNat)) E im (erK er (cnK D n)))) := by
  refine call_of (by decide +kernel) (by intro v hv; simp only [List.mem_cons, List.not_mem_nil, or_false] at hv; rcases hv with rfl | rfl <;> exact fun q => by cases q) (Nat.le_of_ble_eq_true rfl) ?_
  refine ev_lsE (ls' := [_, _, _]) rfl ?_
  have hL := h.1.L
  refine ev_iload_n (X := M_X11_chance) (pc := 0) dX11_chance_0 rfl ?_
  refine ev_iconst (X := M_X11_chance) (pc := 1) dX11_chance_1 ?_
  refine ev_icmp_lt (X := M_X11_chance) (pc := 2) (tgt := 11) dX11_chance_2 (by decide) (by omega) (by omega) (fun h2 => ?_) (fun h2 => ?_)
  · have hk : cnK D n = 1 := by unfold cnK; rw [if_neg (by omega)]
    refine ev_aload_n (X := M_X11_chance) (pc := 11) dX11_chance_11 rfl ?_
    refine ev_ldc (X := M_X11_chance) (pc := 12) (v := -1000000001) dX11_chance_12 kw_318 (by decide) ?_
    refine ev_virtR (X := M_X11_chance) (Y := M_X11_error) (pc := 14) (ci := 11) dX11_chance_14 mk_X11_error rfl kw_319 kw_321 kp_0 (lO_100 hL) (c_error hL (k := 1) (by decide) rfl) rfl (by decide) rfl (Nat.le_of_ble_eq_true rfl) (Nat.zero_add _) (Nat.zero_add _) ?_
    refine ev_iret (X := M_X11_chance) (pc := 17) dX11_chance_17 rfl ?_
    rw [hk]
    exact ⟨rfl, rfl, oF_err, h.e hw (by decide)⟩
  · refine ev_iload_n (X := M_X11_chance) (pc := 5) dX11_chance_5 rfl ?_
    refine ev_bipush (X := M_X11_chance) (pc := 6) dX11_chance_6 (by decide) ?_
    refine ev_icmp_le (X := M_X11_chance) (pc := 8) (tgt := 18) dX11_chance_8 (by decide) (by omega) (by omega) (fun h8 => ?_) (fun h8 => ?_)
    · have hk0 : cnK D n = if 9999 < D 21 + n then 3 else 0 := by unfold cnK; rw [if_pos (by omega)]
      refine ev_aload_n (X := M_X11_chance) (pc := 18) dX11_chance_18 rfl ?_
      refine ev_getRe (X := M_X11_chance) (pc := 19) dX11_chance_19 fl_X11_20_11 (lO_100 hL) rfl (lR_100_0 hL) ?_
      refine ev_getIe (X := M_X11_chance) (pc := 22) (ki := 6) dX11_chance_22 fl_X11_156_2 (lO_102 hL) (by decide) rfl (h.2.2.2.1) ?_
      refine ev_iload_n (X := M_X11_chance) (pc := 25) dX11_chance_25 rfl ?_
      refine ev_iadd (X := M_X11_chance) (pc := 26) dX11_chance_26 ?_
      refine ev_sipush (X := M_X11_chance) (pc := 27) dX11_chance_27 (by decide) ?_
      refine ev_icmp_le (X := M_X11_chance) (pc := 30) (tgt := 40) dX11_chance_30 (by decide) (by omega) (by decide) (fun h30 => ?_) (fun h30 => ?_)
      · have hk : cnK D n = 0 := by rw [hk0, if_neg (by omega)]
        rw [hk]
        refine ev_iconst (X := M_X11_chance) (pc := 40) dX11_chance_40 ?_
        refine ev_istore_nL (X := M_X11_chance) (pc := 41) (ls' := [_, _, _]) dX11_chance_41 (by decide) rfl ?_
        refine ev_weak (ev_while (σ := Nat × Mm) (fun z => (z.1 : Int) ≤ n ∧ oF V z.2 ∧ CI K z.2 (chN D z.1) E im er) (fun z => n.toNat - z.1) (fun z => [vR 100, vI n, vI z.1]) (fun _ => K) (fun z => z.2) ?_ (0, V) ⟨by show ((0 : Nat) : Int) ≤ n; omega, oF.rf, h⟩) ⟨rfl, rfl, rfl, trivial⟩
        rintro ⟨i, W⟩ ⟨i1, w1, w2⟩ ih
        dsimp only at i1 w1 w2 ih ⊢
        obtain ⟨a1, a2, a3, a4⟩ := chN_ok hw i
        have x25 : chN D i 25 ≤ 20 := by rw [a2 25 (by decide) (by decide) (by decide) (by decide)]; exact h25
        have x24 : chN D i 24 ≤ 50 := by rw [a2 24 (by decide) (by decide) (by decide) (by decide)]; exact h24
        refine ev_iload_n (X := M_X11_chance) (pc := 42) dX11_chance_42 rfl ?_
        refine ev_iload_n (X := M_X11_chance) (pc := 43) dX11_chance_43 rfl ?_
        refine ev_icmp_ge (X := M_X11_chance) (pc := 44) (tgt := 60) dX11_chance_44 (by decide) (by omega) (by omega) (fun h44 => ?_) (fun h44 => ?_)
        · have hi : i = n.toNat := by omega
          subst hi
          refine ev_aload_n (X := M_X11_chance) (pc := 60) dX11_chance_60 rfl ?_
          refine ev_getRe (X := M_X11_chance) (pc := 61) dX11_chance_61 fl_X11_20_11 (lO_100 hL) rfl (lR_100_0 hL) ?_
          refine ev_getIe (X := M_X11_chance) (pc := 64) (ki := 4) dX11_chance_64 fl_X11_61_2 (lO_102 hL) (by decide) rfl (w2.2.1) ?_
          refine ev_iret (X := M_X11_chance) (pc := 67) dX11_chance_67 rfl ?_
          exact ⟨rfl, rfl, w1, w2⟩
        · refine ev_aload_n (X := M_X11_chance) (pc := 47) dX11_chance_47 rfl ?_
          refine ev_getRe (X := M_X11_chance) (pc := 48) dX11_chance_48 fl_X11_20_11 (lO_100 hL) rfl (lR_100_0 hL) ?_
          refine ev_virtY (X := M_X11_chance) (Y := M_X2_meetByChance) (pc := 51) (ci := 2) dX11_chance_51 mk_X2_meetByChance rfl kw_636 kw_637 kw_638 (lO_102 hL) (c_meetByChance w2 a1 (by omega) x25 x24) rfl (by decide) rfl (Nat.le_of_ble_eq_true rfl) (Nat.zero_add _) (Nat.zero_add _) (fun W2 hW2 => ?_)
          refine ev_iincL (X := M_X11_chance) (pc := 54) (ls' := [_, _, _]) dX11_chance_54 rfl (by decide) rfl ?_
          refine ev_goto (X := M_X11_chance) (pc := 57) (tgt := 42) dX11_chance_57 (by decide) ?_
          exact ev_weak (ih (i + 1, W2) ⟨by show ((i + 1 : Nat) : Int) ≤ n; omega, w1.tr hW2.1, hW2.2⟩ (by show n.toNat - (i + 1) < n.toNat - i; omega)) ⟨rfl, rfl, congrArg vI (by omega), trivial⟩
      · have hk : cnK D n = 3 := by rw [hk0, if_pos (by omega)]
        refine ev_aload_n (X := M_X11_chance) (pc := 33) dX11_chance_33 rfl ?_
        refine ev_ldc (X := M_X11_chance) (pc := 34) (v := -1000000003) dX11_chance_34 kw_624 (by decide) ?_
        refine ev_virtR (X := M_X11_chance) (Y := M_X11_error) (pc := 36) (ci := 11) dX11_chance_36 mk_X11_error rfl kw_319 kw_321 kp_0 (lO_100 hL) (c_error hL (k := 3) (by decide) rfl) rfl (by decide) rfl (Nat.le_of_ble_eq_true rfl) (Nat.zero_add _) (Nat.zero_add _) ?_
        refine ev_iret (X := M_X11_chance) (pc := 39) dX11_chance_39 rfl ?_
        rw [hk]
        exact ⟨rfl, rfl, oF_err, h.e hw (by decide)⟩
    · have hk : cnK D n = 1 := by unfold cnK; rw [if_neg (by omega)]
      refine ev_aload_n (X := M_X11_chance) (pc := 11) dX11_chance_11 rfl ?_
      refine ev_ldc (X := M_X11_chance) (pc := 12) (v := -1000000001) dX11_chance_12 kw_318 (by decide) ?_
      refine ev_virtR (X := M_X11_chance) (Y := M_X11_error) (pc := 14) (ci := 11) dX11_chance_14 mk_X11_error rfl kw_319 kw_321 kp_0 (lO_100 hL) (c_error hL (k := 1) (by decide) rfl) rfl (by decide) rfl (Nat.le_of_ble_eq_true rfl) (Nat.zero_add _) (Nat.zero_add _) ?_
      refine ev_iret (X := M_X11_chance) (pc := 17) dX11_chance_17 rfl ?_
      rw [hk]
      exact ⟨rfl, rfl, oF_err, h.e hw (by decide)⟩
