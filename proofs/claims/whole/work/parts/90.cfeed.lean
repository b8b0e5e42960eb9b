/-! ===== the class: feed, text ===== -/
theorem fdD_o {D : Int → Int} {w : Int} : ∀ (k : Nat) (i : Int), i ≠ 24 → ¬ (148 + D 24 ≤ i ∧ i < 148 + D 24 + k) → fdD D w k i = D i
  | 0, _, _, _ => rfl
  | k + 1, i, h1, h2 => by
    show up (up (fdD D w k) (148 + (D 24 + k)) (bytF w k)) 24 (D 24 + k + 1) i = D i
    rw [up_ne h1, up_ne (by omega)]
    exact fdD_o k i h1 (by omega)
theorem row_105 {K : Sk} (hL : Lay K) : RowAt K 105 106 50 := ⟨lO_105 hL, lR_105_0 hL, lS_106 hL, by decide, by decide, by decide, by decide⟩
theorem fd_CI {K : Sk} {V W : Mm} {D E : Int → Int} {im w : Int} {er : Int → Int} {n : Nat} (h : CI K V D E im er) (hw : DL D) (h24 : 0 ≤ D 24) (hn : D 24 + n ≤ 50) (h25 : D 25 ≤ 20) (hf : ∀ c, c ≠ 105 → c ≠ 106 → W c = V c) (h1 : W 105 1 = D 24 + n) (h2 : ∀ i, 0 ≤ i → i < D 24 + n → W 106 i = fdD D w n (148 + i)) : CI K W (fdD D w n) E im er := by
  have cg : ∀ i, i ≠ 24 → i < 148 → fdD D w n i = D i := fun i z y => fdD_o n i z (by omega)
  refine ⟨h.1.sc (fun i z => cg i (by omega) (by omega)) hw.d26 hw.d27 (fun c c1 c2 _ => hf c (by omega) (by omega)) (by rw [hf 102 (by decide) (by decide)]) (by rw [hf 119 (by decide) (by decide)]; exact h.1.ok) (by rw [hf 155 (by decide) (by decide)]; exact h.1.2.2.2.2.2.2.2), ?_⟩
  obtain ⟨s1, s2, s3, s4, s5, s6, s7, s8, s9⟩ := h.2
  have e1 : nowS (fdD D w n) = nowS D := by unfold nowS; rw [cg 0 (by decide) (by decide), cg 1 (by decide) (by decide), cg 2 (by decide) (by decide)]
  have e2 : fS (fdD D w n) = fS D := fS_cg (fun i y1 y2 => cg i (by omega) (by omega))
  have e3 := hf 102 (by decide) (by decide)
  refine ⟨by rw [e3, e1]; exact s1, by rw [e3, e2]; exact s2, by rw [e3, cg 21 (by decide) (by decide)]; exact s3, by rw [e3, cg 22 (by decide) (by decide)]; exact s4, by rw [e3, cg 23 (by decide) (by decide)]; exact s5, by rw [fdD_24]; exact h1, fun i i0 i1 => ?_, by rw [hf 107 (by decide) (by decide), cg 25 (by decide) (by decide)]; exact s8, fun i i0 i1 => ?_⟩
  · rw [fdD_24] at i1; exact h2 i i0 i1
  · rw [cg 25 (by decide) (by decide)] at i1
    rw [hf 108 (by decide) (by decide), cg _ (by omega) (by omega)]; exact s9 i i0 i1
theorem c_feed {γ : Gh} {K : Sk} {V : Mm} {D E : Int → Int} {im : Int} {er : Int → Int} (h : CI K V D E im er) (hw : DL D) (h24 : 0 ≤ D 24 ∧ D 24 ≤ 50) (h25 : 0 ≤ D 25 ∧ D 25 ≤ 20) {w n : Int} (hn : R32 n) : Call γ M_X11_feed 1 0 0 [vR 100, vL w, vI n] K V (Qx (some (vI (aR (fdK D n) (D 24 + n)))) K (fun W => oF V W ∧ CI K W (aD (fdK D n) D (fdD D w n.toNat)) E im (erK er (fdK D n)))) := by
  refine call_of (by decide +kernel) (by intro v hv; simp only [List.mem_cons, List.not_mem_nil, or_false] at hv; rcases hv with rfl | rfl | rfl <;> exact fun q => by cases q) (Nat.le_of_ble_eq_true rfl) ?_
  refine ev_lsE (ls' := [_, _, _, _, _]) rfl ?_
  have hL := h.1.L
  have s6 : V 105 1 = D 24 := h.2.2.2.2.2.2.1
  have s7 : ∀ i, 0 ≤ i → i < D 24 → V 106 i = D (148 + i) := h.2.2.2.2.2.2.2.1
  refine ev_iload_n (X := M_X11_feed) (pc := 0) dX11_feed_0 rfl ?_
  refine ev_iconst (X := M_X11_feed) (pc := 1) dX11_feed_1 ?_
  refine ev_icmp_lt (X := M_X11_feed) (pc := 2) (tgt := 11) dX11_feed_2 (by decide) (by omega) (by omega) (fun h2 => ?_) (fun h2 => ?_)
  · have hk : fdK D n = 1 := by unfold fdK; rw [if_neg (by omega)]
    refine ev_aload_n (X := M_X11_feed) (pc := 11) dX11_feed_11 rfl ?_
    refine ev_ldc (X := M_X11_feed) (pc := 12) (v := -1000000001) dX11_feed_12 kw_318 (by decide) ?_
    refine ev_virtR (X := M_X11_feed) (Y := M_X11_error) (pc := 14) (ci := 11) dX11_feed_14 mk_X11_error rfl kw_319 kw_321 kp_0 (lO_100 hL) (c_error hL (k := 1) (by decide) rfl) rfl (by decide) rfl (Nat.le_of_ble_eq_true rfl) (Nat.zero_add _) (Nat.zero_add _) ?_
    refine ev_iret (X := M_X11_feed) (pc := 17) dX11_feed_17 rfl ?_
    rw [hk]
    exact ⟨rfl, rfl, oF_err, h.e hw (by decide)⟩
  · refine ev_iload_n (X := M_X11_feed) (pc := 5) dX11_feed_5 rfl ?_
    refine ev_bipush (X := M_X11_feed) (pc := 6) dX11_feed_6 (by decide) ?_
    refine ev_icmp_le (X := M_X11_feed) (pc := 8) (tgt := 18) dX11_feed_8 (by decide) (by omega) (by omega) (fun h8 => ?_) (fun h8 => ?_)
    · have hk0 : fdK D n = if 50 < D 24 + n then 4 else 0 := by unfold fdK; rw [if_pos (by omega)]
      refine ev_aload_n (X := M_X11_feed) (pc := 18) dX11_feed_18 rfl ?_
      refine ev_getRe (X := M_X11_feed) (pc := 19) dX11_feed_19 fl_X11_20_11 (lO_100 hL) rfl (lR_100_0 hL) ?_
      refine ev_getRe (X := M_X11_feed) (pc := 22) dX11_feed_22 fl_X11_119_2 (lO_102 hL) rfl (lR_102_2 hL) ?_
      refine ev_getIe (X := M_X11_feed) (pc := 25) (ki := 1) dX11_feed_25 fl_X11_122_5 (lO_105 hL) (by decide) rfl (s6) ?_
      refine ev_iload_n (X := M_X11_feed) (pc := 28) dX11_feed_28 rfl ?_
      refine ev_iadd (X := M_X11_feed) (pc := 29) dX11_feed_29 ?_
      refine ev_bipush (X := M_X11_feed) (pc := 30) dX11_feed_30 (by decide) ?_
      refine ev_icmp_le (X := M_X11_feed) (pc := 32) (tgt := 42) dX11_feed_32 (by decide) (by omega) (by decide) (fun h32 => ?_) (fun h32 => ?_)
      · have hk : fdK D n = 0 := by rw [hk0, if_neg (by omega)]
        rw [hk]
        refine ev_iconst (X := M_X11_feed) (pc := 42) dX11_feed_42 ?_
        refine ev_istoreL (X := M_X11_feed) (pc := 43) (ls' := [_, _, _, _, _]) dX11_feed_43 (by decide) rfl ?_
        refine ev_weak (ev_while (σ := Nat × Mm) (fun z => (z.1 : Int) ≤ n ∧ (∀ c, c ≠ 105 → c ≠ 106 → z.2 c = V c) ∧ z.2 105 1 = D 24 + z.1 ∧ ∀ i, 0 ≤ i → i < D 24 + z.1 → z.2 106 i = fdD D w z.1 (148 + i)) (fun z => n.toNat - z.1) (fun z => [vR 100, vL w, vU, vI n, vI z.1]) (fun _ => K) (fun z => z.2) ?_ (0, V) ⟨by show ((0 : Nat) : Int) ≤ n; omega, fun _ _ _ => rfl, by show V 105 1 = D 24 + ((0 : Nat) : Int); omega, fun i i0 i1 => by change i < D 24 + ((0 : Nat) : Int) at i1; exact s7 i i0 (by omega)⟩) ⟨rfl, rfl, rfl, rfl, trivial⟩
        rintro ⟨k, W⟩ ⟨k1, w1, w2, w3⟩ ih
        dsimp only at k1 w1 w2 w3 ih ⊢
        have hz : 0 ≤ W 105 1 ∧ W 105 1 ≤ (50 : Nat) := by rw [w2]; omega
        refine ev_iload (X := M_X11_feed) (pc := 45) dX11_feed_45 rfl ?_
        refine ev_iload_n (X := M_X11_feed) (pc := 47) dX11_feed_47 rfl ?_
        refine ev_icmp_ge (X := M_X11_feed) (pc := 48) (tgt := 80) dX11_feed_48 (by decide) (by omega) (by omega) (fun h48 => ?_) (fun h48 => ?_)
        · have hkn : n.toNat = k := by omega
          rw [hkn]
          refine ev_aload_n (X := M_X11_feed) (pc := 80) dX11_feed_80 rfl ?_
          refine ev_getRe (X := M_X11_feed) (pc := 81) dX11_feed_81 fl_X11_20_11 (lO_100 hL) rfl (lR_100_0 hL) ?_
          refine ev_getRe (X := M_X11_feed) (pc := 84) dX11_feed_84 fl_X11_119_2 (lO_102 hL) rfl (lR_102_2 hL) ?_
          refine ev_getIe (X := M_X11_feed) (pc := 87) (ki := 1) dX11_feed_87 fl_X11_122_5 (lO_105 hL) (by decide) rfl (w2) ?_
          refine ev_iret (X := M_X11_feed) (pc := 90) dX11_feed_90 rfl ?_
          refine ⟨congrArg (fun z => some (vI z)) ?_, rfl, fun c z => w1 c (by omega) (by omega), fd_CI h hw h24.1 (by omega) h25.2 w1 w2 w3⟩
          show D 24 + (k : Int) = D 24 + n
          omega
        · refine ev_aload_n (X := M_X11_feed) (pc := 51) dX11_feed_51 rfl ?_
          refine ev_getRe (X := M_X11_feed) (pc := 52) dX11_feed_52 fl_X11_20_11 (lO_100 hL) rfl (lR_100_0 hL) ?_
          refine ev_getRe (X := M_X11_feed) (pc := 55) dX11_feed_55 fl_X11_119_2 (lO_102 hL) rfl (lR_102_2 hL) ?_
          refine ev_lload_n (X := M_X11_feed) (pc := 58) dX11_feed_58 rfl ?_
          refine ev_bipush (X := M_X11_feed) (pc := 59) dX11_feed_59 (by decide) ?_
          refine ev_iload (X := M_X11_feed) (pc := 61) dX11_feed_61 rfl ?_
          refine ev_imul (X := M_X11_feed) (pc := 63) dX11_feed_63 ?_
          refine ev_lushr (X := M_X11_feed) (pc := 64) dX11_feed_64 ?_
          refine ev_l2i (X := M_X11_feed) (pc := 65) dX11_feed_65 ?_
          refine ev_sipush (X := M_X11_feed) (pc := 66) dX11_feed_66 (by decide) ?_
          refine ev_iand (X := M_X11_feed) (pc := 69) dX11_feed_69 ?_
          refine ev_virtR (X := M_X11_feed) (Y := M_X5_add) (pc := 70) (ci := 5) dX11_feed_70 mk_X5_add rfl kw_449 kw_450 kw_451 (lO_105 hL) (c_Row_add (row_105 hL) hz) rfl (by decide) rfl (Nat.le_of_ble_eq_true rfl) (Nat.zero_add _) (Nat.zero_add _) ?_
          have hlt : W 105 1 < ((50 : Nat) : Int) := by rw [w2]; omega
          rw [if_pos hlt, if_pos hlt]
          have eb : op_iand (op_lushr w (8 * (k : Int))) 255 = bytF w k := by
            have e8 : (8 * (k : Int)) = ((8 * k : Nat) : Int) := by omega
            unfold bytF
            rw [e8]
            exact byte_eq (by omega)
          rw [eb]
          obtain ⟨W2, hW2⟩ : ∃ W2, rAdd W 105 106 (bytF w k) = W2 := ⟨_, rfl⟩
          have x0 : ∀ c, c ≠ 105 → c ≠ 106 → W2 c = V c := fun c c1 c2 => by rw [← hW2]; unfold rAdd; rw [wr_off c1, wr_off c2]; exact w1 c c1 c2
          have x1 : W2 105 1 = D 24 + ((k + 1 : Nat) : Int) := by rw [← hW2]; unfold rAdd; rw [wr_self, w2]; omega
          have x2 : W2 106 = up (W 106) (D 24 + k) (bytF w k) := by rw [← hW2]; unfold rAdd; rw [wr_off (by decide), wr_row, w2]
          rw [hW2]
          clear hW2
          refine ev_pop (X := M_X11_feed) (pc := 73) dX11_feed_73 (fun _ q => by cases q) ?_
          refine ev_iincL (X := M_X11_feed) (pc := 74) (ls' := [_, _, _, _, _]) dX11_feed_74 rfl (by decide) rfl ?_
          refine ev_goto (X := M_X11_feed) (pc := 77) (tgt := 45) dX11_feed_77 (by decide) ?_
          refine ev_weak (ih (k + 1, W2) ⟨by show ((k + 1 : Nat) : Int) ≤ n; omega, x0, x1, fun i i0 i1 => ?_⟩ (by show n.toNat - (k + 1) < n.toNat - k; omega)) ⟨rfl, rfl, rfl, congrArg vI (by omega), trivial⟩
          change i < D 24 + ((k + 1 : Nat) : Int) at i1
          show W2 106 i = up (up (fdD D w k) (148 + (D 24 + k)) (bytF w k)) 24 (D 24 + k + 1) (148 + i)
          rw [x2, up_ne (show (148 + i : Int) ≠ 24 by omega)]
          by_cases z : i = D 24 + k
          · rw [z, up_self, up_self]
          · rw [up_ne z, up_ne (by omega)]
            exact w3 i i0 (by omega)
      · have hk : fdK D n = 4 := by rw [hk0, if_pos (by omega)]
        refine ev_aload_n (X := M_X11_feed) (pc := 35) dX11_feed_35 rfl ?_
        refine ev_ldc (X := M_X11_feed) (pc := 36) (v := -1000000004) dX11_feed_36 kw_327 (by decide) ?_
        refine ev_virtR (X := M_X11_feed) (Y := M_X11_error) (pc := 38) (ci := 11) dX11_feed_38 mk_X11_error rfl kw_319 kw_321 kp_0 (lO_100 hL) (c_error hL (k := 4) (by decide) rfl) rfl (by decide) rfl (Nat.le_of_ble_eq_true rfl) (Nat.zero_add _) (Nat.zero_add _) ?_
        refine ev_iret (X := M_X11_feed) (pc := 41) dX11_feed_41 rfl ?_
        rw [hk]
        exact ⟨rfl, rfl, oF_err, h.e hw (by decide)⟩
    · have hk : fdK D n = 1 := by unfold fdK; rw [if_neg (by omega)]
      refine ev_aload_n (X := M_X11_feed) (pc := 11) dX11_feed_11 rfl ?_
      refine ev_ldc (X := M_X11_feed) (pc := 12) (v := -1000000001) dX11_feed_12 kw_318 (by decide) ?_
      refine ev_virtR (X := M_X11_feed) (Y := M_X11_error) (pc := 14) (ci := 11) dX11_feed_14 mk_X11_error rfl kw_319 kw_321 kp_0 (lO_100 hL) (c_error hL (k := 1) (by decide) rfl) rfl (by decide) rfl (Nat.le_of_ble_eq_true rfl) (Nat.zero_add _) (Nat.zero_add _) ?_
      refine ev_iret (X := M_X11_feed) (pc := 17) dX11_feed_17 rfl ?_
      rw [hk]
      exact ⟨rfl, rfl, oF_err, h.e hw (by decide)⟩
theorem ev_newarrayL {γ : Gh} {X : MX} {d mc ms pc : Nat} {ls st : List PV} {K : Sk} {V : Mm} {Q : Option PV → Sk → Mm → Prop} {k N : Nat} {n : Int} {at' : ArrayType} (hd : decode X.2.1 pc = .ok (.newarray at', 2)) (hk1 : 1 ≤ k) (hk3 : k ≤ 3) (hty : newarray.typeOf at' = aTy k) (w1 : Cond.arrayClass (aTy k) ∈ tb) (hn : n = (N : Int)) (hN : N ≤ 1000000) (kk : Ev γ X d mc ms (pc + 2) ls (vR K.2.2 :: st) (nwK K k N) (nwV K V) Q) : Ev γ X d (mc + 1) (ms + N) pc ls (vI n :: st) K V Q := by
  subst hn
  have e : ((N : Int)).toNat = N := Int.toNat_natCast N
  have := ev_newarray (n := (N : Int)) hd hk1 hk3 hty w1 ⟨by omega, by omega⟩ (mc := mc) (ms := ms) (ls := ls) (st := st) (K := K) (V := V) (Q := Q) (by rw [e]; exact kk)
  rw [e] at this
  exact this
theorem wrR_new {K : Sk} {k n a : Nat} {i : Int} {x : Nat} : (wrR (nwK K k n) a i x).2.2 = K.2.2 + 1 := rfl
theorem c_Row_init {γ : Gh} {K : Sk} {V : Mm} {a n : Nat} (hO : (K.1 a).1 = 5 + 10) (ha : 100 ≤ a) (haN : a ≠ K.2.2) (hn : n ≤ 1000) : Call γ M_X5_init 1 1 n [vR a, vI (n : Int)] K V (Rt none (wrR (nwK K 1 n) a 0 K.2.2) (nwV K V)) := by
  refine call_of (by decide +kernel) (by intro v hv; simp only [List.mem_cons, List.not_mem_nil, or_false] at hv; rcases hv with rfl | rfl <;> exact fun q => by cases q) (Nat.le_of_ble_eq_true rfl) ?_
  refine ev_lsE (ls' := [_, _]) rfl ?_
  have e : (if (0 : Int) < (n : Int) then (n : Int) else 0) = (n : Int) := by split <;> omega
  refine ev_aload_n (X := M_X5_init) (pc := 0) dX5_init_0 rfl ?_
  refine ev_objInit (X := M_X5_init) (pc := 1) dX5_init_1 kw_52 kw_29 kw_30 (by omega) (by decide) (Nat.le_of_ble_eq_true rfl) ?_
  refine ev_aload_n (X := M_X5_init) (pc := 4) dX5_init_4 rfl ?_
  refine ev_iconst (X := M_X5_init) (pc := 5) dX5_init_5 ?_
  refine ev_iload_n (X := M_X5_init) (pc := 6) dX5_init_6 rfl ?_
  refine ev_mmax (X := M_X5_init) (pc := 7) dX5_init_7 kw_53 kw_54 kw_5 kw_55 (by decide) (Nat.le_of_ble_eq_true rfl) (by decide) (by omega) ?_
  rw [e]
  refine ev_less (mc' := 0 + 1) (ms' := 0 + n) ?_ (by omega) (by omega)
  refine ev_newarrayL (X := M_X5_init) (pc := 10) (k := 1) (N := n) dX5_init_10 (by decide) (by decide) rfl kw_67 rfl (by omega) ?_
  have hO : ((nwK K 1 n).1 a).1 = 5 + 10 := by rw [nwK_old haN]; exact hO
  refine ev_putR (X := M_X5_init) (pc := 12) (ki := 0) dX5_init_12 fl_X5_13_5 ha hO (fun _ h q => by cases h; exact ⟨rfl, rfl⟩) rfl rfl ?_
  refine ev_vret (X := M_X5_init) (pc := 15) dX5_init_15 rfl ?_
  exact ⟨rfl, rfl, rfl⟩
/-- what the making of a text leaves -/
def TxN (K : Sk) (V : Mm) (t n : Nat) (u : Int) (K' : Sk) (V' : Mm) : Prop := TxK K' t n u ∧ K'.2.2 = t + 4 ∧ (∀ c, c < t → K'.1 c = K.1 c) ∧ (∀ c j, c < t → K'.2.1 c j = K.2.1 c j) ∧ (∀ c, t + 4 ≤ c → K'.1 c = K.1 c) ∧ (∀ c, c < t → V' c = V c) ∧ V' t = V t ∧ V' (t + 1) 1 = 0 ∧ ∀ j, V' (t + 2) j = 0
theorem c_Text_init {γ : Gh} {K : Sk} {V : Mm} (hL : Lay K) {t n : Nat} {u : Int} (hu : u = 0 ∨ u = 1) (hN : K.2.2 = t + 1) (ht : 178 ≤ t) (hT : K.1 t = (18, 0)) (h105 : V 105 1 = n) (hn : n ≤ 50) : Call γ M_X8_init 2 3 (2+n+n) [vR t, vR 105, vR (10 + u.toNat)] K V (Qg none (TxN K V t n u)) := by
  refine call_of (by decide +kernel) (by intro v hv; simp only [List.mem_cons, List.not_mem_nil, or_false] at hv; rcases hv with rfl | rfl | rfl <;> exact fun q => by cases q) (Nat.le_of_ble_eq_true rfl) ?_
  refine ev_lsE (ls' := [_, _, _]) rfl ?_
  obtain ⟨s, hs⟩ : ∃ s, 10 + u.toNat = s := ⟨_, rfl⟩
  rw [hs]
  have hO : (K.1 t).1 = 8 + 10 := by rw [hT]
  have hO1 : (K.1 105).1 = 5 + 10 := lO_105 hL
  refine ev_aload_n (X := M_X8_init) (pc := 0) dX8_init_0 rfl ?_
  refine ev_objInit (X := M_X8_init) (pc := 1) dX8_init_1 kw_467 kw_29 kw_30 (by omega) (by decide) (Nat.le_of_ble_eq_true rfl) ?_
  refine ev_aload_n (X := M_X8_init) (pc := 4) dX8_init_4 rfl ?_
  refine ev_aload_n (X := M_X8_init) (pc := 5) dX8_init_5 rfl ?_
  refine ev_putR (X := M_X8_init) (pc := 6) (ki := 0) dX8_init_6 fl_X8_9_8 (by omega) hO (fun _ h q => by cases h; exact ⟨rfl, rfl⟩) rfl rfl ?_
  refine ev_aload_n (X := M_X8_init) (pc := 9) dX8_init_9 rfl ?_
  refine ev_aload_n (X := M_X8_init) (pc := 10) dX8_init_10 rfl ?_
  refine ev_putR (X := M_X8_init) (pc := 11) (ki := 1) dX8_init_11 fl_X8_15_8 (by omega) hO (fun _ h q => by cases h; exact ⟨rfl, rfl⟩) rfl rfl ?_
  obtain ⟨Ka, hKa⟩ : ∃ Ka, wrR (wrR K t 0 105) t 1 s = Ka := ⟨_, rfl⟩
  have a1 : Ka.1 = K.1 := by rw [← hKa]; rfl
  have a2 : Ka.2.2 = t + 1 := by rw [← hKa]; exact hN
  have a3 : ∀ c j, c ≠ t → Ka.2.1 c j = K.2.1 c j := fun c j z => by rw [← hKa, wrR_ne (fun q => z q.1), wrR_ne (fun q => z q.1)]
  have a4 : Ka.2.1 t 0 = 105 := by rw [← hKa, wrR_ne (by omega), wrR_self]
  have a5 : Ka.2.1 t 1 = s := by rw [← hKa, wrR_self]
  rw [hKa]
  clear hKa
  refine ev_aload_n (X := M_X8_init) (pc := 14) dX8_init_14 rfl ?_
  refine ev_less (mc' := 2 + 1) (ms' := n + n + 2) ?_ (by omega) (by omega)
  refine ev_new (X := M_X8_init) (pc := 15) (ci := 5) dX8_init_15 rfl kw_468 kw_48 kw_4 ?_
  obtain ⟨Kb, hKb⟩ : ∃ Kb, nwK Ka (5 + 10) 0 = Kb := ⟨_, rfl⟩
  have b1 : Kb.1 (t + 1) = (15, 0) := by rw [← hKb, ← a2]; exact nwK_new
  have b2 : ∀ c, c ≠ t + 1 → Kb.1 c = K.1 c := fun c z => by rw [← hKb, nwK_old (by omega), a1]
  have b3 : ∀ c j, c ≠ t + 1 → Kb.2.1 c j = Ka.2.1 c j := fun c j z => by rw [← hKb, nwK_ref (by omega)]
  have b4 : Kb.2.2 = t + 2 := by rw [← hKb]; show Ka.2.2 + 1 = t + 2; omega
  obtain ⟨Vb, hVb⟩ : ∃ Vb, nwV Ka V = Vb := ⟨_, rfl⟩
  have x1 : ∀ c, c ≠ t + 1 → Vb c = V c := fun c z => by rw [← hVb, nwV_old (by omega)]
  have x2 : ∀ j, Vb (t + 1) j = 0 := fun j => by rw [← hVb]; unfold nwV; rw [← a2, setr_self]
  rw [hKb, hVb, a2]
  clear hKb hVb
  have hO1 : (Kb.1 105).1 = 5 + 10 := by rw [b2 105 (by omega)]; exact hO1
  have h105b : Vb 105 1 = n := by rw [x1 105 (by omega)]; exact h105
  refine ev_dup (X := M_X8_init) (pc := 18) dX8_init_18 (fun _ q => by cases q) ?_
  refine ev_aload_n (X := M_X8_init) (pc := 19) dX8_init_19 rfl ?_
  refine ev_getIe (X := M_X8_init) (pc := 20) (ki := 1) dX8_init_20 fl_X8_21_5 hO1 (by decide) rfl (h105b) ?_
  refine ev_initV (X := M_X8_init) (Y := M_X5_init) (pc := 23) dX8_init_23 mk_X5_init rfl rfl kw_469 kw_50 (by omega) (c_Row_init (a := t + 1) (n := n) (by rw [b1]) (by omega) (by omega) (by omega)) rfl (by decide) rfl (Nat.le_of_ble_eq_true rfl) (show 1 + 1 = 2 from rfl) (show n + n = n + n from rfl) ?_
  obtain ⟨Kc, hKc⟩ : ∃ Kc, wrR (nwK Kb 1 n) (t + 1) 0 Kb.2.2 = Kc := ⟨_, rfl⟩
  have c1 : Kc.1 (t + 2) = (1, n) := by rw [← hKc, ← b4]; exact nwK_new
  have c2 : ∀ c, c ≠ t + 2 → Kc.1 c = Kb.1 c := fun c z => by rw [← hKc]; exact nwK_old (by omega)
  have c3 : ∀ c j, c ≠ t + 1 → c ≠ t + 2 → Kc.2.1 c j = Kb.2.1 c j := fun c j z y => by rw [← hKc, wrR_ne (fun q => z q.1), nwK_ref (by omega)]
  have c4 : Kc.2.1 (t + 1) 0 = t + 2 := by rw [← hKc, wrR_self]; exact b4
  have c5 : Kc.2.2 = t + 3 := by rw [← hKc]; show Kb.2.2 + 1 = t + 3; omega
  obtain ⟨Vc, hVc⟩ : ∃ Vc, nwV Kb Vb = Vc := ⟨_, rfl⟩
  have y1 : ∀ c, c ≠ t + 2 → Vc c = Vb c := fun c z => by rw [← hVc, nwV_old (by omega)]
  have y2 : ∀ j, Vc (t + 2) j = 0 := fun j => by rw [← hVc]; unfold nwV; rw [← b4, setr_self]
  rw [hKc, hVc]
  clear hKc hVc
  have hO : (Kc.1 t).1 = 8 + 10 := by rw [c2 t (by omega), b2 t (by omega)]; exact hO
  have hO1 : (Kc.1 105).1 = 5 + 10 := by rw [c2 105 (by omega)]; exact hO1
  have h105c : Vc 105 1 = n := by rw [y1 105 (by omega)]; exact h105b
  refine ev_putR (X := M_X8_init) (pc := 26) (ki := 2) dX8_init_26 fl_X8_28_8 (by omega) hO (fun _ h q => by cases h; exact ⟨rfl, rfl⟩) rfl rfl ?_
  obtain ⟨Kd, hKd⟩ : ∃ Kd, wrR Kc t 2 (t + 1) = Kd := ⟨_, rfl⟩
  have d1 : Kd.1 = Kc.1 := by rw [← hKd]; rfl
  have d2 : Kd.2.2 = t + 3 := by rw [← hKd]; exact c5
  have d3 : ∀ c j, ¬ (c = t ∧ j = 2) → Kd.2.1 c j = Kc.2.1 c j := fun c j z => by rw [← hKd]; exact wrR_ne z
  have d4 : Kd.2.1 t 2 = t + 1 := by rw [← hKd]; exact wrR_self
  rw [hKd]
  clear hKd
  have hO : (Kd.1 t).1 = 8 + 10 := by rw [d1]; exact hO
  have hO1 : (Kd.1 105).1 = 5 + 10 := by rw [d1]; exact hO1
  refine ev_aload_n (X := M_X8_init) (pc := 29) dX8_init_29 rfl ?_
  refine ev_aload_n (X := M_X8_init) (pc := 30) dX8_init_30 rfl ?_
  refine ev_getIe (X := M_X8_init) (pc := 31) (ki := 1) dX8_init_31 fl_X8_21_5 hO1 (by decide) rfl (h105c) ?_
  refine ev_less (mc' := 0 + 1) (ms' := 0 + n) ?_ (by omega) (by omega)
  refine ev_newarrayL (X := M_X8_init) (pc := 34) (k := 1) (N := n) dX8_init_34 (by decide) (by decide) rfl kw_67 rfl (by omega) ?_
  have hO : ((nwK Kd 1 n).1 t).1 = 8 + 10 := by rw [nwK_old (by omega)]; exact hO
  rw [d2]
  refine ev_putR (X := M_X8_init) (pc := 36) (ki := 3) dX8_init_36 fl_X8_31_8 (by omega) hO (fun _ h q => by cases h; exact ⟨rfl, rfl⟩) rfl rfl ?_
  refine ev_vret (X := M_X8_init) (pc := 39) dX8_init_39 rfl ?_
  refine ⟨rfl, ⟨?_, ?_, ?_, ?_, ?_, ⟨?_, ?_, ?_, by omega, by omega, by omega, by omega⟩, ?_, ht⟩, ?_, fun c hc => ?_, fun c j hc => ?_, fun c hc => ?_, fun c hc => ?_, ?_, ?_, fun j => ?_⟩
  · show (nwK Kd 1 n).1 t = (18, 0)
    rw [nwK_old (by omega), d1, c2 t (by omega), b2 t (by omega)]; exact hT
  · rw [wrR_ne (by omega), nwK_ref (by omega), d3 _ _ (by omega), c3 t 0 (by omega) (by omega), b3 t 0 (by omega)]; exact a4
  · rw [wrR_ne (by omega), nwK_ref (by omega), d3 _ _ (by omega), c3 t 1 (by omega) (by omega), b3 t 1 (by omega), hs]; exact a5
  · rw [wrR_ne (by omega), nwK_ref (by omega)]; exact d4
  · rw [wrR_self]
  · show ((nwK Kd 1 n).1 (t + 1)).1 = 5 + 10
    rw [nwK_old (by omega), d1, c2 _ (by omega), b1]
  · rw [wrR_ne (by omega), nwK_ref (by omega), d3 _ _ (by omega)]; exact c4
  · show (nwK Kd 1 n).1 (t + 2) = (1, n)
    rw [nwK_old (by omega), d1]; exact c1
  · show (nwK Kd 1 n).1 (t + 3) = (1, n)
    rw [← d2]; exact nwK_new
  · show Kd.2.2 + 1 = t + 4
    omega
  · show (nwK Kd 1 n).1 c = K.1 c
    rw [nwK_old (by omega), d1, c2 _ (by omega), b2 _ (by omega)]
  · rw [wrR_ne (by omega), nwK_ref (by omega), d3 _ _ (by omega), c3 _ _ (by omega) (by omega), b3 _ _ (by omega)]; exact a3 c j (by omega)
  · show (nwK Kd 1 n).1 c = K.1 c
    rw [nwK_old (by omega), d1, c2 _ (by omega), b2 _ (by omega)]
  · rw [nwV_old (by omega), y1 _ (by omega), x1 _ (by omega)]
  · rw [nwV_old (by omega), y1 _ (by omega), x1 _ (by omega)]
  · rw [nwV_old (by omega), y1 _ (by omega)]; exact x2 1
  · rw [nwV_old (by omega)]; exact y2 j
