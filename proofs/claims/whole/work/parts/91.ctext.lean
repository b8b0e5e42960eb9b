/-- new cells behind the old ones -/
theorem CL.K {K K' : Sk} {V W : Mm} {D E : Int → Int} {im : Int} {er : Int → Int} (h : CL K V D E im er) (hk : ∀ c, c < K.2.2 → K'.1 c = K.1 c) (hr : ∀ c j, c < K.2.2 → K'.2.1 c j = K.2.1 c j) (hn : K.2.2 ≤ K'.2.2) (hF : Fr K') (hv : ∀ c, c < K.2.2 → W c = V c) : CL K' W D E im er := by
  have hL := h.L
  have hN : 178 ≤ K.2.2 := hL.2.2.2.2
  obtain ⟨a1, a2, ⟨b1, b2, b3, b4, b5, b6, b7, b8⟩, a4, a5, a6, a7, a8⟩ := h
  have lt : ∀ c, (K.1 c).1 ≠ 0 → c < K.2.2 := fun c z => Nat.not_le.mp fun q => z (a1 c q)
  have hkk : ∀ c, (K.1 c).1 ≠ 0 → K'.1 c = K.1 c := fun c z => hk c (lt c z)
  have hvv : ∀ c, ownA c → ¬ vrow K c → (K.1 c).1 ≠ 0 → W c = V c := fun c _ _ z => hv c (lt c z)
  have f0 : ∀ c, c < 178 → W c = V c := fun c hc => hv c (by omega)
  refine ⟨hF, a2.mv hkk (fun c j hc => hr c j (by omega)) (fun c hc => f0 c (by omega)), ⟨hL.mv hkk (fun c j hc _ _ _ _ => hr c j (by omega)) hn, ?_, ?_, b4, b5, ⟨by rw [f0 102 (by decide)]; exact b6.1, fun p hp => by rw [f0 110 (by decide), f0 111 (by decide)]; exact b6.2 p hp⟩, fun q hq => by rw [f0 118 (by decide)]; exact b7 q hq, by rw [f0 119 (by decide)]; exact b8⟩, fun p hp => by rw [f0 109 (by decide)]; exact a4 p hp, a5.mv hkk (fun c j _ z => hr c j (lt c z)) (by rw [lS_103 hL]; show (5 : Nat) ≠ 0; decide) (by rw [lS_104 hL]; show (6 : Nat) ≠ 0; decide) hvv, by rw [f0 100 (by decide)]; exact a6, fun z => ⟨(a7 z).1.mv hkk (fun c j _ z => hr c j (lt c z)) (by rw [lS_128 hL]; show (5 : Nat) ≠ 0; decide) (by rw [lS_129 hL]; show (6 : Nat) ≠ 0; decide) hvv, (a7 z).2.mv (fun c y => f0 c (by omega))⟩, by rw [f0 155 (by decide)]; exact a8⟩
  · unfold SV; rw [f0 1 (by decide), f0 2 (by decide), f0 3 (by decide)]; exact b2
  · unfold SV2; rw [f0 4 (by decide), f0 5 (by decide)]; exact b3
theorem txC_o {D : Int → Int} {u i : Int} (h : ¬ (48 + 50 * u ≤ i ∧ i < 48 + 50 * u + D 24)) (h1 : i ≠ 24) (h2 : i ≠ 26 + u) : txC D u (D 24) i = D i := by
  unfold txC
  rw [if_neg h, up_ne h2, up_ne h1]
theorem txC_24 {D : Int → Int} {u : Int} (hu : u = 0 ∨ u = 1) : txC D u (D 24) 24 = 0 := by
  unfold txC
  rw [if_neg (by omega), up_ne (by omega), up_self]
theorem txC_26 {D : Int → Int} {u : Int} (hu : u = 0 ∨ u = 1) : txC D u (D 24) (26 + u) = D 24 := by
  unfold txC
  rw [if_neg (by omega), up_self]
theorem txC_tf {D : Int → Int} {u : Int} (hu : u = 0 ∨ u = 1) : tfD (txC D u (D 24)) u = tpF D := by
  unfold tfD tpF
  rw [txC_26 hu]
  refine rs_eq (fun i h0 h1 => ?_)
  unfold txC
  rw [if_pos (by omega), show 148 + (48 + 50 * u + i - (48 + 50 * u)) = 148 + i by omega]
/-- a text that is read whole -/
theorem tx_ok {D : Int → Int} {u : Int} (h24 : 0 ≤ D 24) (h : txF D u = -1) : ∃ l, txt (tpF D) (D 24) u = (some l, D 24) ∧ 1 ≤ l.length ∧ (l.length : Int) ≤ D 24 := by
  have hB := (lvl_B (f := tpF D) (prS_B (f := tpF D) (n := D 24) (u := u) 5) 5) 0 (by decide) h24
  unfold txF fltR at h
  unfold txt at h ⊢
  generalize lvl (prS (tpF D) (D 24) u 5) (tpF D) (D 24) 5 0 = r at hB h ⊢
  obtain ⟨o, q⟩ := r
  cases o with
  | none =>
    have b1 := hB.1
    have b2 := hB.2
    rw [if_neg (fun z => Bool.noConfusion z.1)] at h
    have h' : q = -1 := h
    omega
  | some l =>
    have b0 := hB.1
    have b1 := hB.2.1
    have b2 := hB.2.2
    by_cases z : q = D 24
    · exact ⟨l, by rw [z], b0, by omega⟩
    · rw [if_neg (fun y => z y.2)] at h
      have h' : q = -1 := h
      omega
theorem txF_eq {D f : Int → Int} {u : Int} (h24 : 0 ≤ D 24) (hf : ∀ i, 0 ≤ i → i < D 24 → f i = D (148 + i)) : txt f (D 24) u = txt (tpF D) (D 24) u := by
  rw [txt_rs h24]
  have : rs (D 24) f = tpF D := rs_eq hf
  rw [this]
theorem c_text {γ : Gh} {K : Sk} {V : Mm} {D E : Int → Int} {im : Int} {er : Int → Int} (h : CI K V D E im er) (hw : DL D) (h24 : 0 ≤ D 24 ∧ D 24 ≤ 50) (h25 : 0 ≤ D 25 ∧ D 25 ≤ 20) (hby : ∀ i, 0 ≤ i → i < D 24 → 0 ≤ D (148 + i) ∧ D (148 + i) < 256) {u : Int} (hu : R32 u) : Call γ M_X11_text 48 4 108 [vR 100, vI u] K V (Qg (some (vI (aR (usK u) (txR D u)))) (fun K' W => kF K K' ∧ oF V W ∧ CI K' W (aD (usK u) D (txD D u)) E im (erK er (usK u)))) := by
  refine call_of (by decide +kernel) (by intro v hv; simp only [List.mem_cons, List.not_mem_nil, or_false] at hv; rcases hv with rfl | rfl <;> exact fun q => by cases q) (Nat.le_of_ble_eq_true rfl) ?_
  refine ev_lsE (ls' := [_, _, _, _]) rfl ?_
  have hL := h.1.L
  have hN : 178 ≤ K.2.2 := hL.2.2.2.2
  have hFr : Fr K := h.1.1
  have hSS := h.1.2.1
  obtain ⟨t, ht⟩ : ∃ t, K.2.2 = t := ⟨_, rfl⟩
  obtain ⟨n, hn⟩ : ∃ n : Nat, n = (D 24).toNat := ⟨_, rfl⟩
  have hnD : (n : Int) = D 24 := by omega
  have main : (u = 0 ∨ u = 1) → Ev γ M_X11_text 48 3 (2 + n + n) 36 [vR 100, vI u, vU, vU] [vR (10 + u.toNat), vR 105, vR t, vR t] (nwK K (8 + 10) 0) (nwV K V) (Qg (some (vI (aR (usK u) (txR D u)))) (fun K' W => kF K K' ∧ oF V W ∧ CI K' W (aD (usK u) D (txD D u)) E im (erK er (usK u)))) := by
    intro hu2
    have hk : usK u = 0 := by unfold usK; rw [if_pos hu2]
    rw [hk]
    obtain ⟨K1, hK1⟩ : ∃ K1, nwK K (8 + 10) 0 = K1 := ⟨_, rfl⟩
    obtain ⟨V1, hV1⟩ : ∃ V1, nwV K V = V1 := ⟨_, rfl⟩
    have n1 : K1.1 t = (18, 0) := by rw [← hK1, ← ht]; exact nwK_new
    have n2 : ∀ c, c ≠ t → K1.1 c = K.1 c := fun c z => by rw [← hK1]; exact nwK_old (by omega)
    have n3 : ∀ c j, c ≠ t → K1.2.1 c j = K.2.1 c j := fun c j z => by rw [← hK1]; exact nwK_ref (by omega)
    have n4 : K1.2.2 = t + 1 := by rw [← hK1, ← ht]; rfl
    have v1 : ∀ c, c ≠ t → V1 c = V c := fun c z => by rw [← hV1]; exact nwV_old (by omega)
    have v2 : ∀ j, V1 t j = 0 := fun j => by rw [← hV1]; unfold nwV; rw [ht, setr_self]
    rw [hK1, hV1]
    clear hK1 hV1
    have lt : ∀ c, (K.1 c).1 ≠ 0 → c < t := fun c z => Nat.not_le.mp fun q => z (hFr c (by omega))
    have hLo := hL
    have hL : Lay K1 := hLo.mv (fun c z => n2 c (by have := lt c z; omega)) (fun c j z _ _ _ _ => n3 c j (by omega)) (by omega)
    refine ev_initH (X := M_X11_text) (Y := M_X8_init) (pc := 36) dX11_text_36 mk_X8_init rfl rfl kw_464 kw_465 (by omega) (c_Text_init (V := V1) hL (t := t) (n := n) hu2 n4 (by omega) n1 (by rw [v1 105 (by omega), hnD]; exact h.2.2.2.2.2.2.1) (by omega)) rfl (by decide) rfl (Nat.le_of_ble_eq_true rfl) (Nat.add_zero _) (Nat.add_zero _) (fun K2 V2 hX => ?_)
    obtain ⟨x1, x2, x3, x4, x5, x6, x7, x8, x9⟩ := hX
    have k3 : ∀ c, c < t → K2.1 c = K.1 c := fun c z => by rw [x3 c z, n2 c (by omega)]
    have k4 : ∀ c j, c < t → K2.2.1 c j = K.2.1 c j := fun c j z => by rw [x4 c j z, n3 c j (by omega)]
    have k6 : ∀ c, c < t → V2 c = V c := fun c z => by rw [x6 c z, v1 c (by omega)]
    have hF2 : Fr K2 := fun c z => by rw [x5 c (by omega), n2 c (by omega)]; exact hFr c (by omega)
    have hL : Lay K2 := hLo.mv (fun c z => k3 c (lt c z)) (fun c j z _ _ _ _ => k4 c j (by omega)) (by omega)
    have hOt : (K2.1 t).1 = 8 + 10 := by rw [x1.1]
    have hSS2 : SS K2 V2 := hSS.mv (fun c z => k3 c (lt c z)) (fun c j z => k4 c j (by omega)) (fun c z => k6 c (by omega))
    have s6 : V2 105 1 = D 24 := by rw [k6 105 (by omega)]; exact h.2.2.2.2.2.2.1
    have s7 : ∀ i, 0 ≤ i → i < D 24 → V2 106 i = D (148 + i) := fun i i0 i1 => by rw [k6 106 (by omega)]; exact h.2.2.2.2.2.2.2.1 i i0 i1
    have hTC : TxC K2 V2 t n u := ⟨hL, hSS2, x1, by rw [s6, hnD], by omega, fun i i0 i1 => by rw [s7 i i0 (by omega)]; exact hby i i0 (by omega), hu2⟩
    have htx : txt (V2 106) (n : Int) u = txt (tpF D) (D 24) u := by rw [hnD]; exact txF_eq h24.1 s7
    have hflt : fltR (n : Int) (txt (V2 106) (n : Int) u) = txF D u := by rw [htx, hnD]; rfl
    refine ev_astore_nL (X := M_X11_text) (pc := 39) (ls' := [_, _, _, _]) dX11_text_39 (by decide) rfl ?_
    refine ev_aload_n (X := M_X11_text) (pc := 40) dX11_text_40 rfl ?_
    refine ev_virtX (X := M_X11_text) (Y := M_X8_faultOfReading) (pc := 41) (ci := 8) dX11_text_41 mk_X8_faultOfReading rfl kw_490 kw_491 kw_492 hOt (c_fault hTC (by rw [x7]; exact v2 4) (by rw [x7]; exact v2 5) x8) rfl (by decide) rfl (Nat.le_of_ble_eq_true rfl) (Nat.zero_add _) (Nat.zero_add _) (fun W hW => ?_)
    rw [hflt]
    rw [htx] at hW
    obtain ⟨w1, _, _, w4⟩ := hW
    have hfr : -1 ≤ txF D u ∧ txF D u ≤ 50 := by
      have hB := (lvl_B (f := tpF D) (prS_B (f := tpF D) (n := D 24) (u := u) 5) 5) 0 (by decide) h24.1
      unfold txF fltR txt
      generalize lvl (prS (tpF D) (D 24) u 5) (tpF D) (D 24) 5 0 = r at hB ⊢
      obtain ⟨o, q⟩ := r
      cases o with
      | none =>
        have b1 := hB.1
        have b2 := hB.2
        split
        · decide
        · show -1 ≤ q ∧ q ≤ 50; omega
      | some l =>
        have b1 := hB.2.1
        have b2 := hB.2.2
        split
        · decide
        · show -1 ≤ q ∧ q ≤ 50; omega
    refine ev_istore_nL (X := M_X11_text) (pc := 44) (ls' := [_, _, _, _]) dX11_text_44 (by decide) rfl ?_
    refine ev_aload_n (X := M_X11_text) (pc := 45) dX11_text_45 rfl ?_
    refine ev_getRe (X := M_X11_text) (pc := 46) dX11_text_46 fl_X11_20_11 (lO_100 hL) rfl (lR_100_0 hL) ?_
    refine ev_getRe (X := M_X11_text) (pc := 49) dX11_text_49 fl_X11_119_2 (lO_102 hL) rfl (lR_102_2 hL) ?_
    refine ev_iconst (X := M_X11_text) (pc := 52) dX11_text_52 ?_
    refine ev_putI (X := M_X11_text) (pc := 53) (ki := 1) dX11_text_53 fl_X11_122_5 (by decide) (lO_105 hL) (fun _ h q => by cases h; cases q) (Or.inl rfl) rfl ?_
    obtain ⟨W1, hW1⟩ : ∃ W1, wr W 105 1 0 = W1 := ⟨_, rfl⟩
    have y1 : ∀ c, c < t → c ≠ 105 → W1 c = V c := fun c z y => by rw [← hW1, wr_off y, w1 c (by omega) (by omega) (by omega), k6 c z]
    have y2 : W1 105 1 = 0 := by rw [← hW1, wr_self]
    have y3 : ∀ c, c ≠ 105 → W1 c = W c := fun c y => by rw [← hW1, wr_off y]
    rw [hW1]
    clear hW1
    have hoF : oF V W1 := fun c z => y1 c (by omega) (by omega)
    refine ev_iload_n (X := M_X11_text) (pc := 56) dX11_text_56 rfl ?_
    refine ev_iconst (X := M_X11_text) (pc := 57) dX11_text_57 ?_
    refine ev_icmp_eq (X := M_X11_text) (pc := 58) (tgt := 66) dX11_text_58 (by decide) (by omega) (by decide) (fun h58 => ?_) (fun h58 => ?_)
    · have hye : txF D u = -1 := h58
      refine ev_aload_n (X := M_X11_text) (pc := 66) dX11_text_66 rfl ?_
      refine ev_getRe (X := M_X11_text) (pc := 67) dX11_text_67 fl_X11_20_11 (lO_100 hL) rfl (lR_100_0 hL) ?_
      refine ev_getRe (X := M_X11_text) (pc := 70) dX11_text_70 fl_X11_144_2 (lO_102 hL) rfl (lR_102_1 hL) ?_
      refine ev_iload_n (X := M_X11_text) (pc := 73) dX11_text_73 rfl ?_
      refine ev_aload_n (X := M_X11_text) (pc := 74) dX11_text_74 rfl ?_
      refine ev_aastore (X := M_X11_text) (pc := 75) dX11_text_75 (by decide) (lS_104 hL) (by decide) (by decide) (by omega) (Or.inr ⟨8, hOt, ⟨_, rfl, Or.inl rfl⟩⟩) ?_
      obtain ⟨K3, hK3⟩ : ∃ K3, wrR K2 104 u t = K3 := ⟨_, rfl⟩
      have m1 : ∀ c, K3.1 c = K2.1 c := fun c => by rw [← hK3]; rfl
      have m2 : K3.2.2 = K2.2.2 := by rw [← hK3]; rfl
      have m3 : ∀ a j, ¬ (a = 104 ∧ j = u) → K3.2.1 a j = K2.2.1 a j := fun a j z => by rw [← hK3]; exact wrR_ne z
      have m4 : K3.2.1 104 u = t := by rw [← hK3]; exact wrR_self
      have m5 : Fr K3 := by rw [← hK3]; exact hF2
      rw [hK3]
      clear hK3
      have hkk : ∀ c, (K.1 c).1 ≠ 0 → K3.1 c = K.1 c := fun c z => by rw [m1, k3 c (lt c z)]
      have hrr : ∀ c j, c ≠ 104 → c < t → K3.2.1 c j = K.2.1 c j := fun c j z y => by rw [m3 c j (fun q => z q.1), k4 c j y]
      have hvv : ∀ c, ownA c → ¬ vrow K c → (K.1 c).1 ≠ 0 → W1 c = V c := fun c z _ y => by
        have ho : (112 ≤ c ∧ c ≤ 117) ∨ (137 ≤ c ∧ c ≤ 142) ∨ 178 ≤ c := z
        exact y1 c (lt c y) (by omega)
      have hL : Lay K3 := hLo.mv hkk (fun c j z _ y _ _ => hrr c j y (by omega)) (by omega)
      obtain ⟨l, hl, l1, l2⟩ := tx_ok h24.1 hye
      have hd : txD D u = txC D u (D 24) := by unfold txD; rw [if_pos hye]
      obtain ⟨D', hD'⟩ : ∃ D', txC D u (D 24) = D' := ⟨_, rfl⟩
      have cg : ∀ i, ¬ (48 + 50 * u ≤ i ∧ i < 48 + 50 * u + D 24) → i ≠ 24 → i ≠ 26 + u → D' i = D i := fun i z1 z2 z3 => by rw [← hD']; exact txC_o z1 z2 z3
      have d24 : D' 24 = 0 := by rw [← hD']; exact txC_24 hu2
      have d26 : D' (26 + u) = D 24 := by rw [← hD']; exact txC_26 hu2
      have dtf : tfD D' u = tpF D := by rw [← hD']; exact txC_tf hu2
      have dby : ∀ i, 0 ≤ i → i < D 24 → D' (48 + 50 * u + i) = D (148 + i) := fun i i0 i1 => by
        rw [← hD']
        unfold txC
        rw [if_pos (by omega), show 148 + (48 + 50 * u + i - (48 + 50 * u)) = 148 + i by omega]
      rw [hd, hD']
      clear hD' hd
      have hn2 : (D' (26 + u)).toNat = n := by rw [d26]; omega
      have hTA : TxA K3 W1 t D' u := by
        obtain ⟨q1, _, _, q4, q5, ⟨r1, r2, r3, r4, r5, r6, r7⟩, q7, q8⟩ := x1
        obtain ⟨z1, z2⟩ := w4 l (by rw [hl])
        rw [x8, Int.zero_add] at z1
        refine ⟨q8, by rw [m1]; exact q1, by rw [m3 _ _ (by omega)]; exact q4, by rw [m3 _ _ (by omega)]; exact q5, ⟨by rw [m1]; exact r1, by rw [m3 _ _ (by omega)]; exact r2, by rw [m1, hn2]; exact r3, r4, r5, r6, by rw [hn2]; exact r7⟩, by rw [m1, hn2]; exact q7, l, ?_, ?_, ?_, fun j y hj => ?_⟩
        · rw [dtf, d26]; exact hl
        · rw [y3 _ (by omega)]; exact z1
        · rw [hn2]; omega
        · rw [y3 _ (by omega), z2, x8]
          have := cw_at l (V2 (t + 2)) 0 j y hj
          rw [Int.zero_add] at this
          exact this
      have hTo : ∀ u', (u' = 0 ∨ u' = 1) → u' ≠ u → TI K V 104 D u' → TI K3 W1 104 D' u' := fun u' hu' hne z => by
        have z2 : TI K3 W1 104 D u' := z.mv hkk (fun c j y1 y2 => hrr c j (by omega) (lt c y2)) (by rw [m3 104 u' (fun q => hne q.2), k4 104 u' (by omega)]) hvv
        exact z2.cg hu' (fun i y => cg i (by omega) (by omega) (by omega)) (by rcases hu' with y | y <;> subst y; exact hw.d26; exact hw.d27)
      have hTn : TI K3 W1 104 D' u := Or.inr ⟨by rw [d26]; omega, by rw [m4]; exact hTA⟩
      have q5 := h.1.2.2.2.2.1
      have hLT : LTA K3 W1 102 D' := by
        refine ⟨fun q hq => ?_, ?_, ?_⟩
        · show LawA K3 W1 (K3.2.1 103 q) q (D' (3 + q)) (D' (9 + q))
          rw [hrr 103 q (by decide) (by omega), cg _ (by omega) (by omega) (by omega), cg _ (by omega) (by omega) (by omega)]
          exact (q5.1 q hq).mv hkk hvv
        · by_cases z : u = 0
          · rw [z] at hTn; exact hTn
          · exact hTo 0 (Or.inl rfl) (fun q => z q.symm) q5.2.1
        · by_cases z : u = 1
          · rw [z] at hTn; exact hTn
          · exact hTo 1 (Or.inr rfl) (fun q => z q.symm) q5.2.2
      have hTx : ∀ u', (u' = 0 ∨ u' = 1) → TxOk D u' → TxOk D' u' := fun u' hu' z => by
        by_cases q : u' = u
        · rw [q, TxOk, d26, dtf]
          exact ⟨h24, fun _ => ⟨⟨l, hl⟩, fun i i0 i1 => by rw [dby i i0 i1]; exact hby i i0 i1⟩⟩
        · have h6 := z.1.2
          have e1 := cg (26 + u') (by omega) (by omega) (by omega)
          have e2 : tfD D' u' = tfD D u' := tfD_cg hu' (fun i y => cg i (by omega) (by omega) (by omega)) h6
          refine ⟨by rw [e1]; exact z.1, fun y => ?_⟩
          rw [e1] at y ⊢
          rw [e2]
          obtain ⟨y1, y2⟩ := z.2 y
          exact ⟨y1, fun i i0 i1 => by rw [cg _ (by omega) (by omega) (by omega)]; exact y2 i i0 i1⟩
      have hK' : Kds D' := ⟨fun q h0 h1 => by rw [cg _ (by omega) (by omega) (by omega), cg _ (by omega) (by omega) (by omega)]; exact hw.2.1.1 q h0 h1, hTx 0 (Or.inl rfl) hw.2.1.2⟩
      have hF' : wfF D' := fun q hq => by rw [cg _ (by omega) (by omega) (by omega)]; exact hw.2.2.1 q hq
      have f0 : ∀ c, c < 105 → W1 c = V c := fun c z => y1 c (by omega) (by omega)
      have b := h.1.2.2.1
      have hSV1 : SV W1 := by unfold SV; rw [f0 1 (by decide), f0 2 (by decide), f0 3 (by decide)]; exact b.2.1
      have hsc : SCA W1 102 D' := by
        obtain ⟨s1, s2, s3, s4, s5, _, _, s8, s9⟩ := h.2
        have e3 := f0 102 (by decide)
        have e1 : nowS D' = nowS D := by unfold nowS; rw [cg 0 (by omega) (by omega) (by omega), cg 1 (by omega) (by omega) (by omega), cg 2 (by omega) (by omega) (by omega)]
        have e2 : fS D' = fS D := fS_cg (fun i z1 z2 => cg i (by omega) (by omega) (by omega))
        refine ⟨by rw [e3, e1]; exact s1, by rw [e3, e2]; exact s2, by rw [e3, cg 21 (by omega) (by omega) (by omega)]; exact s3, by rw [e3, cg 22 (by omega) (by omega) (by omega)]; exact s4, by rw [e3, cg 23 (by omega) (by omega) (by omega)]; exact s5, by rw [d24]; exact y2, fun i i0 i1 => ?_, by rw [y1 107 (by omega) (by decide), cg 25 (by omega) (by omega) (by omega)]; exact s8, fun i i0 i1 => ?_⟩
        · rw [d24] at i1; omega
        · rw [cg 25 (by omega) (by omega) (by omega)] at i1; rw [y1 108 (by omega) (by decide), cg _ (by omega) (by omega) (by omega)]; exact s9 i i0 i1
      refine ev_aload_n (X := M_X11_text) (pc := 76) dX11_text_76 rfl ?_
      refine ev_virtY (X := M_X11_text) (Y := M_X11_rulesChanged) (pc := 77) (ci := 11) dX11_text_77 mk_X11_rulesChanged rfl kw_409 kw_411 kp_1 (lO_100 hL) (c_rulesChanged hL hSV1 hK' hLT.2.1 hLT.1) rfl (by decide) rfl (Nat.le_of_ble_eq_true rfl) (Nat.zero_add _) (Nat.zero_add _) (fun W2 hW2 => ?_)
      refine ev_iconst (X := M_X11_text) (pc := 80) dX11_text_80 ?_
      refine ev_iret (X := M_X11_text) (pc := 81) dX11_text_81 rfl ?_
      have hr : txR D u = 1 := by unfold txR; rw [if_pos hye]
      have q7 := h.1.2.2.2.2.2.2.1
      have hrc := CL.rc (E := E) (im := im) (er := er) hL m5 (hSS.mv hkk (fun x j z => hrr x j (by omega) (by omega)) (fun x hc => f0 x (by omega))) hSV1 (by unfold SV2; rw [f0 4 (by decide), f0 5 (by decide)]; exact b.2.2.1) (fun q hq => by rw [y1 118 (by omega) (by decide)]; exact b.2.2.2.2.2.2.1 q hq) hK' hF' hsc.2.1 hLT (by rw [f0 100 (by decide)]; exact h.1.2.2.2.2.2.1) (fun z => ⟨(q7 z).1.mv hkk (fun x j y1 y2 => hrr x j (by omega) (lt x y2)) (by rw [lS_128 hLo]; show (5 : Nat) ≠ 0; decide) (by rw [lS_129 hLo]; show (6 : Nat) ≠ 0; decide) hvv, (q7 z).2.mv (fun x y => y1 x (by omega) (by omega))⟩) (by rw [y1 155 (by omega) (by decide)]; exact h.1.2.2.2.2.2.2.2) hW2
      exact ⟨by rw [hr]; rfl, (fun x z => by rw [m1]; exact k3 x (by omega)), hoF.tr (fR_oF hW2.1), hrc.1, hrc.2 hsc⟩
    · have hne : ¬ txF D u = -1 := h58
      refine ev_bipush (X := M_X11_text) (pc := 61) dX11_text_61 (by decide) ?_
      refine ev_iload_n (X := M_X11_text) (pc := 63) dX11_text_63 rfl ?_
      refine ev_isub (X := M_X11_text) (pc := 64) dX11_text_64 ?_
      refine ev_iret (X := M_X11_text) (pc := 65) dX11_text_65 rfl ?_
      have hcK : CL K2 (setr W1 105 (V 105)) D E im er := h.1.K (fun c z => k3 c (by omega)) (fun c j z => k4 c j (by omega)) (by omega) hF2 (fun c z => by
        by_cases q : c = 105
        · rw [q, setr_self]
        · rw [setr_ne q]; exact y1 c (by omega) q)
      have hr : txR D u = -10 - txF D u := by unfold txR; rw [if_neg hne]
      have hd : txD D u = up D 24 0 := by unfold txD; rw [if_neg hne]
      have cg : ∀ i, i ≠ 24 → up D 24 0 i = D i := fun i z => up_ne z
      refine ⟨by rw [hr]; rfl, (fun x z => k3 x (by omega)), hoF, ?_⟩
      show CI K2 W1 (txD D u) E im er
      rw [hd]
      refine ⟨hcK.sc (W := W1) (er' := er) (fun i z => cg i (by omega)) hw.d26 hw.d27 (fun c _ z _ => by rw [setr_ne (by omega)]) (by rw [setr_ne (by decide)]) ?_ ?_, ?_⟩
      · have := hcK.ok
        rw [setr_ne (by decide)] at this
        exact this
      · have := hcK.2.2.2.2.2.2.2
        rw [setr_ne (by decide)] at this
        exact this
      · obtain ⟨s1, s2, s3, s4, s5, _, _, s8, s9⟩ := h.2
        have e3 := y1 102 (by omega) (by decide)
        have e2 : fS (up D 24 0) = fS D := fS_cg (fun i z1 z2 => cg i (by omega))
        refine ⟨by rw [e3]; exact s1, by rw [e3, e2]; exact s2, by rw [e3, cg 21 (by decide)]; exact s3, by rw [e3, cg 22 (by decide)]; exact s4, by rw [e3, cg 23 (by decide)]; exact s5, by rw [up_self]; exact y2, fun i i0 i1 => ?_, by rw [y1 107 (by omega) (by decide), cg 25 (by decide)]; exact s8, fun i i0 i1 => ?_⟩
        · rw [up_self] at i1; omega
        · rw [cg 25 (by decide)] at i1; rw [y1 108 (by omega) (by decide), cg _ (by omega)]; exact s9 i i0 i1
  refine ev_iload_n (X := M_X11_text) (pc := 0) dX11_text_0 rfl ?_
  refine ev_staticR (X := M_X11_text) (Y := M_X11_isUse) (pc := 1) dX11_text_1 mk_X11_isUse kw_457 kw_458 (c_isUse hu) rfl (by decide) rfl (Nat.le_of_ble_eq_true rfl) (Nat.zero_add _) (Nat.zero_add _) ?_
  refine ev_if_ne (X := M_X11_text) (pc := 4) (tgt := 14) dX11_text_4 (by decide) (by split <;> decide) (fun h4 => ?_) (fun h4 => ?_)
  · have hu2 : 0 ≤ u ∧ u < 2 := Decidable.byContradiction fun z => h4 (by rw [if_neg z])
    refine ev_less (mc' := 3 + 1) (ms' := 2 + n + n + 6) ?_ (by omega) (by omega)
    refine ev_new (X := M_X11_text) (pc := 14) (ci := 8) dX11_text_14 rfl kw_460 kw_461 kw_9 ?_
    have hLk : Lay (nwK K (8 + 10) 0) := hL.mv (fun c z => nwK_old (fun q => z (by rw [q]; exact hFr _ (Nat.le_refl _)))) (fun c j z _ _ _ _ => nwK_ref (by omega)) (Nat.le_succ _)
    have hm := main (by omega)
    rw [ht]
    refine ev_dup (X := M_X11_text) (pc := 17) dX11_text_17 (fun _ q => by cases q) ?_
    refine ev_aload_n (X := M_X11_text) (pc := 18) dX11_text_18 rfl ?_
    refine ev_getRe (X := M_X11_text) (pc := 19) dX11_text_19 fl_X11_20_11 (lO_100 hLk) rfl (lR_100_0 hLk) ?_
    refine ev_getRe (X := M_X11_text) (pc := 22) dX11_text_22 fl_X11_119_2 (lO_102 hLk) rfl (lR_102_2 hLk) ?_
    refine ev_iload_n (X := M_X11_text) (pc := 25) dX11_text_25 rfl ?_
    refine ev_if_ne (X := M_X11_text) (pc := 26) (tgt := 34) dX11_text_26 (by decide) (by omega) (fun h26 => ?_) (fun h26 => ?_)
    · have hz : u = 1 := by omega
      refine ev_ldcS (X := M_X11_text) (pc := 34) (q := ("GreenPath", 135, "abkt", 11)) dX11_text_34 (List.mem_of_getElem? (i := 1) rfl) rfl rfl (by decide) ?_
      subst hz
      exact ev_weak hm ⟨rfl, rfl, trivial⟩
    · have hz : u = 0 := by omega
      refine ev_ldcS (X := M_X11_text) (pc := 29) (q := ("GreenPath", 133, "abm", 10)) dX11_text_29 (List.mem_of_getElem? (i := 0) rfl) rfl rfl (by decide) ?_
      refine ev_goto (X := M_X11_text) (pc := 31) (tgt := 36) dX11_text_31 (by decide) ?_
      subst hz
      exact ev_weak hm ⟨rfl, rfl, trivial⟩
  · have hk : usK u = 1 := by unfold usK; rw [if_neg (fun z => by rw [if_pos (by omega)] at h4; exact absurd h4 (by decide))]
    refine ev_aload_n (X := M_X11_text) (pc := 7) dX11_text_7 rfl ?_
    refine ev_ldc (X := M_X11_text) (pc := 8) (v := -1000000001) dX11_text_8 kw_318 (by decide) ?_
    refine ev_virtR (X := M_X11_text) (Y := M_X11_error) (pc := 10) (ci := 11) dX11_text_10 mk_X11_error rfl kw_319 kw_321 kp_0 (lO_100 hL) (c_error hL (k := 1) (by decide) rfl) rfl (by decide) rfl (Nat.le_of_ble_eq_true rfl) (Nat.zero_add _) (Nat.zero_add _) ?_
    refine ev_iret (X := M_X11_text) (pc := 13) dX11_text_13 rfl ?_
    rw [hk]
    exact ⟨rfl, kF.rf, oF_err, h.e hw (by decide)⟩
