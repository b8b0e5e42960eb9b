/-- a Text stands there: its tape is the island's -/
def TxK (K : Sk) (t n : Nat) (u : Int) : Prop := K.1 t = (18, 0) ∧ K.2.1 t 0 = 105 ∧ K.2.1 t 1 = 10 + u.toNat ∧ K.2.1 t 2 = t + 1 ∧ K.2.1 t 3 = t + 3 ∧ RowAt K (t + 1) (t + 2) n ∧ K.1 (t + 3) = (1, n) ∧ 178 ≤ t
def TxC (K : Sk) (V : Mm) (t n : Nat) (u : Int) : Prop := Lay K ∧ SS K V ∧ TxK K t n u ∧ V 105 1 = n ∧ n ≤ 50 ∧ (∀ i : Int, 0 ≤ i → i < n → 0 ≤ V 106 i ∧ V 106 i < 256) ∧ (u = 0 ∨ u = 1)
def frT (t : Nat) (V W : Mm) : Prop := ∀ c, c ≠ t → c ≠ t + 1 → c ≠ t + 2 → W c = V c
theorem frT.rf {t : Nat} {V : Mm} : frT t V V := fun _ _ _ _ => rfl
theorem frT.tr {t : Nat} {U V W : Mm} (h : frT t U V) (g : frT t V W) : frT t U W := fun c h1 h2 h3 => by rw [g c h1 h2 h3, h c h1 h2 h3]
theorem frT.w0 {t : Nat} {V W : Mm} (h : frT t V W) (i x : Int) : frT t V (wr W t i x) := fun c h1 h2 h3 => by rw [wr_off h1, h c h1 h2 h3]
theorem frT.w1 {t : Nat} {V W : Mm} (h : frT t V W) (i x : Int) : frT t V (wr W (t + 1) i x) := fun c h1 h2 h3 => by rw [wr_off h2, h c h1 h2 h3]
theorem frT.w2 {t : Nat} {V W : Mm} (h : frT t V W) (i x : Int) : frT t V (wr W (t + 2) i x) := fun c h1 h2 h3 => by rw [wr_off h3, h c h1 h2 h3]
theorem TxC.fr {K : Sk} {V W : Mm} {t n : Nat} {u : Int} (h : TxC K V t n u) (hf : frT t V W) : TxC K W t n u := by
  obtain ⟨hL, hS, hT, hn, hn5, hby, hu⟩ := h
  have ht := hT.2.2.2.2.2.2.2
  have e : ∀ c, c < 178 → W c = V c := fun c hc => hf c (by omega) (by omega) (by omega)
  refine ⟨hL, fun k hk => ?_, hT, by rw [e 105 (by decide)]; exact hn, hn5, by rw [e 106 (by decide)]; exact hby, hu⟩
  unfold StrAt
  rw [e (10 + k) (by omega), e (20 + k) (by omega)]
  exact hS k hk
theorem TxC.sg {K : Sk} {V : Mm} {t n : Nat} {u : Int} (h : TxC K V t n u) {q : Int} (hq : 0 ≤ q) : -1 ≤ sgn (V 106) n q ∧ sgn (V 106) n q < 256 := by
  unfold sgn
  split
  · next z => have := h.2.2.2.2.2.1 q hq z; omega
  · omega
theorem c_sign {γ : Gh} {K : Sk} {V : Mm} {t n : Nat} {u : Int} (h : TxC K V t n u) (hq : 0 ≤ V t 4 ∧ V t 4 ≤ n) : Call γ M_X8_sign 0 0 0 [vR t] K V (Rt (some (vI (sgn (V 106) n (V t 4)))) K V) := by
  refine call_of (by decide +kernel) (by intro v hv; simp only [List.mem_cons, List.not_mem_nil, or_false] at hv; rcases hv with rfl <;> exact fun q => by cases q) (Nat.le_of_ble_eq_true rfl) ?_
  refine ev_lsE (ls' := [_]) rfl ?_
  obtain ⟨hL, hS, hT, hn, hn5, hby, hu⟩ := h
  obtain ⟨t1, t2, t3, t4, t5, t6, t7, t8⟩ := hT
  have hO : (K.1 t).1 = 8 + 10 := by rw [t1]
  refine ev_aload_n (X := M_X8_sign) (pc := 0) dX8_sign_0 rfl ?_
  refine ev_getI (X := M_X8_sign) (pc := 1) (ki := 4) dX8_sign_1 fl_X8_39_8 hO (by decide) rfl ?_
  refine ev_aload_n (X := M_X8_sign) (pc := 4) dX8_sign_4 rfl ?_
  refine ev_getRe (X := M_X8_sign) (pc := 5) dX8_sign_5 fl_X8_9_8 hO rfl t2 ?_
  refine ev_getIe (X := M_X8_sign) (pc := 8) (ki := 1) dX8_sign_8 fl_X8_21_5 (lO_105 hL) (by decide) rfl (hn) ?_
  refine ev_icmp_ge (X := M_X8_sign) (pc := 11) (tgt := 29) dX8_sign_11 (by decide) (by omega) (by omega) (fun h11 => ?_) (fun h11 => ?_)
  · refine ev_iconst (X := M_X8_sign) (pc := 29) dX8_sign_29 ?_
    refine ev_iret (X := M_X8_sign) (pc := 30) dX8_sign_30 rfl ?_
    refine ⟨?_, rfl, rfl⟩
    unfold sgn
    first
      | rw [if_pos (by omega)]
      | rw [if_neg (by omega)]
  · refine ev_aload_n (X := M_X8_sign) (pc := 14) dX8_sign_14 rfl ?_
    refine ev_getRe (X := M_X8_sign) (pc := 15) dX8_sign_15 fl_X8_9_8 hO rfl t2 ?_
    refine ev_getRe (X := M_X8_sign) (pc := 18) dX8_sign_18 fl_X8_42_5 (lO_105 hL) rfl (lR_105_0 hL) ?_
    refine ev_aload_n (X := M_X8_sign) (pc := 21) dX8_sign_21 rfl ?_
    refine ev_getI (X := M_X8_sign) (pc := 22) (ki := 4) dX8_sign_22 fl_X8_39_8 hO (by decide) rfl ?_
    refine ev_iaload (X := M_X8_sign) (pc := 25) dX8_sign_25 (lS_106 hL) (by omega) ?_
    refine ev_goto (X := M_X8_sign) (pc := 26) (tgt := 30) dX8_sign_26 (by decide) ?_
    refine ev_iret (X := M_X8_sign) (pc := 30) dX8_sign_30 rfl ?_
    refine ⟨?_, rfl, rfl⟩
    unfold sgn
    first
      | rw [if_pos (by omega)]
      | rw [if_neg (by omega)]
theorem c_readClosing {γ : Gh} {K : Sk} {V : Mm} {t n : Nat} {u : Int} (h : TxC K V t n u) (hq : 0 ≤ V t 4 ∧ V t 4 ≤ n) : Call γ M_X8_readClosing 1 0 0 [vR t] K V (Rt (some (vI (if sgn (V 106) n (V t 4) = 41 then 1 else 0))) K (if sgn (V 106) n (V t 4) = 41 then wr V t 4 (V t 4 + 1) else V)) := by
  refine call_of (by decide +kernel) (by intro v hv; simp only [List.mem_cons, List.not_mem_nil, or_false] at hv; rcases hv with rfl <;> exact fun q => by cases q) (Nat.le_of_ble_eq_true rfl) ?_
  refine ev_lsE (ls' := [_]) rfl ?_
  have hsg := h.sg hq.1
  have hO : (K.1 t).1 = 8 + 10 := by rw [h.2.2.1.1]
  have ht := h.2.2.1.2.2.2.2.2.2.2
  refine ev_aload_n (X := M_X8_readClosing) (pc := 0) dX8_readClosing_0 rfl ?_
  refine ev_virtR (X := M_X8_readClosing) (Y := M_X8_sign) (pc := 1) (ci := 8) dX8_readClosing_1 mk_X8_sign rfl kw_502 kw_503 kw_504 hO (c_sign h hq) rfl (by decide) rfl (Nat.le_of_ble_eq_true rfl) (Nat.zero_add _) (Nat.zero_add _) ?_
  refine ev_bipush (X := M_X8_readClosing) (pc := 4) dX8_readClosing_4 (by decide) ?_
  refine ev_icmp_eq (X := M_X8_readClosing) (pc := 6) (tgt := 11) dX8_readClosing_6 (by decide) (by omega) (by omega) (fun h6 => ?_) (fun h6 => ?_)
  · refine ev_aload_n (X := M_X8_readClosing) (pc := 11) dX8_readClosing_11 rfl ?_
    refine ev_dup (X := M_X8_readClosing) (pc := 12) dX8_readClosing_12 (fun _ q => by cases q) ?_
    refine ev_getI (X := M_X8_readClosing) (pc := 13) (ki := 4) dX8_readClosing_13 fl_X8_39_8 hO (by decide) rfl ?_
    refine ev_iconst (X := M_X8_readClosing) (pc := 16) dX8_readClosing_16 ?_
    refine ev_iadd (X := M_X8_readClosing) (pc := 17) dX8_readClosing_17 ?_
    refine ev_putI (X := M_X8_readClosing) (pc := 18) (ki := 4) dX8_readClosing_18 fl_X8_39_8 (by omega) hO (fun _ h q => by cases h; cases q) (Or.inl rfl) rfl ?_
    refine ev_iconst (X := M_X8_readClosing) (pc := 21) dX8_readClosing_21 ?_
    refine ev_bret (X := M_X8_readClosing) (pc := 22) dX8_readClosing_22 rfl (by omega) ?_
    exact ⟨by rw [if_pos h6], rfl, by rw [if_pos h6]⟩
  · refine ev_iconst (X := M_X8_readClosing) (pc := 9) dX8_readClosing_9 ?_
    refine ev_bret (X := M_X8_readClosing) (pc := 10) dX8_readClosing_10 rfl (by omega) ?_
    exact ⟨by rw [if_neg h6], rfl, by rw [if_neg h6]⟩
/-- behind a read: where it stands; the code, if it is good -/
def PR (t : Nat) (V : Mm) (r : RR) (W : Mm) : Prop := frT t V W ∧ W t 4 = r.2 ∧ W t 5 = V t 5 ∧ ∀ l, r.1 = some l → W (t + 1) 1 = V (t + 1) 1 + l.length ∧ W (t + 2) = cw (V (t + 2)) (V (t + 1) 1) l
def okI (r : RR) : Int := if r.1.isSome then 1 else 0
theorem dg_s {f : Int → Int} {n : Int} {k : Nat} {v q : Int} (h : 48 ≤ sgn f n q ∧ sgn f n q ≤ 57) : dg f n (k + 1) v q = dg f n k (v * 10 + sgn f n q - 48) (q + 1) := by
  show (if 48 ≤ sgn f n q ∧ sgn f n q ≤ 57 then _ else _) = _
  rw [if_pos h]
theorem dg_e {f : Int → Int} {n : Int} {k : Nat} {v q : Int} (h : ¬ (48 ≤ sgn f n q ∧ sgn f n q ≤ 57)) : dg f n k v q = (v, q) := by
  cases k with
  | zero => rfl
  | succ k =>
    show (if 48 ≤ sgn f n q ∧ sgn f n q ≤ 57 then _ else _) = _
    rw [if_neg h]
theorem c_readNumber {γ : Gh} {K : Sk} {V : Mm} {t n : Nat} {u : Int} (h : TxC K V t n u) (hq : 0 ≤ V t 4 ∧ V t 4 ≤ n) (hm : 0 ≤ V (t + 1) 1 ∧ V (t + 1) 1 ≤ V t 4) (hd : 48 ≤ sgn (V 106) n (V t 4) ∧ sgn (V 106) n (V t 4) ≤ 57) : Call γ M_X8_readNumber 1 0 0 [vR t] K V (Qx (some (vI 1)) K (PR t V (some [(dg (V 106) n 4 0 (V t 4)).1], (dg (V 106) n 4 0 (V t 4)).2))) := by
  refine call_of (by decide +kernel) (by intro v hv; simp only [List.mem_cons, List.not_mem_nil, or_false] at hv; rcases hv with rfl <;> exact fun q => by cases q) (Nat.le_of_ble_eq_true rfl) ?_
  refine ev_lsE (ls' := [_, _, _]) rfl ?_
  have hO : (K.1 t).1 = 8 + 10 := by rw [h.2.2.1.1]
  have ht := h.2.2.1.2.2.2.2.2.2.2
  have hrow := h.2.2.1.2.2.2.2.2.1
  have hrc := h.2.2.1.2.2.2.1
  have hd4 := dg_4 hq.2 hd
  generalize hR : dg (V 106) n 4 0 (V t 4) = R at *
  refine ev_iconst (X := M_X8_readNumber) (pc := 0) dX8_readNumber_0 ?_
  refine ev_istore_nL (X := M_X8_readNumber) (pc := 1) (ls' := [_, _, _]) dX8_readNumber_1 (by decide) rfl ?_
  refine ev_iconst (X := M_X8_readNumber) (pc := 2) dX8_readNumber_2 ?_
  refine ev_istore_nL (X := M_X8_readNumber) (pc := 3) (ls' := [_, _, _]) dX8_readNumber_3 (by decide) rfl ?_
  refine ev_weak (ev_while (σ := Int × Int × Int × Mm) (fun s => 0 ≤ s.1 ∧ s.1 ≤ 4 ∧ V t 4 ≤ s.2.2.1 ∧ s.2.2.1 ≤ n ∧ dg (V 106) n (4 - s.1).toNat s.2.1 s.2.2.1 = R ∧ s.2.2.2 = wr V t 4 s.2.2.1) (fun s => (4 - s.1).toNat) (fun s => [vR t, vI s.2.1, vI s.1]) (fun _ => K) (fun s => s.2.2.2) ?_ (0, 0, V t 4, V) ⟨Int.le_refl 0, by show (0 : Int) ≤ 4; decide, Int.le_refl _, hq.2, hR, ?_⟩) ⟨rfl, rfl, rfl, trivial⟩
  rotate_left
  · show V = wr V t 4 (V t 4)
    funext a i
    by_cases z : a = t ∧ i = 4
    · rw [z.1, z.2, wr_self]
    · rw [wr_ne z]
  rintro ⟨i, v, q, W⟩ ⟨hi0, hi4, hq0, hqn, hdg, hW⟩ ih
  dsimp only at hi0 hi4 hq0 hqn hdg hW ih ⊢
  have hfr : frT t V W := by rw [hW]; exact frT.rf.w0 4 q
  have hWt : W t 4 = q := by rw [hW, wr_self]
  have h2 := h.fr hfr
  have h106 : W 106 = V 106 := hfr 106 (by omega) (by omega) (by omega)
  have hsg := h2.sg (q := q) (by omega)
  have hWm : W (t + 1) 1 = V (t + 1) 1 := by rw [hW, wr_off (by omega)]
  rw [h106] at hsg
  have hsign : Call γ M_X8_sign 0 0 0 [vR t] K W (Rt (some (vI (sgn (V 106) n q))) K W) := by
    have := c_sign (γ := γ) h2 (by rw [hWt]; omega)
    rw [h106, hWt] at this
    exact this
  have fin : (4 ≤ i ∨ ¬ (48 ≤ sgn (V 106) n q ∧ sgn (V 106) n q ≤ 57)) → R = (v, q) := fun z => by
    rw [← hdg]
    by_cases y : 4 ≤ i
    · rw [show (4 - i).toNat = 0 by omega]; rfl
    · exact dg_e (z.resolve_left y)
  refine ev_iload_n (X := M_X8_readNumber) (pc := 4) dX8_readNumber_4 rfl ?_
  refine ev_iconst (X := M_X8_readNumber) (pc := 5) dX8_readNumber_5 ?_
  refine ev_icmp_ge (X := M_X8_readNumber) (pc := 6) (tgt := 56) dX8_readNumber_6 (by decide) (by omega) (by omega) (fun h6 => ?_) (fun h6 => ?_)
  · obtain ⟨R1, R2⟩ := R
    have hf := fin (by omega)
    have e1 : R1 = v := congrArg Prod.fst hf
    have e2 : R2 = q := congrArg Prod.snd hf
    dsimp only at hd4
    refine ev_aload_n (X := M_X8_readNumber) (pc := 56) dX8_readNumber_56 rfl ?_
    refine ev_getRe (X := M_X8_readNumber) (pc := 57) dX8_readNumber_57 fl_X8_28_8 hO rfl hrc ?_
    refine ev_iload_n (X := M_X8_readNumber) (pc := 60) dX8_readNumber_60 rfl ?_
    refine ev_virtR (X := M_X8_readNumber) (Y := M_X5_add) (pc := 61) (ci := 5) dX8_readNumber_61 mk_X5_add rfl kw_510 kw_450 kw_451 hrow.1 (c_Row_add hrow (by rw [hWm]; omega)) rfl (by decide) rfl (Nat.le_of_ble_eq_true rfl) (Nat.zero_add _) (Nat.zero_add _) ?_
    refine ev_bret (X := M_X8_readNumber) (pc := 64) dX8_readNumber_64 rfl (by split <;> omega) ?_
    have hlt : W (t + 1) 1 < n := by rw [hWm]; omega
    rw [if_pos hlt, if_pos hlt]
    refine ⟨rfl, rfl, (hfr.w2 _ _).w1 _ _, ?_, ?_, fun l hl => ?_⟩
    · show wr (wr W (t + 2) _ _) (t + 1) _ _ t 4 = R2
      rw [wr_off (by omega), wr_off (by omega), hWt, e2]
    · show wr (wr W (t + 2) _ _) (t + 1) _ _ t 5 = V t 5
      rw [wr_off (by omega), wr_off (by omega), hW, wr_ne (by omega)]
    · have hl' : [R1] = l := Option.some.inj hl
      rw [← hl']
      refine ⟨?_, ?_⟩
      · show wr (wr W (t + 2) _ _) (t + 1) _ _ (t + 1) 1 = V (t + 1) 1 + ((1 : Nat) : Int)
        rw [wr_self, hWm]
        omega
      · show wr (wr W (t + 2) _ _) (t + 1) _ _ (t + 2) = up (V (t + 2)) (V (t + 1) 1) R1
        rw [wr_off (by omega), wr_row, hWm, e1, hW, wr_off (by omega)]
  · refine ev_aload_n (X := M_X8_readNumber) (pc := 9) dX8_readNumber_9 rfl ?_
    refine ev_virtR (X := M_X8_readNumber) (Y := M_X8_sign) (pc := 10) (ci := 8) dX8_readNumber_10 mk_X8_sign rfl kw_502 kw_503 kw_504 hO (hsign) rfl (by decide) rfl (Nat.le_of_ble_eq_true rfl) (Nat.zero_add _) (Nat.zero_add _) ?_
    refine ev_bipush (X := M_X8_readNumber) (pc := 13) dX8_readNumber_13 (by decide) ?_
    refine ev_icmp_lt (X := M_X8_readNumber) (pc := 15) (tgt := 56) dX8_readNumber_15 (by decide) (by omega) (by omega) (fun h15 => ?_) (fun h15 => ?_)
    · obtain ⟨R1, R2⟩ := R
      have hf := fin (by omega)
      have e1 : R1 = v := congrArg Prod.fst hf
      have e2 : R2 = q := congrArg Prod.snd hf
      dsimp only at hd4
      refine ev_aload_n (X := M_X8_readNumber) (pc := 56) dX8_readNumber_56 rfl ?_
      refine ev_getRe (X := M_X8_readNumber) (pc := 57) dX8_readNumber_57 fl_X8_28_8 hO rfl hrc ?_
      refine ev_iload_n (X := M_X8_readNumber) (pc := 60) dX8_readNumber_60 rfl ?_
      refine ev_virtR (X := M_X8_readNumber) (Y := M_X5_add) (pc := 61) (ci := 5) dX8_readNumber_61 mk_X5_add rfl kw_510 kw_450 kw_451 hrow.1 (c_Row_add hrow (by rw [hWm]; omega)) rfl (by decide) rfl (Nat.le_of_ble_eq_true rfl) (Nat.zero_add _) (Nat.zero_add _) ?_
      refine ev_bret (X := M_X8_readNumber) (pc := 64) dX8_readNumber_64 rfl (by split <;> omega) ?_
      have hlt : W (t + 1) 1 < n := by rw [hWm]; omega
      rw [if_pos hlt, if_pos hlt]
      refine ⟨rfl, rfl, (hfr.w2 _ _).w1 _ _, ?_, ?_, fun l hl => ?_⟩
      · show wr (wr W (t + 2) _ _) (t + 1) _ _ t 4 = R2
        rw [wr_off (by omega), wr_off (by omega), hWt, e2]
      · show wr (wr W (t + 2) _ _) (t + 1) _ _ t 5 = V t 5
        rw [wr_off (by omega), wr_off (by omega), hW, wr_ne (by omega)]
      · have hl' : [R1] = l := Option.some.inj hl
        rw [← hl']
        refine ⟨?_, ?_⟩
        · show wr (wr W (t + 2) _ _) (t + 1) _ _ (t + 1) 1 = V (t + 1) 1 + ((1 : Nat) : Int)
          rw [wr_self, hWm]
          omega
        · show wr (wr W (t + 2) _ _) (t + 1) _ _ (t + 2) = up (V (t + 2)) (V (t + 1) 1) R1
          rw [wr_off (by omega), wr_row, hWm, e1, hW, wr_off (by omega)]
    · refine ev_aload_n (X := M_X8_readNumber) (pc := 18) dX8_readNumber_18 rfl ?_
      refine ev_virtR (X := M_X8_readNumber) (Y := M_X8_sign) (pc := 19) (ci := 8) dX8_readNumber_19 mk_X8_sign rfl kw_502 kw_503 kw_504 hO (hsign) rfl (by decide) rfl (Nat.le_of_ble_eq_true rfl) (Nat.zero_add _) (Nat.zero_add _) ?_
      refine ev_bipush (X := M_X8_readNumber) (pc := 22) dX8_readNumber_22 (by decide) ?_
      refine ev_icmp_gt (X := M_X8_readNumber) (pc := 24) (tgt := 56) dX8_readNumber_24 (by decide) (by omega) (by omega) (fun h24 => ?_) (fun h24 => ?_)
      · obtain ⟨R1, R2⟩ := R
        have hf := fin (by omega)
        have e1 : R1 = v := congrArg Prod.fst hf
        have e2 : R2 = q := congrArg Prod.snd hf
        dsimp only at hd4
        refine ev_aload_n (X := M_X8_readNumber) (pc := 56) dX8_readNumber_56 rfl ?_
        refine ev_getRe (X := M_X8_readNumber) (pc := 57) dX8_readNumber_57 fl_X8_28_8 hO rfl hrc ?_
        refine ev_iload_n (X := M_X8_readNumber) (pc := 60) dX8_readNumber_60 rfl ?_
        refine ev_virtR (X := M_X8_readNumber) (Y := M_X5_add) (pc := 61) (ci := 5) dX8_readNumber_61 mk_X5_add rfl kw_510 kw_450 kw_451 hrow.1 (c_Row_add hrow (by rw [hWm]; omega)) rfl (by decide) rfl (Nat.le_of_ble_eq_true rfl) (Nat.zero_add _) (Nat.zero_add _) ?_
        refine ev_bret (X := M_X8_readNumber) (pc := 64) dX8_readNumber_64 rfl (by split <;> omega) ?_
        have hlt : W (t + 1) 1 < n := by rw [hWm]; omega
        rw [if_pos hlt, if_pos hlt]
        refine ⟨rfl, rfl, (hfr.w2 _ _).w1 _ _, ?_, ?_, fun l hl => ?_⟩
        · show wr (wr W (t + 2) _ _) (t + 1) _ _ t 4 = R2
          rw [wr_off (by omega), wr_off (by omega), hWt, e2]
        · show wr (wr W (t + 2) _ _) (t + 1) _ _ t 5 = V t 5
          rw [wr_off (by omega), wr_off (by omega), hW, wr_ne (by omega)]
        · have hl' : [R1] = l := Option.some.inj hl
          rw [← hl']
          refine ⟨?_, ?_⟩
          · show wr (wr W (t + 2) _ _) (t + 1) _ _ (t + 1) 1 = V (t + 1) 1 + ((1 : Nat) : Int)
            rw [wr_self, hWm]
            omega
          · show wr (wr W (t + 2) _ _) (t + 1) _ _ (t + 2) = up (V (t + 2)) (V (t + 1) 1) R1
            rw [wr_off (by omega), wr_row, hWm, e1, hW, wr_off (by omega)]
      · refine ev_iload_n (X := M_X8_readNumber) (pc := 27) dX8_readNumber_27 rfl ?_
        refine ev_bipush (X := M_X8_readNumber) (pc := 28) dX8_readNumber_28 (by decide) ?_
        refine ev_imul (X := M_X8_readNumber) (pc := 30) dX8_readNumber_30 ?_
        refine ev_aload_n (X := M_X8_readNumber) (pc := 31) dX8_readNumber_31 rfl ?_
        refine ev_virtR (X := M_X8_readNumber) (Y := M_X8_sign) (pc := 32) (ci := 8) dX8_readNumber_32 mk_X8_sign rfl kw_502 kw_503 kw_504 hO (hsign) rfl (by decide) rfl (Nat.le_of_ble_eq_true rfl) (Nat.zero_add _) (Nat.zero_add _) ?_
        refine ev_iadd (X := M_X8_readNumber) (pc := 35) dX8_readNumber_35 ?_
        refine ev_bipush (X := M_X8_readNumber) (pc := 36) dX8_readNumber_36 (by decide) ?_
        refine ev_isub (X := M_X8_readNumber) (pc := 38) dX8_readNumber_38 ?_
        refine ev_istore_nL (X := M_X8_readNumber) (pc := 39) (ls' := [_, _, _]) dX8_readNumber_39 (by decide) rfl ?_
        refine ev_aload_n (X := M_X8_readNumber) (pc := 40) dX8_readNumber_40 rfl ?_
        refine ev_dup (X := M_X8_readNumber) (pc := 41) dX8_readNumber_41 (fun _ q => by cases q) ?_
        refine ev_getIe (X := M_X8_readNumber) (pc := 42) (ki := 4) dX8_readNumber_42 fl_X8_39_8 hO (by decide) rfl (hWt) ?_
        refine ev_iconst (X := M_X8_readNumber) (pc := 45) dX8_readNumber_45 ?_
        refine ev_iadd (X := M_X8_readNumber) (pc := 46) dX8_readNumber_46 ?_
        refine ev_putI (X := M_X8_readNumber) (pc := 47) (ki := 4) dX8_readNumber_47 fl_X8_39_8 (by omega) hO (fun _ h q => by cases h; cases q) (Or.inl rfl) rfl ?_
        refine ev_iincL (X := M_X8_readNumber) (pc := 50) (ls' := [_, _, _]) dX8_readNumber_50 rfl (by decide) rfl ?_
        refine ev_goto (X := M_X8_readNumber) (pc := 53) (tgt := 4) dX8_readNumber_53 (by decide) ?_
        have hstep : dg (V 106) n (4 - i).toNat v q = dg (V 106) n (4 - (i + 1)).toNat (v * 10 + sgn (V 106) n q - 48) (q + 1) := by
          rw [show (4 - i).toNat = (4 - (i + 1)).toNat + 1 by omega]
          exact dg_s (by omega)
        have hqlt := (sgn_in (f := V 106) (n := n) (q := q) (by omega)).1
        refine ih (i + 1, v * 10 + sgn (V 106) n q - 48, q + 1, _) ⟨by omega, by omega, by show V t 4 ≤ q + 1; omega, by show q + 1 ≤ (n : Int); omega, by rw [← hstep]; exact hdg, ?_⟩ (by show (4 - (i + 1)).toNat < (4 - i).toNat; omega)
        show wr W t 4 (q + 1) = wr V t 4 (q + 1)
        rw [hW]
        funext a j
        by_cases z : a = t ∧ j = 4
        · rw [z.1, z.2, wr_self, wr_self]
        · rw [wr_ne z, wr_ne z, wr_ne z]
