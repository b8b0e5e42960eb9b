theorem comF_at {D : Int → Int} {p : Int} (hp : 0 ≤ p ∧ p < 6) : comF D (3 * p) = cmI D p 0 ∧ comF D (3 * p + 1) = cmI D p 1 ∧ comF D (3 * p + 2) = cmI D p 2 := by
  unfold comF
  rw [if_pos (show 0 ≤ 3 * p ∧ 3 * p < 18 by omega), if_pos (show 3 * p % 3 = 0 by omega), show 3 * p / 3 = p by omega]
  rw [if_pos (show 0 ≤ 3 * p + 1 ∧ 3 * p + 1 < 18 by omega), if_neg (show ¬ (3 * p + 1) % 3 = 0 by omega), if_pos (show (3 * p + 1) % 3 = 1 by omega), show (3 * p + 1) / 3 = p by omega]
  rw [if_pos (show 0 ≤ 3 * p + 2 ∧ 3 * p + 2 < 18 by omega), if_neg (show ¬ (3 * p + 2) % 3 = 0 by omega), if_neg (show ¬ (3 * p + 2) % 3 = 1 by omega), show (3 * p + 2) / 3 = p by omega]
  exact ⟨rfl, rfl, rfl⟩
def acf (f : Int → Int) (p x y : Int) : Int → Int := if 0 ≤ x ∧ x < 3 then up f (p * 3 + x) (f (p * 3 + x) + y) else f
theorem acf_at {f : Int → Int} {p x y s : Int} (hs : 0 ≤ s ∧ s < 3) : acf f p x y (p * 3 + s) = f (p * 3 + s) + y * ind x s := by
  unfold acf ind
  by_cases z : x = s
  · rw [z, if_pos hs, up_self, if_pos rfl, Int.mul_one]
  · rw [if_neg z, Int.mul_zero, Int.add_zero]
    split
    · rw [up_ne (by omega)]
    · rfl
theorem acf_off {f : Int → Int} {p x y j : Int} (hj : ¬ (p * 3 ≤ j ∧ j < p * 3 + 3)) : acf f p x y j = f j := by
  unfold acf
  split
  · rw [up_ne (by omega)]
  · rfl
theorem c_addChange {γ : Gh} {K : Sk} {V : Mm} (hL : Lay K) {p x y : Int} (hp : 0 ≤ p ∧ p < 6) (hx : R32 x) : Call γ M_X2_addChange 1 0 0 [vR 102, vI p, vI x, vI y] K V (Rt none K (setr V 109 (acf (V 109) p x y))) := by
  refine call_of (by decide +kernel) (by intro v hv; simp only [List.mem_cons, List.not_mem_nil, or_false] at hv; rcases hv with rfl | rfl | rfl | rfl <;> exact fun q => by cases q) (Nat.le_of_ble_eq_true rfl) ?_
  refine ev_lsE (ls' := [_, _, _, _]) rfl ?_
  refine ev_iload_n (X := M_X2_addChange) (pc := 0) dX2_addChange_0 rfl ?_
  refine ev_staticNR (X := M_X2_addChange) (Y := M_X11_isSort) (pc := 1) (host := "GreenPath") dX2_addChange_1 mk_X11_isSort kn_234 kw_235 (c_isSort hx) rfl (by decide) rfl (Nat.le_of_ble_eq_true rfl) (Nat.zero_add _) (Nat.zero_add _) ?_
  refine ev_if_eq (X := M_X2_addChange) (pc := 4) (tgt := 21) dX2_addChange_4 (by decide) (by split <;> decide) (fun h4 => ?_) (fun h4 => ?_)
  · have hno : ¬ (0 ≤ x ∧ x < 3) := fun z => by rw [if_pos z] at h4; exact absurd h4 (by decide)
    refine ev_vret (X := M_X2_addChange) (pc := 21) dX2_addChange_21 rfl ?_
    refine ⟨rfl, rfl, ?_⟩
    unfold acf
    first
      | (rw [if_neg hno]
         exact setr_id.symm)
      | (rw [if_pos hye]
         rfl)
  · have hye : 0 ≤ x ∧ x < 3 := Decidable.byContradiction fun z => h4 (by rw [if_neg z])
    refine ev_aload_n (X := M_X2_addChange) (pc := 7) dX2_addChange_7 rfl ?_
    refine ev_getRe (X := M_X2_addChange) (pc := 8) dX2_addChange_8 fl_X2_39_2 (lO_102 hL) rfl (lR_102_9 hL) ?_
    refine ev_iload_n (X := M_X2_addChange) (pc := 11) dX2_addChange_11 rfl ?_
    refine ev_iconst (X := M_X2_addChange) (pc := 12) dX2_addChange_12 ?_
    refine ev_imul (X := M_X2_addChange) (pc := 13) dX2_addChange_13 ?_
    refine ev_iload_n (X := M_X2_addChange) (pc := 14) dX2_addChange_14 rfl ?_
    refine ev_iadd (X := M_X2_addChange) (pc := 15) dX2_addChange_15 ?_
    refine ev_dup2 (X := M_X2_addChange) (pc := 16) dX2_addChange_16 (fun _ q => by cases q) (fun _ q => by cases q) ?_
    refine ev_iaload (X := M_X2_addChange) (pc := 17) dX2_addChange_17 (lS_109 hL) (by omega) ?_
    refine ev_iload_n (X := M_X2_addChange) (pc := 18) dX2_addChange_18 rfl ?_
    refine ev_iadd (X := M_X2_addChange) (pc := 19) dX2_addChange_19 ?_
    refine ev_iastore (X := M_X2_addChange) (pc := 20) dX2_addChange_20 (by decide) (lS_109 hL) (by omega) ?_
    refine ev_vret (X := M_X2_addChange) (pc := 21) dX2_addChange_21 rfl ?_
    refine ⟨rfl, rfl, ?_⟩
    unfold acf
    first
      | (rw [if_neg hno]
         exact setr_id.symm)
      | (rw [if_pos hye]
         rfl)
def fZ (K : Sk) (V W : Mm) : Prop := ∀ c, c ≠ 109 → c ≠ 110 → c ≠ 111 → ¬ (178 ≤ K.2.1 104 0 ∧ c = K.2.1 104 0 + 3) → W c = V c
theorem TI.at3 {K : Sk} {V : Mm} {D : Int → Int} {ta : Nat} {u : Int} (h : TI K V ta D u) (h8 : 178 ≤ K.2.1 ta u) : TxA K V (K.2.1 ta u) D u := by
  rcases h with z | z
  · omega
  · exact z.2
theorem TI.fZ {K : Sk} {V W : Mm} {D : Int → Int} (h : TI K V 104 D 0) (hf : fZ K V W) : TI K W 104 D 0 := by
  rcases h with z | ⟨z, t1, t2, t3, t4, t5, t6, l, hl, l1, l2, l3⟩
  · exact Or.inl z
  · refine Or.inr ⟨z, t1, t2, t3, t4, t5, t6, l, hl, ?_, l2, fun j y hj => ?_⟩
    · rw [hf _ (by omega) (by omega) (by omega) (by omega)]; exact l1
    · rw [hf _ (by omega) (by omega) (by omega) (by omega)]; exact l3 j y hj
theorem LawA.fZ {K : Sk} {V W : Mm} {D : Int → Int} {c : Nat} {p kd m : Int} (hT : TI K V 104 D 0) (h : LawA K V c p kd m) (hf : fZ K V W) : LawA K W c p kd m := by
  obtain ⟨a0, a1, a2, a3, a4, a5, a6⟩ := h
  have ho : (112 ≤ c ∧ c ≤ 117) ∨ (137 ≤ c ∧ c ≤ 142) ∨ 178 ≤ c := a6
  have e : W c = V c := hf c (by omega) (by omega) (by omega) (fun z => by
    have hA := hT.at3 z.1
    have h3 := hA.2.2.2.2.2.1
    rw [z.2, h3] at a0
    have : (1 : Nat) = lcl kd + 10 := a0
    omega)
  rw [← e] at a1 a2 a3 a4 a5
  exact ⟨a0, a1, a2, a3, a4, a5, a6⟩
def gS (D : Int → Int) (p i s : Int) : Int := -ind (lesF p) s - ind (greF p) s + (if 0 < i then ind (cmI D p 0) s else 0) + (if 1 < i then ind (cmI D p 1) s else 0) + (if 2 < i then ind (cmI D p 2) s else 0)
theorem gS_s {D : Int → Int} {p i s : Int} (hi : 0 ≤ i ∧ i < 3) : gS D p i s + 1 * ind (cmI D p i) s = gS D p (i + 1) s := by
  unfold gS
  rcases (show i = 0 ∨ i = 1 ∨ i = 2 by omega) with z | z | z <;> subst z <;> simp <;> omega
theorem gS_3 {D : Int → Int} {p s : Int} (hp : 0 ≤ p ∧ p < 6) : gS D p 3 s = chg (comF D) p s := by
  obtain ⟨e0, e1, e2⟩ := comF_at (D := D) hp
  unfold gS chg
  rw [e0, e1, e2]
  simp
  omega
theorem cmI_r {D : Int → Int} (hK : Kds D) {p i : Int} (hp : 0 ≤ p ∧ p < 6) (hi : 0 ≤ i ∧ i < 3) : -1 ≤ cmI D p i ∧ cmI D p i ≤ 2 := by
  obtain ⟨e0, e1, e2⟩ := comF_at (D := D) hp
  obtain ⟨c0, c1, c2⟩ := comF_wf hK p hp
  rw [e0] at c0
  rw [e1] at c1
  rw [e2] at c2
  rcases (show i = 0 ∨ i = 1 ∨ i = 2 by omega) with z | z | z <;> subst z <;> omega
theorem grw_ok {C : Int → Int} (hC : wfC C) {p : Int} (hp : 0 ≤ p ∧ p < 6) : chg C p 0 + chg C p 1 + chg C p 2 = many C p - 2 ∧ chg C p 0 * 169 + chg C p 1 * 13 + chg C p 2 * 1 = shf C p := by
  obtain ⟨c0, c1, c2⟩ := hC p hp
  have l1 := les_r p hp
  have l2 := gre_r p hp
  have s0 := ind_sum (C (3 * p)) (by omega)
  have s1 := ind_sum (C (3 * p + 1)) (by omega)
  have s2 := ind_sum (C (3 * p + 2)) (by omega)
  have s3 := ind_sum (lesF p) (by omega)
  have s4 := ind_sum (greF p) (by omega)
  have o0 := one_ind (C (3 * p)) (by omega)
  have o1 := one_ind (C (3 * p + 1)) (by omega)
  have o2 := one_ind (C (3 * p + 2)) (by omega)
  have o3 := one_ind (lesF p) (by omega)
  have o4 := one_ind (greF p) (by omega)
  rw [if_pos (by omega)] at s0 s3 s4
  unfold chg many shf
  refine ⟨?_, ?_⟩
  · rw [← s1, ← s2]; omega
  · rw [o0, o1, o2, o3, o4]; omega
def St6 (D : Int → Int) (n : Int) (W : Mm) : Prop := (∀ p, 0 ≤ p ∧ p < n → (∀ s, 0 ≤ s ∧ s < 3 → W 109 (p * 3 + s) = chg (comF D) p s) ∧ W 110 p = many (comF D) p - 2 ∧ W 111 p = shf (comF D) p) ∧ ∀ p, n ≤ p ∧ p < 6 → ∀ s, 0 ≤ s ∧ s < 3 → W 109 (p * 3 + s) = 0
theorem c_settle {γ : Gh} {K : Sk} {V : Mm} (hL : Lay K) (hV : SV V) {D : Int → Int} (hK : Kds D) (hTI : TI K V 104 D 0) (hA : ∀ p, 0 ≤ p ∧ p < 6 → LawA K V (K.2.1 103 p) p (D (3 + p)) (D (9 + p))) : Call γ M_X2_settle 4 0 0 [vR 102] K V (Qx none K (fun W => fZ K V W ∧ St6 D 6 W)) := by
  refine call_of (by decide +kernel) (by intro v hv; simp only [List.mem_cons, List.not_mem_nil, or_false] at hv; rcases hv with rfl <;> exact fun q => by cases q) (Nat.le_of_ble_eq_true rfl) ?_
  refine ev_lsE (ls' := [_, _, _, _, _]) rfl ?_
  have hC := comF_wf hK
  refine ev_aload_n (X := M_X2_settle) (pc := 0) dX2_settle_0 rfl ?_
  refine ev_getRe (X := M_X2_settle) (pc := 1) dX2_settle_1 fl_X2_39_2 (lO_102 hL) rfl (lR_102_9 hL) ?_
  refine ev_iconst (X := M_X2_settle) (pc := 4) dX2_settle_4 ?_
  refine ev_staticV (X := M_X2_settle) (Y := M_J7_fill_53178) (pc := 5) dX2_settle_5 mk_J7_fill_53178 kw_228 kw_185 (c_fillI (n := 18) (by decide) (lS_109 hL) (by decide)) rfl (by decide) rfl (Nat.le_of_ble_eq_true rfl) (Nat.zero_add _) (Nat.zero_add _) ?_
  refine ev_iconst (X := M_X2_settle) (pc := 8) dX2_settle_8 ?_
  refine ev_istore_nL (X := M_X2_settle) (pc := 9) (ls' := [_, _, _, _, _]) dX2_settle_9 (by decide) rfl ?_
  refine ev_weak (ev_while (σ := Int × Mm) (fun z => 0 ≤ z.1 ∧ z.1 ≤ 6 ∧ fZ K V z.2 ∧ St6 D z.1 z.2) (fun z => (6 - z.1).toNat) (fun z => [vR 102, vI z.1, vU, vU, vU]) (fun _ => K) (fun z => z.2) ?_ (0, setr V 109 (flr (V 109) ((18 : Nat) : Int) 0)) ⟨Int.le_refl 0, by show (0 : Int) ≤ 6; decide, fun c c1 _ _ _ => by show setr V 109 _ c = V c; rw [setr_ne c1], fun p hp => by change 0 ≤ p ∧ p < 0 at hp; omega, fun p hp s hs => ?_⟩) ⟨rfl, rfl, trivial⟩
  rotate_left
  · change 0 ≤ p ∧ p < 6 at hp
    show setr V 109 (flr (V 109) ((18 : Nat) : Int) 0) 109 (p * 3 + s) = 0
    rw [setr_self]
    unfold flr
    rw [if_pos (by omega)]
  rintro ⟨p, W⟩ ⟨p0, p1, w1, w2⟩ ih
  dsimp only at p0 p1 w1 w2 ih ⊢
  have hV1 : SV W := by
    unfold SV at hV ⊢
    rw [w1 1 (by decide) (by decide) (by decide) (by omega), w1 2 (by decide) (by decide) (by decide) (by omega), w1 3 (by decide) (by decide) (by decide) (by omega)]
    exact hV
  refine ev_iload_n (X := M_X2_settle) (pc := 10) dX2_settle_10 rfl ?_
  refine ev_bipush (X := M_X2_settle) (pc := 11) dX2_settle_11 (by decide) ?_
  refine ev_icmp_ge (X := M_X2_settle) (pc := 13) (tgt := 148) dX2_settle_13 (by decide) (by omega) (by omega) (fun h13 => ?_) (fun h13 => ?_)
  · refine ev_vret (X := M_X2_settle) (pc := 148) dX2_settle_148 rfl ?_
    have hp : p = 6 := by omega
    rw [hp] at w2
    exact ⟨rfl, rfl, w1, w2⟩
  · have hp6 : 0 ≤ p ∧ p < 6 := by omega
    have l1 := les_r p hp6
    have l2 := gre_r p hp6
    refine ev_aload_n (X := M_X2_settle) (pc := 16) dX2_settle_16 rfl ?_
    refine ev_iload_n (X := M_X2_settle) (pc := 17) dX2_settle_17 rfl ?_
    refine ev_getsN (X := M_X2_settle) (pc := 18) (q := ("GreenPath", "LESSER", "[I", vR 1)) (host := "GreenPath") dX2_settle_18 st_1 kn_229 ?_
    refine ev_iload_n (X := M_X2_settle) (pc := 21) dX2_settle_21 rfl ?_
    refine ev_ialoadE (X := M_X2_settle) (pc := 22) dX2_settle_22 (lS_1 hL) (by omega) (congrFun hV1.1 _) ?_
    refine ev_iconst (X := M_X2_settle) (pc := 23) dX2_settle_23 ?_
    refine ev_virtV (X := M_X2_settle) (Y := M_X2_addChange) (pc := 24) (ci := 2) dX2_settle_24 mk_X2_addChange rfl kw_230 kw_231 kw_232 (lO_102 hL) (c_addChange hL hp6 (by omega)) rfl (by decide) rfl (Nat.le_of_ble_eq_true rfl) (Nat.zero_add _) (Nat.zero_add _) ?_
    have hV2 : SV (setr W 109 (acf (W 109) p (lesF p) (-1))) := by
      unfold SV at hV1 ⊢
      rw [setr_ne (by decide), setr_ne (by decide), setr_ne (by decide)]
      exact hV1
    refine ev_aload_n (X := M_X2_settle) (pc := 27) dX2_settle_27 rfl ?_
    refine ev_iload_n (X := M_X2_settle) (pc := 28) dX2_settle_28 rfl ?_
    refine ev_getsN (X := M_X2_settle) (pc := 29) (q := ("GreenPath", "GREATER", "[I", vR 2)) (host := "GreenPath") dX2_settle_29 st_2 kn_237 ?_
    refine ev_iload_n (X := M_X2_settle) (pc := 32) dX2_settle_32 rfl ?_
    refine ev_ialoadE (X := M_X2_settle) (pc := 33) dX2_settle_33 (lS_2 hL) (by omega) (congrFun hV2.2.1 _) ?_
    refine ev_iconst (X := M_X2_settle) (pc := 34) dX2_settle_34 ?_
    refine ev_virtV (X := M_X2_settle) (Y := M_X2_addChange) (pc := 35) (ci := 2) dX2_settle_35 mk_X2_addChange rfl kw_230 kw_231 kw_232 (lO_102 hL) (c_addChange hL hp6 (by omega)) rfl (by decide) rfl (Nat.le_of_ble_eq_true rfl) (Nat.zero_add _) (Nat.zero_add _) ?_
    refine ev_iconst (X := M_X2_settle) (pc := 38) dX2_settle_38 ?_
    refine ev_istore_nL (X := M_X2_settle) (pc := 39) (ls' := [_, _, _, _, _]) dX2_settle_39 (by decide) rfl ?_
    generalize hW0 : setr (setr W 109 (acf (W 109) p (lesF p) (-1))) 109 (acf (setr W 109 (acf (W 109) p (lesF p) (-1)) 109) p (greF p) (-1)) = W0
    have q109 : W0 109 = acf (acf (W 109) p (lesF p) (-1)) p (greF p) (-1) := by rw [← hW0, setr_self, setr_self]
    have qo : ∀ c, c ≠ 109 → W0 c = W c := fun c c1 => by rw [← hW0, setr_ne c1, setr_ne c1]
    clear hW0 hV2
    refine ev_weak (ev_while (σ := Int × Mm) (fun z => 0 ≤ z.1 ∧ z.1 ≤ 3 ∧ fZ K V z.2 ∧ (∀ j, ¬ (p * 3 ≤ j ∧ j < p * 3 + 3) → z.2 109 j = W 109 j) ∧ z.2 110 = W 110 ∧ z.2 111 = W 111 ∧ ∀ s, 0 ≤ s ∧ s < 3 → z.2 109 (p * 3 + s) = gS D p z.1 s) (fun z => (3 - z.1).toNat) (fun z => [vR 102, vI p, vI z.1, vU, vU]) (fun _ => K) (fun z => z.2) ?_ (0, W0) ⟨Int.le_refl 0, by show (0 : Int) ≤ 3; decide, fun c c1 c2 c3 c4 => (qo c c1).trans (w1 c c1 c2 c3 c4), fun j hj => ?_, qo 110 (by decide), qo 111 (by decide), fun s hs => ?_⟩) ⟨rfl, rfl, rfl, trivial⟩
    rotate_left
    · show W0 109 j = W 109 j
      rw [q109, acf_off hj, acf_off hj]
    · show W0 109 (p * 3 + s) = gS D p 0 s
      rw [q109, acf_at hs, acf_at hs, w2.2 p ⟨Int.le_refl _, hp6.2⟩ s hs]
      unfold gS
      simp
      omega
    clear q109 qo
    rintro ⟨i, W3⟩ ⟨i0, i1, x1, x2, x3, x4, x5⟩ ih2
    dsimp only at i0 i1 x1 x2 x3 x4 x5 ih2 ⊢
    obtain ⟨c, hc⟩ : ∃ c, K.2.1 103 p = c := ⟨_, rfl⟩
    have hAc := hA p hp6
    rw [hc] at hAc
    have hAc3 := hAc.fZ hTI x1
    have hTI3 := hTI.fZ x1
    have hV3 : SV W3 := by
      unfold SV at hV ⊢
      rw [x1 1 (by decide) (by decide) (by decide) (by omega), x1 2 (by decide) (by decide) (by decide) (by omega), x1 3 (by decide) (by decide) (by decide) (by omega)]
      exact hV
    have e3 := x5 0 (by decide)
    have e4 := x5 1 (by decide)
    have e5 := x5 2 (by decide)
    rw [Int.add_zero] at e3
    refine ev_iload_n (X := M_X2_settle) (pc := 40) dX2_settle_40 rfl ?_
    refine ev_iconst (X := M_X2_settle) (pc := 41) dX2_settle_41 ?_
    refine ev_icmp_ge (X := M_X2_settle) (pc := 42) (tgt := 68) dX2_settle_42 (by decide) (by omega) (by omega) (fun h42 => ?_) (fun h42 => ?_)
    · have hi3 : i = 3 := by omega
      subst hi3
      rw [gS_3 hp6] at e3 e4 e5
      obtain ⟨g1, g2⟩ := grw_ok hC hp6
      refine ev_aload_n (X := M_X2_settle) (pc := 68) dX2_settle_68 rfl ?_
      refine ev_getRe (X := M_X2_settle) (pc := 69) dX2_settle_69 fl_X2_39_2 (lO_102 hL) rfl (lR_102_9 hL) ?_
      refine ev_iload_n (X := M_X2_settle) (pc := 72) dX2_settle_72 rfl ?_
      refine ev_iconst (X := M_X2_settle) (pc := 73) dX2_settle_73 ?_
      refine ev_imul (X := M_X2_settle) (pc := 74) dX2_settle_74 ?_
      refine ev_ialoadE (X := M_X2_settle) (pc := 75) dX2_settle_75 (lS_109 hL) (by omega) (e3) ?_
      refine ev_istore_nL (X := M_X2_settle) (pc := 76) (ls' := [_, _, _, _, _]) dX2_settle_76 (by decide) rfl ?_
      refine ev_aload_n (X := M_X2_settle) (pc := 77) dX2_settle_77 rfl ?_
      refine ev_getRe (X := M_X2_settle) (pc := 78) dX2_settle_78 fl_X2_39_2 (lO_102 hL) rfl (lR_102_9 hL) ?_
      refine ev_iload_n (X := M_X2_settle) (pc := 81) dX2_settle_81 rfl ?_
      refine ev_iconst (X := M_X2_settle) (pc := 82) dX2_settle_82 ?_
      refine ev_imul (X := M_X2_settle) (pc := 83) dX2_settle_83 ?_
      refine ev_iconst (X := M_X2_settle) (pc := 84) dX2_settle_84 ?_
      refine ev_iadd (X := M_X2_settle) (pc := 85) dX2_settle_85 ?_
      refine ev_ialoadE (X := M_X2_settle) (pc := 86) dX2_settle_86 (lS_109 hL) (by omega) (e4) ?_
      refine ev_istore_nL (X := M_X2_settle) (pc := 87) (ls' := [_, _, _, _, _]) dX2_settle_87 (by decide) rfl ?_
      refine ev_aload_n (X := M_X2_settle) (pc := 88) dX2_settle_88 rfl ?_
      refine ev_getRe (X := M_X2_settle) (pc := 89) dX2_settle_89 fl_X2_39_2 (lO_102 hL) rfl (lR_102_9 hL) ?_
      refine ev_iload_n (X := M_X2_settle) (pc := 92) dX2_settle_92 rfl ?_
      refine ev_iconst (X := M_X2_settle) (pc := 93) dX2_settle_93 ?_
      refine ev_imul (X := M_X2_settle) (pc := 94) dX2_settle_94 ?_
      refine ev_iconst (X := M_X2_settle) (pc := 95) dX2_settle_95 ?_
      refine ev_iadd (X := M_X2_settle) (pc := 96) dX2_settle_96 ?_
      refine ev_ialoadE (X := M_X2_settle) (pc := 97) dX2_settle_97 (lS_109 hL) (by omega) (e5) ?_
      refine ev_istoreL (X := M_X2_settle) (pc := 98) (ls' := [_, _, _, _, _]) dX2_settle_98 (by decide) rfl ?_
      refine ev_aload_n (X := M_X2_settle) (pc := 100) dX2_settle_100 rfl ?_
      refine ev_getRe (X := M_X2_settle) (pc := 101) dX2_settle_101 fl_X2_43_2 (lO_102 hL) rfl (lR_102_10 hL) ?_
      refine ev_iload_n (X := M_X2_settle) (pc := 104) dX2_settle_104 rfl ?_
      refine ev_iload_n (X := M_X2_settle) (pc := 105) dX2_settle_105 rfl ?_
      refine ev_iload_n (X := M_X2_settle) (pc := 106) dX2_settle_106 rfl ?_
      refine ev_iadd (X := M_X2_settle) (pc := 107) dX2_settle_107 ?_
      refine ev_iload (X := M_X2_settle) (pc := 108) dX2_settle_108 rfl ?_
      refine ev_iadd (X := M_X2_settle) (pc := 110) dX2_settle_110 ?_
      refine ev_iastore (X := M_X2_settle) (pc := 111) dX2_settle_111 (by decide) (lS_110 hL) (by omega) ?_
      have hV4 : SV (wr W3 110 p (chg (comF D) p 0 + chg (comF D) p 1 + chg (comF D) p 2)) := by
        unfold SV at hV3 ⊢
        rw [wr_off (by decide), wr_off (by decide), wr_off (by decide)]
        exact hV3
      refine ev_aload_n (X := M_X2_settle) (pc := 112) dX2_settle_112 rfl ?_
      refine ev_getRe (X := M_X2_settle) (pc := 113) dX2_settle_113 fl_X2_46_2 (lO_102 hL) rfl (lR_102_11 hL) ?_
      refine ev_iload_n (X := M_X2_settle) (pc := 116) dX2_settle_116 rfl ?_
      refine ev_iload_n (X := M_X2_settle) (pc := 117) dX2_settle_117 rfl ?_
      refine ev_getsN (X := M_X2_settle) (pc := 118) (q := ("GreenPath", "WEIGHT", "[I", vR 3)) (host := "GreenPath") dX2_settle_118 st_3 kn_282 ?_
      refine ev_iconst (X := M_X2_settle) (pc := 121) dX2_settle_121 ?_
      refine ev_ialoadE (X := M_X2_settle) (pc := 122) dX2_settle_122 (lS_3 hL) (by omega) (congrFun hV4.2.2 _) ?_
      refine ev_imul (X := M_X2_settle) (pc := 123) dX2_settle_123 ?_
      refine ev_iload_n (X := M_X2_settle) (pc := 124) dX2_settle_124 rfl ?_
      refine ev_getsN (X := M_X2_settle) (pc := 125) (q := ("GreenPath", "WEIGHT", "[I", vR 3)) (host := "GreenPath") dX2_settle_125 st_3 kn_282 ?_
      refine ev_iconst (X := M_X2_settle) (pc := 128) dX2_settle_128 ?_
      refine ev_ialoadE (X := M_X2_settle) (pc := 129) dX2_settle_129 (lS_3 hL) (by omega) (congrFun hV4.2.2 _) ?_
      refine ev_imul (X := M_X2_settle) (pc := 130) dX2_settle_130 ?_
      refine ev_iadd (X := M_X2_settle) (pc := 131) dX2_settle_131 ?_
      refine ev_iload (X := M_X2_settle) (pc := 132) dX2_settle_132 rfl ?_
      refine ev_getsN (X := M_X2_settle) (pc := 134) (q := ("GreenPath", "WEIGHT", "[I", vR 3)) (host := "GreenPath") dX2_settle_134 st_3 kn_282 ?_
      refine ev_iconst (X := M_X2_settle) (pc := 137) dX2_settle_137 ?_
      refine ev_ialoadE (X := M_X2_settle) (pc := 138) dX2_settle_138 (lS_3 hL) (by omega) (congrFun hV4.2.2 _) ?_
      refine ev_imul (X := M_X2_settle) (pc := 139) dX2_settle_139 ?_
      refine ev_iadd (X := M_X2_settle) (pc := 140) dX2_settle_140 ?_
      refine ev_iastore (X := M_X2_settle) (pc := 141) dX2_settle_141 (by decide) (lS_111 hL) (by omega) ?_
      refine ev_iincL (X := M_X2_settle) (pc := 142) (ls' := [_, _, _, _, _]) dX2_settle_142 rfl (by decide) rfl ?_
      refine ev_goto (X := M_X2_settle) (pc := 145) (tgt := 10) dX2_settle_145 (by decide) ?_
      have w0 : wgtF 0 = 169 := rfl
      have w1' : wgtF 1 = 13 := rfl
      have w2' : wgtF 2 = 1 := rfl
      rw [w0, w1', w2', g1, g2]
      generalize hW9 : wr (wr W3 110 p (many (comF D) p - 2)) 111 p (shf (comF D) p) = W9
      have k109 : W9 109 = W3 109 := by rw [← hW9, wr_off (by decide), wr_off (by decide)]
      have k110 : W9 110 = up (W3 110) p (many (comF D) p - 2) := by rw [← hW9, wr_off (by decide), wr_row]
      have k111 : W9 111 = up (W3 111) p (shf (comF D) p) := by rw [← hW9, wr_row, wr_off (by decide)]
      have ko : ∀ c, c ≠ 110 → c ≠ 111 → W9 c = W3 c := fun c c1 c2 => by rw [← hW9, wr_off c2, wr_off c1]
      refine ev_weak (ih (p + 1, W9) ⟨by omega, by omega, fun c c1 c2 c3 c4 => (ko c c2 c3).trans (x1 c c1 c2 c3 c4), fun q hq => ?_, fun q hq s hs => ?_⟩ (by show (6 - (p + 1)).toNat < (6 - p).toNat; omega)) ⟨rfl, rfl, trivial⟩
      · change 0 ≤ q ∧ q < p + 1 at hq
        show (∀ s, 0 ≤ s ∧ s < 3 → W9 109 (q * 3 + s) = chg (comF D) q s) ∧ W9 110 q = many (comF D) q - 2 ∧ W9 111 q = shf (comF D) q
        rw [k109, k110, k111]
        by_cases z : q = p
        · subst z
          rw [up_self, up_self]
          refine ⟨fun s hs => ?_, rfl, rfl⟩
          rw [x5 s hs, gS_3 hp6]
        · obtain ⟨y1, y2, y3⟩ := w2.1 q (by omega)
          rw [up_ne z, up_ne z, x3, x4]
          exact ⟨fun s hs => by rw [x2 _ (by omega)]; exact y1 s hs, y2, y3⟩
      · change p + 1 ≤ q ∧ q < 6 at hq
        show W9 109 (q * 3 + s) = 0
        rw [k109, x2 _ (by omega)]
        exact w2.2 q (by omega) s hs
    · have hi3 : 0 ≤ i ∧ i < 3 := by omega
      have hcr := cmI_r hK hp6 hi3
      refine ev_aload_n (X := M_X2_settle) (pc := 45) dX2_settle_45 rfl ?_
      refine ev_iload_n (X := M_X2_settle) (pc := 46) dX2_settle_46 rfl ?_
      refine ev_aload_n (X := M_X2_settle) (pc := 47) dX2_settle_47 rfl ?_
      refine ev_getRe (X := M_X2_settle) (pc := 48) dX2_settle_48 fl_X2_11_2 (lO_102 hL) rfl (lR_102_0 hL) ?_
      refine ev_iload_n (X := M_X2_settle) (pc := 51) dX2_settle_51 rfl ?_
      refine ev_aaloadE (X := M_X2_settle) (pc := 52) dX2_settle_52 (lS_103 hL) (by decide) (by decide) (by omega) (hc) ?_
      refine ev_iload_n (X := M_X2_settle) (pc := 53) dX2_settle_53 rfl ?_
      refine ev_aload_n (X := M_X2_settle) (pc := 54) dX2_settle_54 rfl ?_
      refine ev_lawComes (X := M_X2_settle) (pc := 55) dX2_settle_55 kw_238 hL hK hTI3 hp6 hi3 hAc3 (by decide) (Nat.le_of_ble_eq_true rfl) (fun W4 hW4 => ?_)
      refine ev_iconst (X := M_X2_settle) (pc := 58) dX2_settle_58 ?_
      refine ev_virtV (X := M_X2_settle) (Y := M_X2_addChange) (pc := 59) (ci := 2) dX2_settle_59 mk_X2_addChange rfl kw_230 kw_231 kw_232 (lO_102 hL) (c_addChange hL hp6 (by omega)) rfl (by decide) rfl (Nat.le_of_ble_eq_true rfl) (Nat.zero_add _) (Nat.zero_add _) ?_
      refine ev_iincL (X := M_X2_settle) (pc := 62) (ls' := [_, _, _, _, _]) dX2_settle_62 rfl (by decide) rfl ?_
      refine ev_goto (X := M_X2_settle) (pc := 65) (tgt := 40) dX2_settle_65 (by decide) ?_
      have y109 : W4 109 = W3 109 := hW4.lo (by decide)
      generalize hW5 : setr W4 109 (acf (W4 109) p (cmI D p i) 1) = W5
      have k109 : W5 109 = acf (W3 109) p (cmI D p i) 1 := by rw [← hW5, setr_self, y109]
      have ko : ∀ c, c ≠ 109 → W5 c = W4 c := fun c c1 => by rw [← hW5, setr_ne c1]
      refine ev_weak (ih2 (i + 1, W5) ⟨by omega, by omega, fun c c1 c2 c3 c4 => ((ko c c1).trans (hW4 c c4)).trans (x1 c c1 c2 c3 c4), fun j hj => ?_, ?_, ?_, fun s hs => ?_⟩ (by show (3 - (i + 1)).toNat < (3 - i).toNat; omega)) ⟨rfl, rfl, rfl, trivial⟩
      · show W5 109 j = W 109 j
        rw [k109, acf_off hj]
        exact x2 j hj
      · show W5 110 = W 110
        rw [ko 110 (by decide), hW4.lo (by decide)]
        exact x3
      · show W5 111 = W 111
        rw [ko 111 (by decide), hW4.lo (by decide)]
        exact x4
      · show W5 109 (p * 3 + s) = gS D p (i + 1) s
        rw [k109, acf_at hs, x5 s hs]
        exact gS_s hi3
theorem c_forget {γ : Gh} {K : Sk} {V : Mm} (hL : Lay K) : Call γ M_X6_forget 1 0 0 [vR 101] K V (Rt none K (setr V 119 (flr (V 119) ((2730 : Nat) : Int) (-2)))) := by
  refine call_of (by decide +kernel) (by intro v hv; simp only [List.mem_cons, List.not_mem_nil, or_false] at hv; rcases hv with rfl <;> exact fun q => by cases q) (Nat.le_of_ble_eq_true rfl) ?_
  refine ev_lsE (ls' := [_]) rfl ?_
  refine ev_aload_n (X := M_X6_forget) (pc := 0) dX6_forget_0 rfl ?_
  refine ev_getRe (X := M_X6_forget) (pc := 1) dX6_forget_1 fl_X6_22_6 (lO_101 hL) rfl (lR_101_2 hL) ?_
  refine ev_bipush (X := M_X6_forget) (pc := 4) dX6_forget_4 (by decide) ?_
  refine ev_staticV (X := M_X6_forget) (Y := M_J7_fill_53178) (pc := 6) dX6_forget_6 mk_J7_fill_53178 kw_184 kw_185 (c_fillI (n := 2730) (by decide) (lS_119 hL) (by decide)) rfl (by decide) rfl (Nat.le_of_ble_eq_true rfl) (Nat.zero_add _) (Nat.zero_add _) ?_
  refine ev_vret (X := M_X6_forget) (pc := 9) dX6_forget_9 rfl ?_
  exact ⟨rfl, rfl, rfl⟩
def fR (K : Sk) (V W : Mm) : Prop := ∀ c, c ≠ 109 → c ≠ 110 → c ≠ 111 → c ≠ 119 → ¬ (178 ≤ K.2.1 104 0 ∧ c = K.2.1 104 0 + 3) → W c = V c
theorem c_rulesChanged {γ : Gh} {K : Sk} {V : Mm} (hL : Lay K) (hV : SV V) {D : Int → Int} (hK : Kds D) (hTI : TI K V 104 D 0) (hA : ∀ p, 0 ≤ p ∧ p < 6 → LawA K V (K.2.1 103 p) p (D (3 + p)) (D (9 + p))) : Call γ M_X11_rulesChanged 5 0 0 [vR 100] K V (Qx none K (fun W => fR K V W ∧ St6 D 6 W ∧ ∀ j, 0 ≤ j ∧ j < 2730 → W 119 j = -2)) := by
  refine call_of (by decide +kernel) (by intro v hv; simp only [List.mem_cons, List.not_mem_nil, or_false] at hv; rcases hv with rfl <;> exact fun q => by cases q) (Nat.le_of_ble_eq_true rfl) ?_
  refine ev_lsE (ls' := [_]) rfl ?_
  refine ev_aload_n (X := M_X11_rulesChanged) (pc := 0) dX11_rulesChanged_0 rfl ?_
  refine ev_getRe (X := M_X11_rulesChanged) (pc := 1) dX11_rulesChanged_1 fl_X11_20_11 (lO_100 hL) rfl (lR_100_0 hL) ?_
  refine ev_virtY (X := M_X11_rulesChanged) (Y := M_X2_settle) (pc := 4) (ci := 2) dX11_rulesChanged_4 mk_X2_settle rfl kw_224 kw_225 kw_226 (lO_102 hL) (c_settle hL hV hK hTI hA) rfl (by decide) rfl (Nat.le_of_ble_eq_true rfl) (Nat.zero_add _) (Nat.zero_add _) (fun W hW => ?_)
  refine ev_aload_n (X := M_X11_rulesChanged) (pc := 7) dX11_rulesChanged_7 rfl ?_
  refine ev_getRe (X := M_X11_rulesChanged) (pc := 8) dX11_rulesChanged_8 fl_X11_12_11 (lO_100 hL) rfl (lR_100_2 hL) ?_
  refine ev_virtV (X := M_X11_rulesChanged) (Y := M_X6_forget) (pc := 11) (ci := 6) dX11_rulesChanged_11 mk_X6_forget rfl kw_413 kw_414 kw_415 (lO_101 hL) (c_forget hL) rfl (by decide) rfl (Nat.le_of_ble_eq_true rfl) (Nat.zero_add _) (Nat.zero_add _) ?_
  refine ev_vret (X := M_X11_rulesChanged) (pc := 14) dX11_rulesChanged_14 rfl ?_
  refine ⟨rfl, rfl, fun c c1 c2 c3 c4 c5 => by rw [setr_ne c4]; exact hW.1 c c1 c2 c3 c5, ?_, fun j hj => ?_⟩
  · refine ⟨fun p hp => ?_, fun p hp => ?_⟩
    · rw [setr_ne (show (109 : Nat) ≠ 119 by decide), setr_ne (show (110 : Nat) ≠ 119 by decide), setr_ne (show (111 : Nat) ≠ 119 by decide)]
      exact hW.2.1 p hp
    · rw [setr_ne (show (109 : Nat) ≠ 119 by decide)]
      exact hW.2.2 p hp
  · rw [setr_self]
    unfold flr
    rw [if_pos (show 0 ≤ j ∧ j < ((2730 : Nat) : Int) from hj)]
