/-- what settle asks of the cells -/
def Lay0 (K : Sk) : Prop := (K.1 102).1 = 2 + 10 ∧ K.2.1 102 0 = 103 ∧ K.2.1 102 9 = 109 ∧ K.2.1 102 10 = 110 ∧ K.2.1 102 11 = 111 ∧ K.1 103 = (5, 6) ∧ K.1 109 = (1, 18) ∧ K.1 110 = (1, 6) ∧ K.1 111 = (1, 6) ∧ K.1 1 = (1, 6) ∧ K.1 2 = (1, 6) ∧ K.1 3 = (1, 3)
def fZ0 (V W : Mm) : Prop := ∀ c, c ≠ 109 → c ≠ 110 → c ≠ 111 → W c = V c
theorem LawA.fZ0 {K : Sk} {V W : Mm} {c : Nat} {p kd m : Int} (h : LawA K V c p kd m) (hf : fZ0 V W) : LawA K W c p kd m := by
  refine h.mv (fun _ _ => rfl) (fun x z _ _ => ?_)
  have ho : (112 ≤ x ∧ x ≤ 117) ∨ (137 ≤ x ∧ x ≤ 142) ∨ 178 ≤ x := z
  exact hf x (by omega) (by omega) (by omega)
theorem ev_comes9 {γ : Gh} {X : MX} {d mc ms pc : Nat} {ls st : List PV} {K : Sk} {V : Mm} {Q : Option PV → Sk → Mm → Prop} {index c : Nat} {D : Int → Int} {p i : Int} (hd : decode X.2.1 pc = .ok (.invokevirtual index, 3)) (w1 : Cond.methodLink X.1.cls index yX4_comes ∈ tb) (hK : Kds D) (hp : 0 ≤ p ∧ p < 6) (hi : 0 ≤ i ∧ i < 3) (z : D (3 + p) = 1) (hA : LawA K V c p (D (3 + p)) (D (9 + p))) (hd' : 3 < d) (hW : (st.map pcat).sum ≤ 8) (kk : Ev γ X d mc ms (pc + 3) ls (vI (cmI D p i) :: st) K V Q) : Ev γ X d mc ms pc ls (vR 102 :: vI i :: vR c :: st) K V Q := by
  obtain ⟨hO, a0, a1, a2, a3, a4, a5⟩ := hA
  have hk := hK.1 p hp.1 hp.2
  have ha := les_r p hp
  have hb := gre_r p hp
  have hm : 0 ≤ D (9 + p) ∧ D (9 + p) ≤ 9 := hk.2
  have hlg : lesF p + greF p ≤ 3 ∨ lesF p = greF p := by
    unfold lesF greF
    repeat' split
    all_goals omega
  have hcm : cmI D p i = if i = 0 then cm0 D p else if i = 1 then cm1 D p else cm2 D p := rfl
  unfold cm0 cm1 cm2 at hcm
  rw [z] at hO hcm
  refine ev_virtUR (Y := M_X9_comes) (ci := 9) hd mk_X9_comes rfl w1 kw_247 kw_263 kw_241 kw_239 kw_281 ⟨by decide, by decide⟩ rfl hO (c_comT_9 hO a2 a3 a4 ha hb hm hi) rfl (Nat.lt_of_le_of_lt (by decide) hd') rfl hW (Nat.zero_add _) (Nat.zero_add _) ?_
  refine ev_eqI ?_ kk
  rw [hcm]
  repeat' split
  all_goals first | rfl | omega
theorem c_addChange0 {γ : Gh} {K : Sk} {V : Mm} (hL : Lay0 K) {p x y : Int} (hp : 0 ≤ p ∧ p < 6) (hx : R32 x) : Call γ M_X2_addChange 1 0 0 [vR 102, vI p, vI x, vI y] K V (Rt none K (setr V 109 (acf (V 109) p x y))) := by
  refine call_of (by decide +kernel) (by intro v hv; simp only [List.mem_cons, List.not_mem_nil, or_false] at hv; rcases hv with rfl | rfl | rfl | rfl <;> exact fun q => by cases q) (Nat.le_of_ble_eq_true rfl) ?_
  refine ev_lsE (ls' := [_, _, _, _]) rfl ?_
  obtain ⟨f102, r0, r9, r10, r11, s103, s109, s110, s111, s1, s2, s3⟩ := id hL
  refine ev_iload_n (X := M_X2_addChange) (pc := 0) dX2_addChange_0 rfl ?_
  refine ev_staticNR (X := M_X2_addChange) (Y := M_X11_isSort) (pc := 1) (host := "GreenPath") dX2_addChange_1 mk_X11_isSort kn_234 kw_235 (c_isSort hx) rfl (by decide) rfl (Nat.le_of_ble_eq_true rfl) (Nat.zero_add _) (Nat.zero_add _) ?_
  refine ev_if_eq (X := M_X2_addChange) (pc := 4) (tgt := 21) dX2_addChange_4 (by decide) (by split <;> decide) (fun h4 => ?_) (fun h4 => ?_)
  · have hno : ¬ (0 ≤ x ∧ x < 3) := fun z => by rw [if_pos z] at h4; exact absurd h4 (by decide)
    refine ev_vret (X := M_X2_addChange) (pc := 21) dX2_addChange_21 rfl ?_
    refine ⟨rfl, rfl, ?_⟩
    unfold acf
    first
      | (rw [if_neg hno]
         exact setr_id.symm)
      | (rw [if_pos hye]
         rfl)
  · have hye : 0 ≤ x ∧ x < 3 := Decidable.byContradiction fun z => h4 (by rw [if_neg z])
    refine ev_aload_n (X := M_X2_addChange) (pc := 7) dX2_addChange_7 rfl ?_
    refine ev_getRe (X := M_X2_addChange) (pc := 8) dX2_addChange_8 fl_X2_39_2 f102 rfl r9 ?_
    refine ev_iload_n (X := M_X2_addChange) (pc := 11) dX2_addChange_11 rfl ?_
    refine ev_iconst (X := M_X2_addChange) (pc := 12) dX2_addChange_12 ?_
    refine ev_imul (X := M_X2_addChange) (pc := 13) dX2_addChange_13 ?_
    refine ev_iload_n (X := M_X2_addChange) (pc := 14) dX2_addChange_14 rfl ?_
    refine ev_iadd (X := M_X2_addChange) (pc := 15) dX2_addChange_15 ?_
    refine ev_dup2 (X := M_X2_addChange) (pc := 16) dX2_addChange_16 (fun _ q => by cases q) (fun _ q => by cases q) ?_
    refine ev_iaload (X := M_X2_addChange) (pc := 17) dX2_addChange_17 s109 (by omega) ?_
    refine ev_iload_n (X := M_X2_addChange) (pc := 18) dX2_addChange_18 rfl ?_
    refine ev_iadd (X := M_X2_addChange) (pc := 19) dX2_addChange_19 ?_
    refine ev_iastore (X := M_X2_addChange) (pc := 20) dX2_addChange_20 (by decide) s109 (by omega) ?_
    refine ev_vret (X := M_X2_addChange) (pc := 21) dX2_addChange_21 rfl ?_
    refine ⟨rfl, rfl, ?_⟩
    unfold acf
    first
      | (rw [if_neg hno]
         exact setr_id.symm)
      | (rw [if_pos hye]
         rfl)
theorem c_settle0 {γ : Gh} {K : Sk} {V : Mm} (hL : Lay0 K) (hV : SV V) {D : Int → Int} (hK : Kds D) (hD1 : ∀ p, 0 ≤ p ∧ p < 6 → D (3 + p) = 1) (hA : ∀ p, 0 ≤ p ∧ p < 6 → LawA K V (K.2.1 103 p) p (D (3 + p)) (D (9 + p))) : Call γ M_X2_settle 4 0 0 [vR 102] K V (Qx none K (fun W => fZ0 V W ∧ St6 D 6 W)) := by
  refine call_of (by decide +kernel) (by intro v hv; simp only [List.mem_cons, List.not_mem_nil, or_false] at hv; rcases hv with rfl <;> exact fun q => by cases q) (Nat.le_of_ble_eq_true rfl) ?_
  refine ev_lsE (ls' := [_, _, _, _, _]) rfl ?_
  obtain ⟨f102, r0, r9, r10, r11, s103, s109, s110, s111, s1, s2, s3⟩ := id hL
  have hC := comF_wf hK
  refine ev_aload_n (X := M_X2_settle) (pc := 0) dX2_settle_0 rfl ?_
  refine ev_getRe (X := M_X2_settle) (pc := 1) dX2_settle_1 fl_X2_39_2 f102 rfl r9 ?_
  refine ev_iconst (X := M_X2_settle) (pc := 4) dX2_settle_4 ?_
  refine ev_staticV (X := M_X2_settle) (Y := M_J7_fill_53178) (pc := 5) dX2_settle_5 mk_J7_fill_53178 kw_228 kw_185 (c_fillI (n := 18) (by decide) s109 (by decide)) rfl (by decide) rfl (Nat.le_of_ble_eq_true rfl) (Nat.zero_add _) (Nat.zero_add _) ?_
  refine ev_iconst (X := M_X2_settle) (pc := 8) dX2_settle_8 ?_
  refine ev_istore_nL (X := M_X2_settle) (pc := 9) (ls' := [_, _, _, _, _]) dX2_settle_9 (by decide) rfl ?_
  refine ev_weak (ev_while (σ := Int × Mm) (fun z => 0 ≤ z.1 ∧ z.1 ≤ 6 ∧ fZ0 V z.2 ∧ St6 D z.1 z.2) (fun z => (6 - z.1).toNat) (fun z => [vR 102, vI z.1, vU, vU, vU]) (fun _ => K) (fun z => z.2) ?_ (0, setr V 109 (flr (V 109) ((18 : Nat) : Int) 0)) ⟨Int.le_refl 0, by show (0 : Int) ≤ 6; decide, fun c c1 _ _ => by show setr V 109 _ c = V c; rw [setr_ne c1], fun p hp => by change 0 ≤ p ∧ p < 0 at hp; omega, fun p hp s hs => ?_⟩) ⟨rfl, rfl, trivial⟩
  rotate_left
  · change 0 ≤ p ∧ p < 6 at hp
    show setr V 109 (flr (V 109) ((18 : Nat) : Int) 0) 109 (p * 3 + s) = 0
    rw [setr_self]
    unfold flr
    rw [if_pos (by omega)]
  rintro ⟨p, W⟩ ⟨p0, p1, w1, w2⟩ ih
  dsimp only at p0 p1 w1 w2 ih ⊢
  have hV1 : SV W := by
    unfold SV at hV ⊢
    rw [w1 1 (by decide) (by decide) (by decide), w1 2 (by decide) (by decide) (by decide), w1 3 (by decide) (by decide) (by decide)]
    exact hV
  refine ev_iload_n (X := M_X2_settle) (pc := 10) dX2_settle_10 rfl ?_
  refine ev_bipush (X := M_X2_settle) (pc := 11) dX2_settle_11 (by decide) ?_
  refine ev_icmp_ge (X := M_X2_settle) (pc := 13) (tgt := 148) dX2_settle_13 (by decide) (by omega) (by omega) (fun h13 => ?_) (fun h13 => ?_)
  · refine ev_vret (X := M_X2_settle) (pc := 148) dX2_settle_148 rfl ?_
    have hp : p = 6 := by omega
    rw [hp] at w2
    exact ⟨rfl, rfl, w1, w2⟩
  · have hp6 : 0 ≤ p ∧ p < 6 := by omega
    have l1 := les_r p hp6
    have l2 := gre_r p hp6
    refine ev_aload_n (X := M_X2_settle) (pc := 16) dX2_settle_16 rfl ?_
    refine ev_iload_n (X := M_X2_settle) (pc := 17) dX2_settle_17 rfl ?_
    refine ev_getsN (X := M_X2_settle) (pc := 18) (q := ("GreenPath", "LESSER", "[I", vR 1)) (host := "GreenPath") dX2_settle_18 st_1 kn_229 ?_
    refine ev_iload_n (X := M_X2_settle) (pc := 21) dX2_settle_21 rfl ?_
    refine ev_ialoadE (X := M_X2_settle) (pc := 22) dX2_settle_22 s1 (by omega) (congrFun hV1.1 _) ?_
    refine ev_iconst (X := M_X2_settle) (pc := 23) dX2_settle_23 ?_
    refine ev_virtV (X := M_X2_settle) (Y := M_X2_addChange) (pc := 24) (ci := 2) dX2_settle_24 mk_X2_addChange rfl kw_230 kw_231 kw_232 f102 (c_addChange0 hL hp6 (by omega)) rfl (by decide) rfl (Nat.le_of_ble_eq_true rfl) (Nat.zero_add _) (Nat.zero_add _) ?_
    have hV2 : SV (setr W 109 (acf (W 109) p (lesF p) (-1))) := by
      unfold SV at hV1 ⊢
      rw [setr_ne (by decide), setr_ne (by decide), setr_ne (by decide)]
      exact hV1
    refine ev_aload_n (X := M_X2_settle) (pc := 27) dX2_settle_27 rfl ?_
    refine ev_iload_n (X := M_X2_settle) (pc := 28) dX2_settle_28 rfl ?_
    refine ev_getsN (X := M_X2_settle) (pc := 29) (q := ("GreenPath", "GREATER", "[I", vR 2)) (host := "GreenPath") dX2_settle_29 st_2 kn_237 ?_
    refine ev_iload_n (X := M_X2_settle) (pc := 32) dX2_settle_32 rfl ?_
    refine ev_ialoadE (X := M_X2_settle) (pc := 33) dX2_settle_33 s2 (by omega) (congrFun hV2.2.1 _) ?_
    refine ev_iconst (X := M_X2_settle) (pc := 34) dX2_settle_34 ?_
    refine ev_virtV (X := M_X2_settle) (Y := M_X2_addChange) (pc := 35) (ci := 2) dX2_settle_35 mk_X2_addChange rfl kw_230 kw_231 kw_232 f102 (c_addChange0 hL hp6 (by omega)) rfl (by decide) rfl (Nat.le_of_ble_eq_true rfl) (Nat.zero_add _) (Nat.zero_add _) ?_
    refine ev_iconst (X := M_X2_settle) (pc := 38) dX2_settle_38 ?_
    refine ev_istore_nL (X := M_X2_settle) (pc := 39) (ls' := [_, _, _, _, _]) dX2_settle_39 (by decide) rfl ?_
    generalize hW0 : setr (setr W 109 (acf (W 109) p (lesF p) (-1))) 109 (acf (setr W 109 (acf (W 109) p (lesF p) (-1)) 109) p (greF p) (-1)) = W0
    have q109 : W0 109 = acf (acf (W 109) p (lesF p) (-1)) p (greF p) (-1) := by rw [← hW0, setr_self, setr_self]
    have qo : ∀ c, c ≠ 109 → W0 c = W c := fun c c1 => by rw [← hW0, setr_ne c1, setr_ne c1]
    clear hW0 hV2
    refine ev_weak (ev_while (σ := Int × Mm) (fun z => 0 ≤ z.1 ∧ z.1 ≤ 3 ∧ fZ0 V z.2 ∧ (∀ j, ¬ (p * 3 ≤ j ∧ j < p * 3 + 3) → z.2 109 j = W 109 j) ∧ z.2 110 = W 110 ∧ z.2 111 = W 111 ∧ ∀ s, 0 ≤ s ∧ s < 3 → z.2 109 (p * 3 + s) = gS D p z.1 s) (fun z => (3 - z.1).toNat) (fun z => [vR 102, vI p, vI z.1, vU, vU]) (fun _ => K) (fun z => z.2) ?_ (0, W0) ⟨Int.le_refl 0, by show (0 : Int) ≤ 3; decide, fun c c1 c2 c3 => (qo c c1).trans (w1 c c1 c2 c3), fun j hj => ?_, qo 110 (by decide), qo 111 (by decide), fun s hs => ?_⟩) ⟨rfl, rfl, rfl, trivial⟩
    rotate_left
    · show W0 109 j = W 109 j
      rw [q109, acf_off hj, acf_off hj]
    · show W0 109 (p * 3 + s) = gS D p 0 s
      rw [q109, acf_at hs, acf_at hs, w2.2 p ⟨Int.le_refl _, hp6.2⟩ s hs]
      unfold gS
      simp
      omega
    clear q109 qo
    rintro ⟨i, W3⟩ ⟨i0, i1, x1, x2, x3, x4, x5⟩ ih2
    dsimp only at i0 i1 x1 x2 x3 x4 x5 ih2 ⊢
    obtain ⟨c, hc⟩ : ∃ c, K.2.1 103 p = c := ⟨_, rfl⟩
    have hAc := hA p hp6
    rw [hc] at hAc
    have hAc3 := hAc.fZ0 x1
    have hV3 : SV W3 := by
      unfold SV at hV ⊢
      rw [x1 1 (by decide) (by decide) (by decide), x1 2 (by decide) (by decide) (by decide), x1 3 (by decide) (by decide) (by decide)]
      exact hV
    have e3 := x5 0 (by decide)
    have e4 := x5 1 (by decide)
    have e5 := x5 2 (by decide)
    rw [Int.add_zero] at e3
    refine ev_iload_n (X := M_X2_settle) (pc := 40) dX2_settle_40 rfl ?_
    refine ev_iconst (X := M_X2_settle) (pc := 41) dX2_settle_41 ?_
    refine ev_icmp_ge (X := M_X2_settle) (pc := 42) (tgt := 68) dX2_settle_42 (by decide) (by omega) (by omega) (fun h42 => ?_) (fun h42 => ?_)
    · have hi3 : i = 3 := by omega
      subst hi3
      rw [gS_3 hp6] at e3 e4 e5
      obtain ⟨g1, g2⟩ := grw_ok hC hp6
      refine ev_aload_n (X := M_X2_settle) (pc := 68) dX2_settle_68 rfl ?_
      refine ev_getRe (X := M_X2_settle) (pc := 69) dX2_settle_69 fl_X2_39_2 f102 rfl r9 ?_
      refine ev_iload_n (X := M_X2_settle) (pc := 72) dX2_settle_72 rfl ?_
      refine ev_iconst (X := M_X2_settle) (pc := 73) dX2_settle_73 ?_
      refine ev_imul (X := M_X2_settle) (pc := 74) dX2_settle_74 ?_
      refine ev_ialoadE (X := M_X2_settle) (pc := 75) dX2_settle_75 s109 (by omega) (e3) ?_
      refine ev_istore_nL (X := M_X2_settle) (pc := 76) (ls' := [_, _, _, _, _]) dX2_settle_76 (by decide) rfl ?_
      refine ev_aload_n (X := M_X2_settle) (pc := 77) dX2_settle_77 rfl ?_
      refine ev_getRe (X := M_X2_settle) (pc := 78) dX2_settle_78 fl_X2_39_2 f102 rfl r9 ?_
      refine ev_iload_n (X := M_X2_settle) (pc := 81) dX2_settle_81 rfl ?_
      refine ev_iconst (X := M_X2_settle) (pc := 82) dX2_settle_82 ?_
      refine ev_imul (X := M_X2_settle) (pc := 83) dX2_settle_83 ?_
      refine ev_iconst (X := M_X2_settle) (pc := 84) dX2_settle_84 ?_
      refine ev_iadd (X := M_X2_settle) (pc := 85) dX2_settle_85 ?_
      refine ev_ialoadE (X := M_X2_settle) (pc := 86) dX2_settle_86 s109 (by omega) (e4) ?_
      refine ev_istore_nL (X := M_X2_settle) (pc := 87) (ls' := [_, _, _, _, _]) dX2_settle_87 (by decide) rfl ?_
      refine ev_aload_n (X := M_X2_settle) (pc := 88) dX2_settle_88 rfl ?_
      refine ev_getRe (X := M_X2_settle) (pc := 89) dX2_settle_89 fl_X2_39_2 f102 rfl r9 ?_
      refine ev_iload_n (X := M_X2_settle) (pc := 92) dX2_settle_92 rfl ?_
      refine ev_iconst (X := M_X2_settle) (pc := 93) dX2_settle_93 ?_
      refine ev_imul (X := M_X2_settle) (pc := 94) dX2_settle_94 ?_
      refine ev_iconst (X := M_X2_settle) (pc := 95) dX2_settle_95 ?_
      refine ev_iadd (X := M_X2_settle) (pc := 96) dX2_settle_96 ?_
      refine ev_ialoadE (X := M_X2_settle) (pc := 97) dX2_settle_97 s109 (by omega) (e5) ?_
      refine ev_istoreL (X := M_X2_settle) (pc := 98) (ls' := [_, _, _, _, _]) dX2_settle_98 (by decide) rfl ?_
      refine ev_aload_n (X := M_X2_settle) (pc := 100) dX2_settle_100 rfl ?_
      refine ev_getRe (X := M_X2_settle) (pc := 101) dX2_settle_101 fl_X2_43_2 f102 rfl r10 ?_
      refine ev_iload_n (X := M_X2_settle) (pc := 104) dX2_settle_104 rfl ?_
      refine ev_iload_n (X := M_X2_settle) (pc := 105) dX2_settle_105 rfl ?_
      refine ev_iload_n (X := M_X2_settle) (pc := 106) dX2_settle_106 rfl ?_
      refine ev_iadd (X := M_X2_settle) (pc := 107) dX2_settle_107 ?_
      refine ev_iload (X := M_X2_settle) (pc := 108) dX2_settle_108 rfl ?_
      refine ev_iadd (X := M_X2_settle) (pc := 110) dX2_settle_110 ?_
      refine ev_iastore (X := M_X2_settle) (pc := 111) dX2_settle_111 (by decide) s110 (by omega) ?_
      have hV4 : SV (wr W3 110 p (chg (comF D) p 0 + chg (comF D) p 1 + chg (comF D) p 2)) := by
        unfold SV at hV3 ⊢
        rw [wr_off (by decide), wr_off (by decide), wr_off (by decide)]
        exact hV3
      refine ev_aload_n (X := M_X2_settle) (pc := 112) dX2_settle_112 rfl ?_
      refine ev_getRe (X := M_X2_settle) (pc := 113) dX2_settle_113 fl_X2_46_2 f102 rfl r11 ?_
      refine ev_iload_n (X := M_X2_settle) (pc := 116) dX2_settle_116 rfl ?_
      refine ev_iload_n (X := M_X2_settle) (pc := 117) dX2_settle_117 rfl ?_
      refine ev_getsN (X := M_X2_settle) (pc := 118) (q := ("GreenPath", "WEIGHT", "[I", vR 3)) (host := "GreenPath") dX2_settle_118 st_3 kn_282 ?_
      refine ev_iconst (X := M_X2_settle) (pc := 121) dX2_settle_121 ?_
      refine ev_ialoadE (X := M_X2_settle) (pc := 122) dX2_settle_122 s3 (by omega) (congrFun hV4.2.2 _) ?_
      refine ev_imul (X := M_X2_settle) (pc := 123) dX2_settle_123 ?_
      refine ev_iload_n (X := M_X2_settle) (pc := 124) dX2_settle_124 rfl ?_
      refine ev_getsN (X := M_X2_settle) (pc := 125) (q := ("GreenPath", "WEIGHT", "[I", vR 3)) (host := "GreenPath") dX2_settle_125 st_3 kn_282 ?_
      refine ev_iconst (X := M_X2_settle) (pc := 128) dX2_settle_128 ?_
      refine ev_ialoadE (X := M_X2_settle) (pc := 129) dX2_settle_129 s3 (by omega) (congrFun hV4.2.2 _) ?_
      refine ev_imul (X := M_X2_settle) (pc := 130) dX2_settle_130 ?_
      refine ev_iadd (X := M_X2_settle) (pc := 131) dX2_settle_131 ?_
      refine ev_iload (X := M_X2_settle) (pc := 132) dX2_settle_132 rfl ?_
      refine ev_getsN (X := M_X2_settle) (pc := 134) (q := ("GreenPath", "WEIGHT", "[I", vR 3)) (host := "GreenPath") dX2_settle_134 st_3 kn_282 ?_
      refine ev_iconst (X := M_X2_settle) (pc := 137) dX2_settle_137 ?_
      refine ev_ialoadE (X := M_X2_settle) (pc := 138) dX2_settle_138 s3 (by omega) (congrFun hV4.2.2 _) ?_
      refine ev_imul (X := M_X2_settle) (pc := 139) dX2_settle_139 ?_
      refine ev_iadd (X := M_X2_settle) (pc := 140) dX2_settle_140 ?_
      refine ev_iastore (X := M_X2_settle) (pc := 141) dX2_settle_141 (by decide) s111 (by omega) ?_
      refine ev_iincL (X := M_X2_settle) (pc := 142) (ls' := [_, _, _, _, _]) dX2_settle_142 rfl (by decide) rfl ?_
      refine ev_goto (X := M_X2_settle) (pc := 145) (tgt := 10) dX2_settle_145 (by decide) ?_
      have w0 : wgtF 0 = 169 := rfl
      have w1' : wgtF 1 = 13 := rfl
      have w2' : wgtF 2 = 1 := rfl
      rw [w0, w1', w2', g1, g2]
      generalize hW9 : wr (wr W3 110 p (many (comF D) p - 2)) 111 p (shf (comF D) p) = W9
      have k109 : W9 109 = W3 109 := by rw [← hW9, wr_off (by decide), wr_off (by decide)]
      have k110 : W9 110 = up (W3 110) p (many (comF D) p - 2) := by rw [← hW9, wr_off (by decide), wr_row]
      have k111 : W9 111 = up (W3 111) p (shf (comF D) p) := by rw [← hW9, wr_row, wr_off (by decide)]
      have ko : ∀ c, c ≠ 110 → c ≠ 111 → W9 c = W3 c := fun c c1 c2 => by rw [← hW9, wr_off c2, wr_off c1]
      refine ev_weak (ih (p + 1, W9) ⟨by omega, by omega, fun c c1 c2 c3 => (ko c c2 c3).trans (x1 c c1 c2 c3), fun q hq => ?_, fun q hq s hs => ?_⟩ (by show (6 - (p + 1)).toNat < (6 - p).toNat; omega)) ⟨rfl, rfl, trivial⟩
      · change 0 ≤ q ∧ q < p + 1 at hq
        show (∀ s, 0 ≤ s ∧ s < 3 → W9 109 (q * 3 + s) = chg (comF D) q s) ∧ W9 110 q = many (comF D) q - 2 ∧ W9 111 q = shf (comF D) q
        rw [k109, k110, k111]
        by_cases z : q = p
        · subst z
          rw [up_self, up_self]
          refine ⟨fun s hs => ?_, rfl, rfl⟩
          rw [x5 s hs, gS_3 hp6]
        · obtain ⟨y1, y2, y3⟩ := w2.1 q (by omega)
          rw [up_ne z, up_ne z, x3, x4]
          exact ⟨fun s hs => by rw [x2 _ (by omega)]; exact y1 s hs, y2, y3⟩
      · change p + 1 ≤ q ∧ q < 6 at hq
        show W9 109 (q * 3 + s) = 0
        rw [k109, x2 _ (by omega)]
        exact w2.2 q (by omega) s hs
    · have hi3 : 0 ≤ i ∧ i < 3 := by omega
      have hcr := cmI_r hK hp6 hi3
      refine ev_aload_n (X := M_X2_settle) (pc := 45) dX2_settle_45 rfl ?_
      refine ev_iload_n (X := M_X2_settle) (pc := 46) dX2_settle_46 rfl ?_
      refine ev_aload_n (X := M_X2_settle) (pc := 47) dX2_settle_47 rfl ?_
      refine ev_getRe (X := M_X2_settle) (pc := 48) dX2_settle_48 fl_X2_11_2 f102 rfl r0 ?_
      refine ev_iload_n (X := M_X2_settle) (pc := 51) dX2_settle_51 rfl ?_
      refine ev_aaloadE (X := M_X2_settle) (pc := 52) dX2_settle_52 s103 (by decide) (by decide) (by omega) (hc) ?_
      refine ev_iload_n (X := M_X2_settle) (pc := 53) dX2_settle_53 rfl ?_
      refine ev_aload_n (X := M_X2_settle) (pc := 54) dX2_settle_54 rfl ?_
      refine ev_comes9 (X := M_X2_settle) (pc := 55) dX2_settle_55 kw_238 hK hp6 hi3 (hD1 p hp6) hAc3 (by decide) (Nat.le_of_ble_eq_true rfl) ?_
      refine ev_iconst (X := M_X2_settle) (pc := 58) dX2_settle_58 ?_
      refine ev_virtV (X := M_X2_settle) (Y := M_X2_addChange) (pc := 59) (ci := 2) dX2_settle_59 mk_X2_addChange rfl kw_230 kw_231 kw_232 f102 (c_addChange0 hL hp6 (by omega)) rfl (by decide) rfl (Nat.le_of_ble_eq_true rfl) (Nat.zero_add _) (Nat.zero_add _) ?_
      refine ev_iincL (X := M_X2_settle) (pc := 62) (ls' := [_, _, _, _, _]) dX2_settle_62 rfl (by decide) rfl ?_
      refine ev_goto (X := M_X2_settle) (pc := 65) (tgt := 40) dX2_settle_65 (by decide) ?_
      generalize hW5 : setr W3 109 (acf (W3 109) p (cmI D p i) 1) = W5
      have k109 : W5 109 = acf (W3 109) p (cmI D p i) 1 := by rw [← hW5, setr_self]
      have ko : ∀ c, c ≠ 109 → W5 c = W3 c := fun c c1 => by rw [← hW5, setr_ne c1]
      refine ev_weak (ih2 (i + 1, W5) ⟨by omega, by omega, fun c c1 c2 c3 => (ko c c1).trans (x1 c c1 c2 c3), fun j hj => ?_, ?_, ?_, fun s hs => ?_⟩ (by show (3 - (i + 1)).toNat < (3 - i).toNat; omega)) ⟨rfl, rfl, rfl, trivial⟩
      · show W5 109 j = W 109 j
        rw [k109, acf_off hj]
        exact x2 j hj
      · show W5 110 = W 110
        rw [ko 110 (by decide)]
        exact x3
      · show W5 111 = W 111
        rw [ko 111 (by decide)]
        exact x4
      · show W5 109 (p * 3 + s) = gS D p (i + 1) s
        rw [k109, acf_at hs, x5 s hs]
        exact gS_s hi3
