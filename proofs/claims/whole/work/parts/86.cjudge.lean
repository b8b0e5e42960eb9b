/-! ===== the class: judge ===== -/
theorem jdG_cg {C : Int → Int} {F : Int} {f g : Int → Int} : ∀ (m : Nat) (s i : Int), (∀ j, i ≤ j → j < i + m → ((0 ≤ f j ∧ f j < 6) ↔ (0 ≤ g j ∧ g j < 6)) ∧ (0 ≤ f j ∧ f j < 6 → f j = g j)) → jdG C F f m s i = jdG C F g m s i
  | 0, _, _, _ => rfl
  | m + 1, s, i, h => by
    obtain ⟨h1, h2⟩ := h i (Int.le_refl i) (by omega)
    unfold jdG
    by_cases z : 0 ≤ f i ∧ f i < 6
    · rw [h2 z]
      rw [h2 z] at z
      by_cases y : nx C F s (g i) ≠ -1
      · rw [if_pos ⟨z, y⟩, if_pos ⟨z, y⟩]
        exact jdG_cg m _ _ (fun j a b => h j (by omega) (by omega))
      · rw [if_neg (fun q => y q.2), if_neg (fun q => y q.2)]
    · rw [if_neg (fun q => z q.1), if_neg (fun q => z (h1.mpr q.1))]
def shA (s : Int) : Nat := (146 + 2 * s).toNat
theorem shA_row {K : Sk} (hL : Lay K) {s : Int} (hs : 0 ≤ s ∧ s < 4) : K.2.1 145 s = shA s ∧ RowAt K (shA s) (shA s + 1) 40 := by
  rcases (show s = 0 ∨ s = 1 ∨ s = 2 ∨ s = 3 by omega) with rfl | rfl | rfl | rfl
  · exact ⟨lR_145_0 hL, lO_146 hL, lR_146_0 hL, lS_147 hL, by decide, by decide, by decide, by decide⟩
  · exact ⟨lR_145_1 hL, lO_148 hL, lR_148_0 hL, lS_149 hL, by decide, by decide, by decide, by decide⟩
  · exact ⟨lR_145_2 hL, lO_150 hL, lR_150_0 hL, lS_151 hL, by decide, by decide, by decide, by decide⟩
  · exact ⟨lR_145_3 hL, lO_152 hL, lR_152_0 hL, lS_153 hL, by decide, by decide, by decide, by decide⟩
theorem c_judge {γ : Gh} {K : Sk} {V : Mm} {D : Int → Int} (hS : SrP K V (comF D) (fS D)) (hct : DCnt D) (c4 : V 102 4 = nowS D) {s : Int} (hsr : R32 s) (hb : 0 ≤ s → s < 4 → (0 ≤ V 154 s ∧ V 154 s ≤ 32) ∧ (0 ≤ V (shA s) 1 ∧ V (shA s) 1 ≤ 40) ∧ ∀ i, 0 ≤ i → i < V (shA s) 1 → R32 (V (shA s + 1) i)) : Call γ M_X11_judge 4 0 0 [vR 100, vI s] K V (Rt (some (vI (aR (jdK (V 154 s) s) (jdG (comF D) (fS D) (fun i => V (shA s + 1) i) (V (shA s) 1).toNat (nowS D) 0)))) K (cE V (jdK (V 154 s) s))) := by
  refine call_of (by decide +kernel) (by intro v hv; simp only [List.mem_cons, List.not_mem_nil, or_false] at hv; rcases hv with rfl | rfl <;> exact fun q => by cases q) (Nat.le_of_ble_eq_true rfl) ?_
  refine ev_lsE (ls' := [_, _, _, _, _]) rfl ?_
  obtain ⟨hL, hV, hV2, hC, hF, hI, -, -⟩ := hS
  have hs0 := nowS_st hct
  generalize comF D = C at *
  refine ev_iload_n (X := M_X11_judge) (pc := 0) dX11_judge_0 rfl ?_
  refine ev_staticR (X := M_X11_judge) (Y := M_X11_isSheet) (pc := 1) dX11_judge_1 mk_X11_isSheet kw_921 kw_922 (c_isSheet hsr) rfl (by decide) rfl (Nat.le_of_ble_eq_true rfl) (Nat.zero_add _) (Nat.zero_add _) ?_
  refine ev_if_ne (X := M_X11_judge) (pc := 4) (tgt := 14) dX11_judge_4 (by decide) (by split <;> decide) (fun h4 => ?_) (fun h4 => ?_)
  · have hs4 : 0 ≤ s ∧ s < 4 := Decidable.byContradiction fun z => h4 (by rw [if_neg z])
    obtain ⟨b1, b2, b3⟩ := hb hs4.1 hs4.2
    obtain ⟨hr, hro⟩ := shA_row hL hs4
    obtain ⟨r, hrr⟩ : ∃ r, shA s = r := ⟨_, rfl⟩
    rw [hrr] at hr hro b2 b3 ⊢
    have hrO := hro.1
    have hrR := hro.2.1
    have hrS := hro.2.2.1
    have hk0 : jdK (V 154 s) s = if V 154 s = 0 then 2 else 0 := by unfold jdK; rw [if_pos hs4]
    refine ev_aload_n (X := M_X11_judge) (pc := 14) dX11_judge_14 rfl ?_
    refine ev_getRe (X := M_X11_judge) (pc := 15) dX11_judge_15 fl_X11_45_11 (lO_100 hL) rfl (lR_100_5 hL) ?_
    refine ev_iload_n (X := M_X11_judge) (pc := 18) dX11_judge_18 rfl ?_
    refine ev_iaload (X := M_X11_judge) (pc := 19) dX11_judge_19 (lS_154 hL) (by omega) ?_
    refine ev_if_ne (X := M_X11_judge) (pc := 20) (tgt := 30) dX11_judge_20 (by decide) (by omega) (fun h20 => ?_) (fun h20 => ?_)
    · have hk : jdK (V 154 s) s = 0 := by rw [hk0, if_neg h20]
      rw [hk]
      refine ev_aload_n (X := M_X11_judge) (pc := 30) dX11_judge_30 rfl ?_
      refine ev_getRe (X := M_X11_judge) (pc := 31) dX11_judge_31 fl_X11_41_11 (lO_100 hL) rfl (lR_100_4 hL) ?_
      refine ev_iload_n (X := M_X11_judge) (pc := 34) dX11_judge_34 rfl ?_
      refine ev_aaloadE (X := M_X11_judge) (pc := 35) dX11_judge_35 (lS_145 hL) (by decide) (by decide) (by omega) (hr) ?_
      refine ev_astore_nL (X := M_X11_judge) (pc := 36) (ls' := [_, _, _, _, _]) dX11_judge_36 (by decide) rfl ?_
      refine ev_aload_n (X := M_X11_judge) (pc := 37) dX11_judge_37 rfl ?_
      refine ev_getRe (X := M_X11_judge) (pc := 38) dX11_judge_38 fl_X11_20_11 (lO_100 hL) rfl (lR_100_0 hL) ?_
      refine ev_getIe (X := M_X11_judge) (pc := 41) (ki := 4) dX11_judge_41 fl_X11_61_2 (lO_102 hL) (by decide) rfl (c4) ?_
      refine ev_istore_nL (X := M_X11_judge) (pc := 44) (ls' := [_, _, _, _, _]) dX11_judge_44 (by decide) rfl ?_
      refine ev_iconst (X := M_X11_judge) (pc := 45) dX11_judge_45 ?_
      refine ev_istoreL (X := M_X11_judge) (pc := 46) (ls' := [_, _, _, _, _]) dX11_judge_46 (by decide) rfl ?_
      obtain ⟨G, hG⟩ : ∃ G, G = jdG C (fS D) (fun i => V (r + 1) i) (V r 1).toNat (nowS D) 0 := ⟨_, rfl⟩
      show Ev _ _ _ _ _ _ _ _ _ _ (Rt (some (vI (jdG C (fS D) (fun i => V (r + 1) i) (V r 1).toNat (nowS D) 0))) _ _)
      rw [← hG]
      refine ev_weak (ev_while (σ := Int × Int) (fun z => 0 ≤ z.1 ∧ z.1 ≤ V r 1 ∧ isSt z.2 ∧ G = jdG C (fS D) (fun i => V (r + 1) i) (V r 1 - z.1).toNat z.2 z.1) (fun z => (V r 1 - z.1).toNat) (fun z => [vR 100, vI s, vR r, vI z.2, vI z.1]) (fun _ => K) (fun _ => V) ?_ (0, nowS D) ⟨Int.le_refl 0, b2.1, hs0, by rw [Int.sub_zero]; exact hG⟩) ⟨rfl, rfl, rfl, rfl, rfl, trivial⟩
      rintro ⟨i, t⟩ ⟨i0, i1, hst, hg⟩ ih
      dsimp only at i0 i1 hst hg ih ⊢
      have hgs : i < V r 1 → G = if (0 ≤ V (r + 1) i ∧ V (r + 1) i < 6) ∧ nx C (fS D) t (V (r + 1) i) ≠ -1 then jdG C (fS D) (fun i => V (r + 1) i) (V r 1 - (i + 1)).toNat (nx C (fS D) t (V (r + 1) i)) (i + 1) else i := fun z => by
        rw [hg, show (V r 1 - i).toNat = (V r 1 - (i + 1)).toNat + 1 by omega]
        rfl
      have hr3 := b3 i i0
      have hstl := isSt_lt hst
      refine ev_iload (X := M_X11_judge) (pc := 48) dX11_judge_48 rfl ?_
      refine ev_aload_n (X := M_X11_judge) (pc := 50) dX11_judge_50 rfl ?_
      refine ev_getI (X := M_X11_judge) (pc := 51) (ki := 1) dX11_judge_51 fl_X11_122_5 hrO (by decide) rfl ?_
      refine ev_icmp_ge (X := M_X11_judge) (pc := 54) (tgt := 104) dX11_judge_54 (by decide) (by omega) (by omega) (fun h54 => ?_) (fun h54 => ?_)
      · rw [show (V r 1 - i).toNat = 0 by omega] at hg
        have hg2 : G = V r 1 := by rw [hg]; show i = V r 1; omega
        refine ev_aload_n (X := M_X11_judge) (pc := 104) dX11_judge_104 rfl ?_
        refine ev_getI (X := M_X11_judge) (pc := 105) (ki := 1) dX11_judge_105 fl_X11_122_5 hrO (by decide) rfl ?_
        refine ev_iret (X := M_X11_judge) (pc := 108) dX11_judge_108 rfl ?_
        exact ⟨by rw [hg2], rfl, rfl⟩
      · have hgs2 := hgs (by omega)
        have hr4 := hr3 (by omega)
        obtain ⟨x, hx⟩ : ∃ x, V (r + 1) i = x := ⟨_, rfl⟩
        rw [hx] at hgs2 hr4
        refine ev_aload_n (X := M_X11_judge) (pc := 57) dX11_judge_57 rfl ?_
        refine ev_getRe (X := M_X11_judge) (pc := 58) dX11_judge_58 fl_X11_252_5 hrO rfl hrR ?_
        refine ev_iload (X := M_X11_judge) (pc := 61) dX11_judge_61 rfl ?_
        refine ev_ialoadE (X := M_X11_judge) (pc := 63) dX11_judge_63 hrS (by omega) (hx) ?_
        refine ev_staticR (X := M_X11_judge) (Y := M_X11_isPair) (pc := 64) dX11_judge_64 mk_X11_isPair kw_336 kw_337 (c_isPair hr4) rfl (by decide) rfl (Nat.le_of_ble_eq_true rfl) (Nat.zero_add _) (Nat.zero_add _) ?_
        refine ev_if_eq (X := M_X11_judge) (pc := 67) (tgt := 88) dX11_judge_67 (by decide) (by split <;> decide) (fun h67 => ?_) (fun h67 => ?_)
        · have hg2 : G = i := by rw [hgs2, if_neg (fun z => by rw [if_pos z.1] at h67; exact absurd h67 (by decide))]
          refine ev_iconst (X := M_X11_judge) (pc := 88) dX11_judge_88 ?_
          refine ev_istore_nL (X := M_X11_judge) (pc := 89) (ls' := [_, _, _, _, _]) dX11_judge_89 (by decide) rfl ?_
          refine ev_iload_n (X := M_X11_judge) (pc := 90) dX11_judge_90 rfl ?_
          refine ev_iconst (X := M_X11_judge) (pc := 91) dX11_judge_91 ?_
          refine ev_icmp_ne (X := M_X11_judge) (pc := 92) (tgt := 98) dX11_judge_92 (by decide) (by omega) (by decide) (fun h92 => ?_) (fun h92 => ?_)
          · have hx6 : 0 ≤ x ∧ x < 6 := by first | exact hx6 | exact absurd rfl h92
            have h92' : nx C (fS D) t x ≠ -1 := by first | exact h92 | exact absurd rfl h92
            rw [if_pos ⟨hx6, h92'⟩] at hgs2
            refine ev_iincL (X := M_X11_judge) (pc := 98) (ls' := [_, _, _, _, _]) dX11_judge_98 rfl (by decide) rfl ?_
            refine ev_goto (X := M_X11_judge) (pc := 101) (tgt := 48) dX11_judge_101 (by decide) ?_
            first | exact absurd rfl h92 | exact ev_weak (ih (i + 1, nx C (fS D) t x) ⟨by omega, by omega, nx_st hC hx6 hst h92', hgs2⟩ (by show (V r 1 - (i + 1)).toNat < (V r 1 - i).toNat; omega)) ⟨rfl, rfl, rfl, rfl, rfl, trivial⟩
          · have hg2 : G = i := by first | exact hg2 | (rw [hgs2, if_neg (fun z => z.2 (by omega))])
            refine ev_iload (X := M_X11_judge) (pc := 95) dX11_judge_95 rfl ?_
            refine ev_iret (X := M_X11_judge) (pc := 97) dX11_judge_97 rfl ?_
            exact ⟨by rw [hg2], rfl, rfl⟩
        · have hx6 : 0 ≤ x ∧ x < 6 := Decidable.byContradiction fun z => h67 (by rw [if_neg z])
          have hnr : nx C (fS D) t x = -1 ∨ isSt (nx C (fS D) t x) := by
            by_cases q : nx C (fS D) t x = -1
            · exact Or.inl q
            · exact Or.inr (nx_st hC hx6 hst q)
          have hnr2 : -1 ≤ nx C (fS D) t x ∧ nx C (fS D) t x < 2197 := by
            rcases hnr with q | q
            · omega
            · have := isSt_lt q; omega
          refine ev_aload_n (X := M_X11_judge) (pc := 70) dX11_judge_70 rfl ?_
          refine ev_getRe (X := M_X11_judge) (pc := 71) dX11_judge_71 fl_X11_20_11 (lO_100 hL) rfl (lR_100_0 hL) ?_
          refine ev_iload_n (X := M_X11_judge) (pc := 74) dX11_judge_74 rfl ?_
          refine ev_aload_n (X := M_X11_judge) (pc := 75) dX11_judge_75 rfl ?_
          refine ev_getRe (X := M_X11_judge) (pc := 76) dX11_judge_76 fl_X11_252_5 hrO rfl hrR ?_
          refine ev_iload (X := M_X11_judge) (pc := 79) dX11_judge_79 rfl ?_
          refine ev_ialoadE (X := M_X11_judge) (pc := 81) dX11_judge_81 hrS (by omega) (hx) ?_
          refine ev_virtR (X := M_X11_judge) (Y := M_X2_next) (pc := 82) (ci := 2) dX11_judge_82 mk_X2_next rfl kw_429 kw_430 kw_431 (lO_102 hL) (c_next hL hV hC hF hx6 hI (by omega)) rfl (by decide) rfl (Nat.le_of_ble_eq_true rfl) (Nat.zero_add _) (Nat.zero_add _) ?_
          refine ev_goto (X := M_X11_judge) (pc := 85) (tgt := 89) dX11_judge_85 (by decide) ?_
          refine ev_istore_nL (X := M_X11_judge) (pc := 89) (ls' := [_, _, _, _, _]) dX11_judge_89 (by decide) rfl ?_
          refine ev_iload_n (X := M_X11_judge) (pc := 90) dX11_judge_90 rfl ?_
          refine ev_iconst (X := M_X11_judge) (pc := 91) dX11_judge_91 ?_
          refine ev_icmp_ne (X := M_X11_judge) (pc := 92) (tgt := 98) dX11_judge_92 (by decide) (by omega) (by decide) (fun h92 => ?_) (fun h92 => ?_)
          · have hx6 : 0 ≤ x ∧ x < 6 := by first | exact hx6 | exact absurd rfl h92
            have h92' : nx C (fS D) t x ≠ -1 := by first | exact h92 | exact absurd rfl h92
            rw [if_pos ⟨hx6, h92'⟩] at hgs2
            refine ev_iincL (X := M_X11_judge) (pc := 98) (ls' := [_, _, _, _, _]) dX11_judge_98 rfl (by decide) rfl ?_
            refine ev_goto (X := M_X11_judge) (pc := 101) (tgt := 48) dX11_judge_101 (by decide) ?_
            first | exact absurd rfl h92 | exact ev_weak (ih (i + 1, nx C (fS D) t x) ⟨by omega, by omega, nx_st hC hx6 hst h92', hgs2⟩ (by show (V r 1 - (i + 1)).toNat < (V r 1 - i).toNat; omega)) ⟨rfl, rfl, rfl, rfl, rfl, trivial⟩
          · have hg2 : G = i := by first | exact hg2 | (rw [hgs2, if_neg (fun z => z.2 (by omega))])
            refine ev_iload (X := M_X11_judge) (pc := 95) dX11_judge_95 rfl ?_
            refine ev_iret (X := M_X11_judge) (pc := 97) dX11_judge_97 rfl ?_
            exact ⟨by rw [hg2], rfl, rfl⟩
    · have hk : jdK (V 154 s) s = 2 := by rw [hk0, if_pos h20]
      refine ev_aload_n (X := M_X11_judge) (pc := 23) dX11_judge_23 rfl ?_
      refine ev_ldc (X := M_X11_judge) (pc := 24) (v := -1000000002) dX11_judge_24 kw_682 (by decide) ?_
      refine ev_virtR (X := M_X11_judge) (Y := M_X11_error) (pc := 26) (ci := 11) dX11_judge_26 mk_X11_error rfl kw_319 kw_321 kp_0 (lO_100 hL) (c_error hL (k := 2) (by decide) rfl) rfl (by decide) rfl (Nat.le_of_ble_eq_true rfl) (Nat.zero_add _) (Nat.zero_add _) ?_
      refine ev_iret (X := M_X11_judge) (pc := 29) dX11_judge_29 rfl ?_
      rw [hk]
      exact ⟨rfl, rfl, rfl⟩
  · have hk : jdK (V 154 s) s = 1 := by unfold jdK; rw [if_neg (fun z => by rw [if_pos z] at h4; exact absurd h4 (by decide))]
    refine ev_aload_n (X := M_X11_judge) (pc := 7) dX11_judge_7 rfl ?_
    refine ev_ldc (X := M_X11_judge) (pc := 8) (v := -1000000001) dX11_judge_8 kw_318 (by decide) ?_
    refine ev_virtR (X := M_X11_judge) (Y := M_X11_error) (pc := 10) (ci := 11) dX11_judge_10 mk_X11_error rfl kw_319 kw_321 kp_0 (lO_100 hL) (c_error hL (k := 1) (by decide) rfl) rfl (by decide) rfl (Nat.le_of_ble_eq_true rfl) (Nat.zero_add _) (Nat.zero_add _) ?_
    refine ev_iret (X := M_X11_judge) (pc := 13) dX11_judge_13 rfl ?_
    rw [hk]
    exact ⟨rfl, rfl, rfl⟩
