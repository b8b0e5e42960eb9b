theorem c_level0 {γ : Gh} {K : Sk} {V : Mm} {t n : Nat} {u : Int} {k : Nat} (ihS : CSg γ K t n u k) (h : TxC K V t n u) (hq : 0 ≤ V t 4 ∧ V t 4 ≤ n) (ho : V t 5 = 5 - k) (hm : 0 ≤ V (t + 1) 1 ∧ V (t + 1) 1 ≤ V t 4) : Call γ M_X8_readLevel (6+7*k+0) 0 0 [vR t, vI 5] K V (Qx (some (vI (okI (prS (V 106) n u k (V t 4))))) K (PR t V (prS (V 106) n u k (V t 4)))) := by
  refine call_of (by decide +kernel) (by intro v hv; simp only [List.mem_cons, List.not_mem_nil, or_false] at hv; rcases hv with rfl | rfl <;> exact fun q => by cases q) (Nat.le_of_ble_eq_true rfl) ?_
  refine ev_lsE (ls' := [_, _, _, _, _]) rfl ?_
  have hO : (K.1 t).1 = 8 + 10 := by rw [h.2.2.1.1]
  refine ev_iload_n (X := M_X8_readLevel) (pc := 0) dX8_readLevel_0 rfl ?_
  refine ev_iconst (X := M_X8_readLevel) (pc := 1) dX8_readLevel_1 ?_
  refine ev_icmp_le (X := M_X8_readLevel) (pc := 2) (tgt := 10) dX8_readLevel_2 (by decide) (by decide) (by decide) (fun h2 => ?_) (fun h2 => ?_)
  · exact absurd h2 (by decide)
  · refine ev_aload_n (X := M_X8_readLevel) (pc := 5) dX8_readLevel_5 rfl ?_
    refine ev_virtX (X := M_X8_readLevel) (Y := M_X8_readSingle) (pc := 6) (ci := 8) dX8_readLevel_6 mk_X8_readSingle rfl kw_498 kw_500 kp_3 hO (ihS V h hq ho hm) rfl (by omega) rfl (Nat.le_of_ble_eq_true rfl) (Nat.zero_add _) (Nat.zero_add _) (fun W hW => ?_)
    refine ev_bret (X := M_X8_readLevel) (pc := 9) dX8_readLevel_9 rfl (by unfold okI; split <;> decide) ?_
    exact ⟨rfl, rfl, hW⟩
theorem lp_s {g : Int → RR} {f : Int → Int} {n : Int} {j k : Nat} {l : List Int} {q : Int} (h : sgn f n q ∈ opsJ j) : lp g f n j (k + 1) l q = andR (g (q + 1)) (fun m q' => lp g f n j k (l ++ m ++ [-(sgn f n q)]) q') := by
  show (if sgn f n q ∈ opsJ j then _ else _) = _
  rw [if_pos h]
theorem lp_e {g : Int → RR} {f : Int → Int} {n : Int} {j k : Nat} {l : List Int} {q : Int} (h : k = 0 ∨ ¬ sgn f n q ∈ opsJ j) : lp g f n j k l q = (some l, q) := by
  cases k with
  | zero => rfl
  | succ k =>
    show (if sgn f n q ∈ opsJ j then _ else _) = _
    rw [if_neg (h.resolve_left (by omega))]
theorem c_levelS {γ : Gh} {K : Sk} {V : Mm} {t n : Nat} {u : Int} {k j : Nat} (hj : j ≤ 4) (ihL : CLv γ K t n u k j) (h : TxC K V t n u) (hq : 0 ≤ V t 4 ∧ V t 4 ≤ n) (ho : V t 5 = 5 - k) (hm : 0 ≤ V (t + 1) 1 ∧ V (t + 1) 1 ≤ V t 4) : Call γ M_X8_readLevel (6+7*k+(j+1)) 0 0 [vR t, vI ((4 - j : Nat) : Int)] K V (Qx (some (vI (okI (lvl (prS (V 106) n u k) (V 106) n (j + 1) (V t 4))))) K (PR t V (lvl (prS (V 106) n u k) (V 106) n (j + 1) (V t 4)))) := by
  refine call_of (by decide +kernel) (by intro v hv; simp only [List.mem_cons, List.not_mem_nil, or_false] at hv; rcases hv with rfl | rfl <;> exact fun q => by cases q) (Nat.le_of_ble_eq_true rfl) ?_
  refine ev_lsE (ls' := [_, _, _, _, _]) rfl ?_
  have hO : (K.1 t).1 = 8 + 10 := by rw [h.2.2.1.1]
  have ht := h.2.2.1.2.2.2.2.2.2.2
  have hrow := h.2.2.1.2.2.2.2.2.1
  have hrc := h.2.2.1.2.2.2.1
  have hn5 := h.2.2.2.2.1
  have hBj := lvl_B (f := V 106) (prS_B (f := V 106) (n := n) (u := u) k) j
  have hres : lvl (prS (V 106) n u k) (V 106) n (j + 1) (V t 4) = andR (lvl (prS (V 106) n u k) (V 106) n j (V t 4)) (fun l q' => lp (lvl (prS (V 106) n u k) (V 106) n j) (V 106) n j (if j = 2 then 1 else 50) l q') := rfl
  have eL : ((4 - j : Nat) : Int) + 1 = 5 - (j : Int) := by omega
  generalize hR : lvl (prS (V 106) n u k) (V 106) n (j + 1) (V t 4) = R at *
  have main : ∀ (mo : Int) (l0 : List Int) (q0 : Int) (W0 : Mm), mo = (if j = 2 then 1 else 50) → lvl (prS (V 106) n u k) (V 106) n j (V t 4) = (some l0, q0) → PR t V (some l0, q0) W0 → Ev γ M_X8_readLevel (6+7*k+(j+1)) 0 0 36 [vR t, vI ((4 - j : Nat) : Int), vI mo, vI 0, vU] [] K W0 (Qx (some (vI (okI R))) K (PR t V R)) := by
    intro mo l0 q0 W0 hmo hl0 hW0
    have hB0 := hBj.ok hq.1 hq.2 hl0
    have hmr : 1 ≤ mo ∧ mo ≤ 50 := by rw [hmo]; split <;> decide
    refine ev_weak (ev_while (σ := Int × List Int × Int × Mm) (fun s => 0 ≤ s.1 ∧ s.1 ≤ mo ∧ PR t V (some s.2.1, s.2.2.1) s.2.2.2 ∧ (1 ≤ s.2.1.length ∧ V t 4 + s.2.1.length ≤ s.2.2.1 ∧ s.2.2.1 ≤ n) ∧ R = lp (lvl (prS (V 106) n u k) (V 106) n j) (V 106) n j (mo - s.1).toNat s.2.1 s.2.2.1) (fun s => (mo - s.1).toNat) (fun s => [vR t, vI ((4 - j : Nat) : Int), vI mo, vI s.1, vU]) (fun _ => K) (fun s => s.2.2.2) ?_ (0, l0, q0, W0) ⟨Int.le_refl 0, by show (0 : Int) ≤ mo; omega, hW0, hB0, ?_⟩) ⟨rfl, rfl, rfl, rfl, trivial⟩
    rotate_left
    · show R = lp _ (V 106) n j (mo - 0).toNat l0 q0
      rw [hres, hl0]
      show lp _ (V 106) n j _ l0 q0 = _
      congr 1
      rw [hmo]
      by_cases z : j = 2
      · rw [if_pos z, if_pos z]; rfl
      · rw [if_neg z, if_neg z]; rfl
    rintro ⟨i, l, q, W⟩ ⟨hi0, hi1, ⟨p1, p2, p3, p4⟩, ⟨b1, b2, b3⟩, hlp⟩ ih
    dsimp only at hi0 hi1 p1 p2 p3 p4 b1 b2 b3 hlp ih ⊢
    obtain ⟨p5, p6⟩ := p4 l rfl
    have h2 := h.fr p1
    have h106 : W 106 = V 106 := p1 106 (by omega) (by omega) (by omega)
    have hsg := h2.sg (q := q) (by omega)
    rw [h106] at hsg
    have hsign : Call γ M_X8_sign 0 0 0 [vR t] K W (Rt (some (vI (sgn (V 106) n q))) K W) := by
      have := c_sign (γ := γ) h2 (by rw [p2]; omega)
      rw [h106, p2] at this
      exact this
    have hSS := h2.2.1 (2 + (4 - j)) (by omega)
    have hSL : StrAt K W (12 + (4 - j)) (20 + (2 + (4 - j))) (byN (2 + (4 - j))) := by
      have := hSS.1
      rw [show 10 + (2 + (4 - j)) = 12 + (4 - j) by omega] at this
      exact this
    have hops := ix_ops (L := 4 - j) (s := sgn (V 106) n q) (by omega)
    rw [← hSS.2, show 4 - (4 - j) = j by omega] at hops
    have done : (¬ i < mo ∨ ¬ sgn (V 106) n q ∈ opsJ j) → Qx (some (vI (okI R))) K (PR t V R) (some (vI 1)) K W := fun z => by
      have e : R = (some l, q) := by rw [hlp]; exact lp_e (by rcases z with z | z; exact Or.inl (by omega); exact Or.inr z)
      rw [e]
      exact ⟨rfl, rfl, p1, p2, p3, p4⟩
    refine ev_iload_n (X := M_X8_readLevel) (pc := 36) dX8_readLevel_36 rfl ?_
    refine ev_iload_n (X := M_X8_readLevel) (pc := 37) dX8_readLevel_37 rfl ?_
    refine ev_icmp_ge (X := M_X8_readLevel) (pc := 38) (tgt := 100) dX8_readLevel_38 (by decide) (by omega) (by omega) (fun h38 => ?_) (fun h38 => ?_)
    · refine ev_iconst (X := M_X8_readLevel) (pc := 100) dX8_readLevel_100 ?_
      refine ev_bret (X := M_X8_readLevel) (pc := 101) dX8_readLevel_101 rfl (by omega) ?_
      first
        | exact done (Or.inr hno)
        | exact done (Or.inl (by omega))
    · refine ev_aload_n (X := M_X8_readLevel) (pc := 41) dX8_readLevel_41 rfl ?_
      refine ev_virtR (X := M_X8_readLevel) (Y := M_X8_sign) (pc := 42) (ci := 8) dX8_readLevel_42 mk_X8_sign rfl kw_502 kw_503 kw_504 hO (hsign) rfl (by omega) rfl (Nat.le_of_ble_eq_true rfl) (Nat.zero_add _) (Nat.zero_add _) ?_
      refine ev_iload_n (X := M_X8_readLevel) (pc := 45) dX8_readLevel_45 rfl ?_
      refine ev_staticR (X := M_X8_readLevel) (Y := M_X8_signsOf) (pc := 46) dX8_readLevel_46 mk_X8_signsOf kw_602 kw_603 (c_signsOf (by omega)) rfl (by omega) rfl (Nat.le_of_ble_eq_true rfl) (Nat.zero_add _) (Nat.zero_add _) ?_
      refine ev_staticR (X := M_X8_readLevel) (Y := M_X8_isAmong) (pc := 49) dX8_readLevel_49 mk_X8_isAmong kw_511 kw_512 (c_isAmong hSL hsg) rfl (by omega) rfl (Nat.le_of_ble_eq_true rfl) (Nat.zero_add _) (Nat.zero_add _) ?_
      refine ev_if_eq (X := M_X8_readLevel) (pc := 52) (tgt := 100) dX8_readLevel_52 (by decide) (by split <;> decide) (fun h52 => ?_) (fun h52 => ?_)
      · have hno : ¬ sgn (V 106) n q ∈ opsJ j := fun z => by rw [if_pos (hops.mpr z)] at h52; exact absurd h52 (by decide)
        refine ev_iconst (X := M_X8_readLevel) (pc := 100) dX8_readLevel_100 ?_
        refine ev_bret (X := M_X8_readLevel) (pc := 101) dX8_readLevel_101 rfl (by omega) ?_
        first
          | exact done (Or.inr hno)
          | exact done (Or.inl (by omega))
      · have hyes : sgn (V 106) n q ∈ opsJ j := Decidable.byContradiction fun z => h52 (by rw [if_neg (fun y => z (hops.mp y))])
        have hpo := ops_pos hyes
        have hql := (sgn_in (f := V 106) (n := n) (q := q) (by omega)).1
        rw [show (mo - i).toNat = (mo - (i + 1)).toNat + 1 by omega, lp_s hyes] at hlp
        refine ev_aload_n (X := M_X8_readLevel) (pc := 55) dX8_readLevel_55 rfl ?_
        refine ev_virtR (X := M_X8_readLevel) (Y := M_X8_sign) (pc := 56) (ci := 8) dX8_readLevel_56 mk_X8_sign rfl kw_502 kw_503 kw_504 hO (hsign) rfl (by omega) rfl (Nat.le_of_ble_eq_true rfl) (Nat.zero_add _) (Nat.zero_add _) ?_
        refine ev_istoreL (X := M_X8_readLevel) (pc := 59) (ls' := [_, _, _, _, _]) dX8_readLevel_59 (by decide) rfl ?_
        refine ev_aload_n (X := M_X8_readLevel) (pc := 61) dX8_readLevel_61 rfl ?_
        refine ev_dup (X := M_X8_readLevel) (pc := 62) dX8_readLevel_62 (fun _ q => by cases q) ?_
        refine ev_getI (X := M_X8_readLevel) (pc := 63) (ki := 4) dX8_readLevel_63 fl_X8_39_8 hO (by decide) rfl ?_
        refine ev_iconst (X := M_X8_readLevel) (pc := 66) dX8_readLevel_66 ?_
        refine ev_iadd (X := M_X8_readLevel) (pc := 67) dX8_readLevel_67 ?_
        refine ev_putI (X := M_X8_readLevel) (pc := 68) (ki := 4) dX8_readLevel_68 fl_X8_39_8 (by omega) hO (fun _ h q => by cases h; cases q) (Or.inl rfl) rfl ?_
        rw [p2]
        have f2 : frT t V (wr W t 4 (q + 1)) := p1.w0 _ _
        have h3 := h.fr f2
        have a3 : wr W t 4 (q + 1) t 4 = q + 1 := wr_self
        have o3 : wr W t 4 (q + 1) t 5 = V t 5 := by rw [wr_ne (by omega), p3]
        have m3 : wr W t 4 (q + 1) (t + 1) = W (t + 1) := wr_off (by omega)
        have c3 : wr W t 4 (q + 1) (t + 2) = W (t + 2) := wr_off (by omega)
        have b4 : wr W t 4 (q + 1) 106 = V 106 := by rw [wr_off (by omega), h106]
        generalize hW2 : wr W t 4 (q + 1) = W2 at *
        refine ev_aload_n (X := M_X8_readLevel) (pc := 71) dX8_readLevel_71 rfl ?_
        refine ev_iload_n (X := M_X8_readLevel) (pc := 72) dX8_readLevel_72 rfl ?_
        refine ev_iconst (X := M_X8_readLevel) (pc := 73) dX8_readLevel_73 ?_
        refine ev_iadd (X := M_X8_readLevel) (pc := 74) dX8_readLevel_74 ?_
        rw [eL]
        refine ev_virtX (X := M_X8_readLevel) (Y := M_X8_readLevel) (pc := 75) (ci := 8) dX8_readLevel_75 mk_X8_readLevel rfl kw_494 kw_496 kp_2 hO (ihL W2 h3 (by rw [a3]; omega) (by rw [o3, ho]) (by rw [m3, a3, p5]; omega)) rfl (by omega) rfl (Nat.le_of_ble_eq_true rfl) (Nat.zero_add _) (Nat.zero_add _) (fun W3 hW3 => ?_)
        rw [b4, a3] at hW3
        rw [b4, a3]
        have hBr := hBj (q + 1) (by omega) (by omega)
        generalize hr : lvl (prS (V 106) n u k) (V 106) n j (q + 1) = r at *
        obtain ⟨o, q'⟩ := r
        obtain ⟨r1, r2, r3, r4⟩ := hW3
        dsimp only at r2 r4
        refine ev_if_ne (X := M_X8_readLevel) (pc := 78) (tgt := 83) dX8_readLevel_78 (by decide) (by unfold okI; split <;> decide) (fun h78 => ?_) (fun h78 => ?_)
        · obtain ⟨m, hm2⟩ : ∃ m, o = some m := by
            cases o with
            | none => exact absurd rfl h78
            | some l => exact ⟨l, rfl⟩
          subst hm2
          obtain ⟨B1, B2, B3⟩ := hBr
          obtain ⟨r5, r6⟩ := r4 m rfl
          rw [m3] at r5 r6
          rw [c3] at r6
          have hcap : W3 (t + 1) 1 < n := by rw [r5, p5]; omega
          refine ev_aload_n (X := M_X8_readLevel) (pc := 83) dX8_readLevel_83 rfl ?_
          refine ev_getRe (X := M_X8_readLevel) (pc := 84) dX8_readLevel_84 fl_X8_28_8 hO rfl hrc ?_
          refine ev_iload (X := M_X8_readLevel) (pc := 87) dX8_readLevel_87 rfl ?_
          refine ev_ineg (X := M_X8_readLevel) (pc := 89) dX8_readLevel_89 ?_
          refine ev_virtR (X := M_X8_readLevel) (Y := M_X5_add) (pc := 90) (ci := 5) dX8_readLevel_90 mk_X5_add rfl kw_510 kw_450 kw_451 hrow.1 (c_Row_add hrow (by rw [r5, p5]; omega)) rfl (by omega) rfl (Nat.le_of_ble_eq_true rfl) (Nat.zero_add _) (Nat.zero_add _) ?_
          rw [if_pos hcap, if_pos hcap]
          refine ev_pop (X := M_X8_readLevel) (pc := 93) dX8_readLevel_93 (fun _ q => by cases q) ?_
          refine ev_iincL (X := M_X8_readLevel) (pc := 94) (ls' := [_, _, _, _, _]) dX8_readLevel_94 rfl (by decide) rfl ?_
          refine ev_goto (X := M_X8_readLevel) (pc := 97) (tgt := 36) dX8_readLevel_97 (by decide) ?_
          have hlen : ((l ++ m ++ [-(sgn (V 106) n q)]).length : Int) = l.length + m.length + 1 := by
            simp only [List.length_append, List.length_cons, List.length_nil]
            omega
          refine ev_weak (ih (i + 1, l ++ m ++ [-(sgn (V 106) n q)], q', _) ⟨by omega, by omega, ⟨((f2.tr r1).w2 _ _).w1 _ _, ?_, ?_, fun l' hl' => ?_⟩, ⟨?_, ?_, B3⟩, hlp⟩ (by show (mo - (i + 1)).toNat < (mo - i).toNat; omega)) ⟨rfl, rfl, rfl, rfl, trivial⟩
          · show wr (wr W3 (t + 2) _ _) (t + 1) _ _ t 4 = q'
            rw [wr_off (by omega), wr_off (by omega), r2]
          · show wr (wr W3 (t + 2) _ _) (t + 1) _ _ t 5 = V t 5
            rw [wr_off (by omega), wr_off (by omega), r3, o3]
          · have hl2 : l ++ m ++ [-(sgn (V 106) n q)] = l' := Option.some.inj hl'
            rw [← hl2]
            refine ⟨?_, ?_⟩
            · show wr (wr W3 (t + 2) _ _) (t + 1) _ _ (t + 1) 1 = V (t + 1) 1 + _
              rw [wr_self, r5, p5, hlen]
              omega
            · show wr (wr W3 (t + 2) _ _) (t + 1) _ _ (t + 2) = cw (V (t + 2)) (V (t + 1) 1) (l ++ m ++ [-(sgn (V 106) n q)])
              rw [wr_off (by omega), wr_row, cw_app, cw_app, ← p6, ← p5, ← r6, r5]
              rw [show V (t + 1) 1 + ((l ++ m).length : Nat) = W (t + 1) 1 + m.length by rw [p5]; simp only [List.length_append]; omega]
              rfl
          · show 1 ≤ (l ++ m ++ [-(sgn (V 106) n q)]).length
            omega
          · show V t 4 + ((l ++ m ++ [-(sgn (V 106) n q)]).length : Int) ≤ q'
            rw [hlen]
            omega
        · have hnone : o = none := by
            cases o with
            | none => rfl
            | some l => exact absurd (show (1 : Int) = 0 from h78) (by decide)
          subst hnone
          have e : R = (none, q') := hlp
          rw [e]
          refine ev_iconst (X := M_X8_readLevel) (pc := 81) dX8_readLevel_81 ?_
          refine ev_bret (X := M_X8_readLevel) (pc := 82) dX8_readLevel_82 rfl (by omega) ?_
          exact ⟨rfl, rfl, f2.tr r1, r2, by rw [r3, o3], fun l hl => by cases hl⟩
  refine ev_iload_n (X := M_X8_readLevel) (pc := 0) dX8_readLevel_0 rfl ?_
  refine ev_iconst (X := M_X8_readLevel) (pc := 1) dX8_readLevel_1 ?_
  refine ev_icmp_le (X := M_X8_readLevel) (pc := 2) (tgt := 10) dX8_readLevel_2 (by decide) (by omega) (by omega) (fun h2 => ?_) (fun h2 => ?_)
  · refine ev_aload_n (X := M_X8_readLevel) (pc := 10) dX8_readLevel_10 rfl ?_
    refine ev_iload_n (X := M_X8_readLevel) (pc := 11) dX8_readLevel_11 rfl ?_
    refine ev_iconst (X := M_X8_readLevel) (pc := 12) dX8_readLevel_12 ?_
    refine ev_iadd (X := M_X8_readLevel) (pc := 13) dX8_readLevel_13 ?_
    rw [eL]
    refine ev_virtX (X := M_X8_readLevel) (Y := M_X8_readLevel) (pc := 14) (ci := 8) dX8_readLevel_14 mk_X8_readLevel rfl kw_494 kw_496 kp_2 hO (ihL V h hq ho hm) rfl (by omega) rfl (Nat.le_of_ble_eq_true rfl) (Nat.zero_add _) (Nat.zero_add _) (fun W1 hW1 => ?_)
    generalize hr : lvl (prS (V 106) n u k) (V 106) n j (V t 4) = r at *
    obtain ⟨o, q'⟩ := r
    refine ev_if_ne (X := M_X8_readLevel) (pc := 17) (tgt := 22) dX8_readLevel_17 (by decide) (by unfold okI; split <;> decide) (fun h17 => ?_) (fun h17 => ?_)
    · obtain ⟨m, hm2⟩ : ∃ m, o = some m := by
        cases o with
        | none => exact absurd rfl h17
        | some l => exact ⟨l, rfl⟩
      subst hm2
      refine ev_iload_n (X := M_X8_readLevel) (pc := 22) dX8_readLevel_22 rfl ?_
      refine ev_iconst (X := M_X8_readLevel) (pc := 23) dX8_readLevel_23 ?_
      refine ev_icmp_ne (X := M_X8_readLevel) (pc := 24) (tgt := 31) dX8_readLevel_24 (by decide) (by omega) (by omega) (fun h24 => ?_) (fun h24 => ?_)
      · refine ev_bipush (X := M_X8_readLevel) (pc := 31) dX8_readLevel_31 (by decide) ?_
        refine ev_istore_nL (X := M_X8_readLevel) (pc := 33) (ls' := [_, _, _, _, _]) dX8_readLevel_33 (by decide) rfl ?_
        refine ev_iconst (X := M_X8_readLevel) (pc := 34) dX8_readLevel_34 ?_
        refine ev_istore_nL (X := M_X8_readLevel) (pc := 35) (ls' := [_, _, _, _, _]) dX8_readLevel_35 (by decide) rfl ?_
        first
          | exact ev_weak (main 1 m q' W1 (by rw [if_pos (by omega)]) rfl hW1) ⟨rfl, rfl, rfl, rfl, trivial⟩
          | exact ev_weak (main 50 m q' W1 (by rw [if_neg (by omega)]) rfl hW1) ⟨rfl, rfl, rfl, rfl, trivial⟩
      · refine ev_iconst (X := M_X8_readLevel) (pc := 27) dX8_readLevel_27 ?_
        refine ev_goto (X := M_X8_readLevel) (pc := 28) (tgt := 33) dX8_readLevel_28 (by decide) ?_
        refine ev_istore_nL (X := M_X8_readLevel) (pc := 33) (ls' := [_, _, _, _, _]) dX8_readLevel_33 (by decide) rfl ?_
        refine ev_iconst (X := M_X8_readLevel) (pc := 34) dX8_readLevel_34 ?_
        refine ev_istore_nL (X := M_X8_readLevel) (pc := 35) (ls' := [_, _, _, _, _]) dX8_readLevel_35 (by decide) rfl ?_
        first
          | exact ev_weak (main 1 m q' W1 (by rw [if_pos (by omega)]) rfl hW1) ⟨rfl, rfl, rfl, rfl, trivial⟩
          | exact ev_weak (main 50 m q' W1 (by rw [if_neg (by omega)]) rfl hW1) ⟨rfl, rfl, rfl, rfl, trivial⟩
    · have hnone : o = none := by
        cases o with
        | none => rfl
        | some l => exact absurd (show (1 : Int) = 0 from h17) (by decide)
      subst hnone
      have e : R = (none, q') := hres
      rw [e]
      refine ev_iconst (X := M_X8_readLevel) (pc := 20) dX8_readLevel_20 ?_
      refine ev_bret (X := M_X8_readLevel) (pc := 21) dX8_readLevel_21 rfl (by omega) ?_
      exact ⟨rfl, rfl, hW1⟩
  · exact absurd (show ((4 - j : Nat) : Int) ≤ 4 by omega) (by omega)
