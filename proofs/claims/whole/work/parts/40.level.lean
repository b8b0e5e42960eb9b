def CSg (γ : Gh) (K : Sk) (t n : Nat) (u : Int) (k : Nat) : Prop := ∀ V : Mm, TxC K V t n u → (0 ≤ V t 4 ∧ V t 4 ≤ n) → V t 5 = 5 - k → (0 ≤ V (t + 1) 1 ∧ V (t + 1) 1 ≤ V t 4) → Call γ M_X8_readSingle (5 + 7 * k) 0 0 [vR t] K V (Qx (some (vI (okI (prS (V 106) n u k (V t 4))))) K (PR t V (prS (V 106) n u k (V t 4))))
def CLv (γ : Gh) (K : Sk) (t n : Nat) (u : Int) (k j : Nat) : Prop := ∀ V : Mm, TxC K V t n u → (0 ≤ V t 4 ∧ V t 4 ≤ n) → V t 5 = 5 - k → (0 ≤ V (t + 1) 1 ∧ V (t + 1) 1 ≤ V t 4) → Call γ M_X8_readLevel (6 + 7 * k + j) 0 0 [vR t, vI (5 - j)] K V (Qx (some (vI (okI (lvl (prS (V 106) n u k) (V 106) n j (V t 4))))) K (PR t V (lvl (prS (V 106) n u k) (V 106) n j (V t 4))))
theorem PR_close {t : Nat} {V W : Mm} {r : RR} (h : frT t V W) (h4 : W t 4 = r.2) (h5 : W t 5 = V t 5 + 1) (hc : ∀ l, r.1 = some l → W (t + 1) 1 = V (t + 1) 1 + l.length ∧ W (t + 2) = cw (V (t + 2)) (V (t + 1) 1) l) : PR t V r (wr W t 5 (W t 5 - 1)) := by
  refine ⟨h.w0 5 _, by rw [wr_ne (by omega)]; exact h4, by rw [wr_self, h5]; omega, fun l hl => ?_⟩
  rw [wr_off (by omega), wr_off (by omega)]
  exact hc l hl
theorem prS_A {f : Int → Int} {n u : Int} {k : Nat} : ∃ g, prS f n u k = prA f n u k g ∧ ∀ k', k = k' + 1 → g = prS f n u k' := by
  cases k with
  | zero => exact ⟨_, rfl, fun k' h => by omega⟩
  | succ k => exact ⟨_, rfl, fun k' h => by rw [show k = k' by omega]⟩
theorem c_single {γ : Gh} {K : Sk} {V : Mm} {t n : Nat} {u : Int} {k : Nat} (hk5 : k ≤ 5) (ihS : ∀ k', k = k' + 1 → CSg γ K t n u k') (ihL : ∀ k', k = k' + 1 → CLv γ K t n u k' 5) (h : TxC K V t n u) (hq : 0 ≤ V t 4 ∧ V t 4 ≤ n) (ho : V t 5 = 5 - k) (hm : 0 ≤ V (t + 1) 1 ∧ V (t + 1) 1 ≤ V t 4) : Call γ M_X8_readSingle (5+7*k) 0 0 [vR t] K V (Qx (some (vI (okI (prS (V 106) n u k (V t 4))))) K (PR t V (prS (V 106) n u k (V t 4)))) := by
  refine call_of (by decide +kernel) (by intro v hv; simp only [List.mem_cons, List.not_mem_nil, or_false] at hv; rcases hv with rfl <;> exact fun q => by cases q) (Nat.le_of_ble_eq_true rfl) ?_
  refine ev_lsE (ls' := [_, _, _]) rfl ?_
  have hO : (K.1 t).1 = 8 + 10 := by rw [h.2.2.1.1]
  have ht := h.2.2.1.2.2.2.2.2.2.2
  have hrow := h.2.2.1.2.2.2.2.2.1
  have hrc := h.2.2.1.2.2.2.1
  have hrn := h.2.2.1.2.2.1
  have hsg := h.sg hq.1
  have hu := h.2.2.2.2.2.2
  have hSu := h.2.1 u.toNat (by omega)
  have hn5 := h.2.2.2.2.1
  have hnm := nmI_r (u := u) (s := sgn (V 106) n (V t 4))
  obtain ⟨g, hg, hgk⟩ := prS_A (f := V 106) (n := n) (u := u) (k := k)
  have hpr : prS (V 106) n u k (V t 4) = prA (V 106) n u k g (V t 4) := by rw [hg]
  unfold prA at hpr
  have hix : ixF (V (20 + u.toNat)) (byN u.toNat) (sgn (V 106) n (V t 4)) = nmI u (sgn (V 106) n (V t 4)) := by rw [hSu.2]; exact ix_names hu
  have hlt : sgn (V 106) n (V t 4) ≠ -1 → V t 4 < n := fun z => (sgn_in z).1
  generalize hs : sgn (V 106) n (V t 4) = s at *
  refine ev_aload_n (X := M_X8_readSingle) (pc := 0) dX8_readSingle_0 rfl ?_
  refine ev_virtR (X := M_X8_readSingle) (Y := M_X8_sign) (pc := 1) (ci := 8) dX8_readSingle_1 mk_X8_sign rfl kw_502 kw_503 kw_504 hO (c_sign h hq) rfl (by omega) rfl (Nat.le_of_ble_eq_true rfl) (Nat.zero_add _) (Nat.zero_add _) ?_
  rw [hs]
  refine ev_istore_nL (X := M_X8_readSingle) (pc := 4) (ls' := [_, _, _]) dX8_readSingle_4 (by decide) rfl ?_
  refine ev_iload_n (X := M_X8_readSingle) (pc := 5) dX8_readSingle_5 rfl ?_
  refine ev_bipush (X := M_X8_readSingle) (pc := 6) dX8_readSingle_6 (by decide) ?_
  refine ev_icmp_lt (X := M_X8_readSingle) (pc := 8) (tgt := 22) dX8_readSingle_8 (by decide) (by omega) (by omega) (fun h8 => ?_) (fun h8 => ?_)
  · refine ev_iload_n (X := M_X8_readSingle) (pc := 22) dX8_readSingle_22 rfl ?_
    refine ev_aload_n (X := M_X8_readSingle) (pc := 23) dX8_readSingle_23 rfl ?_
    refine ev_getRe (X := M_X8_readSingle) (pc := 24) dX8_readSingle_24 fl_X8_15_8 hO rfl hrn ?_
    refine ev_staticR (X := M_X8_readSingle) (Y := M_X8_isAmong) (pc := 27) dX8_readSingle_27 mk_X8_isAmong kw_511 kw_512 (c_isAmong hSu.1 hsg) rfl (by omega) rfl (Nat.le_of_ble_eq_true rfl) (Nat.zero_add _) (Nat.zero_add _) ?_
    rw [if_neg (by omega)] at hpr
    rw [hix]
    refine ev_if_eq (X := M_X8_readSingle) (pc := 30) (tgt := 62) dX8_readSingle_30 (by decide) (by split <;> decide) (fun h30 => ?_) (fun h30 => ?_)
    · have hno : ¬ 0 ≤ nmI u s := fun z => by rw [if_pos ⟨by omega, z⟩] at h30; exact absurd h30 (by decide)
      rw [if_neg hno] at hpr
      refine ev_iload_n (X := M_X8_readSingle) (pc := 62) dX8_readSingle_62 rfl ?_
      refine ev_bipush (X := M_X8_readSingle) (pc := 63) dX8_readSingle_63 (by decide) ?_
      refine ev_icmp_eq (X := M_X8_readSingle) (pc := 65) (tgt := 74) dX8_readSingle_65 (by decide) (by omega) (by omega) (fun h65 => ?_) (fun h65 => ?_)
      · refine ev_aload_n (X := M_X8_readSingle) (pc := 74) dX8_readSingle_74 rfl ?_
        refine ev_getI (X := M_X8_readSingle) (pc := 75) (ki := 5) dX8_readSingle_75 fl_X8_83_8 hO (by decide) rfl ?_
        refine ev_iconst (X := M_X8_readSingle) (pc := 78) dX8_readSingle_78 ?_
        refine ev_icmp_lt (X := M_X8_readSingle) (pc := 79) (tgt := 84) dX8_readSingle_79 (by decide) (by omega) (by omega) (fun h79 => ?_) (fun h79 => ?_)
        · refine ev_aload_n (X := M_X8_readSingle) (pc := 84) dX8_readSingle_84 rfl ?_
          refine ev_dup (X := M_X8_readSingle) (pc := 85) dX8_readSingle_85 (fun _ q => by cases q) ?_
          refine ev_getI (X := M_X8_readSingle) (pc := 86) (ki := 5) dX8_readSingle_86 fl_X8_83_8 hO (by decide) rfl ?_
          refine ev_iconst (X := M_X8_readSingle) (pc := 89) dX8_readSingle_89 ?_
          refine ev_iadd (X := M_X8_readSingle) (pc := 90) dX8_readSingle_90 ?_
          refine ev_putI (X := M_X8_readSingle) (pc := 91) (ki := 5) dX8_readSingle_91 fl_X8_83_8 (by omega) hO (fun _ h q => by cases h; cases q) (Or.inl rfl) rfl ?_
          refine ev_aload_n (X := M_X8_readSingle) (pc := 94) dX8_readSingle_94 rfl ?_
          refine ev_dup (X := M_X8_readSingle) (pc := 95) dX8_readSingle_95 (fun _ q => by cases q) ?_
          refine ev_getI (X := M_X8_readSingle) (pc := 96) (ki := 4) dX8_readSingle_96 fl_X8_39_8 hO (by decide) rfl ?_
          refine ev_iconst (X := M_X8_readSingle) (pc := 99) dX8_readSingle_99 ?_
          refine ev_iadd (X := M_X8_readSingle) (pc := 100) dX8_readSingle_100 ?_
          refine ev_putI (X := M_X8_readSingle) (pc := 101) (ki := 4) dX8_readSingle_101 fl_X8_39_8 (by omega) hO (fun _ h q => by cases h; cases q) (Or.inl rfl) rfl ?_
          obtain ⟨k', rfl⟩ : ∃ k', k = k' + 1 := ⟨k - 1, by omega⟩
          rw [hgk k' rfl] at hpr
          have hql := hlt (by omega)
          generalize hW2 : wr (wr V t 5 (V t 5 + 1)) t 4 (wr V t 5 (V t 5 + 1) t 4 + 1) = W2
          have f2 : frT t V W2 := by rw [← hW2]; exact (frT.rf.w0 _ _).w0 _ _
          have a2 : W2 t 4 = V t 4 + 1 := by rw [← hW2, wr_self, wr_ne (by omega)]
          have o2 : W2 t 5 = V t 5 + 1 := by rw [← hW2, wr_ne (by omega), wr_self]
          have m2 : W2 (t + 1) = V (t + 1) := by rw [← hW2, wr_off (by omega), wr_off (by omega)]
          have c2 : W2 (t + 2) = V (t + 2) := by rw [← hW2, wr_off (by omega), wr_off (by omega)]
          have h2 := h.fr f2
          have b2 : W2 106 = V 106 := f2 106 (by omega) (by omega) (by omega)
          refine ev_iload_n (X := M_X8_readSingle) (pc := 104) dX8_readSingle_104 rfl ?_
          refine ev_bipush (X := M_X8_readSingle) (pc := 105) dX8_readSingle_105 (by decide) ?_
          refine ev_icmp_ne (X := M_X8_readSingle) (pc := 107) (tgt := 137) dX8_readSingle_107 (by decide) (by omega) (by omega) (fun h107 => ?_) (fun h107 => ?_)
          · refine ev_aload_n (X := M_X8_readSingle) (pc := 137) dX8_readSingle_137 rfl ?_
            refine ev_iconst (X := M_X8_readSingle) (pc := 138) dX8_readSingle_138 ?_
            refine ev_virtX (X := M_X8_readSingle) (Y := M_X8_readLevel) (pc := 139) (ci := 8) dX8_readSingle_139 mk_X8_readLevel rfl kw_494 kw_496 kp_2 hO (ihL k' rfl W2 h2 (by rw [a2]; omega) (by rw [o2, ho]; omega) (by rw [m2, a2]; omega)) rfl (by omega) rfl (Nat.le_of_ble_eq_true rfl) (Nat.zero_add _) (Nat.zero_add _) (fun W3 hW3 => ?_)
            rw [b2, a2] at hW3
            rw [b2, a2]
            rw [if_neg (by omega), if_pos (by omega)] at hpr
            have hB := (lvl_B (f := V 106) (prS_B (f := V 106) (n := n) (u := u) k') 5) (V t 4 + 1) (by omega) (by omega)
            generalize hr : lvl (prS (V 106) n u k') (V 106) n 5 (V t 4 + 1) = r at *
            obtain ⟨o, q'⟩ := r
            obtain ⟨p1, p2, p3, p4⟩ := hW3
            dsimp only at p2 p4
            have b3 : W3 106 = V 106 := by rw [p1 106 (by omega) (by omega) (by omega), b2]
            refine ev_if_eq (X := M_X8_readSingle) (pc := 142) (tgt := 156) dX8_readSingle_142 (by decide) (by unfold okI; split <;> decide) (fun h142 => ?_) (fun h142 => ?_)
            · have hnone : o = none := by
                cases o with
                | none => rfl
                | some l => exact absurd (show (1 : Int) = 0 from h142) (by decide)
              subst hnone
              have hOk : okI (prS (V 106) n u (k' + 1) (V t 4)) = 0 := by rw [hpr]; rfl
              have hF := f2.tr p1
              have h4 : W3 t 4 = (prS (V 106) n u (k' + 1) (V t 4)).2 := by rw [hpr]; exact p2
              have h5 : W3 t 5 = V t 5 + 1 := by rw [p3, o2]
              have hC : ∀ l, (prS (V 106) n u (k' + 1) (V t 4)).1 = some l → W3 (t + 1) 1 = V (t + 1) 1 + l.length ∧ W3 (t + 2) = cw (V (t + 2)) (V (t + 1) 1) l := fun l hl => by rw [hpr] at hl; cases hl
              refine ev_iconst (X := M_X8_readSingle) (pc := 156) dX8_readSingle_156 ?_
              refine ev_istore_nL (X := M_X8_readSingle) (pc := 157) (ls' := [_, _, _]) dX8_readSingle_157 (by decide) rfl ?_
              refine ev_aload_n (X := M_X8_readSingle) (pc := 158) dX8_readSingle_158 rfl ?_
              refine ev_dup (X := M_X8_readSingle) (pc := 159) dX8_readSingle_159 (fun _ q => by cases q) ?_
              refine ev_getI (X := M_X8_readSingle) (pc := 160) (ki := 5) dX8_readSingle_160 fl_X8_83_8 hO (by decide) rfl ?_
              refine ev_iconst (X := M_X8_readSingle) (pc := 163) dX8_readSingle_163 ?_
              refine ev_isub (X := M_X8_readSingle) (pc := 164) dX8_readSingle_164 ?_
              refine ev_putI (X := M_X8_readSingle) (pc := 165) (ki := 5) dX8_readSingle_165 fl_X8_83_8 (by omega) hO (fun _ h q => by cases h; cases q) (Or.inl rfl) rfl ?_
              refine ev_iload_n (X := M_X8_readSingle) (pc := 168) dX8_readSingle_168 rfl ?_
              refine ev_bret (X := M_X8_readSingle) (pc := 169) dX8_readSingle_169 rfl (by omega) ?_
              exact ⟨by rw [hOk], rfl, PR_close hF h4 h5 hC⟩
            · obtain ⟨m, hm2⟩ : ∃ m, o = some m := by
                cases o with
                | none => exact absurd rfl h142
                | some l => exact ⟨l, rfl⟩
              subst hm2
              obtain ⟨B1, B2, B3⟩ := hB
              obtain ⟨p5, p6⟩ := p4 m rfl
              rw [m2] at p5 p6
              rw [c2] at p6
              refine ev_aload_n (X := M_X8_readSingle) (pc := 145) dX8_readSingle_145 rfl ?_
              refine ev_virtR (X := M_X8_readSingle) (Y := M_X8_readClosing) (pc := 146) (ci := 8) dX8_readSingle_146 mk_X8_readClosing rfl kw_598 kw_599 kw_600 hO (c_readClosing (h2.fr p1) (by rw [p2]; omega)) rfl (by omega) rfl (Nat.le_of_ble_eq_true rfl) (Nat.zero_add _) (Nat.zero_add _) ?_
              rw [b3, p2]
              refine ev_if_eq (X := M_X8_readSingle) (pc := 149) (tgt := 156) dX8_readSingle_149 (by decide) (by split <;> decide) (fun h149 => ?_) (fun h149 => ?_)
              · have hne : ¬ sgn (V 106) n q' = 41 := fun z => by rw [if_pos z] at h149; exact absurd h149 (by decide)
                rw [if_neg hne]
                have e : prS (V 106) n u (k' + 1) (V t 4) = (none, q') := by rw [hpr]; show (if sgn (V 106) n q' = 41 then _ else _) = _; rw [if_neg hne]
                have hOk : okI (prS (V 106) n u (k' + 1) (V t 4)) = 0 := by rw [e]; rfl
                have hF := f2.tr p1
                have h4 : W3 t 4 = (prS (V 106) n u (k' + 1) (V t 4)).2 := by rw [e]; exact p2
                have h5 : W3 t 5 = V t 5 + 1 := by rw [p3, o2]
                have hC : ∀ l, (prS (V 106) n u (k' + 1) (V t 4)).1 = some l → W3 (t + 1) 1 = V (t + 1) 1 + l.length ∧ W3 (t + 2) = cw (V (t + 2)) (V (t + 1) 1) l := fun l hl => by rw [e] at hl; cases hl
                refine ev_iconst (X := M_X8_readSingle) (pc := 156) dX8_readSingle_156 ?_
                refine ev_istore_nL (X := M_X8_readSingle) (pc := 157) (ls' := [_, _, _]) dX8_readSingle_157 (by decide) rfl ?_
                refine ev_aload_n (X := M_X8_readSingle) (pc := 158) dX8_readSingle_158 rfl ?_
                refine ev_dup (X := M_X8_readSingle) (pc := 159) dX8_readSingle_159 (fun _ q => by cases q) ?_
                refine ev_getI (X := M_X8_readSingle) (pc := 160) (ki := 5) dX8_readSingle_160 fl_X8_83_8 hO (by decide) rfl ?_
                refine ev_iconst (X := M_X8_readSingle) (pc := 163) dX8_readSingle_163 ?_
                refine ev_isub (X := M_X8_readSingle) (pc := 164) dX8_readSingle_164 ?_
                refine ev_putI (X := M_X8_readSingle) (pc := 165) (ki := 5) dX8_readSingle_165 fl_X8_83_8 (by omega) hO (fun _ h q => by cases h; cases q) (Or.inl rfl) rfl ?_
                refine ev_iload_n (X := M_X8_readSingle) (pc := 168) dX8_readSingle_168 rfl ?_
                refine ev_bret (X := M_X8_readSingle) (pc := 169) dX8_readSingle_169 rfl (by omega) ?_
                exact ⟨by rw [hOk], rfl, PR_close hF h4 h5 hC⟩
              · have hye : sgn (V 106) n q' = 41 := Decidable.byContradiction fun z => h149 (by rw [if_neg z])
                rw [if_pos hye]
                have e : prS (V 106) n u (k' + 1) (V t 4) = (some m, q' + 1) := by rw [hpr]; show (if sgn (V 106) n q' = 41 then _ else _) = _; rw [if_pos hye]
                have hOk : okI (prS (V 106) n u (k' + 1) (V t 4)) = 1 := by rw [e]; rfl
                have hF : frT t V (wr W3 t 4 (q' + 1)) := (f2.tr p1).w0 _ _
                have h4 : wr W3 t 4 (q' + 1) t 4 = (prS (V 106) n u (k' + 1) (V t 4)).2 := by rw [e, wr_self]
                have h5 : wr W3 t 4 (q' + 1) t 5 = V t 5 + 1 := by rw [wr_ne (by omega), p3, o2]
                have hC : ∀ l, (prS (V 106) n u (k' + 1) (V t 4)).1 = some l → wr W3 t 4 (q' + 1) (t + 1) 1 = V (t + 1) 1 + l.length ∧ wr W3 t 4 (q' + 1) (t + 2) = cw (V (t + 2)) (V (t + 1) 1) l := fun l hl => by
                  rw [e] at hl
                  have hl' : m = l := Option.some.inj hl
                  rw [← hl', wr_off (by omega), wr_off (by omega)]
                  exact ⟨p5, p6⟩
                refine ev_iconst (X := M_X8_readSingle) (pc := 152) dX8_readSingle_152 ?_
                refine ev_goto (X := M_X8_readSingle) (pc := 153) (tgt := 157) dX8_readSingle_153 (by decide) ?_
                refine ev_istore_nL (X := M_X8_readSingle) (pc := 157) (ls' := [_, _, _]) dX8_readSingle_157 (by decide) rfl ?_
                refine ev_aload_n (X := M_X8_readSingle) (pc := 158) dX8_readSingle_158 rfl ?_
                refine ev_dup (X := M_X8_readSingle) (pc := 159) dX8_readSingle_159 (fun _ q => by cases q) ?_
                refine ev_getI (X := M_X8_readSingle) (pc := 160) (ki := 5) dX8_readSingle_160 fl_X8_83_8 hO (by decide) rfl ?_
                refine ev_iconst (X := M_X8_readSingle) (pc := 163) dX8_readSingle_163 ?_
                refine ev_isub (X := M_X8_readSingle) (pc := 164) dX8_readSingle_164 ?_
                refine ev_putI (X := M_X8_readSingle) (pc := 165) (ki := 5) dX8_readSingle_165 fl_X8_83_8 (by omega) hO (fun _ h q => by cases h; cases q) (Or.inl rfl) rfl ?_
                refine ev_iload_n (X := M_X8_readSingle) (pc := 168) dX8_readSingle_168 rfl ?_
                refine ev_bret (X := M_X8_readSingle) (pc := 169) dX8_readSingle_169 rfl (by omega) ?_
                exact ⟨by rw [hOk], rfl, PR_close hF h4 h5 hC⟩
          · refine ev_aload_n (X := M_X8_readSingle) (pc := 110) dX8_readSingle_110 rfl ?_
            refine ev_virtX (X := M_X8_readSingle) (Y := M_X8_readSingle) (pc := 111) (ci := 8) dX8_readSingle_111 mk_X8_readSingle rfl kw_498 kw_500 kp_3 hO (ihS k' rfl W2 h2 (by rw [a2]; omega) (by rw [o2, ho]; omega) (by rw [m2, a2]; omega)) rfl (by omega) rfl (Nat.le_of_ble_eq_true rfl) (Nat.zero_add _) (Nat.zero_add _) (fun W3 hW3 => ?_)
            rw [b2, a2] at hW3
            rw [b2, a2]
            rw [if_pos (by omega)] at hpr
            have hB := (prS_B (f := V 106) (n := n) (u := u) k') (V t 4 + 1) (by omega) (by omega)
            generalize hr : prS (V 106) n u k' (V t 4 + 1) = r at *
            obtain ⟨o, q'⟩ := r
            obtain ⟨p1, p2, p3, p4⟩ := hW3
            dsimp only at p2 p4
            refine ev_if_eq (X := M_X8_readSingle) (pc := 114) (tgt := 133) dX8_readSingle_114 (by decide) (by unfold okI; split <;> decide) (fun h114 => ?_) (fun h114 => ?_)
            · have hnone : o = none := by
                cases o with
                | none => rfl
                | some l => exact absurd (show (1 : Int) = 0 from h114) (by decide)
              subst hnone
              have hOk : okI (prS (V 106) n u (k' + 1) (V t 4)) = 0 := by rw [hpr]; rfl
              have hF := f2.tr p1
              have h4 : W3 t 4 = (prS (V 106) n u (k' + 1) (V t 4)).2 := by rw [hpr]; exact p2
              have h5 : W3 t 5 = V t 5 + 1 := by rw [p3, o2]
              have hC : ∀ l, (prS (V 106) n u (k' + 1) (V t 4)).1 = some l → W3 (t + 1) 1 = V (t + 1) 1 + l.length ∧ W3 (t + 2) = cw (V (t + 2)) (V (t + 1) 1) l := fun l hl => by rw [hpr] at hl; cases hl
              refine ev_iconst (X := M_X8_readSingle) (pc := 133) dX8_readSingle_133 ?_
              refine ev_goto (X := M_X8_readSingle) (pc := 134) (tgt := 157) dX8_readSingle_134 (by decide) ?_
              refine ev_istore_nL (X := M_X8_readSingle) (pc := 157) (ls' := [_, _, _]) dX8_readSingle_157 (by decide) rfl ?_
              refine ev_aload_n (X := M_X8_readSingle) (pc := 158) dX8_readSingle_158 rfl ?_
              refine ev_dup (X := M_X8_readSingle) (pc := 159) dX8_readSingle_159 (fun _ q => by cases q) ?_
              refine ev_getI (X := M_X8_readSingle) (pc := 160) (ki := 5) dX8_readSingle_160 fl_X8_83_8 hO (by decide) rfl ?_
              refine ev_iconst (X := M_X8_readSingle) (pc := 163) dX8_readSingle_163 ?_
              refine ev_isub (X := M_X8_readSingle) (pc := 164) dX8_readSingle_164 ?_
              refine ev_putI (X := M_X8_readSingle) (pc := 165) (ki := 5) dX8_readSingle_165 fl_X8_83_8 (by omega) hO (fun _ h q => by cases h; cases q) (Or.inl rfl) rfl ?_
              refine ev_iload_n (X := M_X8_readSingle) (pc := 168) dX8_readSingle_168 rfl ?_
              refine ev_bret (X := M_X8_readSingle) (pc := 169) dX8_readSingle_169 rfl (by omega) ?_
              exact ⟨by rw [hOk], rfl, PR_close hF h4 h5 hC⟩
            · obtain ⟨m, hm2⟩ : ∃ m, o = some m := by
                cases o with
                | none => exact absurd rfl h114
                | some l => exact ⟨l, rfl⟩
              subst hm2
              obtain ⟨B1, B2, B3⟩ := hB
              obtain ⟨p5, p6⟩ := p4 m rfl
              rw [m2] at p5 p6
              rw [c2] at p6
              refine ev_aload_n (X := M_X8_readSingle) (pc := 117) dX8_readSingle_117 rfl ?_
              refine ev_getRe (X := M_X8_readSingle) (pc := 118) dX8_readSingle_118 fl_X8_28_8 hO rfl hrc ?_
              refine ev_bipush (X := M_X8_readSingle) (pc := 121) dX8_readSingle_121 (by decide) ?_
              refine ev_virtR (X := M_X8_readSingle) (Y := M_X5_add) (pc := 123) (ci := 5) dX8_readSingle_123 mk_X5_add rfl kw_510 kw_450 kw_451 hrow.1 (c_Row_add hrow (by rw [p5]; omega)) rfl (by omega) rfl (Nat.le_of_ble_eq_true rfl) (Nat.zero_add _) (Nat.zero_add _) ?_
              rw [if_pos (show W3 (t + 1) 1 < n by rw [p5]; omega), if_pos (show W3 (t + 1) 1 < n by rw [p5]; omega)]
              refine ev_if_eq (X := M_X8_readSingle) (pc := 126) (tgt := 133) dX8_readSingle_126 (by decide) (by decide) (fun h126 => ?_) (fun h126 => ?_)
              · exact absurd h126 (by decide)
              · have hOk : okI (prS (V 106) n u (k' + 1) (V t 4)) = 1 := by rw [hpr]; rfl
                have hF : frT t V (rAdd W3 (t + 1) (t + 2) (-33)) := ((f2.tr p1).w2 _ _).w1 _ _
                have h4 : rAdd W3 (t + 1) (t + 2) (-33) t 4 = (prS (V 106) n u (k' + 1) (V t 4)).2 := by
                  unfold rAdd
                  rw [wr_off (by omega), wr_off (by omega), hpr]
                  exact p2
                have h5 : rAdd W3 (t + 1) (t + 2) (-33) t 5 = V t 5 + 1 := by
                  unfold rAdd
                  rw [wr_off (by omega), wr_off (by omega), p3, o2]
                have hC : ∀ l, (prS (V 106) n u (k' + 1) (V t 4)).1 = some l → rAdd W3 (t + 1) (t + 2) (-33) (t + 1) 1 = V (t + 1) 1 + l.length ∧ rAdd W3 (t + 1) (t + 2) (-33) (t + 2) = cw (V (t + 2)) (V (t + 1) 1) l := fun l hl => by
                  rw [hpr] at hl
                  have hl' : m ++ [-33] = l := Option.some.inj hl
                  rw [← hl']
                  unfold rAdd
                  refine ⟨?_, ?_⟩
                  · rw [wr_self, p5]
                    simp only [List.length_append, List.length_cons, List.length_nil]
                    omega
                  · rw [wr_off (by omega), wr_row, cw_app, p5, p6]
                    rfl
                refine ev_iconst (X := M_X8_readSingle) (pc := 129) dX8_readSingle_129 ?_
                refine ev_goto (X := M_X8_readSingle) (pc := 130) (tgt := 157) dX8_readSingle_130 (by decide) ?_
                refine ev_istore_nL (X := M_X8_readSingle) (pc := 157) (ls' := [_, _, _]) dX8_readSingle_157 (by decide) rfl ?_
                refine ev_aload_n (X := M_X8_readSingle) (pc := 158) dX8_readSingle_158 rfl ?_
                refine ev_dup (X := M_X8_readSingle) (pc := 159) dX8_readSingle_159 (fun _ q => by cases q) ?_
                refine ev_getI (X := M_X8_readSingle) (pc := 160) (ki := 5) dX8_readSingle_160 fl_X8_83_8 hO (by decide) rfl ?_
                refine ev_iconst (X := M_X8_readSingle) (pc := 163) dX8_readSingle_163 ?_
                refine ev_isub (X := M_X8_readSingle) (pc := 164) dX8_readSingle_164 ?_
                refine ev_putI (X := M_X8_readSingle) (pc := 165) (ki := 5) dX8_readSingle_165 fl_X8_83_8 (by omega) hO (fun _ h q => by cases h; cases q) (Or.inl rfl) rfl ?_
                refine ev_iload_n (X := M_X8_readSingle) (pc := 168) dX8_readSingle_168 rfl ?_
                refine ev_bret (X := M_X8_readSingle) (pc := 169) dX8_readSingle_169 rfl (by omega) ?_
                exact ⟨by rw [hOk], rfl, PR_close hF h4 h5 hC⟩
        · refine ev_iconst (X := M_X8_readSingle) (pc := 82) dX8_readSingle_82 ?_
          refine ev_bret (X := M_X8_readSingle) (pc := 83) dX8_readSingle_83 rfl (by omega) ?_
          have e : prS (V 106) n u k (V t 4) = (none, V t 4) := by rw [hpr, if_neg (by omega), if_neg (by omega)]
          rw [e]
          exact ⟨rfl, rfl, frT.rf, rfl, rfl, fun l hl => by cases hl⟩
      · refine ev_iload_n (X := M_X8_readSingle) (pc := 68) dX8_readSingle_68 rfl ?_
        refine ev_bipush (X := M_X8_readSingle) (pc := 69) dX8_readSingle_69 (by decide) ?_
        refine ev_icmp_ne (X := M_X8_readSingle) (pc := 71) (tgt := 82) dX8_readSingle_71 (by decide) (by omega) (by omega) (fun h71 => ?_) (fun h71 => ?_)
        · refine ev_iconst (X := M_X8_readSingle) (pc := 82) dX8_readSingle_82 ?_
          refine ev_bret (X := M_X8_readSingle) (pc := 83) dX8_readSingle_83 rfl (by omega) ?_
          have e : prS (V 106) n u k (V t 4) = (none, V t 4) := by rw [hpr, if_neg (by omega), if_neg (by omega)]
          rw [e]
          exact ⟨rfl, rfl, frT.rf, rfl, rfl, fun l hl => by cases hl⟩
        · refine ev_aload_n (X := M_X8_readSingle) (pc := 74) dX8_readSingle_74 rfl ?_
          refine ev_getI (X := M_X8_readSingle) (pc := 75) (ki := 5) dX8_readSingle_75 fl_X8_83_8 hO (by decide) rfl ?_
          refine ev_iconst (X := M_X8_readSingle) (pc := 78) dX8_readSingle_78 ?_
          refine ev_icmp_lt (X := M_X8_readSingle) (pc := 79) (tgt := 84) dX8_readSingle_79 (by decide) (by omega) (by omega) (fun h79 => ?_) (fun h79 => ?_)
          · refine ev_aload_n (X := M_X8_readSingle) (pc := 84) dX8_readSingle_84 rfl ?_
            refine ev_dup (X := M_X8_readSingle) (pc := 85) dX8_readSingle_85 (fun _ q => by cases q) ?_
            refine ev_getI (X := M_X8_readSingle) (pc := 86) (ki := 5) dX8_readSingle_86 fl_X8_83_8 hO (by decide) rfl ?_
            refine ev_iconst (X := M_X8_readSingle) (pc := 89) dX8_readSingle_89 ?_
            refine ev_iadd (X := M_X8_readSingle) (pc := 90) dX8_readSingle_90 ?_
            refine ev_putI (X := M_X8_readSingle) (pc := 91) (ki := 5) dX8_readSingle_91 fl_X8_83_8 (by omega) hO (fun _ h q => by cases h; cases q) (Or.inl rfl) rfl ?_
            refine ev_aload_n (X := M_X8_readSingle) (pc := 94) dX8_readSingle_94 rfl ?_
            refine ev_dup (X := M_X8_readSingle) (pc := 95) dX8_readSingle_95 (fun _ q => by cases q) ?_
            refine ev_getI (X := M_X8_readSingle) (pc := 96) (ki := 4) dX8_readSingle_96 fl_X8_39_8 hO (by decide) rfl ?_
            refine ev_iconst (X := M_X8_readSingle) (pc := 99) dX8_readSingle_99 ?_
            refine ev_iadd (X := M_X8_readSingle) (pc := 100) dX8_readSingle_100 ?_
            refine ev_putI (X := M_X8_readSingle) (pc := 101) (ki := 4) dX8_readSingle_101 fl_X8_39_8 (by omega) hO (fun _ h q => by cases h; cases q) (Or.inl rfl) rfl ?_
            obtain ⟨k', rfl⟩ : ∃ k', k = k' + 1 := ⟨k - 1, by omega⟩
            rw [hgk k' rfl] at hpr
            have hql := hlt (by omega)
            generalize hW2 : wr (wr V t 5 (V t 5 + 1)) t 4 (wr V t 5 (V t 5 + 1) t 4 + 1) = W2
            have f2 : frT t V W2 := by rw [← hW2]; exact (frT.rf.w0 _ _).w0 _ _
            have a2 : W2 t 4 = V t 4 + 1 := by rw [← hW2, wr_self, wr_ne (by omega)]
            have o2 : W2 t 5 = V t 5 + 1 := by rw [← hW2, wr_ne (by omega), wr_self]
            have m2 : W2 (t + 1) = V (t + 1) := by rw [← hW2, wr_off (by omega), wr_off (by omega)]
            have c2 : W2 (t + 2) = V (t + 2) := by rw [← hW2, wr_off (by omega), wr_off (by omega)]
            have h2 := h.fr f2
            have b2 : W2 106 = V 106 := f2 106 (by omega) (by omega) (by omega)
            refine ev_iload_n (X := M_X8_readSingle) (pc := 104) dX8_readSingle_104 rfl ?_
            refine ev_bipush (X := M_X8_readSingle) (pc := 105) dX8_readSingle_105 (by decide) ?_
            refine ev_icmp_ne (X := M_X8_readSingle) (pc := 107) (tgt := 137) dX8_readSingle_107 (by decide) (by omega) (by omega) (fun h107 => ?_) (fun h107 => ?_)
            · refine ev_aload_n (X := M_X8_readSingle) (pc := 137) dX8_readSingle_137 rfl ?_
              refine ev_iconst (X := M_X8_readSingle) (pc := 138) dX8_readSingle_138 ?_
              refine ev_virtX (X := M_X8_readSingle) (Y := M_X8_readLevel) (pc := 139) (ci := 8) dX8_readSingle_139 mk_X8_readLevel rfl kw_494 kw_496 kp_2 hO (ihL k' rfl W2 h2 (by rw [a2]; omega) (by rw [o2, ho]; omega) (by rw [m2, a2]; omega)) rfl (by omega) rfl (Nat.le_of_ble_eq_true rfl) (Nat.zero_add _) (Nat.zero_add _) (fun W3 hW3 => ?_)
              rw [b2, a2] at hW3
              rw [b2, a2]
              rw [if_neg (by omega), if_pos (by omega)] at hpr
              have hB := (lvl_B (f := V 106) (prS_B (f := V 106) (n := n) (u := u) k') 5) (V t 4 + 1) (by omega) (by omega)
              generalize hr : lvl (prS (V 106) n u k') (V 106) n 5 (V t 4 + 1) = r at *
              obtain ⟨o, q'⟩ := r
              obtain ⟨p1, p2, p3, p4⟩ := hW3
              dsimp only at p2 p4
              have b3 : W3 106 = V 106 := by rw [p1 106 (by omega) (by omega) (by omega), b2]
              refine ev_if_eq (X := M_X8_readSingle) (pc := 142) (tgt := 156) dX8_readSingle_142 (by decide) (by unfold okI; split <;> decide) (fun h142 => ?_) (fun h142 => ?_)
              · have hnone : o = none := by
                  cases o with
                  | none => rfl
                  | some l => exact absurd (show (1 : Int) = 0 from h142) (by decide)
                subst hnone
                have hOk : okI (prS (V 106) n u (k' + 1) (V t 4)) = 0 := by rw [hpr]; rfl
                have hF := f2.tr p1
                have h4 : W3 t 4 = (prS (V 106) n u (k' + 1) (V t 4)).2 := by rw [hpr]; exact p2
                have h5 : W3 t 5 = V t 5 + 1 := by rw [p3, o2]
                have hC : ∀ l, (prS (V 106) n u (k' + 1) (V t 4)).1 = some l → W3 (t + 1) 1 = V (t + 1) 1 + l.length ∧ W3 (t + 2) = cw (V (t + 2)) (V (t + 1) 1) l := fun l hl => by rw [hpr] at hl; cases hl
                refine ev_iconst (X := M_X8_readSingle) (pc := 156) dX8_readSingle_156 ?_
                refine ev_istore_nL (X := M_X8_readSingle) (pc := 157) (ls' := [_, _, _]) dX8_readSingle_157 (by decide) rfl ?_
                refine ev_aload_n (X := M_X8_readSingle) (pc := 158) dX8_readSingle_158 rfl ?_
                refine ev_dup (X := M_X8_readSingle) (pc := 159) dX8_readSingle_159 (fun _ q => by cases q) ?_
                refine ev_getI (X := M_X8_readSingle) (pc := 160) (ki := 5) dX8_readSingle_160 fl_X8_83_8 hO (by decide) rfl ?_
                refine ev_iconst (X := M_X8_readSingle) (pc := 163) dX8_readSingle_163 ?_
                refine ev_isub (X := M_X8_readSingle) (pc := 164) dX8_readSingle_164 ?_
                refine ev_putI (X := M_X8_readSingle) (pc := 165) (ki := 5) dX8_readSingle_165 fl_X8_83_8 (by omega) hO (fun _ h q => by cases h; cases q) (Or.inl rfl) rfl ?_
                refine ev_iload_n (X := M_X8_readSingle) (pc := 168) dX8_readSingle_168 rfl ?_
                refine ev_bret (X := M_X8_readSingle) (pc := 169) dX8_readSingle_169 rfl (by omega) ?_
                exact ⟨by rw [hOk], rfl, PR_close hF h4 h5 hC⟩
              · obtain ⟨m, hm2⟩ : ∃ m, o = some m := by
                  cases o with
                  | none => exact absurd rfl h142
                  | some l => exact ⟨l, rfl⟩
                subst hm2
                obtain ⟨B1, B2, B3⟩ := hB
                obtain ⟨p5, p6⟩ := p4 m rfl
                rw [m2] at p5 p6
                rw [c2] at p6
                refine ev_aload_n (X := M_X8_readSingle) (pc := 145) dX8_readSingle_145 rfl ?_
                refine ev_virtR (X := M_X8_readSingle) (Y := M_X8_readClosing) (pc := 146) (ci := 8) dX8_readSingle_146 mk_X8_readClosing rfl kw_598 kw_599 kw_600 hO (c_readClosing (h2.fr p1) (by rw [p2]; omega)) rfl (by omega) rfl (Nat.le_of_ble_eq_true rfl) (Nat.zero_add _) (Nat.zero_add _) ?_
                rw [b3, p2]
                refine ev_if_eq (X := M_X8_readSingle) (pc := 149) (tgt := 156) dX8_readSingle_149 (by decide) (by split <;> decide) (fun h149 => ?_) (fun h149 => ?_)
                · have hne : ¬ sgn (V 106) n q' = 41 := fun z => by rw [if_pos z] at h149; exact absurd h149 (by decide)
                  rw [if_neg hne]
                  have e : prS (V 106) n u (k' + 1) (V t 4) = (none, q') := by rw [hpr]; show (if sgn (V 106) n q' = 41 then _ else _) = _; rw [if_neg hne]
                  have hOk : okI (prS (V 106) n u (k' + 1) (V t 4)) = 0 := by rw [e]; rfl
                  have hF := f2.tr p1
                  have h4 : W3 t 4 = (prS (V 106) n u (k' + 1) (V t 4)).2 := by rw [e]; exact p2
                  have h5 : W3 t 5 = V t 5 + 1 := by rw [p3, o2]
                  have hC : ∀ l, (prS (V 106) n u (k' + 1) (V t 4)).1 = some l → W3 (t + 1) 1 = V (t + 1) 1 + l.length ∧ W3 (t + 2) = cw (V (t + 2)) (V (t + 1) 1) l := fun l hl => by rw [e] at hl; cases hl
                  refine ev_iconst (X := M_X8_readSingle) (pc := 156) dX8_readSingle_156 ?_
                  refine ev_istore_nL (X := M_X8_readSingle) (pc := 157) (ls' := [_, _, _]) dX8_readSingle_157 (by decide) rfl ?_
                  refine ev_aload_n (X := M_X8_readSingle) (pc := 158) dX8_readSingle_158 rfl ?_
                  refine ev_dup (X := M_X8_readSingle) (pc := 159) dX8_readSingle_159 (fun _ q => by cases q) ?_
                  refine ev_getI (X := M_X8_readSingle) (pc := 160) (ki := 5) dX8_readSingle_160 fl_X8_83_8 hO (by decide) rfl ?_
                  refine ev_iconst (X := M_X8_readSingle) (pc := 163) dX8_readSingle_163 ?_
                  refine ev_isub (X := M_X8_readSingle) (pc := 164) dX8_readSingle_164 ?_
                  refine ev_putI (X := M_X8_readSingle) (pc := 165) (ki := 5) dX8_readSingle_165 fl_X8_83_8 (by omega) hO (fun _ h q => by cases h; cases q) (Or.inl rfl) rfl ?_
                  refine ev_iload_n (X := M_X8_readSingle) (pc := 168) dX8_readSingle_168 rfl ?_
                  refine ev_bret (X := M_X8_readSingle) (pc := 169) dX8_readSingle_169 rfl (by omega) ?_
                  exact ⟨by rw [hOk], rfl, PR_close hF h4 h5 hC⟩
                · have hye : sgn (V 106) n q' = 41 := Decidable.byContradiction fun z => h149 (by rw [if_neg z])
                  rw [if_pos hye]
                  have e : prS (V 106) n u (k' + 1) (V t 4) = (some m, q' + 1) := by rw [hpr]; show (if sgn (V 106) n q' = 41 then _ else _) = _; rw [if_pos hye]
                  have hOk : okI (prS (V 106) n u (k' + 1) (V t 4)) = 1 := by rw [e]; rfl
                  have hF : frT t V (wr W3 t 4 (q' + 1)) := (f2.tr p1).w0 _ _
                  have h4 : wr W3 t 4 (q' + 1) t 4 = (prS (V 106) n u (k' + 1) (V t 4)).2 := by rw [e, wr_self]
                  have h5 : wr W3 t 4 (q' + 1) t 5 = V t 5 + 1 := by rw [wr_ne (by omega), p3, o2]
                  have hC : ∀ l, (prS (V 106) n u (k' + 1) (V t 4)).1 = some l → wr W3 t 4 (q' + 1) (t + 1) 1 = V (t + 1) 1 + l.length ∧ wr W3 t 4 (q' + 1) (t + 2) = cw (V (t + 2)) (V (t + 1) 1) l := fun l hl => by
                    rw [e] at hl
                    have hl' : m = l := Option.some.inj hl
                    rw [← hl', wr_off (by omega), wr_off (by omega)]
                    exact ⟨p5, p6⟩
                  refine ev_iconst (X := M_X8_readSingle) (pc := 152) dX8_readSingle_152 ?_
                  refine ev_goto (X := M_X8_readSingle) (pc := 153) (tgt := 157) dX8_readSingle_153 (by decide) ?_
                  refine ev_istore_nL (X := M_X8_readSingle) (pc := 157) (ls' := [_, _, _]) dX8_readSingle_157 (by decide) rfl ?_
                  refine ev_aload_n (X := M_X8_readSingle) (pc := 158) dX8_readSingle_158 rfl ?_
                  refine ev_dup (X := M_X8_readSingle) (pc := 159) dX8_readSingle_159 (fun _ q => by cases q) ?_
                  refine ev_getI (X := M_X8_readSingle) (pc := 160) (ki := 5) dX8_readSingle_160 fl_X8_83_8 hO (by decide) rfl ?_
                  refine ev_iconst (X := M_X8_readSingle) (pc := 163) dX8_readSingle_163 ?_
                  refine ev_isub (X := M_X8_readSingle) (pc := 164) dX8_readSingle_164 ?_
                  refine ev_putI (X := M_X8_readSingle) (pc := 165) (ki := 5) dX8_readSingle_165 fl_X8_83_8 (by omega) hO (fun _ h q => by cases h; cases q) (Or.inl rfl) rfl ?_
                  refine ev_iload_n (X := M_X8_readSingle) (pc := 168) dX8_readSingle_168 rfl ?_
                  refine ev_bret (X := M_X8_readSingle) (pc := 169) dX8_readSingle_169 rfl (by omega) ?_
                  exact ⟨by rw [hOk], rfl, PR_close hF h4 h5 hC⟩
            · refine ev_aload_n (X := M_X8_readSingle) (pc := 110) dX8_readSingle_110 rfl ?_
              refine ev_virtX (X := M_X8_readSingle) (Y := M_X8_readSingle) (pc := 111) (ci := 8) dX8_readSingle_111 mk_X8_readSingle rfl kw_498 kw_500 kp_3 hO (ihS k' rfl W2 h2 (by rw [a2]; omega) (by rw [o2, ho]; omega) (by rw [m2, a2]; omega)) rfl (by omega) rfl (Nat.le_of_ble_eq_true rfl) (Nat.zero_add _) (Nat.zero_add _) (fun W3 hW3 => ?_)
              rw [b2, a2] at hW3
              rw [b2, a2]
              rw [if_pos (by omega)] at hpr
              have hB := (prS_B (f := V 106) (n := n) (u := u) k') (V t 4 + 1) (by omega) (by omega)
              generalize hr : prS (V 106) n u k' (V t 4 + 1) = r at *
              obtain ⟨o, q'⟩ := r
              obtain ⟨p1, p2, p3, p4⟩ := hW3
              dsimp only at p2 p4
              refine ev_if_eq (X := M_X8_readSingle) (pc := 114) (tgt := 133) dX8_readSingle_114 (by decide) (by unfold okI; split <;> decide) (fun h114 => ?_) (fun h114 => ?_)
              · have hnone : o = none := by
                  cases o with
                  | none => rfl
                  | some l => exact absurd (show (1 : Int) = 0 from h114) (by decide)
                subst hnone
                have hOk : okI (prS (V 106) n u (k' + 1) (V t 4)) = 0 := by rw [hpr]; rfl
                have hF := f2.tr p1
                have h4 : W3 t 4 = (prS (V 106) n u (k' + 1) (V t 4)).2 := by rw [hpr]; exact p2
                have h5 : W3 t 5 = V t 5 + 1 := by rw [p3, o2]
                have hC : ∀ l, (prS (V 106) n u (k' + 1) (V t 4)).1 = some l → W3 (t + 1) 1 = V (t + 1) 1 + l.length ∧ W3 (t + 2) = cw (V (t + 2)) (V (t + 1) 1) l := fun l hl => by rw [hpr] at hl; cases hl
                refine ev_iconst (X := M_X8_readSingle) (pc := 133) dX8_readSingle_133 ?_
                refine ev_goto (X := M_X8_readSingle) (pc := 134) (tgt := 157) dX8_readSingle_134 (by decide) ?_
                refine ev_istore_nL (X := M_X8_readSingle) (pc := 157) (ls' := [_, _, _]) dX8_readSingle_157 (by decide) rfl ?_
                refine ev_aload_n (X := M_X8_readSingle) (pc := 158) dX8_readSingle_158 rfl ?_
                refine ev_dup (X := M_X8_readSingle) (pc := 159) dX8_readSingle_159 (fun _ q => by cases q) ?_
                refine ev_getI (X := M_X8_readSingle) (pc := 160) (ki := 5) dX8_readSingle_160 fl_X8_83_8 hO (by decide) rfl ?_
                refine ev_iconst (X := M_X8_readSingle) (pc := 163) dX8_readSingle_163 ?_
                refine ev_isub (X := M_X8_readSingle) (pc := 164) dX8_readSingle_164 ?_
                refine ev_putI (X := M_X8_readSingle) (pc := 165) (ki := 5) dX8_readSingle_165 fl_X8_83_8 (by omega) hO (fun _ h q => by cases h; cases q) (Or.inl rfl) rfl ?_
                refine ev_iload_n (X := M_X8_readSingle) (pc := 168) dX8_readSingle_168 rfl ?_
                refine ev_bret (X := M_X8_readSingle) (pc := 169) dX8_readSingle_169 rfl (by omega) ?_
                exact ⟨by rw [hOk], rfl, PR_close hF h4 h5 hC⟩
              · obtain ⟨m, hm2⟩ : ∃ m, o = some m := by
                  cases o with
                  | none => exact absurd rfl h114
                  | some l => exact ⟨l, rfl⟩
                subst hm2
                obtain ⟨B1, B2, B3⟩ := hB
                obtain ⟨p5, p6⟩ := p4 m rfl
                rw [m2] at p5 p6
                rw [c2] at p6
                refine ev_aload_n (X := M_X8_readSingle) (pc := 117) dX8_readSingle_117 rfl ?_
                refine ev_getRe (X := M_X8_readSingle) (pc := 118) dX8_readSingle_118 fl_X8_28_8 hO rfl hrc ?_
                refine ev_bipush (X := M_X8_readSingle) (pc := 121) dX8_readSingle_121 (by decide) ?_
                refine ev_virtR (X := M_X8_readSingle) (Y := M_X5_add) (pc := 123) (ci := 5) dX8_readSingle_123 mk_X5_add rfl kw_510 kw_450 kw_451 hrow.1 (c_Row_add hrow (by rw [p5]; omega)) rfl (by omega) rfl (Nat.le_of_ble_eq_true rfl) (Nat.zero_add _) (Nat.zero_add _) ?_
                rw [if_pos (show W3 (t + 1) 1 < n by rw [p5]; omega), if_pos (show W3 (t + 1) 1 < n by rw [p5]; omega)]
                refine ev_if_eq (X := M_X8_readSingle) (pc := 126) (tgt := 133) dX8_readSingle_126 (by decide) (by decide) (fun h126 => ?_) (fun h126 => ?_)
                · exact absurd h126 (by decide)
                · have hOk : okI (prS (V 106) n u (k' + 1) (V t 4)) = 1 := by rw [hpr]; rfl
                  have hF : frT t V (rAdd W3 (t + 1) (t + 2) (-33)) := ((f2.tr p1).w2 _ _).w1 _ _
                  have h4 : rAdd W3 (t + 1) (t + 2) (-33) t 4 = (prS (V 106) n u (k' + 1) (V t 4)).2 := by
                    unfold rAdd
                    rw [wr_off (by omega), wr_off (by omega), hpr]
                    exact p2
                  have h5 : rAdd W3 (t + 1) (t + 2) (-33) t 5 = V t 5 + 1 := by
                    unfold rAdd
                    rw [wr_off (by omega), wr_off (by omega), p3, o2]
                  have hC : ∀ l, (prS (V 106) n u (k' + 1) (V t 4)).1 = some l → rAdd W3 (t + 1) (t + 2) (-33) (t + 1) 1 = V (t + 1) 1 + l.length ∧ rAdd W3 (t + 1) (t + 2) (-33) (t + 2) = cw (V (t + 2)) (V (t + 1) 1) l := fun l hl => by
                    rw [hpr] at hl
                    have hl' : m ++ [-33] = l := Option.some.inj hl
                    rw [← hl']
                    unfold rAdd
                    refine ⟨?_, ?_⟩
                    · rw [wr_self, p5]
                      simp only [List.length_append, List.length_cons, List.length_nil]
                      omega
                    · rw [wr_off (by omega), wr_row, cw_app, p5, p6]
                      rfl
                  refine ev_iconst (X := M_X8_readSingle) (pc := 129) dX8_readSingle_129 ?_
                  refine ev_goto (X := M_X8_readSingle) (pc := 130) (tgt := 157) dX8_readSingle_130 (by decide) ?_
                  refine ev_istore_nL (X := M_X8_readSingle) (pc := 157) (ls' := [_, _, _]) dX8_readSingle_157 (by decide) rfl ?_
                  refine ev_aload_n (X := M_X8_readSingle) (pc := 158) dX8_readSingle_158 rfl ?_
                  refine ev_dup (X := M_X8_readSingle) (pc := 159) dX8_readSingle_159 (fun _ q => by cases q) ?_
                  refine ev_getI (X := M_X8_readSingle) (pc := 160) (ki := 5) dX8_readSingle_160 fl_X8_83_8 hO (by decide) rfl ?_
                  refine ev_iconst (X := M_X8_readSingle) (pc := 163) dX8_readSingle_163 ?_
                  refine ev_isub (X := M_X8_readSingle) (pc := 164) dX8_readSingle_164 ?_
                  refine ev_putI (X := M_X8_readSingle) (pc := 165) (ki := 5) dX8_readSingle_165 fl_X8_83_8 (by omega) hO (fun _ h q => by cases h; cases q) (Or.inl rfl) rfl ?_
                  refine ev_iload_n (X := M_X8_readSingle) (pc := 168) dX8_readSingle_168 rfl ?_
                  refine ev_bret (X := M_X8_readSingle) (pc := 169) dX8_readSingle_169 rfl (by omega) ?_
                  exact ⟨by rw [hOk], rfl, PR_close hF h4 h5 hC⟩
          · refine ev_iconst (X := M_X8_readSingle) (pc := 82) dX8_readSingle_82 ?_
            refine ev_bret (X := M_X8_readSingle) (pc := 83) dX8_readSingle_83 rfl (by omega) ?_
            have e : prS (V 106) n u k (V t 4) = (none, V t 4) := by rw [hpr, if_neg (by omega), if_neg (by omega)]
            rw [e]
            exact ⟨rfl, rfl, frT.rf, rfl, rfl, fun l hl => by cases hl⟩
    · have hyes : 0 ≤ nmI u s := Decidable.byContradiction fun z => h30 (by rw [if_neg (fun q => z q.2)])
      rw [if_pos hyes] at hpr
      have hql := hlt (by omega)
      refine ev_aload_n (X := M_X8_readSingle) (pc := 33) dX8_readSingle_33 rfl ?_
      refine ev_dup (X := M_X8_readSingle) (pc := 34) dX8_readSingle_34 (fun _ q => by cases q) ?_
      refine ev_getI (X := M_X8_readSingle) (pc := 35) (ki := 4) dX8_readSingle_35 fl_X8_39_8 hO (by decide) rfl ?_
      refine ev_iconst (X := M_X8_readSingle) (pc := 38) dX8_readSingle_38 ?_
      refine ev_iadd (X := M_X8_readSingle) (pc := 39) dX8_readSingle_39 ?_
      refine ev_putI (X := M_X8_readSingle) (pc := 40) (ki := 4) dX8_readSingle_40 fl_X8_39_8 (by omega) hO (fun _ h q => by cases h; cases q) (Or.inl rfl) rfl ?_
      refine ev_aload_n (X := M_X8_readSingle) (pc := 43) dX8_readSingle_43 rfl ?_
      refine ev_getRe (X := M_X8_readSingle) (pc := 44) dX8_readSingle_44 fl_X8_28_8 hO rfl hrc ?_
      refine ev_iconst (X := M_X8_readSingle) (pc := 47) dX8_readSingle_47 ?_
      refine ev_aload_n (X := M_X8_readSingle) (pc := 48) dX8_readSingle_48 rfl ?_
      refine ev_getRe (X := M_X8_readSingle) (pc := 49) dX8_readSingle_49 fl_X8_15_8 hO rfl hrn ?_
      refine ev_iload_n (X := M_X8_readSingle) (pc := 52) dX8_readSingle_52 rfl ?_
      refine ev_i2c (X := M_X8_readSingle) (pc := 53) dX8_readSingle_53 ?_
      rw [i2c_id (by omega)]
      refine ev_virtSR (X := M_X8_readSingle) (Y := M_J0_indexOf_0f7a4) (pc := 54) dX8_readSingle_54 mk_J0_indexOf_0f7a4 kw_514 kw_515 kw_516 hSu.1.1 (j_indexOf (by have := (h.fr (frT.rf.w0 4 (V t 4 + 1))).2.1 u.toNat (by omega); exact this.1) (by omega)) rfl (by omega) rfl (Nat.le_of_ble_eq_true rfl) (Nat.zero_add _) (Nat.zero_add _) ?_
      rw [wr_off (show 20 + u.toNat ≠ t by omega), hix]
      refine ev_isub (X := M_X8_readSingle) (pc := 57) dX8_readSingle_57 ?_
      refine ev_virtR (X := M_X8_readSingle) (Y := M_X5_add) (pc := 58) (ci := 5) dX8_readSingle_58 mk_X5_add rfl kw_510 kw_450 kw_451 hrow.1 (c_Row_add hrow (by rw [wr_off (by omega)]; omega)) rfl (by omega) rfl (Nat.le_of_ble_eq_true rfl) (Nat.zero_add _) (Nat.zero_add _) ?_
      refine ev_bret (X := M_X8_readSingle) (pc := 61) dX8_readSingle_61 rfl (by split <;> omega) ?_
      have hl : wr V t 4 (V t 4 + 1) (t + 1) 1 < n := by rw [wr_off (by omega)]; omega
      rw [if_pos hl, if_pos hl, hpr]
      refine ⟨rfl, rfl, ((frT.rf.w0 _ _).w2 _ _).w1 _ _, ?_, ?_, fun l hl => ?_⟩
      · show wr (wr (wr V t 4 (V t 4 + 1)) (t + 2) _ _) (t + 1) _ _ t 4 = V t 4 + 1
        rw [wr_off (by omega), wr_off (by omega), wr_self]
      · show wr (wr (wr V t 4 (V t 4 + 1)) (t + 2) _ _) (t + 1) _ _ t 5 = V t 5
        rw [wr_off (by omega), wr_off (by omega), wr_ne (by omega)]
      · have hl' : [-1 - nmI u s] = l := Option.some.inj hl
        rw [← hl']
        refine ⟨?_, ?_⟩
        · show wr (wr (wr V t 4 (V t 4 + 1)) (t + 2) _ _) (t + 1) _ _ (t + 1) 1 = V (t + 1) 1 + ((1 : Nat) : Int)
          rw [wr_self, wr_off (by omega)]
          omega
        · show wr (wr (wr V t 4 (V t 4 + 1)) (t + 2) _ _) (t + 1) _ _ (t + 2) = up (V (t + 2)) (V (t + 1) 1) (-1 - nmI u s)
          rw [wr_off (by omega), wr_row, wr_off (by omega), wr_off (by omega)]
  · refine ev_iload_n (X := M_X8_readSingle) (pc := 11) dX8_readSingle_11 rfl ?_
    refine ev_bipush (X := M_X8_readSingle) (pc := 12) dX8_readSingle_12 (by decide) ?_
    refine ev_icmp_gt (X := M_X8_readSingle) (pc := 14) (tgt := 22) dX8_readSingle_14 (by decide) (by omega) (by omega) (fun h14 => ?_) (fun h14 => ?_)
    · refine ev_iload_n (X := M_X8_readSingle) (pc := 22) dX8_readSingle_22 rfl ?_
      refine ev_aload_n (X := M_X8_readSingle) (pc := 23) dX8_readSingle_23 rfl ?_
      refine ev_getRe (X := M_X8_readSingle) (pc := 24) dX8_readSingle_24 fl_X8_15_8 hO rfl hrn ?_
      refine ev_staticR (X := M_X8_readSingle) (Y := M_X8_isAmong) (pc := 27) dX8_readSingle_27 mk_X8_isAmong kw_511 kw_512 (c_isAmong hSu.1 hsg) rfl (by omega) rfl (Nat.le_of_ble_eq_true rfl) (Nat.zero_add _) (Nat.zero_add _) ?_
      rw [if_neg (by omega)] at hpr
      rw [hix]
      refine ev_if_eq (X := M_X8_readSingle) (pc := 30) (tgt := 62) dX8_readSingle_30 (by decide) (by split <;> decide) (fun h30 => ?_) (fun h30 => ?_)
      · have hno : ¬ 0 ≤ nmI u s := fun z => by rw [if_pos ⟨by omega, z⟩] at h30; exact absurd h30 (by decide)
        rw [if_neg hno] at hpr
        refine ev_iload_n (X := M_X8_readSingle) (pc := 62) dX8_readSingle_62 rfl ?_
        refine ev_bipush (X := M_X8_readSingle) (pc := 63) dX8_readSingle_63 (by decide) ?_
        refine ev_icmp_eq (X := M_X8_readSingle) (pc := 65) (tgt := 74) dX8_readSingle_65 (by decide) (by omega) (by omega) (fun h65 => ?_) (fun h65 => ?_)
        · refine ev_aload_n (X := M_X8_readSingle) (pc := 74) dX8_readSingle_74 rfl ?_
          refine ev_getI (X := M_X8_readSingle) (pc := 75) (ki := 5) dX8_readSingle_75 fl_X8_83_8 hO (by decide) rfl ?_
          refine ev_iconst (X := M_X8_readSingle) (pc := 78) dX8_readSingle_78 ?_
          refine ev_icmp_lt (X := M_X8_readSingle) (pc := 79) (tgt := 84) dX8_readSingle_79 (by decide) (by omega) (by omega) (fun h79 => ?_) (fun h79 => ?_)
          · refine ev_aload_n (X := M_X8_readSingle) (pc := 84) dX8_readSingle_84 rfl ?_
            refine ev_dup (X := M_X8_readSingle) (pc := 85) dX8_readSingle_85 (fun _ q => by cases q) ?_
            refine ev_getI (X := M_X8_readSingle) (pc := 86) (ki := 5) dX8_readSingle_86 fl_X8_83_8 hO (by decide) rfl ?_
            refine ev_iconst (X := M_X8_readSingle) (pc := 89) dX8_readSingle_89 ?_
            refine ev_iadd (X := M_X8_readSingle) (pc := 90) dX8_readSingle_90 ?_
            refine ev_putI (X := M_X8_readSingle) (pc := 91) (ki := 5) dX8_readSingle_91 fl_X8_83_8 (by omega) hO (fun _ h q => by cases h; cases q) (Or.inl rfl) rfl ?_
            refine ev_aload_n (X := M_X8_readSingle) (pc := 94) dX8_readSingle_94 rfl ?_
            refine ev_dup (X := M_X8_readSingle) (pc := 95) dX8_readSingle_95 (fun _ q => by cases q) ?_
            refine ev_getI (X := M_X8_readSingle) (pc := 96) (ki := 4) dX8_readSingle_96 fl_X8_39_8 hO (by decide) rfl ?_
            refine ev_iconst (X := M_X8_readSingle) (pc := 99) dX8_readSingle_99 ?_
            refine ev_iadd (X := M_X8_readSingle) (pc := 100) dX8_readSingle_100 ?_
            refine ev_putI (X := M_X8_readSingle) (pc := 101) (ki := 4) dX8_readSingle_101 fl_X8_39_8 (by omega) hO (fun _ h q => by cases h; cases q) (Or.inl rfl) rfl ?_
            obtain ⟨k', rfl⟩ : ∃ k', k = k' + 1 := ⟨k - 1, by omega⟩
            rw [hgk k' rfl] at hpr
            have hql := hlt (by omega)
            generalize hW2 : wr (wr V t 5 (V t 5 + 1)) t 4 (wr V t 5 (V t 5 + 1) t 4 + 1) = W2
            have f2 : frT t V W2 := by rw [← hW2]; exact (frT.rf.w0 _ _).w0 _ _
            have a2 : W2 t 4 = V t 4 + 1 := by rw [← hW2, wr_self, wr_ne (by omega)]
            have o2 : W2 t 5 = V t 5 + 1 := by rw [← hW2, wr_ne (by omega), wr_self]
            have m2 : W2 (t + 1) = V (t + 1) := by rw [← hW2, wr_off (by omega), wr_off (by omega)]
            have c2 : W2 (t + 2) = V (t + 2) := by rw [← hW2, wr_off (by omega), wr_off (by omega)]
            have h2 := h.fr f2
            have b2 : W2 106 = V 106 := f2 106 (by omega) (by omega) (by omega)
            refine ev_iload_n (X := M_X8_readSingle) (pc := 104) dX8_readSingle_104 rfl ?_
            refine ev_bipush (X := M_X8_readSingle) (pc := 105) dX8_readSingle_105 (by decide) ?_
            refine ev_icmp_ne (X := M_X8_readSingle) (pc := 107) (tgt := 137) dX8_readSingle_107 (by decide) (by omega) (by omega) (fun h107 => ?_) (fun h107 => ?_)
            · refine ev_aload_n (X := M_X8_readSingle) (pc := 137) dX8_readSingle_137 rfl ?_
              refine ev_iconst (X := M_X8_readSingle) (pc := 138) dX8_readSingle_138 ?_
              refine ev_virtX (X := M_X8_readSingle) (Y := M_X8_readLevel) (pc := 139) (ci := 8) dX8_readSingle_139 mk_X8_readLevel rfl kw_494 kw_496 kp_2 hO (ihL k' rfl W2 h2 (by rw [a2]; omega) (by rw [o2, ho]; omega) (by rw [m2, a2]; omega)) rfl (by omega) rfl (Nat.le_of_ble_eq_true rfl) (Nat.zero_add _) (Nat.zero_add _) (fun W3 hW3 => ?_)
              rw [b2, a2] at hW3
              rw [b2, a2]
              rw [if_neg (by omega), if_pos (by omega)] at hpr
              have hB := (lvl_B (f := V 106) (prS_B (f := V 106) (n := n) (u := u) k') 5) (V t 4 + 1) (by omega) (by omega)
              generalize hr : lvl (prS (V 106) n u k') (V 106) n 5 (V t 4 + 1) = r at *
              obtain ⟨o, q'⟩ := r
              obtain ⟨p1, p2, p3, p4⟩ := hW3
              dsimp only at p2 p4
              have b3 : W3 106 = V 106 := by rw [p1 106 (by omega) (by omega) (by omega), b2]
              refine ev_if_eq (X := M_X8_readSingle) (pc := 142) (tgt := 156) dX8_readSingle_142 (by decide) (by unfold okI; split <;> decide) (fun h142 => ?_) (fun h142 => ?_)
              · have hnone : o = none := by
                  cases o with
                  | none => rfl
                  | some l => exact absurd (show (1 : Int) = 0 from h142) (by decide)
                subst hnone
                have hOk : okI (prS (V 106) n u (k' + 1) (V t 4)) = 0 := by rw [hpr]; rfl
                have hF := f2.tr p1
                have h4 : W3 t 4 = (prS (V 106) n u (k' + 1) (V t 4)).2 := by rw [hpr]; exact p2
                have h5 : W3 t 5 = V t 5 + 1 := by rw [p3, o2]
                have hC : ∀ l, (prS (V 106) n u (k' + 1) (V t 4)).1 = some l → W3 (t + 1) 1 = V (t + 1) 1 + l.length ∧ W3 (t + 2) = cw (V (t + 2)) (V (t + 1) 1) l := fun l hl => by rw [hpr] at hl; cases hl
                refine ev_iconst (X := M_X8_readSingle) (pc := 156) dX8_readSingle_156 ?_
                refine ev_istore_nL (X := M_X8_readSingle) (pc := 157) (ls' := [_, _, _]) dX8_readSingle_157 (by decide) rfl ?_
                refine ev_aload_n (X := M_X8_readSingle) (pc := 158) dX8_readSingle_158 rfl ?_
                refine ev_dup (X := M_X8_readSingle) (pc := 159) dX8_readSingle_159 (fun _ q => by cases q) ?_
                refine ev_getI (X := M_X8_readSingle) (pc := 160) (ki := 5) dX8_readSingle_160 fl_X8_83_8 hO (by decide) rfl ?_
                refine ev_iconst (X := M_X8_readSingle) (pc := 163) dX8_readSingle_163 ?_
                refine ev_isub (X := M_X8_readSingle) (pc := 164) dX8_readSingle_164 ?_
                refine ev_putI (X := M_X8_readSingle) (pc := 165) (ki := 5) dX8_readSingle_165 fl_X8_83_8 (by omega) hO (fun _ h q => by cases h; cases q) (Or.inl rfl) rfl ?_
                refine ev_iload_n (X := M_X8_readSingle) (pc := 168) dX8_readSingle_168 rfl ?_
                refine ev_bret (X := M_X8_readSingle) (pc := 169) dX8_readSingle_169 rfl (by omega) ?_
                exact ⟨by rw [hOk], rfl, PR_close hF h4 h5 hC⟩
              · obtain ⟨m, hm2⟩ : ∃ m, o = some m := by
                  cases o with
                  | none => exact absurd rfl h142
                  | some l => exact ⟨l, rfl⟩
                subst hm2
                obtain ⟨B1, B2, B3⟩ := hB
                obtain ⟨p5, p6⟩ := p4 m rfl
                rw [m2] at p5 p6
                rw [c2] at p6
                refine ev_aload_n (X := M_X8_readSingle) (pc := 145) dX8_readSingle_145 rfl ?_
                refine ev_virtR (X := M_X8_readSingle) (Y := M_X8_readClosing) (pc := 146) (ci := 8) dX8_readSingle_146 mk_X8_readClosing rfl kw_598 kw_599 kw_600 hO (c_readClosing (h2.fr p1) (by rw [p2]; omega)) rfl (by omega) rfl (Nat.le_of_ble_eq_true rfl) (Nat.zero_add _) (Nat.zero_add _) ?_
                rw [b3, p2]
                refine ev_if_eq (X := M_X8_readSingle) (pc := 149) (tgt := 156) dX8_readSingle_149 (by decide) (by split <;> decide) (fun h149 => ?_) (fun h149 => ?_)
                · have hne : ¬ sgn (V 106) n q' = 41 := fun z => by rw [if_pos z] at h149; exact absurd h149 (by decide)
                  rw [if_neg hne]
                  have e : prS (V 106) n u (k' + 1) (V t 4) = (none, q') := by rw [hpr]; show (if sgn (V 106) n q' = 41 then _ else _) = _; rw [if_neg hne]
                  have hOk : okI (prS (V 106) n u (k' + 1) (V t 4)) = 0 := by rw [e]; rfl
                  have hF := f2.tr p1
                  have h4 : W3 t 4 = (prS (V 106) n u (k' + 1) (V t 4)).2 := by rw [e]; exact p2
                  have h5 : W3 t 5 = V t 5 + 1 := by rw [p3, o2]
                  have hC : ∀ l, (prS (V 106) n u (k' + 1) (V t 4)).1 = some l → W3 (t + 1) 1 = V (t + 1) 1 + l.length ∧ W3 (t + 2) = cw (V (t + 2)) (V (t + 1) 1) l := fun l hl => by rw [e] at hl; cases hl
                  refine ev_iconst (X := M_X8_readSingle) (pc := 156) dX8_readSingle_156 ?_
                  refine ev_istore_nL (X := M_X8_readSingle) (pc := 157) (ls' := [_, _, _]) dX8_readSingle_157 (by decide) rfl ?_
                  refine ev_aload_n (X := M_X8_readSingle) (pc := 158) dX8_readSingle_158 rfl ?_
                  refine ev_dup (X := M_X8_readSingle) (pc := 159) dX8_readSingle_159 (fun _ q => by cases q) ?_
                  refine ev_getI (X := M_X8_readSingle) (pc := 160) (ki := 5) dX8_readSingle_160 fl_X8_83_8 hO (by decide) rfl ?_
                  refine ev_iconst (X := M_X8_readSingle) (pc := 163) dX8_readSingle_163 ?_
                  refine ev_isub (X := M_X8_readSingle) (pc := 164) dX8_readSingle_164 ?_
                  refine ev_putI (X := M_X8_readSingle) (pc := 165) (ki := 5) dX8_readSingle_165 fl_X8_83_8 (by omega) hO (fun _ h q => by cases h; cases q) (Or.inl rfl) rfl ?_
                  refine ev_iload_n (X := M_X8_readSingle) (pc := 168) dX8_readSingle_168 rfl ?_
                  refine ev_bret (X := M_X8_readSingle) (pc := 169) dX8_readSingle_169 rfl (by omega) ?_
                  exact ⟨by rw [hOk], rfl, PR_close hF h4 h5 hC⟩
                · have hye : sgn (V 106) n q' = 41 := Decidable.byContradiction fun z => h149 (by rw [if_neg z])
                  rw [if_pos hye]
                  have e : prS (V 106) n u (k' + 1) (V t 4) = (some m, q' + 1) := by rw [hpr]; show (if sgn (V 106) n q' = 41 then _ else _) = _; rw [if_pos hye]
                  have hOk : okI (prS (V 106) n u (k' + 1) (V t 4)) = 1 := by rw [e]; rfl
                  have hF : frT t V (wr W3 t 4 (q' + 1)) := (f2.tr p1).w0 _ _
                  have h4 : wr W3 t 4 (q' + 1) t 4 = (prS (V 106) n u (k' + 1) (V t 4)).2 := by rw [e, wr_self]
                  have h5 : wr W3 t 4 (q' + 1) t 5 = V t 5 + 1 := by rw [wr_ne (by omega), p3, o2]
                  have hC : ∀ l, (prS (V 106) n u (k' + 1) (V t 4)).1 = some l → wr W3 t 4 (q' + 1) (t + 1) 1 = V (t + 1) 1 + l.length ∧ wr W3 t 4 (q' + 1) (t + 2) = cw (V (t + 2)) (V (t + 1) 1) l := fun l hl => by
                    rw [e] at hl
                    have hl' : m = l := Option.some.inj hl
                    rw [← hl', wr_off (by omega), wr_off (by omega)]
                    exact ⟨p5, p6⟩
                  refine ev_iconst (X := M_X8_readSingle) (pc := 152) dX8_readSingle_152 ?_
                  refine ev_goto (X := M_X8_readSingle) (pc := 153) (tgt := 157) dX8_readSingle_153 (by decide) ?_
                  refine ev_istore_nL (X := M_X8_readSingle) (pc := 157) (ls' := [_, _, _]) dX8_readSingle_157 (by decide) rfl ?_
                  refine ev_aload_n (X := M_X8_readSingle) (pc := 158) dX8_readSingle_158 rfl ?_
                  refine ev_dup (X := M_X8_readSingle) (pc := 159) dX8_readSingle_159 (fun _ q => by cases q) ?_
                  refine ev_getI (X := M_X8_readSingle) (pc := 160) (ki := 5) dX8_readSingle_160 fl_X8_83_8 hO (by decide) rfl ?_
                  refine ev_iconst (X := M_X8_readSingle) (pc := 163) dX8_readSingle_163 ?_
                  refine ev_isub (X := M_X8_readSingle) (pc := 164) dX8_readSingle_164 ?_
                  refine ev_putI (X := M_X8_readSingle) (pc := 165) (ki := 5) dX8_readSingle_165 fl_X8_83_8 (by omega) hO (fun _ h q => by cases h; cases q) (Or.inl rfl) rfl ?_
                  refine ev_iload_n (X := M_X8_readSingle) (pc := 168) dX8_readSingle_168 rfl ?_
                  refine ev_bret (X := M_X8_readSingle) (pc := 169) dX8_readSingle_169 rfl (by omega) ?_
                  exact ⟨by rw [hOk], rfl, PR_close hF h4 h5 hC⟩
            · refine ev_aload_n (X := M_X8_readSingle) (pc := 110) dX8_readSingle_110 rfl ?_
              refine ev_virtX (X := M_X8_readSingle) (Y := M_X8_readSingle) (pc := 111) (ci := 8) dX8_readSingle_111 mk_X8_readSingle rfl kw_498 kw_500 kp_3 hO (ihS k' rfl W2 h2 (by rw [a2]; omega) (by rw [o2, ho]; omega) (by rw [m2, a2]; omega)) rfl (by omega) rfl (Nat.le_of_ble_eq_true rfl) (Nat.zero_add _) (Nat.zero_add _) (fun W3 hW3 => ?_)
              rw [b2, a2] at hW3
              rw [b2, a2]
              rw [if_pos (by omega)] at hpr
              have hB := (prS_B (f := V 106) (n := n) (u := u) k') (V t 4 + 1) (by omega) (by omega)
              generalize hr : prS (V 106) n u k' (V t 4 + 1) = r at *
              obtain ⟨o, q'⟩ := r
              obtain ⟨p1, p2, p3, p4⟩ := hW3
              dsimp only at p2 p4
              refine ev_if_eq (X := M_X8_readSingle) (pc := 114) (tgt := 133) dX8_readSingle_114 (by decide) (by unfold okI; split <;> decide) (fun h114 => ?_) (fun h114 => ?_)
              · have hnone : o = none := by
                  cases o with
                  | none => rfl
                  | some l => exact absurd (show (1 : Int) = 0 from h114) (by decide)
                subst hnone
                have hOk : okI (prS (V 106) n u (k' + 1) (V t 4)) = 0 := by rw [hpr]; rfl
                have hF := f2.tr p1
                have h4 : W3 t 4 = (prS (V 106) n u (k' + 1) (V t 4)).2 := by rw [hpr]; exact p2
                have h5 : W3 t 5 = V t 5 + 1 := by rw [p3, o2]
                have hC : ∀ l, (prS (V 106) n u (k' + 1) (V t 4)).1 = some l → W3 (t + 1) 1 = V (t + 1) 1 + l.length ∧ W3 (t + 2) = cw (V (t + 2)) (V (t + 1) 1) l := fun l hl => by rw [hpr] at hl; cases hl
                refine ev_iconst (X := M_X8_readSingle) (pc := 133) dX8_readSingle_133 ?_
                refine ev_goto (X := M_X8_readSingle) (pc := 134) (tgt := 157) dX8_readSingle_134 (by decide) ?_
                refine ev_istore_nL (X := M_X8_readSingle) (pc := 157) (ls' := [_, _, _]) dX8_readSingle_157 (by decide) rfl ?_
                refine ev_aload_n (X := M_X8_readSingle) (pc := 158) dX8_readSingle_158 rfl ?_
                refine ev_dup (X := M_X8_readSingle) (pc := 159) dX8_readSingle_159 (fun _ q => by cases q) ?_
                refine ev_getI (X := M_X8_readSingle) (pc := 160) (ki := 5) dX8_readSingle_160 fl_X8_83_8 hO (by decide) rfl ?_
                refine ev_iconst (X := M_X8_readSingle) (pc := 163) dX8_readSingle_163 ?_
                refine ev_isub (X := M_X8_readSingle) (pc := 164) dX8_readSingle_164 ?_
                refine ev_putI (X := M_X8_readSingle) (pc := 165) (ki := 5) dX8_readSingle_165 fl_X8_83_8 (by omega) hO (fun _ h q => by cases h; cases q) (Or.inl rfl) rfl ?_
                refine ev_iload_n (X := M_X8_readSingle) (pc := 168) dX8_readSingle_168 rfl ?_
                refine ev_bret (X := M_X8_readSingle) (pc := 169) dX8_readSingle_169 rfl (by omega) ?_
                exact ⟨by rw [hOk], rfl, PR_close hF h4 h5 hC⟩
              · obtain ⟨m, hm2⟩ : ∃ m, o = some m := by
                  cases o with
                  | none => exact absurd rfl h114
                  | some l => exact ⟨l, rfl⟩
                subst hm2
                obtain ⟨B1, B2, B3⟩ := hB
                obtain ⟨p5, p6⟩ := p4 m rfl
                rw [m2] at p5 p6
                rw [c2] at p6
                refine ev_aload_n (X := M_X8_readSingle) (pc := 117) dX8_readSingle_117 rfl ?_
                refine ev_getRe (X := M_X8_readSingle) (pc := 118) dX8_readSingle_118 fl_X8_28_8 hO rfl hrc ?_
                refine ev_bipush (X := M_X8_readSingle) (pc := 121) dX8_readSingle_121 (by decide) ?_
                refine ev_virtR (X := M_X8_readSingle) (Y := M_X5_add) (pc := 123) (ci := 5) dX8_readSingle_123 mk_X5_add rfl kw_510 kw_450 kw_451 hrow.1 (c_Row_add hrow (by rw [p5]; omega)) rfl (by omega) rfl (Nat.le_of_ble_eq_true rfl) (Nat.zero_add _) (Nat.zero_add _) ?_
                rw [if_pos (show W3 (t + 1) 1 < n by rw [p5]; omega), if_pos (show W3 (t + 1) 1 < n by rw [p5]; omega)]
                refine ev_if_eq (X := M_X8_readSingle) (pc := 126) (tgt := 133) dX8_readSingle_126 (by decide) (by decide) (fun h126 => ?_) (fun h126 => ?_)
                · exact absurd h126 (by decide)
                · have hOk : okI (prS (V 106) n u (k' + 1) (V t 4)) = 1 := by rw [hpr]; rfl
                  have hF : frT t V (rAdd W3 (t + 1) (t + 2) (-33)) := ((f2.tr p1).w2 _ _).w1 _ _
                  have h4 : rAdd W3 (t + 1) (t + 2) (-33) t 4 = (prS (V 106) n u (k' + 1) (V t 4)).2 := by
                    unfold rAdd
                    rw [wr_off (by omega), wr_off (by omega), hpr]
                    exact p2
                  have h5 : rAdd W3 (t + 1) (t + 2) (-33) t 5 = V t 5 + 1 := by
                    unfold rAdd
                    rw [wr_off (by omega), wr_off (by omega), p3, o2]
                  have hC : ∀ l, (prS (V 106) n u (k' + 1) (V t 4)).1 = some l → rAdd W3 (t + 1) (t + 2) (-33) (t + 1) 1 = V (t + 1) 1 + l.length ∧ rAdd W3 (t + 1) (t + 2) (-33) (t + 2) = cw (V (t + 2)) (V (t + 1) 1) l := fun l hl => by
                    rw [hpr] at hl
                    have hl' : m ++ [-33] = l := Option.some.inj hl
                    rw [← hl']
                    unfold rAdd
                    refine ⟨?_, ?_⟩
                    · rw [wr_self, p5]
                      simp only [List.length_append, List.length_cons, List.length_nil]
                      omega
                    · rw [wr_off (by omega), wr_row, cw_app, p5, p6]
                      rfl
                  refine ev_iconst (X := M_X8_readSingle) (pc := 129) dX8_readSingle_129 ?_
                  refine ev_goto (X := M_X8_readSingle) (pc := 130) (tgt := 157) dX8_readSingle_130 (by decide) ?_
                  refine ev_istore_nL (X := M_X8_readSingle) (pc := 157) (ls' := [_, _, _]) dX8_readSingle_157 (by decide) rfl ?_
                  refine ev_aload_n (X := M_X8_readSingle) (pc := 158) dX8_readSingle_158 rfl ?_
                  refine ev_dup (X := M_X8_readSingle) (pc := 159) dX8_readSingle_159 (fun _ q => by cases q) ?_
                  refine ev_getI (X := M_X8_readSingle) (pc := 160) (ki := 5) dX8_readSingle_160 fl_X8_83_8 hO (by decide) rfl ?_
                  refine ev_iconst (X := M_X8_readSingle) (pc := 163) dX8_readSingle_163 ?_
                  refine ev_isub (X := M_X8_readSingle) (pc := 164) dX8_readSingle_164 ?_
                  refine ev_putI (X := M_X8_readSingle) (pc := 165) (ki := 5) dX8_readSingle_165 fl_X8_83_8 (by omega) hO (fun _ h q => by cases h; cases q) (Or.inl rfl) rfl ?_
                  refine ev_iload_n (X := M_X8_readSingle) (pc := 168) dX8_readSingle_168 rfl ?_
                  refine ev_bret (X := M_X8_readSingle) (pc := 169) dX8_readSingle_169 rfl (by omega) ?_
                  exact ⟨by rw [hOk], rfl, PR_close hF h4 h5 hC⟩
          · refine ev_iconst (X := M_X8_readSingle) (pc := 82) dX8_readSingle_82 ?_
            refine ev_bret (X := M_X8_readSingle) (pc := 83) dX8_readSingle_83 rfl (by omega) ?_
            have e : prS (V 106) n u k (V t 4) = (none, V t 4) := by rw [hpr, if_neg (by omega), if_neg (by omega)]
            rw [e]
            exact ⟨rfl, rfl, frT.rf, rfl, rfl, fun l hl => by cases hl⟩
        · refine ev_iload_n (X := M_X8_readSingle) (pc := 68) dX8_readSingle_68 rfl ?_
          refine ev_bipush (X := M_X8_readSingle) (pc := 69) dX8_readSingle_69 (by decide) ?_
          refine ev_icmp_ne (X := M_X8_readSingle) (pc := 71) (tgt := 82) dX8_readSingle_71 (by decide) (by omega) (by omega) (fun h71 => ?_) (fun h71 => ?_)
          · refine ev_iconst (X := M_X8_readSingle) (pc := 82) dX8_readSingle_82 ?_
            refine ev_bret (X := M_X8_readSingle) (pc := 83) dX8_readSingle_83 rfl (by omega) ?_
            have e : prS (V 106) n u k (V t 4) = (none, V t 4) := by rw [hpr, if_neg (by omega), if_neg (by omega)]
            rw [e]
            exact ⟨rfl, rfl, frT.rf, rfl, rfl, fun l hl => by cases hl⟩
          · refine ev_aload_n (X := M_X8_readSingle) (pc := 74) dX8_readSingle_74 rfl ?_
            refine ev_getI (X := M_X8_readSingle) (pc := 75) (ki := 5) dX8_readSingle_75 fl_X8_83_8 hO (by decide) rfl ?_
            refine ev_iconst (X := M_X8_readSingle) (pc := 78) dX8_readSingle_78 ?_
            refine ev_icmp_lt (X := M_X8_readSingle) (pc := 79) (tgt := 84) dX8_readSingle_79 (by decide) (by omega) (by omega) (fun h79 => ?_) (fun h79 => ?_)
            · refine ev_aload_n (X := M_X8_readSingle) (pc := 84) dX8_readSingle_84 rfl ?_
              refine ev_dup (X := M_X8_readSingle) (pc := 85) dX8_readSingle_85 (fun _ q => by cases q) ?_
              refine ev_getI (X := M_X8_readSingle) (pc := 86) (ki := 5) dX8_readSingle_86 fl_X8_83_8 hO (by decide) rfl ?_
              refine ev_iconst (X := M_X8_readSingle) (pc := 89) dX8_readSingle_89 ?_
              refine ev_iadd (X := M_X8_readSingle) (pc := 90) dX8_readSingle_90 ?_
              refine ev_putI (X := M_X8_readSingle) (pc := 91) (ki := 5) dX8_readSingle_91 fl_X8_83_8 (by omega) hO (fun _ h q => by cases h; cases q) (Or.inl rfl) rfl ?_
              refine ev_aload_n (X := M_X8_readSingle) (pc := 94) dX8_readSingle_94 rfl ?_
              refine ev_dup (X := M_X8_readSingle) (pc := 95) dX8_readSingle_95 (fun _ q => by cases q) ?_
              refine ev_getI (X := M_X8_readSingle) (pc := 96) (ki := 4) dX8_readSingle_96 fl_X8_39_8 hO (by decide) rfl ?_
              refine ev_iconst (X := M_X8_readSingle) (pc := 99) dX8_readSingle_99 ?_
              refine ev_iadd (X := M_X8_readSingle) (pc := 100) dX8_readSingle_100 ?_
              refine ev_putI (X := M_X8_readSingle) (pc := 101) (ki := 4) dX8_readSingle_101 fl_X8_39_8 (by omega) hO (fun _ h q => by cases h; cases q) (Or.inl rfl) rfl ?_
              obtain ⟨k', rfl⟩ : ∃ k', k = k' + 1 := ⟨k - 1, by omega⟩
              rw [hgk k' rfl] at hpr
              have hql := hlt (by omega)
              generalize hW2 : wr (wr V t 5 (V t 5 + 1)) t 4 (wr V t 5 (V t 5 + 1) t 4 + 1) = W2
              have f2 : frT t V W2 := by rw [← hW2]; exact (frT.rf.w0 _ _).w0 _ _
              have a2 : W2 t 4 = V t 4 + 1 := by rw [← hW2, wr_self, wr_ne (by omega)]
              have o2 : W2 t 5 = V t 5 + 1 := by rw [← hW2, wr_ne (by omega), wr_self]
              have m2 : W2 (t + 1) = V (t + 1) := by rw [← hW2, wr_off (by omega), wr_off (by omega)]
              have c2 : W2 (t + 2) = V (t + 2) := by rw [← hW2, wr_off (by omega), wr_off (by omega)]
              have h2 := h.fr f2
              have b2 : W2 106 = V 106 := f2 106 (by omega) (by omega) (by omega)
              refine ev_iload_n (X := M_X8_readSingle) (pc := 104) dX8_readSingle_104 rfl ?_
              refine ev_bipush (X := M_X8_readSingle) (pc := 105) dX8_readSingle_105 (by decide) ?_
              refine ev_icmp_ne (X := M_X8_readSingle) (pc := 107) (tgt := 137) dX8_readSingle_107 (by decide) (by omega) (by omega) (fun h107 => ?_) (fun h107 => ?_)
              · refine ev_aload_n (X := M_X8_readSingle) (pc := 137) dX8_readSingle_137 rfl ?_
                refine ev_iconst (X := M_X8_readSingle) (pc := 138) dX8_readSingle_138 ?_
                refine ev_virtX (X := M_X8_readSingle) (Y := M_X8_readLevel) (pc := 139) (ci := 8) dX8_readSingle_139 mk_X8_readLevel rfl kw_494 kw_496 kp_2 hO (ihL k' rfl W2 h2 (by rw [a2]; omega) (by rw [o2, ho]; omega) (by rw [m2, a2]; omega)) rfl (by omega) rfl (Nat.le_of_ble_eq_true rfl) (Nat.zero_add _) (Nat.zero_add _) (fun W3 hW3 => ?_)
                rw [b2, a2] at hW3
                rw [b2, a2]
                rw [if_neg (by omega), if_pos (by omega)] at hpr
                have hB := (lvl_B (f := V 106) (prS_B (f := V 106) (n := n) (u := u) k') 5) (V t 4 + 1) (by omega) (by omega)
                generalize hr : lvl (prS (V 106) n u k') (V 106) n 5 (V t 4 + 1) = r at *
                obtain ⟨o, q'⟩ := r
                obtain ⟨p1, p2, p3, p4⟩ := hW3
                dsimp only at p2 p4
                have b3 : W3 106 = V 106 := by rw [p1 106 (by omega) (by omega) (by omega), b2]
                refine ev_if_eq (X := M_X8_readSingle) (pc := 142) (tgt := 156) dX8_readSingle_142 (by decide) (by unfold okI; split <;> decide) (fun h142 => ?_) (fun h142 => ?_)
                · have hnone : o = none := by
                    cases o with
                    | none => rfl
                    | some l => exact absurd (show (1 : Int) = 0 from h142) (by decide)
                  subst hnone
                  have hOk : okI (prS (V 106) n u (k' + 1) (V t 4)) = 0 := by rw [hpr]; rfl
                  have hF := f2.tr p1
                  have h4 : W3 t 4 = (prS (V 106) n u (k' + 1) (V t 4)).2 := by rw [hpr]; exact p2
                  have h5 : W3 t 5 = V t 5 + 1 := by rw [p3, o2]
                  have hC : ∀ l, (prS (V 106) n u (k' + 1) (V t 4)).1 = some l → W3 (t + 1) 1 = V (t + 1) 1 + l.length ∧ W3 (t + 2) = cw (V (t + 2)) (V (t + 1) 1) l := fun l hl => by rw [hpr] at hl; cases hl
                  refine ev_iconst (X := M_X8_readSingle) (pc := 156) dX8_readSingle_156 ?_
                  refine ev_istore_nL (X := M_X8_readSingle) (pc := 157) (ls' := [_, _, _]) dX8_readSingle_157 (by decide) rfl ?_
                  refine ev_aload_n (X := M_X8_readSingle) (pc := 158) dX8_readSingle_158 rfl ?_
                  refine ev_dup (X := M_X8_readSingle) (pc := 159) dX8_readSingle_159 (fun _ q => by cases q) ?_
                  refine ev_getI (X := M_X8_readSingle) (pc := 160) (ki := 5) dX8_readSingle_160 fl_X8_83_8 hO (by decide) rfl ?_
                  refine ev_iconst (X := M_X8_readSingle) (pc := 163) dX8_readSingle_163 ?_
                  refine ev_isub (X := M_X8_readSingle) (pc := 164) dX8_readSingle_164 ?_
                  refine ev_putI (X := M_X8_readSingle) (pc := 165) (ki := 5) dX8_readSingle_165 fl_X8_83_8 (by omega) hO (fun _ h q => by cases h; cases q) (Or.inl rfl) rfl ?_
                  refine ev_iload_n (X := M_X8_readSingle) (pc := 168) dX8_readSingle_168 rfl ?_
                  refine ev_bret (X := M_X8_readSingle) (pc := 169) dX8_readSingle_169 rfl (by omega) ?_
                  exact ⟨by rw [hOk], rfl, PR_close hF h4 h5 hC⟩
                · obtain ⟨m, hm2⟩ : ∃ m, o = some m := by
                    cases o with
                    | none => exact absurd rfl h142
                    | some l => exact ⟨l, rfl⟩
                  subst hm2
                  obtain ⟨B1, B2, B3⟩ := hB
                  obtain ⟨p5, p6⟩ := p4 m rfl
                  rw [m2] at p5 p6
                  rw [c2] at p6
                  refine ev_aload_n (X := M_X8_readSingle) (pc := 145) dX8_readSingle_145 rfl ?_
                  refine ev_virtR (X := M_X8_readSingle) (Y := M_X8_readClosing) (pc := 146) (ci := 8) dX8_readSingle_146 mk_X8_readClosing rfl kw_598 kw_599 kw_600 hO (c_readClosing (h2.fr p1) (by rw [p2]; omega)) rfl (by omega) rfl (Nat.le_of_ble_eq_true rfl) (Nat.zero_add _) (Nat.zero_add _) ?_
                  rw [b3, p2]
                  refine ev_if_eq (X := M_X8_readSingle) (pc := 149) (tgt := 156) dX8_readSingle_149 (by decide) (by split <;> decide) (fun h149 => ?_) (fun h149 => ?_)
                  · have hne : ¬ sgn (V 106) n q' = 41 := fun z => by rw [if_pos z] at h149; exact absurd h149 (by decide)
                    rw [if_neg hne]
                    have e : prS (V 106) n u (k' + 1) (V t 4) = (none, q') := by rw [hpr]; show (if sgn (V 106) n q' = 41 then _ else _) = _; rw [if_neg hne]
                    have hOk : okI (prS (V 106) n u (k' + 1) (V t 4)) = 0 := by rw [e]; rfl
                    have hF := f2.tr p1
                    have h4 : W3 t 4 = (prS (V 106) n u (k' + 1) (V t 4)).2 := by rw [e]; exact p2
                    have h5 : W3 t 5 = V t 5 + 1 := by rw [p3, o2]
                    have hC : ∀ l, (prS (V 106) n u (k' + 1) (V t 4)).1 = some l → W3 (t + 1) 1 = V (t + 1) 1 + l.length ∧ W3 (t + 2) = cw (V (t + 2)) (V (t + 1) 1) l := fun l hl => by rw [e] at hl; cases hl
                    refine ev_iconst (X := M_X8_readSingle) (pc := 156) dX8_readSingle_156 ?_
                    refine ev_istore_nL (X := M_X8_readSingle) (pc := 157) (ls' := [_, _, _]) dX8_readSingle_157 (by decide) rfl ?_
                    refine ev_aload_n (X := M_X8_readSingle) (pc := 158) dX8_readSingle_158 rfl ?_
                    refine ev_dup (X := M_X8_readSingle) (pc := 159) dX8_readSingle_159 (fun _ q => by cases q) ?_
                    refine ev_getI (X := M_X8_readSingle) (pc := 160) (ki := 5) dX8_readSingle_160 fl_X8_83_8 hO (by decide) rfl ?_
                    refine ev_iconst (X := M_X8_readSingle) (pc := 163) dX8_readSingle_163 ?_
                    refine ev_isub (X := M_X8_readSingle) (pc := 164) dX8_readSingle_164 ?_
                    refine ev_putI (X := M_X8_readSingle) (pc := 165) (ki := 5) dX8_readSingle_165 fl_X8_83_8 (by omega) hO (fun _ h q => by cases h; cases q) (Or.inl rfl) rfl ?_
                    refine ev_iload_n (X := M_X8_readSingle) (pc := 168) dX8_readSingle_168 rfl ?_
                    refine ev_bret (X := M_X8_readSingle) (pc := 169) dX8_readSingle_169 rfl (by omega) ?_
                    exact ⟨by rw [hOk], rfl, PR_close hF h4 h5 hC⟩
                  · have hye : sgn (V 106) n q' = 41 := Decidable.byContradiction fun z => h149 (by rw [if_neg z])
                    rw [if_pos hye]
                    have e : prS (V 106) n u (k' + 1) (V t 4) = (some m, q' + 1) := by rw [hpr]; show (if sgn (V 106) n q' = 41 then _ else _) = _; rw [if_pos hye]
                    have hOk : okI (prS (V 106) n u (k' + 1) (V t 4)) = 1 := by rw [e]; rfl
                    have hF : frT t V (wr W3 t 4 (q' + 1)) := (f2.tr p1).w0 _ _
                    have h4 : wr W3 t 4 (q' + 1) t 4 = (prS (V 106) n u (k' + 1) (V t 4)).2 := by rw [e, wr_self]
                    have h5 : wr W3 t 4 (q' + 1) t 5 = V t 5 + 1 := by rw [wr_ne (by omega), p3, o2]
                    have hC : ∀ l, (prS (V 106) n u (k' + 1) (V t 4)).1 = some l → wr W3 t 4 (q' + 1) (t + 1) 1 = V (t + 1) 1 + l.length ∧ wr W3 t 4 (q' + 1) (t + 2) = cw (V (t + 2)) (V (t + 1) 1) l := fun l hl => by
                      rw [e] at hl
                      have hl' : m = l := Option.some.inj hl
                      rw [← hl', wr_off (by omega), wr_off (by omega)]
                      exact ⟨p5, p6⟩
                    refine ev_iconst (X := M_X8_readSingle) (pc := 152) dX8_readSingle_152 ?_
                    refine ev_goto (X := M_X8_readSingle) (pc := 153) (tgt := 157) dX8_readSingle_153 (by decide) ?_
                    refine ev_istore_nL (X := M_X8_readSingle) (pc := 157) (ls' := [_, _, _]) dX8_readSingle_157 (by decide) rfl ?_
                    refine ev_aload_n (X := M_X8_readSingle) (pc := 158) dX8_readSingle_158 rfl ?_
                    refine ev_dup (X := M_X8_readSingle) (pc := 159) dX8_readSingle_159 (fun _ q => by cases q) ?_
                    refine ev_getI (X := M_X8_readSingle) (pc := 160) (ki := 5) dX8_readSingle_160 fl_X8_83_8 hO (by decide) rfl ?_
                    refine ev_iconst (X := M_X8_readSingle) (pc := 163) dX8_readSingle_163 ?_
                    refine ev_isub (X := M_X8_readSingle) (pc := 164) dX8_readSingle_164 ?_
                    refine ev_putI (X := M_X8_readSingle) (pc := 165) (ki := 5) dX8_readSingle_165 fl_X8_83_8 (by omega) hO (fun _ h q => by cases h; cases q) (Or.inl rfl) rfl ?_
                    refine ev_iload_n (X := M_X8_readSingle) (pc := 168) dX8_readSingle_168 rfl ?_
                    refine ev_bret (X := M_X8_readSingle) (pc := 169) dX8_readSingle_169 rfl (by omega) ?_
                    exact ⟨by rw [hOk], rfl, PR_close hF h4 h5 hC⟩
              · refine ev_aload_n (X := M_X8_readSingle) (pc := 110) dX8_readSingle_110 rfl ?_
                refine ev_virtX (X := M_X8_readSingle) (Y := M_X8_readSingle) (pc := 111) (ci := 8) dX8_readSingle_111 mk_X8_readSingle rfl kw_498 kw_500 kp_3 hO (ihS k' rfl W2 h2 (by rw [a2]; omega) (by rw [o2, ho]; omega) (by rw [m2, a2]; omega)) rfl (by omega) rfl (Nat.le_of_ble_eq_true rfl) (Nat.zero_add _) (Nat.zero_add _) (fun W3 hW3 => ?_)
                rw [b2, a2] at hW3
                rw [b2, a2]
                rw [if_pos (by omega)] at hpr
                have hB := (prS_B (f := V 106) (n := n) (u := u) k') (V t 4 + 1) (by omega) (by omega)
                generalize hr : prS (V 106) n u k' (V t 4 + 1) = r at *
                obtain ⟨o, q'⟩ := r
                obtain ⟨p1, p2, p3, p4⟩ := hW3
                dsimp only at p2 p4
                refine ev_if_eq (X := M_X8_readSingle) (pc := 114) (tgt := 133) dX8_readSingle_114 (by decide) (by unfold okI; split <;> decide) (fun h114 => ?_) (fun h114 => ?_)
                · have hnone : o = none := by
                    cases o with
                    | none => rfl
                    | some l => exact absurd (show (1 : Int) = 0 from h114) (by decide)
                  subst hnone
                  have hOk : okI (prS (V 106) n u (k' + 1) (V t 4)) = 0 := by rw [hpr]; rfl
                  have hF := f2.tr p1
                  have h4 : W3 t 4 = (prS (V 106) n u (k' + 1) (V t 4)).2 := by rw [hpr]; exact p2
                  have h5 : W3 t 5 = V t 5 + 1 := by rw [p3, o2]
                  have hC : ∀ l, (prS (V 106) n u (k' + 1) (V t 4)).1 = some l → W3 (t + 1) 1 = V (t + 1) 1 + l.length ∧ W3 (t + 2) = cw (V (t + 2)) (V (t + 1) 1) l := fun l hl => by rw [hpr] at hl; cases hl
                  refine ev_iconst (X := M_X8_readSingle) (pc := 133) dX8_readSingle_133 ?_
                  refine ev_goto (X := M_X8_readSingle) (pc := 134) (tgt := 157) dX8_readSingle_134 (by decide) ?_
                  refine ev_istore_nL (X := M_X8_readSingle) (pc := 157) (ls' := [_, _, _]) dX8_readSingle_157 (by decide) rfl ?_
                  refine ev_aload_n (X := M_X8_readSingle) (pc := 158) dX8_readSingle_158 rfl ?_
                  refine ev_dup (X := M_X8_readSingle) (pc := 159) dX8_readSingle_159 (fun _ q => by cases q) ?_
                  refine ev_getI (X := M_X8_readSingle) (pc := 160) (ki := 5) dX8_readSingle_160 fl_X8_83_8 hO (by decide) rfl ?_
                  refine ev_iconst (X := M_X8_readSingle) (pc := 163) dX8_readSingle_163 ?_
                  refine ev_isub (X := M_X8_readSingle) (pc := 164) dX8_readSingle_164 ?_
                  refine ev_putI (X := M_X8_readSingle) (pc := 165) (ki := 5) dX8_readSingle_165 fl_X8_83_8 (by omega) hO (fun _ h q => by cases h; cases q) (Or.inl rfl) rfl ?_
                  refine ev_iload_n (X := M_X8_readSingle) (pc := 168) dX8_readSingle_168 rfl ?_
                  refine ev_bret (X := M_X8_readSingle) (pc := 169) dX8_readSingle_169 rfl (by omega) ?_
                  exact ⟨by rw [hOk], rfl, PR_close hF h4 h5 hC⟩
                · obtain ⟨m, hm2⟩ : ∃ m, o = some m := by
                    cases o with
                    | none => exact absurd rfl h114
                    | some l => exact ⟨l, rfl⟩
                  subst hm2
                  obtain ⟨B1, B2, B3⟩ := hB
                  obtain ⟨p5, p6⟩ := p4 m rfl
                  rw [m2] at p5 p6
                  rw [c2] at p6
                  refine ev_aload_n (X := M_X8_readSingle) (pc := 117) dX8_readSingle_117 rfl ?_
                  refine ev_getRe (X := M_X8_readSingle) (pc := 118) dX8_readSingle_118 fl_X8_28_8 hO rfl hrc ?_
                  refine ev_bipush (X := M_X8_readSingle) (pc := 121) dX8_readSingle_121 (by decide) ?_
                  refine ev_virtR (X := M_X8_readSingle) (Y := M_X5_add) (pc := 123) (ci := 5) dX8_readSingle_123 mk_X5_add rfl kw_510 kw_450 kw_451 hrow.1 (c_Row_add hrow (by rw [p5]; omega)) rfl (by omega) rfl (Nat.le_of_ble_eq_true rfl) (Nat.zero_add _) (Nat.zero_add _) ?_
                  rw [if_pos (show W3 (t + 1) 1 < n by rw [p5]; omega), if_pos (show W3 (t + 1) 1 < n by rw [p5]; omega)]
                  refine ev_if_eq (X := M_X8_readSingle) (pc := 126) (tgt := 133) dX8_readSingle_126 (by decide) (by decide) (fun h126 => ?_) (fun h126 => ?_)
                  · exact absurd h126 (by decide)
                  · have hOk : okI (prS (V 106) n u (k' + 1) (V t 4)) = 1 := by rw [hpr]; rfl
                    have hF : frT t V (rAdd W3 (t + 1) (t + 2) (-33)) := ((f2.tr p1).w2 _ _).w1 _ _
                    have h4 : rAdd W3 (t + 1) (t + 2) (-33) t 4 = (prS (V 106) n u (k' + 1) (V t 4)).2 := by
                      unfold rAdd
                      rw [wr_off (by omega), wr_off (by omega), hpr]
                      exact p2
                    have h5 : rAdd W3 (t + 1) (t + 2) (-33) t 5 = V t 5 + 1 := by
                      unfold rAdd
                      rw [wr_off (by omega), wr_off (by omega), p3, o2]
                    have hC : ∀ l, (prS (V 106) n u (k' + 1) (V t 4)).1 = some l → rAdd W3 (t + 1) (t + 2) (-33) (t + 1) 1 = V (t + 1) 1 + l.length ∧ rAdd W3 (t + 1) (t + 2) (-33) (t + 2) = cw (V (t + 2)) (V (t + 1) 1) l := fun l hl => by
                      rw [hpr] at hl
                      have hl' : m ++ [-33] = l := Option.some.inj hl
                      rw [← hl']
                      unfold rAdd
                      refine ⟨?_, ?_⟩
                      · rw [wr_self, p5]
                        simp only [List.length_append, List.length_cons, List.length_nil]
                        omega
                      · rw [wr_off (by omega), wr_row, cw_app, p5, p6]
                        rfl
                    refine ev_iconst (X := M_X8_readSingle) (pc := 129) dX8_readSingle_129 ?_
                    refine ev_goto (X := M_X8_readSingle) (pc := 130) (tgt := 157) dX8_readSingle_130 (by decide) ?_
                    refine ev_istore_nL (X := M_X8_readSingle) (pc := 157) (ls' := [_, _, _]) dX8_readSingle_157 (by decide) rfl ?_
                    refine ev_aload_n (X := M_X8_readSingle) (pc := 158) dX8_readSingle_158 rfl ?_
                    refine ev_dup (X := M_X8_readSingle) (pc := 159) dX8_readSingle_159 (fun _ q => by cases q) ?_
                    refine ev_getI (X := M_X8_readSingle) (pc := 160) (ki := 5) dX8_readSingle_160 fl_X8_83_8 hO (by decide) rfl ?_
                    refine ev_iconst (X := M_X8_readSingle) (pc := 163) dX8_readSingle_163 ?_
                    refine ev_isub (X := M_X8_readSingle) (pc := 164) dX8_readSingle_164 ?_
                    refine ev_putI (X := M_X8_readSingle) (pc := 165) (ki := 5) dX8_readSingle_165 fl_X8_83_8 (by omega) hO (fun _ h q => by cases h; cases q) (Or.inl rfl) rfl ?_
                    refine ev_iload_n (X := M_X8_readSingle) (pc := 168) dX8_readSingle_168 rfl ?_
                    refine ev_bret (X := M_X8_readSingle) (pc := 169) dX8_readSingle_169 rfl (by omega) ?_
                    exact ⟨by rw [hOk], rfl, PR_close hF h4 h5 hC⟩
            · refine ev_iconst (X := M_X8_readSingle) (pc := 82) dX8_readSingle_82 ?_
              refine ev_bret (X := M_X8_readSingle) (pc := 83) dX8_readSingle_83 rfl (by omega) ?_
              have e : prS (V 106) n u k (V t 4) = (none, V t 4) := by rw [hpr, if_neg (by omega), if_neg (by omega)]
              rw [e]
              exact ⟨rfl, rfl, frT.rf, rfl, rfl, fun l hl => by cases hl⟩
      · have hyes : 0 ≤ nmI u s := Decidable.byContradiction fun z => h30 (by rw [if_neg (fun q => z q.2)])
        rw [if_pos hyes] at hpr
        have hql := hlt (by omega)
        refine ev_aload_n (X := M_X8_readSingle) (pc := 33) dX8_readSingle_33 rfl ?_
        refine ev_dup (X := M_X8_readSingle) (pc := 34) dX8_readSingle_34 (fun _ q => by cases q) ?_
        refine ev_getI (X := M_X8_readSingle) (pc := 35) (ki := 4) dX8_readSingle_35 fl_X8_39_8 hO (by decide) rfl ?_
        refine ev_iconst (X := M_X8_readSingle) (pc := 38) dX8_readSingle_38 ?_
        refine ev_iadd (X := M_X8_readSingle) (pc := 39) dX8_readSingle_39 ?_
        refine ev_putI (X := M_X8_readSingle) (pc := 40) (ki := 4) dX8_readSingle_40 fl_X8_39_8 (by omega) hO (fun _ h q => by cases h; cases q) (Or.inl rfl) rfl ?_
        refine ev_aload_n (X := M_X8_readSingle) (pc := 43) dX8_readSingle_43 rfl ?_
        refine ev_getRe (X := M_X8_readSingle) (pc := 44) dX8_readSingle_44 fl_X8_28_8 hO rfl hrc ?_
        refine ev_iconst (X := M_X8_readSingle) (pc := 47) dX8_readSingle_47 ?_
        refine ev_aload_n (X := M_X8_readSingle) (pc := 48) dX8_readSingle_48 rfl ?_
        refine ev_getRe (X := M_X8_readSingle) (pc := 49) dX8_readSingle_49 fl_X8_15_8 hO rfl hrn ?_
        refine ev_iload_n (X := M_X8_readSingle) (pc := 52) dX8_readSingle_52 rfl ?_
        refine ev_i2c (X := M_X8_readSingle) (pc := 53) dX8_readSingle_53 ?_
        rw [i2c_id (by omega)]
        refine ev_virtSR (X := M_X8_readSingle) (Y := M_J0_indexOf_0f7a4) (pc := 54) dX8_readSingle_54 mk_J0_indexOf_0f7a4 kw_514 kw_515 kw_516 hSu.1.1 (j_indexOf (by have := (h.fr (frT.rf.w0 4 (V t 4 + 1))).2.1 u.toNat (by omega); exact this.1) (by omega)) rfl (by omega) rfl (Nat.le_of_ble_eq_true rfl) (Nat.zero_add _) (Nat.zero_add _) ?_
        rw [wr_off (show 20 + u.toNat ≠ t by omega), hix]
        refine ev_isub (X := M_X8_readSingle) (pc := 57) dX8_readSingle_57 ?_
        refine ev_virtR (X := M_X8_readSingle) (Y := M_X5_add) (pc := 58) (ci := 5) dX8_readSingle_58 mk_X5_add rfl kw_510 kw_450 kw_451 hrow.1 (c_Row_add hrow (by rw [wr_off (by omega)]; omega)) rfl (by omega) rfl (Nat.le_of_ble_eq_true rfl) (Nat.zero_add _) (Nat.zero_add _) ?_
        refine ev_bret (X := M_X8_readSingle) (pc := 61) dX8_readSingle_61 rfl (by split <;> omega) ?_
        have hl : wr V t 4 (V t 4 + 1) (t + 1) 1 < n := by rw [wr_off (by omega)]; omega
        rw [if_pos hl, if_pos hl, hpr]
        refine ⟨rfl, rfl, ((frT.rf.w0 _ _).w2 _ _).w1 _ _, ?_, ?_, fun l hl => ?_⟩
        · show wr (wr (wr V t 4 (V t 4 + 1)) (t + 2) _ _) (t + 1) _ _ t 4 = V t 4 + 1
          rw [wr_off (by omega), wr_off (by omega), wr_self]
        · show wr (wr (wr V t 4 (V t 4 + 1)) (t + 2) _ _) (t + 1) _ _ t 5 = V t 5
          rw [wr_off (by omega), wr_off (by omega), wr_ne (by omega)]
        · have hl' : [-1 - nmI u s] = l := Option.some.inj hl
          rw [← hl']
          refine ⟨?_, ?_⟩
          · show wr (wr (wr V t 4 (V t 4 + 1)) (t + 2) _ _) (t + 1) _ _ (t + 1) 1 = V (t + 1) 1 + ((1 : Nat) : Int)
            rw [wr_self, wr_off (by omega)]
            omega
          · show wr (wr (wr V t 4 (V t 4 + 1)) (t + 2) _ _) (t + 1) _ _ (t + 2) = up (V (t + 2)) (V (t + 1) 1) (-1 - nmI u s)
            rw [wr_off (by omega), wr_row, wr_off (by omega), wr_off (by omega)]
    · refine ev_aload_n (X := M_X8_readSingle) (pc := 17) dX8_readSingle_17 rfl ?_
      refine ev_virtX (X := M_X8_readSingle) (Y := M_X8_readNumber) (pc := 18) (ci := 8) dX8_readSingle_18 mk_X8_readNumber rfl kw_506 kw_507 kw_508 hO (c_readNumber h hq hm (by rw [hs]; omega)) rfl (by omega) rfl (Nat.le_of_ble_eq_true rfl) (Nat.zero_add _) (Nat.zero_add _) (fun W hW => ?_)
      refine ev_bret (X := M_X8_readSingle) (pc := 21) dX8_readSingle_21 rfl (by omega) ?_
      have e : prS (V 106) n u k (V t 4) = (some [(dg (V 106) n 4 0 (V t 4)).1], (dg (V 106) n 4 0 (V t 4)).2) := by rw [hpr, if_pos (by omega)]
      rw [e]
      exact ⟨rfl, rfl, hW⟩
