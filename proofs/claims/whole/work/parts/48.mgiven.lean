/-- the reference's own fields of reading, and no more, have changed -/
def mQ (V W : Mm) : Prop := ∀ c i, ¬ (c = 156 ∧ 4 ≤ i ∧ i ≤ 9) → W c i = V c i
theorem mQ.rf {V : Mm} : mQ V V := fun _ _ _ => rfl
theorem mQ.tr {U V W : Mm} (h : mQ U V) (g : mQ V W) : mQ U W := fun c i z => by rw [g c i z, h c i z]
theorem mQ.w {V W : Mm} (h : mQ V W) {i : Int} (hi : 4 ≤ i ∧ i ≤ 9) (x : Int) : mQ V (wr W 156 i x) := fun c j z => by
  rw [wr_ne (fun q => z ⟨q.1, by rw [q.2]; exact hi⟩)]
  exact h c j z
theorem mQ.row {V W : Mm} (h : mQ V W) {c : Nat} (hc : c ≠ 156) : W c = V c := funext fun i => h c i (fun q => hc q.1)
theorem mP.Q {V W : Mm} (h : mP V W) : mQ V W := fun c i z => h c i (fun q => z ⟨q.1, by omega⟩)
theorem m_worked {γ : Gh} {K : Sk} {V : Mm} (hL : Lay K) {B n u : Int} {nm f : Int → Int} (hB : 0 ≤ B ∧ B + n ≤ 200) (hn : 0 ≤ n ∧ n ≤ 50) (hu : u = 0 ∨ u = 1) (hf : ∀ i, 0 ≤ i → i < n → V 157 (B + i) = f i) (hby : ∀ i, 0 ≤ i → i < n → 0 ≤ f i ∧ f i < 256) (hnm : ∀ k, 0 ≤ k → k ≤ 3 → nm k = sx (V 160 k)) : Call γ M_X12_worked 38 0 0 [vR 156, vI B, vI n, vI u] K V (Qz K (fun x W => mQ V W ∧ R32 x ∧ W 156 7 = fltR n (txt f n u) ∧ (fltR n (txt f n u) = -1 → ∃ l, txt f n u = (some l, n) ∧ Good nm l x))) := by
  refine call_of (by decide +kernel) (by intro v hv; simp only [List.mem_cons, List.not_mem_nil, or_false] at hv; rcases hv with rfl | rfl | rfl | rfl <;> exact fun q => by cases q) (Nat.le_of_ble_eq_true rfl) ?_
  refine ev_lsE (ls' := [_, _, _, _, _]) rfl ?_
  refine ev_aload_n (X := M_X12_worked) (pc := 0) dX12_worked_0 rfl ?_
  refine ev_iload_n (X := M_X12_worked) (pc := 1) dX12_worked_1 rfl ?_
  refine ev_putI (X := M_X12_worked) (pc := 2) (ki := 4) dX12_worked_2 fl_X12_104_12 (by decide) (lO_156 hL) (fun _ h q => by cases h; cases q) (Or.inl rfl) rfl ?_
  refine ev_aload_n (X := M_X12_worked) (pc := 5) dX12_worked_5 rfl ?_
  refine ev_iconst (X := M_X12_worked) (pc := 6) dX12_worked_6 ?_
  refine ev_putI (X := M_X12_worked) (pc := 7) (ki := 5) dX12_worked_7 fl_X12_94_12 (by decide) (lO_156 hL) (fun _ h q => by cases h; cases q) (Or.inl rfl) rfl ?_
  refine ev_aload_n (X := M_X12_worked) (pc := 10) dX12_worked_10 rfl ?_
  refine ev_iload_n (X := M_X12_worked) (pc := 11) dX12_worked_11 rfl ?_
  refine ev_putI (X := M_X12_worked) (pc := 12) (ki := 6) dX12_worked_12 fl_X12_98_12 (by decide) (lO_156 hL) (fun _ h q => by cases h; cases q) (Or.inl rfl) rfl ?_
  refine ev_aload_n (X := M_X12_worked) (pc := 15) dX12_worked_15 rfl ?_
  refine ev_iconst (X := M_X12_worked) (pc := 16) dX12_worked_16 ?_
  refine ev_putI (X := M_X12_worked) (pc := 17) (ki := 7) dX12_worked_17 fl_X12_101_12 (by decide) (lO_156 hL) (fun _ h q => by cases h; cases q) (Or.inl rfl) rfl ?_
  refine ev_aload_n (X := M_X12_worked) (pc := 20) dX12_worked_20 rfl ?_
  refine ev_iconst (X := M_X12_worked) (pc := 21) dX12_worked_21 ?_
  refine ev_putI (X := M_X12_worked) (pc := 22) (ki := 8) dX12_worked_22 fl_X12_134_12 (by decide) (lO_156 hL) (fun _ h q => by cases h; cases q) (Or.inl rfl) rfl ?_
  refine ev_aload_n (X := M_X12_worked) (pc := 25) dX12_worked_25 rfl ?_
  refine ev_iload_n (X := M_X12_worked) (pc := 26) dX12_worked_26 rfl ?_
  refine ev_iconst (X := M_X12_worked) (pc := 27) dX12_worked_27 ?_
  refine ev_icmp_ne (X := M_X12_worked) (pc := 28) (tgt := 35) dX12_worked_28 (by decide) (by omega) (by omega) (fun h28 => ?_) (fun h28 => ?_)
  · refine ev_iconst (X := M_X12_worked) (pc := 35) dX12_worked_35 ?_
    refine ev_putI (X := M_X12_worked) (pc := 36) (ki := 9) dX12_worked_36 fl_X12_111_12 (by decide) (lO_156 hL) (fun _ h q => by cases h; cases q) (Or.inr ⟨rfl, (by omega)⟩) rfl ?_
    have hW0 : ∃ W0, W0 = wr (wr (wr (wr (wr (wr V 156 4 B) 156 5 0) 156 6 n) 156 7 (-1)) 156 8 0) 156 9 u := ⟨_, rfl⟩
    obtain ⟨W0, hW0⟩ := hW0
    have hgoal : ∀ W', W' = W0 → Ev γ M_X12_worked 38 0 0 39 [vR 156, vI B, vI n, vI u, vU] [] K W' (Qz K (fun x W => mQ V W ∧ R32 x ∧ W 156 7 = fltR n (txt f n u) ∧ (fltR n (txt f n u) = -1 → ∃ l, txt f n u = (some l, n) ∧ Good nm l x))) := by
      intro W' hW'
      subst hW'
      have q0 : mQ V W' := by rw [hW0]; exact (((((mQ.rf.w (by omega) _).w (by omega) _).w (by omega) _).w (by omega) _).w (by omega) _).w (by omega) _
      have e4 : W' 156 4 = B := by rw [hW0, wr_ne (by omega), wr_ne (by omega), wr_ne (by omega), wr_ne (by omega), wr_ne (by omega), wr_self]
      have e5 : W' 156 5 = 0 := by rw [hW0, wr_ne (by omega), wr_ne (by omega), wr_ne (by omega), wr_ne (by omega), wr_self]
      have e6 : W' 156 6 = n := by rw [hW0, wr_ne (by omega), wr_ne (by omega), wr_ne (by omega), wr_self]
      have e7 : W' 156 7 = -1 := by rw [hW0, wr_ne (by omega), wr_ne (by omega), wr_self]
      have e8 : W' 156 8 = 0 := by rw [hW0, wr_ne (by omega), wr_self]
      have e9 : W' 156 9 = u := by rw [hW0, wr_self]
      clear hW0
      have hM : MT K W' f nm n u := ⟨hL, ⟨B, e4, hB.1, hB.2, by rw [q0.row (show (157 : Nat) ≠ 156 by decide)]; exact hf⟩, e6, e9, hn, hu, hby, by rw [q0.row (show (160 : Nat) ≠ 156 by decide)]; exact hnm⟩
      refine ev_aload_n (X := M_X12_worked) (pc := 39) dX12_worked_39 rfl ?_
      refine ev_virtZ (X := M_X12_worked) (Y := M_X12_either) (pc := 40) (ci := 12) dX12_worked_40 mk_X12_either rfl kw_1106 kw_1108 kp_7 (lO_156 hL) (m_levels (m_units 5 (by decide)) W' hM (by rw [e5]; omega) e7 (by rw [e8]; rfl)) rfl (by decide) rfl (Nat.le_of_ble_eq_true rfl) (Nat.zero_add _) (Nat.zero_add _) (fun x W hW => ?_)
      rw [e5] at hW
      have q1 : mQ V W := q0.tr hW.1.Q
      have hx := hW.2.1
      have hft := hW.ft
      have hat := hW.2.2.1
      have e6' : W 156 6 = n := by rw [hW.1 156 6 (by omega)]; exact e6
      have hW' : PM W' nm n (txt f n u) x W := hW
      generalize txt f n u = r at *
      refine ev_istoreL (X := M_X12_worked) (pc := 43) (ls' := [_, _, _, _, _]) dX12_worked_43 (by decide) rfl ?_
      refine ev_aload_n (X := M_X12_worked) (pc := 45) dX12_worked_45 rfl ?_
      refine ev_getI (X := M_X12_worked) (pc := 46) (ki := 7) dX12_worked_46 fl_X12_101_12 (lO_156 hL) (by decide) rfl ?_
      refine ev_if_ge (X := M_X12_worked) (pc := 49) (tgt := 68) dX12_worked_49 (by decide) (by omega) (fun h49 => ?_) (fun h49 => ?_)
      · refine ev_iload (X := M_X12_worked) (pc := 68) dX12_worked_68 rfl ?_
        refine ev_iret (X := M_X12_worked) (pc := 70) dX12_worked_70 rfl ?_
        refine ⟨rfl, x, rfl, q1, hx, ?_⟩
        obtain ⟨o, q'⟩ := r
        cases o with
        | none =>
          obtain ⟨a1, a2, a3, a4, a5, a6⟩ := hW'
          have e : fltR n (none, q') = q' := by unfold fltR; rw [if_neg (fun z => by have := z.1; cases this)]
          rw [e]
          exact ⟨a4, fun z => by omega⟩
        | some l =>
          obtain ⟨a1, a2, a3, a4, a5, a6, a7⟩ := hW'
          have hq : q' = n := by omega
          have e : fltR n (some l, q') = -1 := by unfold fltR; rw [if_pos ⟨rfl, hq⟩]
          rw [e]
          exact ⟨a4, fun _ => ⟨l, by rw [hq], a7⟩⟩
      · refine ev_aload_n (X := M_X12_worked) (pc := 52) dX12_worked_52 rfl ?_
        refine ev_getI (X := M_X12_worked) (pc := 53) (ki := 5) dX12_worked_53 fl_X12_94_12 (lO_156 hL) (by decide) rfl ?_
        refine ev_aload_n (X := M_X12_worked) (pc := 56) dX12_worked_56 rfl ?_
        refine ev_getIe (X := M_X12_worked) (pc := 57) (ki := 6) dX12_worked_57 fl_X12_98_12 (lO_156 hL) (by decide) rfl (e6') ?_
        refine ev_icmp_ge (X := M_X12_worked) (pc := 60) (tgt := 68) dX12_worked_60 (by decide) (by omega) (by omega) (fun h60 => ?_) (fun h60 => ?_)
        · refine ev_iload (X := M_X12_worked) (pc := 68) dX12_worked_68 rfl ?_
          refine ev_iret (X := M_X12_worked) (pc := 70) dX12_worked_70 rfl ?_
          refine ⟨rfl, x, rfl, q1, hx, ?_⟩
          obtain ⟨o, q'⟩ := r
          cases o with
          | none =>
            obtain ⟨a1, a2, a3, a4, a5, a6⟩ := hW'
            have e : fltR n (none, q') = q' := by unfold fltR; rw [if_neg (fun z => by have := z.1; cases this)]
            rw [e]
            exact ⟨a4, fun z => by omega⟩
          | some l =>
            obtain ⟨a1, a2, a3, a4, a5, a6, a7⟩ := hW'
            have hq : q' = n := by omega
            have e : fltR n (some l, q') = -1 := by unfold fltR; rw [if_pos ⟨rfl, hq⟩]
            rw [e]
            exact ⟨a4, fun _ => ⟨l, by rw [hq], a7⟩⟩
        · refine ev_aload_n (X := M_X12_worked) (pc := 63) dX12_worked_63 rfl ?_
          refine ev_virtR (X := M_X12_worked) (Y := M_X12_wrong) (pc := 64) (ci := 12) dX12_worked_64 mk_X12_wrong rfl kw_1134 kw_1136 kp_14 (lO_156 hL) (m_wrong hL hft) rfl (by decide) rfl (Nat.le_of_ble_eq_true rfl) (Nat.zero_add _) (Nat.zero_add _) ?_
          refine ev_iret (X := M_X12_worked) (pc := 67) dX12_worked_67 rfl ?_
          refine ⟨rfl, 0, rfl, q1.w (by omega) _, by decide, ?_⟩
          rw [wr_self, if_pos (by omega)]
          obtain ⟨o, q'⟩ := r
          cases o with
          | none =>
            obtain ⟨a1, a2, a3, a4, a5, a6⟩ := hW'
            omega
          | some l =>
            obtain ⟨a1, a2, a3, a4, a5, a6, a7⟩ := hW'
            have e : fltR n (some l, q') = q' := by unfold fltR; rw [if_neg (fun z => by have : q' = n := z.2; omega)]
            rw [e]
            exact ⟨a5, fun z => by omega⟩
    have hu1 : u = 1 ∨ u = 0 := by omega
    first
      | (refine ev_weak (hgoal _ ?_) ⟨rfl, rfl, rfl, rfl, trivial⟩
         rw [hW0, h28])
      | (refine ev_weak (hgoal _ ?_) ⟨rfl, rfl, rfl, rfl, trivial⟩
         rw [hW0, show u = 0 by omega])
    skip
  · refine ev_iconst (X := M_X12_worked) (pc := 31) dX12_worked_31 ?_
    refine ev_goto (X := M_X12_worked) (pc := 32) (tgt := 36) dX12_worked_32 (by decide) ?_
    refine ev_putI (X := M_X12_worked) (pc := 36) (ki := 9) dX12_worked_36 fl_X12_111_12 (by decide) (lO_156 hL) (fun _ h q => by cases h; cases q) (Or.inr ⟨rfl, (by omega)⟩) rfl ?_
    have hW0 : ∃ W0, W0 = wr (wr (wr (wr (wr (wr V 156 4 B) 156 5 0) 156 6 n) 156 7 (-1)) 156 8 0) 156 9 u := ⟨_, rfl⟩
    obtain ⟨W0, hW0⟩ := hW0
    have hgoal : ∀ W', W' = W0 → Ev γ M_X12_worked 38 0 0 39 [vR 156, vI B, vI n, vI u, vU] [] K W' (Qz K (fun x W => mQ V W ∧ R32 x ∧ W 156 7 = fltR n (txt f n u) ∧ (fltR n (txt f n u) = -1 → ∃ l, txt f n u = (some l, n) ∧ Good nm l x))) := by
      intro W' hW'
      subst hW'
      have q0 : mQ V W' := by rw [hW0]; exact (((((mQ.rf.w (by omega) _).w (by omega) _).w (by omega) _).w (by omega) _).w (by omega) _).w (by omega) _
      have e4 : W' 156 4 = B := by rw [hW0, wr_ne (by omega), wr_ne (by omega), wr_ne (by omega), wr_ne (by omega), wr_ne (by omega), wr_self]
      have e5 : W' 156 5 = 0 := by rw [hW0, wr_ne (by omega), wr_ne (by omega), wr_ne (by omega), wr_ne (by omega), wr_self]
      have e6 : W' 156 6 = n := by rw [hW0, wr_ne (by omega), wr_ne (by omega), wr_ne (by omega), wr_self]
      have e7 : W' 156 7 = -1 := by rw [hW0, wr_ne (by omega), wr_ne (by omega), wr_self]
      have e8 : W' 156 8 = 0 := by rw [hW0, wr_ne (by omega), wr_self]
      have e9 : W' 156 9 = u := by rw [hW0, wr_self]
      clear hW0
      have hM : MT K W' f nm n u := ⟨hL, ⟨B, e4, hB.1, hB.2, by rw [q0.row (show (157 : Nat) ≠ 156 by decide)]; exact hf⟩, e6, e9, hn, hu, hby, by rw [q0.row (show (160 : Nat) ≠ 156 by decide)]; exact hnm⟩
      refine ev_aload_n (X := M_X12_worked) (pc := 39) dX12_worked_39 rfl ?_
      refine ev_virtZ (X := M_X12_worked) (Y := M_X12_either) (pc := 40) (ci := 12) dX12_worked_40 mk_X12_either rfl kw_1106 kw_1108 kp_7 (lO_156 hL) (m_levels (m_units 5 (by decide)) W' hM (by rw [e5]; omega) e7 (by rw [e8]; rfl)) rfl (by decide) rfl (Nat.le_of_ble_eq_true rfl) (Nat.zero_add _) (Nat.zero_add _) (fun x W hW => ?_)
      rw [e5] at hW
      have q1 : mQ V W := q0.tr hW.1.Q
      have hx := hW.2.1
      have hft := hW.ft
      have hat := hW.2.2.1
      have e6' : W 156 6 = n := by rw [hW.1 156 6 (by omega)]; exact e6
      have hW' : PM W' nm n (txt f n u) x W := hW
      generalize txt f n u = r at *
      refine ev_istoreL (X := M_X12_worked) (pc := 43) (ls' := [_, _, _, _, _]) dX12_worked_43 (by decide) rfl ?_
      refine ev_aload_n (X := M_X12_worked) (pc := 45) dX12_worked_45 rfl ?_
      refine ev_getI (X := M_X12_worked) (pc := 46) (ki := 7) dX12_worked_46 fl_X12_101_12 (lO_156 hL) (by decide) rfl ?_
      refine ev_if_ge (X := M_X12_worked) (pc := 49) (tgt := 68) dX12_worked_49 (by decide) (by omega) (fun h49 => ?_) (fun h49 => ?_)
      · refine ev_iload (X := M_X12_worked) (pc := 68) dX12_worked_68 rfl ?_
        refine ev_iret (X := M_X12_worked) (pc := 70) dX12_worked_70 rfl ?_
        refine ⟨rfl, x, rfl, q1, hx, ?_⟩
        obtain ⟨o, q'⟩ := r
        cases o with
        | none =>
          obtain ⟨a1, a2, a3, a4, a5, a6⟩ := hW'
          have e : fltR n (none, q') = q' := by unfold fltR; rw [if_neg (fun z => by have := z.1; cases this)]
          rw [e]
          exact ⟨a4, fun z => by omega⟩
        | some l =>
          obtain ⟨a1, a2, a3, a4, a5, a6, a7⟩ := hW'
          have hq : q' = n := by omega
          have e : fltR n (some l, q') = -1 := by unfold fltR; rw [if_pos ⟨rfl, hq⟩]
          rw [e]
          exact ⟨a4, fun _ => ⟨l, by rw [hq], a7⟩⟩
      · refine ev_aload_n (X := M_X12_worked) (pc := 52) dX12_worked_52 rfl ?_
        refine ev_getI (X := M_X12_worked) (pc := 53) (ki := 5) dX12_worked_53 fl_X12_94_12 (lO_156 hL) (by decide) rfl ?_
        refine ev_aload_n (X := M_X12_worked) (pc := 56) dX12_worked_56 rfl ?_
        refine ev_getIe (X := M_X12_worked) (pc := 57) (ki := 6) dX12_worked_57 fl_X12_98_12 (lO_156 hL) (by decide) rfl (e6') ?_
        refine ev_icmp_ge (X := M_X12_worked) (pc := 60) (tgt := 68) dX12_worked_60 (by decide) (by omega) (by omega) (fun h60 => ?_) (fun h60 => ?_)
        · refine ev_iload (X := M_X12_worked) (pc := 68) dX12_worked_68 rfl ?_
          refine ev_iret (X := M_X12_worked) (pc := 70) dX12_worked_70 rfl ?_
          refine ⟨rfl, x, rfl, q1, hx, ?_⟩
          obtain ⟨o, q'⟩ := r
          cases o with
          | none =>
            obtain ⟨a1, a2, a3, a4, a5, a6⟩ := hW'
            have e : fltR n (none, q') = q' := by unfold fltR; rw [if_neg (fun z => by have := z.1; cases this)]
            rw [e]
            exact ⟨a4, fun z => by omega⟩
          | some l =>
            obtain ⟨a1, a2, a3, a4, a5, a6, a7⟩ := hW'
            have hq : q' = n := by omega
            have e : fltR n (some l, q') = -1 := by unfold fltR; rw [if_pos ⟨rfl, hq⟩]
            rw [e]
            exact ⟨a4, fun _ => ⟨l, by rw [hq], a7⟩⟩
        · refine ev_aload_n (X := M_X12_worked) (pc := 63) dX12_worked_63 rfl ?_
          refine ev_virtR (X := M_X12_worked) (Y := M_X12_wrong) (pc := 64) (ci := 12) dX12_worked_64 mk_X12_wrong rfl kw_1134 kw_1136 kp_14 (lO_156 hL) (m_wrong hL hft) rfl (by decide) rfl (Nat.le_of_ble_eq_true rfl) (Nat.zero_add _) (Nat.zero_add _) ?_
          refine ev_iret (X := M_X12_worked) (pc := 67) dX12_worked_67 rfl ?_
          refine ⟨rfl, 0, rfl, q1.w (by omega) _, by decide, ?_⟩
          rw [wr_self, if_pos (by omega)]
          obtain ⟨o, q'⟩ := r
          cases o with
          | none =>
            obtain ⟨a1, a2, a3, a4, a5, a6⟩ := hW'
            omega
          | some l =>
            obtain ⟨a1, a2, a3, a4, a5, a6, a7⟩ := hW'
            have e : fltR n (some l, q') = q' := by unfold fltR; rw [if_neg (fun z => by have : q' = n := z.2; omega)]
            rw [e]
            exact ⟨a5, fun z => by omega⟩
    have hu1 : u = 1 ∨ u = 0 := by omega
    first
      | (refine ev_weak (hgoal _ ?_) ⟨rfl, rfl, rfl, rfl, trivial⟩
         rw [hW0, h28])
      | (refine ev_weak (hgoal _ ?_) ⟨rfl, rfl, rfl, rfl, trivial⟩
         rw [hW0, show u = 0 by omega])
    skip
/-- and names, and what comes -/
def mG (V W : Mm) : Prop := ∀ c i, ¬ (c = 156 ∧ 4 ≤ i ∧ i ≤ 9) → c ≠ 160 → W c i = V c i
theorem mG.row {V W : Mm} (h : mG V W) {c : Nat} (hc : c ≠ 156) (h2 : c ≠ 160) : W c = V c := funext fun i => h c i (fun q => hc q.1) h2
theorem m_given {γ : Gh} {K : Sk} {V : Mm} (hL : Lay K) {D : Int → Int} (hD : V 157 = D) {u a b c d : Int} (hu : u = 0 ∨ u = 1) (hT : TxOk D u) (ha : R32 a) (hb : R32 b) (hc : R32 c) (hd : R32 d) : Call γ M_X12_given 39 0 0 [vR 156, vI u, vI a, vI b, vI c, vI d] K V (Qx (some (vI (giv D u a b c d))) K (mG V)) := by
  refine call_of (by decide +kernel) (by intro v hv; simp only [List.mem_cons, List.not_mem_nil, or_false] at hv; rcases hv with rfl | rfl | rfl | rfl | rfl | rfl <;> exact fun q => by cases q) (Nat.le_of_ble_eq_true rfl) ?_
  refine ev_lsE (ls' := [_, _, _, _, _, _, _]) rfl ?_
  have h50 := hT.1
  have tail : ∀ v W, (u = 1 → R32 v) → mG V W → op_irem v 3 = op_irem (gvv D u a b c d) 3 → (u = 1 → v = gvv D u a b c d) → Ev γ M_X12_given 39 0 0 81 [vR 156, vI u, vI a, vI b, vI c, vI d, vI v] [] K W (Qx (some (vI (giv D u a b c d))) K (mG V)) := by
    intro v W hv hW he hv1
    have h3 := op_irem3 v
    refine ev_iload_n (X := M_X12_given) (pc := 81) dX12_given_81 rfl ?_
    refine ev_if_ne (X := M_X12_given) (pc := 82) (tgt := 97) dX12_given_82 (by decide) (by omega) (fun h82 => ?_) (fun h82 => ?_)
    · have e : giv D u a b c d = heldF v (-99) 99 := by unfold giv; rw [if_neg (by omega), hv1 (by omega)]
      have hv' := hv (by omega)
      refine ev_iload (X := M_X12_given) (pc := 97) dX12_given_97 rfl ?_
      refine ev_bipush (X := M_X12_given) (pc := 99) dX12_given_99 (by decide) ?_
      refine ev_bipush (X := M_X12_given) (pc := 101) dX12_given_101 (by decide) ?_
      refine ev_staticR (X := M_X12_given) (Y := M_X12_held) (pc := 103) dX12_given_103 mk_X12_held kw_1156 kw_1157 (m_held (by omega) (by decide) (by decide)) rfl (by decide) rfl (Nat.le_of_ble_eq_true rfl) (Nat.zero_add _) (Nat.zero_add _) ?_
      refine ev_iret (X := M_X12_given) (pc := 106) dX12_given_106 rfl ?_
      exact ⟨by rw [e], rfl, hW⟩
    · have e : giv D u a b c d = heldF (op_irem v 3) 0 2 := by unfold giv; rw [if_pos (by omega), he]
      refine ev_iload (X := M_X12_given) (pc := 85) dX12_given_85 rfl ?_
      refine ev_iconst (X := M_X12_given) (pc := 87) dX12_given_87 ?_
      refine ev_iremg (X := M_X12_given) (pc := 88) dX12_given_88 (i32_ne0 (by decide) (by decide)) ?_
      refine ev_iconst (X := M_X12_given) (pc := 89) dX12_given_89 ?_
      refine ev_iconst (X := M_X12_given) (pc := 90) dX12_given_90 ?_
      refine ev_staticR (X := M_X12_given) (Y := M_X12_held) (pc := 91) dX12_given_91 mk_X12_held kw_1156 kw_1157 (m_held (by omega) (by decide) (by decide)) rfl (by decide) rfl (Nat.le_of_ble_eq_true rfl) (Nat.zero_add _) (Nat.zero_add _) ?_
      refine ev_goto (X := M_X12_given) (pc := 94) (tgt := 106) dX12_given_94 (by decide) ?_
      refine ev_iret (X := M_X12_given) (pc := 106) dX12_given_106 rfl ?_
      exact ⟨by rw [e], rfl, hW⟩
  have nt : 0 < D (26 + u) → ∀ v, Ev γ M_X12_given 39 0 0 28 [vR 156, vI u, vI a, vI b, vI c, vI d, vI v] [] K V (Qx (some (vI (giv D u a b c d))) K (mG V)) := by
    intro hpos v
    obtain ⟨hr, l, hl, hG, hrun⟩ := gvv_r hu hT ha hb hc hd hpos
    have hby := (hT.2 hpos).2
    refine ev_aload_n (X := M_X12_given) (pc := 28) dX12_given_28 rfl ?_
    refine ev_getRe (X := M_X12_given) (pc := 29) dX12_given_29 fl_X12_19_12 (lO_156 hL) rfl (lR_156_10 hL) ?_
    refine ev_iconst (X := M_X12_given) (pc := 32) dX12_given_32 ?_
    refine ev_iload_n (X := M_X12_given) (pc := 33) dX12_given_33 rfl ?_
    refine ev_iastore (X := M_X12_given) (pc := 34) dX12_given_34 (by decide) (lS_160 hL) (by omega) ?_
    refine ev_aload_n (X := M_X12_given) (pc := 35) dX12_given_35 rfl ?_
    refine ev_getRe (X := M_X12_given) (pc := 36) dX12_given_36 fl_X12_19_12 (lO_156 hL) rfl (lR_156_10 hL) ?_
    refine ev_iconst (X := M_X12_given) (pc := 39) dX12_given_39 ?_
    refine ev_iload_n (X := M_X12_given) (pc := 40) dX12_given_40 rfl ?_
    refine ev_iastore (X := M_X12_given) (pc := 41) dX12_given_41 (by decide) (lS_160 hL) (by omega) ?_
    refine ev_aload_n (X := M_X12_given) (pc := 42) dX12_given_42 rfl ?_
    refine ev_getRe (X := M_X12_given) (pc := 43) dX12_given_43 fl_X12_19_12 (lO_156 hL) rfl (lR_156_10 hL) ?_
    refine ev_iconst (X := M_X12_given) (pc := 46) dX12_given_46 ?_
    refine ev_iload (X := M_X12_given) (pc := 47) dX12_given_47 rfl ?_
    refine ev_iastore (X := M_X12_given) (pc := 49) dX12_given_49 (by decide) (lS_160 hL) (by omega) ?_
    refine ev_aload_n (X := M_X12_given) (pc := 50) dX12_given_50 rfl ?_
    refine ev_getRe (X := M_X12_given) (pc := 51) dX12_given_51 fl_X12_19_12 (lO_156 hL) rfl (lR_156_10 hL) ?_
    refine ev_iconst (X := M_X12_given) (pc := 54) dX12_given_54 ?_
    refine ev_iload (X := M_X12_given) (pc := 55) dX12_given_55 rfl ?_
    refine ev_iastore (X := M_X12_given) (pc := 57) dX12_given_57 (by decide) (lS_160 hL) (by omega) ?_
    have hW0 : ∃ W0, W0 = wr (wr (wr (wr V 160 0 a) 160 1 b) 160 2 c) 160 3 d := ⟨_, rfl⟩
    obtain ⟨W0, hW0⟩ := hW0
    rw [← hW0]
    have g0 : mG V W0 := fun e i _ z => by rw [hW0, wr_off z, wr_off z, wr_off z, wr_off z]
    have hD0 : W0 157 = D := by rw [g0.row (by decide) (by decide)]; exact hD
    have n0 : ∀ k, 0 ≤ k → k ≤ 3 → nmF a b c d k = sx (W0 160 k) := by
      intro k k0 k3
      rw [hW0, wr_row, wr_row, wr_row, wr_row]
      rcases (show k = 0 ∨ k = 1 ∨ k = 2 ∨ k = 3 by omega) with z | z | z | z <;> subst z
      · rw [up_ne (by decide), up_ne (by decide), up_ne (by decide), up_self, sx_id ha]; rfl
      · rw [up_ne (by decide), up_ne (by decide), up_self, sx_id hb]; rfl
      · rw [up_ne (by decide), up_self, sx_id hc]; rfl
      · rw [up_self, sx_id hd]; rfl
    clear hW0
    refine ev_aload_n (X := M_X12_given) (pc := 58) dX12_given_58 rfl ?_
    refine ev_bipush (X := M_X12_given) (pc := 59) dX12_given_59 (by decide) ?_
    refine ev_bipush (X := M_X12_given) (pc := 61) dX12_given_61 (by decide) ?_
    refine ev_iload_n (X := M_X12_given) (pc := 63) dX12_given_63 rfl ?_
    refine ev_imul (X := M_X12_given) (pc := 64) dX12_given_64 ?_
    refine ev_iadd (X := M_X12_given) (pc := 65) dX12_given_65 ?_
    refine ev_aload_n (X := M_X12_given) (pc := 66) dX12_given_66 rfl ?_
    refine ev_getRe (X := M_X12_given) (pc := 67) dX12_given_67 fl_X12_7_12 (lO_156 hL) rfl (lR_156_0 hL) ?_
    refine ev_bipush (X := M_X12_given) (pc := 70) dX12_given_70 (by decide) ?_
    refine ev_iload_n (X := M_X12_given) (pc := 72) dX12_given_72 rfl ?_
    refine ev_iadd (X := M_X12_given) (pc := 73) dX12_given_73 ?_
    refine ev_ialoadE (X := M_X12_given) (pc := 74) dX12_given_74 (lS_157 hL) (by omega) (congrFun hD0 _) ?_
    refine ev_iload_n (X := M_X12_given) (pc := 75) dX12_given_75 rfl ?_
    refine ev_virtZ (X := M_X12_given) (Y := M_X12_worked) (pc := 76) (ci := 12) dX12_given_76 mk_X12_worked rfl kw_1102 kw_1104 kp_6 (lO_156 hL) (m_worked hL (nm := nmF a b c d) (f := tfD D u) (by omega) h50 hu (by intro i i0 i1; rw [hD0]; unfold tfD; rw [rs_at i0 i1]) (by intro i i0 i1; unfold tfD; rw [rs_at i0 i1]; exact hby i i0 i1) n0) rfl (by decide) rfl (Nat.le_of_ble_eq_true rfl) (Nat.zero_add _) (Nat.zero_add _) (fun x W hW => ?_)
    refine ev_istoreL (X := M_X12_given) (pc := 79) (ls' := [_, _, _, _, _, _, _]) dX12_given_79 (by decide) rfl ?_
    obtain ⟨w1, w2, w3, w4⟩ := hW
    have hflt : fltR (D (26 + u)) (txt (tfD D u) (D (26 + u)) u) = -1 := by rw [hl]; unfold fltR; rw [if_pos ⟨rfl, rfl⟩]
    obtain ⟨l', hl', hGx⟩ := w4 hflt
    have hll : l' = l := by rw [hl] at hl'; exact (Option.some.inj (congrArg Prod.fst hl')).symm
    rw [hll] at hGx
    have hxe : x = gvv D u a b c d := (hGx.uniq hrun).symm
    refine ev_weak (tail x W (fun _ => w2) (fun e i z1 z2 => by rw [w1 e i z1, g0 e i z1 z2]) (by rw [hxe]) (fun _ => hxe)) ⟨rfl, rfl, rfl, rfl, rfl, rfl, rfl, trivial⟩
  refine ev_iload_n (X := M_X12_given) (pc := 0) dX12_given_0 rfl ?_
  refine ev_if_ne (X := M_X12_given) (pc := 1) (tgt := 13) dX12_given_1 (by decide) (by omega) (fun h1 => ?_) (fun h1 => ?_)
  · refine ev_iconst (X := M_X12_given) (pc := 13) dX12_given_13 ?_
    refine ev_istoreL (X := M_X12_given) (pc := 14) (ls' := [_, _, _, _, _, _, _]) dX12_given_14 (by decide) rfl ?_
    refine ev_aload_n (X := M_X12_given) (pc := 16) dX12_given_16 rfl ?_
    refine ev_getRe (X := M_X12_given) (pc := 17) dX12_given_17 fl_X12_7_12 (lO_156 hL) rfl (lR_156_0 hL) ?_
    refine ev_bipush (X := M_X12_given) (pc := 20) dX12_given_20 (by decide) ?_
    refine ev_iload_n (X := M_X12_given) (pc := 22) dX12_given_22 rfl ?_
    refine ev_iadd (X := M_X12_given) (pc := 23) dX12_given_23 ?_
    refine ev_ialoadE (X := M_X12_given) (pc := 24) dX12_given_24 (lS_157 hL) (by omega) (congrFun hD _) ?_
    refine ev_if_le (X := M_X12_given) (pc := 25) (tgt := 81) dX12_given_25 (by decide) (by omega) (fun h25 => ?_) (fun h25 => ?_)
    · first
        | exact ev_weak (tail _ V (fun z => by omega) (fun _ _ _ _ => rfl) (by unfold gvv; rw [if_neg (by omega), if_pos (by omega)]) (fun z => by omega)) ⟨rfl, rfl, rfl, rfl, rfl, rfl, rfl, trivial⟩
        | exact ev_weak (tail 1 V (fun z => by decide) (fun _ _ _ _ => rfl) (by unfold gvv; rw [if_neg (by omega), if_neg (by omega)]) (fun z => by unfold gvv; rw [if_neg (by omega), if_neg (by omega)])) ⟨rfl, rfl, rfl, rfl, rfl, rfl, rfl, trivial⟩
    · exact ev_weak (nt (by omega) _) ⟨rfl, rfl, rfl, rfl, rfl, rfl, rfl, trivial⟩
  · refine ev_iload_n (X := M_X12_given) (pc := 4) dX12_given_4 rfl ?_
    refine ev_iload_n (X := M_X12_given) (pc := 5) dX12_given_5 rfl ?_
    refine ev_iadd (X := M_X12_given) (pc := 6) dX12_given_6 ?_
    refine ev_iload (X := M_X12_given) (pc := 7) dX12_given_7 rfl ?_
    refine ev_iadd (X := M_X12_given) (pc := 9) dX12_given_9 ?_
    refine ev_goto (X := M_X12_given) (pc := 10) (tgt := 14) dX12_given_10 (by decide) ?_
    refine ev_istoreL (X := M_X12_given) (pc := 14) (ls' := [_, _, _, _, _, _, _]) dX12_given_14 (by decide) rfl ?_
    refine ev_aload_n (X := M_X12_given) (pc := 16) dX12_given_16 rfl ?_
    refine ev_getRe (X := M_X12_given) (pc := 17) dX12_given_17 fl_X12_7_12 (lO_156 hL) rfl (lR_156_0 hL) ?_
    refine ev_bipush (X := M_X12_given) (pc := 20) dX12_given_20 (by decide) ?_
    refine ev_iload_n (X := M_X12_given) (pc := 22) dX12_given_22 rfl ?_
    refine ev_iadd (X := M_X12_given) (pc := 23) dX12_given_23 ?_
    refine ev_ialoadE (X := M_X12_given) (pc := 24) dX12_given_24 (lS_157 hL) (by omega) (congrFun hD _) ?_
    refine ev_if_le (X := M_X12_given) (pc := 25) (tgt := 81) dX12_given_25 (by decide) (by omega) (fun h25 => ?_) (fun h25 => ?_)
    · first
        | exact ev_weak (tail _ V (fun z => by omega) (fun _ _ _ _ => rfl) (by unfold gvv; rw [if_neg (by omega), if_pos (by omega)]) (fun z => by omega)) ⟨rfl, rfl, rfl, rfl, rfl, rfl, rfl, trivial⟩
        | exact ev_weak (tail 1 V (fun z => by decide) (fun _ _ _ _ => rfl) (by unfold gvv; rw [if_neg (by omega), if_neg (by omega)]) (fun z => by unfold gvv; rw [if_neg (by omega), if_neg (by omega)])) ⟨rfl, rfl, rfl, rfl, rfl, rfl, rfl, trivial⟩
    · exact ev_weak (nt (by omega) _) ⟨rfl, rfl, rfl, rfl, rfl, rfl, rfl, trivial⟩
theorem m_gives {γ : Gh} {K : Sk} {V : Mm} (hL : Lay K) {D : Int → Int} (hD : V 157 = D) {u a b c d : Int} (hu : R32 u) (hT0 : TxOk D 0) (hT1 : TxOk D 1) (ha : R32 a) (hb : R32 b) (hc : R32 c) (hd : R32 d) : Call γ M_X12_gives 40 0 0 [vR 156, vI u, vI a, vI b, vI c, vI d] K V (Qx (some (vI (if u = 0 ∨ u = 1 then giv D u a b c d else -1000000001))) K (fun W => W 159 = (if u = 0 ∨ u = 1 then V 159 else up (V 159) 1 (V 159 1 + 1)) ∧ ∀ c i, ¬ (c = 156 ∧ 4 ≤ i ∧ i ≤ 9) → c ≠ 160 → c ≠ 159 → W c i = V c i)) := by
  refine call_of (by decide +kernel) (by intro v hv; simp only [List.mem_cons, List.not_mem_nil, or_false] at hv; rcases hv with rfl | rfl | rfl | rfl | rfl | rfl <;> exact fun q => by cases q) (Nat.le_of_ble_eq_true rfl) ?_
  refine ev_lsE (ls' := [_, _, _, _, _, _]) rfl ?_
  refine ev_iload_n (X := M_X12_gives) (pc := 0) dX12_gives_0 rfl ?_
  refine ev_i2l (X := M_X12_gives) (pc := 1) dX12_gives_1 (by omega) ?_
  refine ev_lconst (X := M_X12_gives) (pc := 2) (v := 0) dX12_gives_2 (by decide) ?_
  refine ev_lconst (X := M_X12_gives) (pc := 3) (v := 1) dX12_gives_3 (by decide) ?_
  refine ev_staticR (X := M_X12_gives) (Y := M_X12_in) (pc := 4) dX12_gives_4 mk_X12_in kw_1089 kw_1090 (m_in (by omega) (by decide) (by decide)) rfl (by decide) rfl (Nat.le_of_ble_eq_true rfl) (Nat.zero_add _) (Nat.zero_add _) ?_
  refine ev_if_eq (X := M_X12_gives) (pc := 7) (tgt := 24) dX12_gives_7 (by decide) (by split <;> decide) (fun h7 => ?_) (fun h7 => ?_)
  · have hno : ¬ (u = 0 ∨ u = 1) := fun z => by rw [if_pos (by omega)] at h7; exact absurd h7 (by decide)
    refine ev_aload_n (X := M_X12_gives) (pc := 24) dX12_gives_24 rfl ?_
    refine ev_iconst (X := M_X12_gives) (pc := 25) dX12_gives_25 ?_
    refine ev_virtR (X := M_X12_gives) (Y := M_X12_finds) (pc := 26) (ci := 12) dX12_gives_26 mk_X12_finds rfl kw_1092 kw_1094 kp_5 (lO_156 hL) (m_finds hL (by decide)) rfl (by decide) rfl (Nat.le_of_ble_eq_true rfl) (Nat.zero_add _) (Nat.zero_add _) ?_
    refine ev_iret (X := M_X12_gives) (pc := 29) dX12_gives_29 rfl ?_
    first
      | (rw [if_pos hye, if_pos hye]
         exact ⟨rfl, rfl, hW.row (by decide) (by decide), fun e i z1 z2 _ => hW e i z1 z2⟩)
      | (rw [if_neg hno, if_neg hno]
         exact ⟨rfl, rfl, wr_row, fun e i _ _ z3 => by rw [wr_off z3]⟩)
  · have hye : u = 0 ∨ u = 1 := Decidable.byContradiction fun z => h7 (by rw [if_neg (by omega)])
    have hTu : TxOk D u := by rcases hye with z | z <;> rw [z] <;> assumption
    refine ev_aload_n (X := M_X12_gives) (pc := 10) dX12_gives_10 rfl ?_
    refine ev_iload_n (X := M_X12_gives) (pc := 11) dX12_gives_11 rfl ?_
    refine ev_iload_n (X := M_X12_gives) (pc := 12) dX12_gives_12 rfl ?_
    refine ev_iload_n (X := M_X12_gives) (pc := 13) dX12_gives_13 rfl ?_
    refine ev_iload (X := M_X12_gives) (pc := 14) dX12_gives_14 rfl ?_
    refine ev_iload (X := M_X12_gives) (pc := 16) dX12_gives_16 rfl ?_
    refine ev_virtX (X := M_X12_gives) (Y := M_X12_given) (pc := 18) (ci := 12) dX12_gives_18 mk_X12_given rfl kw_1152 kw_1154 kp_17 (lO_156 hL) (m_given hL hD hye hTu ha hb hc hd) rfl (by decide) rfl (Nat.le_of_ble_eq_true rfl) (Nat.zero_add _) (Nat.zero_add _) (fun W hW => ?_)
    refine ev_goto (X := M_X12_gives) (pc := 21) (tgt := 29) dX12_gives_21 (by decide) ?_
    refine ev_iret (X := M_X12_gives) (pc := 29) dX12_gives_29 rfl ?_
    first
      | (rw [if_pos hye, if_pos hye]
         exact ⟨rfl, rfl, hW.row (by decide) (by decide), fun e i z1 z2 _ => hW e i z1 z2⟩)
      | (rw [if_neg hno, if_neg hno]
         exact ⟨rfl, rfl, wr_row, fun e i _ _ z3 => by rw [wr_off z3]⟩)
