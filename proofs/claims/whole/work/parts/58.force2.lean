def vF (C : Int → Int) (F k : Int) (U : Int → Int) (s : Int) : Int := if enD s k ∨ (isSt s ∧ hit C F U s) then 1 else 0
def vO (C : Int → Int) (F k : Int) (U : Int → Int) (s : Int) : Int := if enD s k ∨ (isSt s ∧ hit C F o1 s ∧ ¬ hit C F (nt U) s) then 1 else 0
def eD (k s : Int) : Int := if enD s k then 1 else 0
theorem frc_z {C : Int → Int} {F k : Int} : frc C F k 0 = (eD k, eD k) := rfl
theorem frc_s {C : Int → Int} {F k : Int} {n : Nat} : frc C F k (n + 1) = (vF C F k (frc C F k n).2, vO C F k (frc C F k n).1) := rfl
theorem eD_i {k s : Int} : (eD k s = 0 ∨ eD k s = 1) ∧ (eD k s = 1 ↔ enD s k) := by
  unfold eD
  by_cases z : enD s k
  · rw [if_pos z]; exact ⟨Or.inr rfl, fun _ => z, fun _ => rfl⟩
  · rw [if_neg z]; exact ⟨Or.inl rfl, fun y => absurd y (by decide), fun y => absurd y z⟩
theorem vF_i {C : Int → Int} {F k : Int} {U : Int → Int} {s : Int} : (vF C F k U s = 0 ∨ vF C F k U s = 1) ∧ (vF C F k U s = 1 ↔ (eD k s = 1 ∨ (isSt s ∧ hx C F U s 6))) := by
  unfold vF
  rw [hx_6, eD_i.2]
  by_cases z : enD s k ∨ (isSt s ∧ hit C F U s)
  · rw [if_pos z]; exact ⟨Or.inr rfl, fun _ => z, fun _ => rfl⟩
  · rw [if_neg z]; exact ⟨Or.inl rfl, fun y => absurd y (by decide), fun y => absurd y z⟩
theorem vO_i {C : Int → Int} {F k : Int} {U : Int → Int} {s : Int} : (vO C F k U s = 0 ∨ vO C F k U s = 1) ∧ (vO C F k U s = 1 ↔ (eD k s = 1 ∨ (isSt s ∧ hx C F o1 s 6 ∧ ¬ hx C F (nt U) s 6))) := by
  unfold vO
  rw [hx_6, hx_6, eD_i.2]
  by_cases z : enD s k ∨ (isSt s ∧ hit C F o1 s ∧ ¬ hit C F (nt U) s)
  · rw [if_pos z]; exact ⟨Or.inr rfl, fun _ => z, fun _ => rfl⟩
  · rw [if_neg z]; exact ⟨Or.inl rfl, fun y => absurd y (by decide), fun y => absurd y z⟩
theorem eq01 {x y : Int} (hx : x = 0 ∨ x = 1) (hy : y = 0 ∨ y = 1) (h : x = 1 ↔ y = 1) : x = y := by omega
theorem c_isEndE {γ : Gh} {K : Sk} {V : Mm} (hL : Lay K) (hV : SV V) {s k : Int} (hs : 0 ≤ s ∧ s < 2197) (hk : 0 ≤ k ∧ k < 3) : Call γ M_X11_isEnd 1 0 0 [vI s, vI k] K V (Rt (some (vI (eD k s))) K V) := c_isEnd hL hV hs hk
theorem m_isEndE {γ : Gh} {K : Sk} {V : Mm} {s k : Int} (hs : 0 ≤ s ∧ s < 2197) (hk : 0 ≤ k ∧ k < 3) : Call γ M_X12_isEnd 1 0 0 [vR 156, vI s, vI k] K V (Rt (some (vI (eD k s))) K V) := m_isEnd hs hk
abbrev U1 (C : Int → Int) (F k : Int) : Nat → Int → Int := fun n => (frc C F k n).1
abbrev U2 (C : Int → Int) (F k : Int) : Nat → Int → Int := fun n => (frc C F k n).2
/-- the marks of all that was found, T turns being worked out for those ahead of h, one less for the rest -/
def MM (C : Int → Int) (F k : Int) (B : BS) (ma mb : Nat) (T : Nat) (h : Int) (W : Mm) : Prop := ∀ j, 0 ≤ j → j < B.2.2.1 → (j < h → RM (U1 C F k) (T + 1) (B.2.1 j) (W ma (pl (B.2.1 j))) ∧ RM (U2 C F k) (T + 1) (B.2.1 j) (W mb (pl (B.2.1 j)))) ∧ (h ≤ j → RM (U1 C F k) T (B.2.1 j) (W ma (pl (B.2.1 j))) ∧ RM (U2 C F k) T (B.2.1 j) (W mb (pl (B.2.1 j))))
theorem MM.at {C : Int → Int} {F k : Int} {B : BS} {ma mb T : Nat} {h : Int} {W : Mm} (hM : MM C F k B ma mb T h W) (hT : T ≤ 9) {j : Int} (h0 : 0 ≤ j) (h1 : j < B.2.2.1) : (0 ≤ W ma (pl (B.2.1 j)) ∧ W ma (pl (B.2.1 j)) ≤ 99) ∧ (0 ≤ W mb (pl (B.2.1 j)) ∧ W mb (pl (B.2.1 j)) ≤ 99) ∧ (W ma (pl (B.2.1 j)) < (T : Int) + 1 ↔ (frc C F k T).1 (B.2.1 j) = 1) ∧ (W mb (pl (B.2.1 j)) < (T : Int) + 1 ↔ (frc C F k T).2 (B.2.1 j) = 1) := by
  obtain ⟨a, b⟩ := hM j h0 h1
  by_cases z : j < h
  · obtain ⟨c, d⟩ := a z
    have c1 := c.1
    have d1 := d.1
    exact ⟨by omega, by omega, c.lt (by omega), d.lt (by omega)⟩
  · obtain ⟨c, d⟩ := b (by omega)
    have c1 := c.1
    have d1 := d.1
    exact ⟨by omega, by omega, c.lt (Nat.le_refl _), d.lt (Nat.le_refl _)⟩
theorem c_turnsToForce {γ : Gh} {K : Sk} {V : Mm} {C : Int → Int} {F s0 k : Int} (h : SrP K V C F) (hs : isSt s0) (hn : V 102 4 = s0) (hk : 0 ≤ k ∧ k < 3) : Call γ M_X6_turnsToForce 5 0 0 [vR 101, vI k] K V (Qx (some (vI (fL (U1 C F k) s0 11))) K (fun W => COk C F (W 119) ∧ W 155 = V 155 ∧ frS V W)) := by
  refine call_of (by decide +kernel) (by intro v hv; simp only [List.mem_cons, List.not_mem_nil, or_false] at hv; rcases hv with rfl | rfl <;> exact fun q => by cases q) (Nat.le_of_ble_eq_true rfl) ?_
  refine ev_lsE (ls' := [_, _, _, _, _]) rfl ?_
  have hL := h.1
  obtain ⟨ma, mb, hM⟩ := hL.marks
  obtain ⟨z1, z2, z3, z4⟩ := hM.sh hL
  have hab := hM.2.2
  have hC := h.2.2.2.1
  have hI := bF_I (F := F) hC hs
  have hO := bF_O (F := F) hC hs
  have hex := c_explore (γ := γ) h hs hn
  generalize bF C F s0 = B at *
  have hn5 := hI.n_le
  have hn1 := hI.1
  have hst := fun j (h0 : 0 ≤ j) (h1 : j < B.2.2.1) => hI.2.1 j ⟨h0, h1⟩
  have hinj := fun (i j : Int) (a0 : 0 ≤ i) (a1 : i < B.2.2.1) (b0 : 0 ≤ j) (b1 : j < B.2.2.1) (e : pl (B.2.1 i) = pl (B.2.1 j)) => hI.2.2.2.2.1 i j ⟨a0, a1⟩ ⟨b0, b1⟩ (pl_inj (hst i a0 a1) (hst j b0 b1) e)
  have hedge : ∀ j p, 0 ≤ j → j < B.2.2.1 → 0 ≤ p → p < 6 → nx C F (B.2.1 j) p ≠ -1 → ∃ j', (0 ≤ j' ∧ j' < B.2.2.1) ∧ B.2.1 j' = nx C F (B.2.1 j) p := fun j p j0 j1 p0 p1 hx => by
    have := edge_by hI hO (by omega) ⟨j0, j1⟩ ⟨p0, p1⟩ hx
    exact hI.2.2.2.1 _ this.1
  refine ev_aload_n (X := M_X6_turnsToForce) (pc := 0) dX6_turnsToForce_0 rfl ?_
  refine ev_virtY (X := M_X6_turnsToForce) (Y := M_X6_explore) (pc := 1) (ci := 6) dX6_turnsToForce_1 mk_X6_explore rfl kw_769 kw_656 kw_657 (lO_101 hL) (hex) rfl (by decide) rfl (Nat.le_of_ble_eq_true rfl) (Nat.zero_add _) (Nat.zero_add _) (fun W1 hW1 => ?_)
  obtain ⟨⟨e1, e2, _, _⟩, e3, e4⟩ := hW1
  have hF1 : frS V W1 := e4.S
  have h155 : W1 155 = V 155 := e4 155 (by decide) (by decide) (by decide) (by decide) (by decide)
  clear e4
  refine ev_iconst (X := M_X6_turnsToForce) (pc := 4) dX6_turnsToForce_4 ?_
  refine ev_istore_nL (X := M_X6_turnsToForce) (pc := 5) (ls' := [_, _, _, _, _]) dX6_turnsToForce_5 (by decide) rfl ?_
  have ph3 : ∀ (T : Nat) W, T ≤ 10 → (∀ c, c ≠ 119 → c ≠ ma → c ≠ mb → W c = W1 c) → COk C F (W 119) → MM C F k B ma mb T 0 W → (W ma (pl s0) ≠ 99 ∨ T = 10) → Ev γ M_X6_turnsToForce 5 0 0 126 [vR 101, vI k, vI (pl s0), vU, vU] [] K W (Qx (some (vI (fL (U1 C F k) s0 11))) K (fun W => COk C F (W 119) ∧ W 155 = V 155 ∧ frS V W)) := by
    intro T W hT w1 w2 w3 hd
    have hRM := ((w3 0 (Int.le_refl 0) (by omega)).2 (Int.le_refl 0)).1
    rw [hI.2.2.2.2.2.1] at hRM
    have hres := fL_RM hRM hT hd
    have hrr := hRM.1
    obtain ⟨g0, g1, g2⟩ := pl_st hs
    rw [hres]
    generalize hMv : W ma (pl s0) = M at *
    have hfin : ∀ x, x = (if M = 99 then -1 else M) → Qx (some (vI (if M = 99 then -1 else M))) K (fun W => COk C F (W 119) ∧ W 155 = V 155 ∧ frS V W) (some (vI x)) K W := fun x hx =>
      ⟨by rw [hx], rfl, w2, by rw [w1 155 (by omega) (by omega) (by omega)]; exact h155, fun c z => by rw [w1 c (by omega) (by omega) (by omega)]; exact hF1 c z⟩
    refine ev_aload_n (X := M_X6_turnsToForce) (pc := 126) dX6_turnsToForce_126 rfl ?_
    refine ev_getRe (X := M_X6_turnsToForce) (pc := 127) dX6_turnsToForce_127 fl_X6_34_6 (lO_101 hL) rfl hM.1 ?_
    refine ev_iload_n (X := M_X6_turnsToForce) (pc := 130) dX6_turnsToForce_130 rfl ?_
    refine ev_ialoadE (X := M_X6_turnsToForce) (pc := 131) dX6_turnsToForce_131 z1 (by omega) (hMv) ?_
    refine ev_bipush (X := M_X6_turnsToForce) (pc := 132) dX6_turnsToForce_132 (by decide) ?_
    refine ev_icmp_ne (X := M_X6_turnsToForce) (pc := 134) (tgt := 141) dX6_turnsToForce_134 (by decide) (by omega) (by decide) (fun h134 => ?_) (fun h134 => ?_)
    · have hx := hfin M (by rw [if_neg h134])
      refine ev_aload_n (X := M_X6_turnsToForce) (pc := 141) dX6_turnsToForce_141 rfl ?_
      refine ev_getRe (X := M_X6_turnsToForce) (pc := 142) dX6_turnsToForce_142 fl_X6_34_6 (lO_101 hL) rfl hM.1 ?_
      refine ev_iload_n (X := M_X6_turnsToForce) (pc := 145) dX6_turnsToForce_145 rfl ?_
      refine ev_ialoadE (X := M_X6_turnsToForce) (pc := 146) dX6_turnsToForce_146 z1 (by omega) (hMv) ?_
      refine ev_iret (X := M_X6_turnsToForce) (pc := 147) dX6_turnsToForce_147 rfl ?_
      exact hx
    · have hx := hfin (-1) (by rw [if_pos h134])
      refine ev_iconst (X := M_X6_turnsToForce) (pc := 137) dX6_turnsToForce_137 ?_
      refine ev_goto (X := M_X6_turnsToForce) (pc := 138) (tgt := 147) dX6_turnsToForce_138 (by decide) ?_
      refine ev_iret (X := M_X6_turnsToForce) (pc := 147) dX6_turnsToForce_147 rfl ?_
      exact hx
  have ph2 : ∀ W, (∀ c, c ≠ 119 → c ≠ ma → c ≠ mb → W c = W1 c) → COk C F (W 119) → MM C F k B ma mb 0 0 W → Ev γ M_X6_turnsToForce 5 0 0 64 [vR 101, vI k, vU, vU, vU] [] K W (Qx (some (vI (fL (U1 C F k) s0 11))) K (fun W => COk C F (W 119) ∧ W 155 = V 155 ∧ frS V W)) := by
    intro W w1 w2 w3
    have h120 : W 120 0 = pl s0 := by rw [w1 120 (by omega) (by omega) (by omega), e2 0 (by omega), hI.2.2.2.2.2.1]
    refine ev_aload_n (X := M_X6_turnsToForce) (pc := 64) dX6_turnsToForce_64 rfl ?_
    refine ev_getRe (X := M_X6_turnsToForce) (pc := 65) dX6_turnsToForce_65 fl_X6_25_6 (lO_101 hL) rfl (lR_101_3 hL) ?_
    refine ev_iconst (X := M_X6_turnsToForce) (pc := 68) dX6_turnsToForce_68 ?_
    refine ev_ialoadE (X := M_X6_turnsToForce) (pc := 69) dX6_turnsToForce_69 (lS_120 hL) (by omega) (h120) ?_
    refine ev_istore_nL (X := M_X6_turnsToForce) (pc := 70) (ls' := [_, _, _, _, _]) dX6_turnsToForce_70 (by decide) rfl ?_
    refine ev_iconst (X := M_X6_turnsToForce) (pc := 71) dX6_turnsToForce_71 ?_
    refine ev_istore_nL (X := M_X6_turnsToForce) (pc := 72) (ls' := [_, _, _, _, _]) dX6_turnsToForce_72 (by decide) rfl ?_
    refine ev_weak (ev_while (σ := Nat × Mm) (fun s => s.1 ≤ 10 ∧ (∀ c, c ≠ 119 → c ≠ ma → c ≠ mb → s.2 c = W1 c) ∧ COk C F (s.2 119) ∧ MM C F k B ma mb s.1 0 s.2) (fun s => 10 - s.1) (fun s => [vR 101, vI k, vI (pl s0), vI ((s.1 : Int) + 1), vU]) (fun _ => K) (fun s => s.2) ?_ (0, W) ⟨by show 0 ≤ 10; decide, w1, w2, w3⟩) ⟨rfl, rfl, rfl, rfl, trivial⟩
    clear w1 w2 w3 h120 W
    rintro ⟨T, W⟩ ⟨hT, w1, w2, w3⟩ ih
    dsimp only at hT w1 w2 w3 ih ⊢
    have hRM := ((w3 0 (Int.le_refl 0) (by omega)).2 (Int.le_refl 0)).1
    rw [hI.2.2.2.2.2.1] at hRM
    have hrr := hRM.1
    obtain ⟨g0, g1, g2⟩ := pl_st hs
    have go3 := ph3 T W hT w1 w2 w3
    refine ev_iload_n (X := M_X6_turnsToForce) (pc := 73) dX6_turnsToForce_73 rfl ?_
    refine ev_bipush (X := M_X6_turnsToForce) (pc := 74) dX6_turnsToForce_74 (by decide) ?_
    refine ev_icmp_gt (X := M_X6_turnsToForce) (pc := 76) (tgt := 126) dX6_turnsToForce_76 (by decide) (by omega) (by omega) (fun h76 => ?_) (fun h76 => ?_)
    · first
        | exact ev_weak (go3 (Or.inl h87)) ⟨rfl, rfl, rfl, trivial⟩
        | exact ev_weak (go3 (Or.inr (by omega))) ⟨rfl, rfl, rfl, trivial⟩
    · refine ev_aload_n (X := M_X6_turnsToForce) (pc := 79) dX6_turnsToForce_79 rfl ?_
      refine ev_getRe (X := M_X6_turnsToForce) (pc := 80) dX6_turnsToForce_80 fl_X6_34_6 (lO_101 hL) rfl hM.1 ?_
      refine ev_iload_n (X := M_X6_turnsToForce) (pc := 83) dX6_turnsToForce_83 rfl ?_
      refine ev_iaload (X := M_X6_turnsToForce) (pc := 84) dX6_turnsToForce_84 z1 (by omega) ?_
      refine ev_bipush (X := M_X6_turnsToForce) (pc := 85) dX6_turnsToForce_85 (by decide) ?_
      refine ev_icmp_ne (X := M_X6_turnsToForce) (pc := 87) (tgt := 126) dX6_turnsToForce_87 (by decide) (by omega) (by decide) (fun h87 => ?_) (fun h87 => ?_)
      · first
          | exact ev_weak (go3 (Or.inl h87)) ⟨rfl, rfl, rfl, trivial⟩
          | exact ev_weak (go3 (Or.inr (by omega))) ⟨rfl, rfl, rfl, trivial⟩
      · refine ev_iconst (X := M_X6_turnsToForce) (pc := 90) dX6_turnsToForce_90 ?_
        refine ev_istoreL (X := M_X6_turnsToForce) (pc := 91) (ls' := [_, _, _, _, _]) dX6_turnsToForce_91 (by decide) rfl ?_
        have hT9 : T ≤ 9 := by omega
        refine ev_weak (ev_while (σ := Int × Mm) (fun s => 0 ≤ s.1 ∧ s.1 ≤ B.2.2.1 ∧ (∀ c, c ≠ 119 → c ≠ ma → c ≠ mb → s.2 c = W1 c) ∧ COk C F (s.2 119) ∧ MM C F k B ma mb T s.1 s.2) (fun s => (B.2.2.1 - s.1).toNat) (fun s => [vR 101, vI k, vI (pl s0), vI ((T : Int) + 1), vI s.1]) (fun _ => K) (fun s => s.2) ?_ (0, W) ⟨Int.le_refl 0, by show (0 : Int) ≤ B.2.2.1; omega, w1, w2, w3⟩) ⟨rfl, rfl, rfl, rfl, rfl, trivial⟩
        clear w1 w2 w3 hRM hrr go3 h87 W
        rintro ⟨q, W⟩ ⟨q0, q1, w1, w2, w3⟩ ih2
        dsimp only at q0 q1 w1 w2 w3 ih2 ⊢
        have hf6 : W 101 6 = B.2.2.1 := by rw [w1 101 (by omega) (by omega) (by omega)]; exact e1
        have hq0' : q < B.2.2.1 → W 120 q = pl (B.2.1 q) := fun z => by rw [w1 120 (by omega) (by omega) (by omega)]; exact e2 q ⟨q0, z⟩
        have hfS : frS V W := fun c z => by rw [w1 c (by omega) (by omega) (by omega)]; exact hF1 c z
        have hS := h.frS hL hfS w2
        refine ev_iload (X := M_X6_turnsToForce) (pc := 93) dX6_turnsToForce_93 rfl ?_
        refine ev_aload_n (X := M_X6_turnsToForce) (pc := 95) dX6_turnsToForce_95 rfl ?_
        refine ev_getIe (X := M_X6_turnsToForce) (pc := 96) (ki := 6) dX6_turnsToForce_96 fl_X6_74_6 (lO_101 hL) (by decide) rfl (hf6) ?_
        refine ev_icmp_ge (X := M_X6_turnsToForce) (pc := 99) (tgt := 120) dX6_turnsToForce_99 (by decide) (by omega) (by omega) (fun h99 => ?_) (fun h99 => ?_)
        · refine ev_iincL (X := M_X6_turnsToForce) (pc := 120) (ls' := [_, _, _, _, _]) dX6_turnsToForce_120 rfl (by decide) rfl ?_
          refine ev_goto (X := M_X6_turnsToForce) (pc := 123) (tgt := 73) dX6_turnsToForce_123 (by decide) ?_
          refine ev_weak (ih (T + 1, W) ⟨by omega, w1, w2, fun j j0 j1 => ⟨fun z => by omega, fun _ => (w3 j j0 j1).1 (by omega)⟩⟩ (by show 10 - (T + 1) < 10 - T; omega)) ⟨rfl, rfl, rfl, congrArg vI (by omega), trivial⟩
        · have hql : q < B.2.2.1 := by omega
          have hsq := hst q q0 hql
          obtain ⟨y0, y1, y2⟩ := pl_st hsq
          have hat := w3.at hT9 q0 hql
          refine ev_aload_n (X := M_X6_turnsToForce) (pc := 102) dX6_turnsToForce_102 rfl ?_
          refine ev_iload_n (X := M_X6_turnsToForce) (pc := 103) dX6_turnsToForce_103 rfl ?_
          refine ev_aload_n (X := M_X6_turnsToForce) (pc := 104) dX6_turnsToForce_104 rfl ?_
          refine ev_getRe (X := M_X6_turnsToForce) (pc := 105) dX6_turnsToForce_105 fl_X6_25_6 (lO_101 hL) rfl (lR_101_3 hL) ?_
          refine ev_iload (X := M_X6_turnsToForce) (pc := 108) dX6_turnsToForce_108 rfl ?_
          refine ev_ialoadE (X := M_X6_turnsToForce) (pc := 110) dX6_turnsToForce_110 (lS_120 hL) (by omega) (hq0' hql) ?_
          refine ev_virtY (X := M_X6_turnsToForce) (Y := M_X6_forceWithin) (pc := 111) (ci := 6) dX6_turnsToForce_111 mk_X6_forceWithin rfl kw_814 kw_815 kw_816 (lO_101 hL) (c_forceWithin (Uf := (frc C F k T).1) (Uo := (frc C F k T).2) hS hM hsq (by omega) (fun p p0 p1 hx => by obtain ⟨j', hj', he⟩ := hedge q p q0 hql p0 p1 hx; rw [← he]; exact w3.at hT9 hj'.1 hj'.2) (fun t => (frc_01 T t).1) hat.1 hat.2.1) rfl (by decide) rfl (Nat.le_of_ble_eq_true rfl) (Nat.zero_add _) (Nat.zero_add _) (fun W2 hW2 => ?_)
          refine ev_iincL (X := M_X6_turnsToForce) (pc := 114) (ls' := [_, _, _, _, _]) dX6_turnsToForce_114 rfl (by decide) rfl ?_
          refine ev_goto (X := M_X6_turnsToForce) (pc := 117) (tgt := 93) dX6_turnsToForce_117 (by decide) ?_
          obtain ⟨f1, f2, ⟨xa, fa1, fa2⟩, ⟨xb, fb1, fb2⟩⟩ := hW2
          refine ev_weak (ih2 (q + 1, W2) ⟨by omega, by omega, fun c c1 c2 c3 => by show W2 c = W1 c; rw [f1 c c1 c2 c3]; exact w1 c c1 c2 c3, f2, fun j j0 j1 => ?_⟩ (by show (B.2.2.1 - (q + 1)).toNat < (B.2.2.1 - q).toNat; omega)) ⟨rfl, rfl, rfl, rfl, rfl, trivial⟩
          obtain ⟨a, b⟩ := w3 j j0 j1
          show (j < q + 1 → RM (U1 C F k) (T + 1) (B.2.1 j) (W2 ma (pl (B.2.1 j))) ∧ RM (U2 C F k) (T + 1) (B.2.1 j) (W2 mb (pl (B.2.1 j)))) ∧ (q + 1 ≤ j → RM (U1 C F k) T (B.2.1 j) (W2 ma (pl (B.2.1 j))) ∧ RM (U2 C F k) T (B.2.1 j) (W2 mb (pl (B.2.1 j))))
          rw [fa1, fb1]
          by_cases z : j = q
          · subst z
            rw [up_self, up_self]
            refine ⟨fun _ => ?_, fun w => by omega⟩
            obtain ⟨r1, r2⟩ := b (Int.le_refl _)
            have i1 := (vF_i (C := C) (F := F) (k := k) (U := (frc C F k T).2) (s := B.2.1 j)).2
            have i2 := (vO_i (C := C) (F := F) (k := k) (U := (frc C F k T).1) (s := B.2.1 j)).2
            have k1 : (frc C F k (T + 1)).1 (B.2.1 j) = vF C F k (frc C F k T).2 (B.2.1 j) := rfl
            have k2 : (frc C F k (T + 1)).2 (B.2.1 j) = vO C F k (frc C F k T).1 (B.2.1 j) := rfl
            have d1 : W ma (pl (B.2.1 j)) = 99 → ¬ eD k (B.2.1 j) = 1 := fun z w => by
              have := (r1.2 0 (Nat.zero_le _)).mpr w
              rw [z] at this
              exact absurd this (by decide)
            have d2 : W mb (pl (B.2.1 j)) = 99 → ¬ eD k (B.2.1 j) = 1 := fun z w => by
              have := (r2.2 0 (Nat.zero_le _)).mpr w
              rw [z] at this
              exact absurd this (by decide)
            refine ⟨r1.nxt (by omega) (fun n => (frc_mono n _).1) ?_, r2.nxt (by omega) (fun n => (frc_mono n _).2) ?_⟩
            · rw [k1, i1]
              rcases fa2 with ⟨g1, g2, g3⟩ | ⟨g1, g2⟩
              · exact Or.inl ⟨g1, Or.inr ⟨hsq, g2⟩, g3⟩
              · refine Or.inr ⟨fun w => g1 ⟨w.1, ?_⟩, g2⟩
                exact (w.2.resolve_left (d1 w.1)).2
            · rw [k2, i2]
              rcases fb2 with ⟨g1, g2, g3⟩ | ⟨g1, g2⟩
              · exact Or.inl ⟨g1, Or.inr ⟨hsq, g2⟩, g3⟩
              · refine Or.inr ⟨fun w => g1 ⟨w.1, ?_⟩, g2⟩
                exact (w.2.resolve_left (d2 w.1)).2
          · have hne : pl (B.2.1 j) ≠ pl (B.2.1 q) := fun w => z (hinj j q j0 j1 q0 hql w)
            rw [up_ne hne, up_ne hne]
            exact ⟨fun w => a (by omega), fun w => b (by omega)⟩
  refine ev_weak (ev_while (σ := Int × Mm) (fun s => 0 ≤ s.1 ∧ s.1 ≤ B.2.2.1 ∧ (∀ c, c ≠ 119 → c ≠ ma → c ≠ mb → s.2 c = W1 c) ∧ COk C F (s.2 119) ∧ ∀ j, 0 ≤ j → j < s.1 → s.2 ma (pl (B.2.1 j)) = (if eD k (B.2.1 j) = 0 then 99 else 0) ∧ s.2 mb (pl (B.2.1 j)) = (if eD k (B.2.1 j) = 0 then 99 else 0)) (fun s => (B.2.2.1 - s.1).toNat) (fun s => [vR 101, vI k, vI s.1, vU, vU]) (fun _ => K) (fun s => s.2) ?_ (0, W1) ⟨Int.le_refl 0, by show (0 : Int) ≤ B.2.2.1; omega, fun _ _ _ _ => rfl, e3, fun j j0 j1 => by change j < 0 at j1; omega⟩) ⟨rfl, rfl, rfl, trivial⟩
  rintro ⟨q, W⟩ ⟨q0, q1, w1, w2, w3⟩ ih
  dsimp only at q0 q1 w1 w2 w3 ih ⊢
  have hf6 : W 101 6 = B.2.2.1 := by rw [w1 101 (by omega) (by omega) (by omega)]; exact e1
  have hq0' : q < B.2.2.1 → W 120 q = pl (B.2.1 q) := fun z => by rw [w1 120 (by omega) (by omega) (by omega)]; exact e2 q ⟨q0, z⟩
  have hfS : frS V W := fun c z => by rw [w1 c (by omega) (by omega) (by omega)]; exact hF1 c z
  have hS := h.frS hL hfS w2
  refine ev_iload_n (X := M_X6_turnsToForce) (pc := 6) dX6_turnsToForce_6 rfl ?_
  refine ev_aload_n (X := M_X6_turnsToForce) (pc := 7) dX6_turnsToForce_7 rfl ?_
  refine ev_getIe (X := M_X6_turnsToForce) (pc := 8) (ki := 6) dX6_turnsToForce_8 fl_X6_74_6 (lO_101 hL) (by decide) rfl (hf6) ?_
  refine ev_icmp_ge (X := M_X6_turnsToForce) (pc := 11) (tgt := 64) dX6_turnsToForce_11 (by decide) (by omega) (by omega) (fun h11 => ?_) (fun h11 => ?_)
  · refine ev_weak (ph2 W w1 w2 (fun j j0 j1 => ⟨fun z => by omega, fun _ => ?_⟩)) ⟨rfl, rfl, trivial⟩
    obtain ⟨a, b⟩ := w3 j j0 (by omega)
    rw [a, b]
    have hi := eD_i (k := k) (s := B.2.1 j)
    have key : ∀ U : Nat → Int → Int, U 0 (B.2.1 j) = eD k (B.2.1 j) → RM U 0 (B.2.1 j) (if eD k (B.2.1 j) = 0 then 99 else 0) := fun U hU => by
      refine ⟨?_, fun n hn => ?_⟩
      · split
        · exact Or.inr rfl
        · exact Or.inl (by decide)
      · have hn0 : n = 0 := by omega
        rw [hn0, hU]
        rcases hi.1 with z | z
        · rw [z]; decide
        · rw [z]; decide
    exact ⟨key _ rfl, key _ rfl⟩
  · have hql : q < B.2.2.1 := by omega
    have hsq := hst q q0 hql
    have hsql := isSt_lt hsq
    obtain ⟨y0, y1, y2⟩ := pl_st hsq
    have hi := (eD_i (k := k) (s := B.2.1 q)).1
    have hgo : ∀ x, x = (if eD k (B.2.1 q) = 0 then (99 : Int) else 0) → Ev γ M_X6_turnsToForce 5 0 0 6 [vR 101, vI k, vI (q + 1), vU, vU] [] K (wr (wr W ma (pl (B.2.1 q)) x) mb (pl (B.2.1 q)) x) (Qx (some (vI (fL (U1 C F k) s0 11))) K (fun W => COk C F (W 119) ∧ W 155 = V 155 ∧ frS V W)) := fun x hx => by
      refine ih (q + 1, wr (wr W ma (pl (B.2.1 q)) x) mb (pl (B.2.1 q)) x) ⟨by omega, by omega, fun c c1 c2 c3 => ?_, ?_, fun j j0 j1 => ?_⟩ (by show (B.2.2.1 - (q + 1)).toNat < (B.2.2.1 - q).toNat; omega)
      · show wr (wr W ma (pl (B.2.1 q)) x) mb (pl (B.2.1 q)) x c = W1 c
        rw [wr_off c3, wr_off c2]
        exact w1 c c1 c2 c3
      · show COk C F (wr (wr W ma (pl (B.2.1 q)) x) mb (pl (B.2.1 q)) x 119)
        rw [wr_off (by omega), wr_off (by omega)]
        exact w2
      · change j < q + 1 at j1
        show wr (wr W ma (pl (B.2.1 q)) x) mb (pl (B.2.1 q)) x ma (pl (B.2.1 j)) = _ ∧ wr (wr W ma (pl (B.2.1 q)) x) mb (pl (B.2.1 q)) x mb (pl (B.2.1 j)) = _
        rw [wr_row, wr_off (show ma ≠ mb by omega), wr_row, wr_off (show mb ≠ ma by omega)]
        by_cases z : j = q
        · rw [z, up_self, up_self, hx]
          exact ⟨rfl, rfl⟩
        · have hne : pl (B.2.1 j) ≠ pl (B.2.1 q) := fun w => z (hinj j q j0 (by omega) q0 hql w)
          rw [up_ne hne, up_ne hne]
          exact w3 j j0 (by omega)
    refine ev_aload_n (X := M_X6_turnsToForce) (pc := 14) dX6_turnsToForce_14 rfl ?_
    refine ev_getRe (X := M_X6_turnsToForce) (pc := 15) dX6_turnsToForce_15 fl_X6_25_6 (lO_101 hL) rfl (lR_101_3 hL) ?_
    refine ev_iload_n (X := M_X6_turnsToForce) (pc := 18) dX6_turnsToForce_18 rfl ?_
    refine ev_ialoadE (X := M_X6_turnsToForce) (pc := 19) dX6_turnsToForce_19 (lS_120 hL) (by omega) (hq0' hql) ?_
    refine ev_istore_nL (X := M_X6_turnsToForce) (pc := 20) (ls' := [_, _, _, _, _]) dX6_turnsToForce_20 (by decide) rfl ?_
    refine ev_aload_n (X := M_X6_turnsToForce) (pc := 21) dX6_turnsToForce_21 rfl ?_
    refine ev_getRe (X := M_X6_turnsToForce) (pc := 22) dX6_turnsToForce_22 fl_X6_34_6 (lO_101 hL) rfl hM.1 ?_
    refine ev_iload_n (X := M_X6_turnsToForce) (pc := 25) dX6_turnsToForce_25 rfl ?_
    refine ev_aload_n (X := M_X6_turnsToForce) (pc := 26) dX6_turnsToForce_26 rfl ?_
    refine ev_getRe (X := M_X6_turnsToForce) (pc := 27) dX6_turnsToForce_27 fl_X6_18_6 (lO_101 hL) rfl (lR_101_1 hL) ?_
    refine ev_iload_n (X := M_X6_turnsToForce) (pc := 30) dX6_turnsToForce_30 rfl ?_
    refine ev_ialoadE (X := M_X6_turnsToForce) (pc := 31) dX6_turnsToForce_31 (lS_118 hL) (by omega) ((hS.2.2.2.2.2.2.1 (pl (B.2.1 q)) ⟨y0, y1⟩).trans y2) ?_
    refine ev_iload_n (X := M_X6_turnsToForce) (pc := 32) dX6_turnsToForce_32 rfl ?_
    refine ev_staticNR (X := M_X6_turnsToForce) (Y := M_X11_isEnd) (pc := 33) (host := "GreenPath") dX6_turnsToForce_33 mk_X11_isEnd kn_813 kw_759 (c_isEndE hL hS.2.1 hsql hk) rfl (by decide) rfl (Nat.le_of_ble_eq_true rfl) (Nat.zero_add _) (Nat.zero_add _) ?_
    refine ev_if_eq (X := M_X6_turnsToForce) (pc := 36) (tgt := 43) dX6_turnsToForce_36 (by decide) (by omega) (fun h36 => ?_) (fun h36 => ?_)
    · have hgo2 := hgo 99 (by rw [if_pos h36])
      refine ev_bipush (X := M_X6_turnsToForce) (pc := 43) dX6_turnsToForce_43 (by decide) ?_
      refine ev_iastore (X := M_X6_turnsToForce) (pc := 45) dX6_turnsToForce_45 z3 z1 (by omega) ?_
      refine ev_aload_n (X := M_X6_turnsToForce) (pc := 46) dX6_turnsToForce_46 rfl ?_
      refine ev_getRe (X := M_X6_turnsToForce) (pc := 47) dX6_turnsToForce_47 fl_X6_37_6 (lO_101 hL) rfl hM.2.1 ?_
      refine ev_iload_n (X := M_X6_turnsToForce) (pc := 50) dX6_turnsToForce_50 rfl ?_
      refine ev_aload_n (X := M_X6_turnsToForce) (pc := 51) dX6_turnsToForce_51 rfl ?_
      refine ev_getRe (X := M_X6_turnsToForce) (pc := 52) dX6_turnsToForce_52 fl_X6_34_6 (lO_101 hL) rfl hM.1 ?_
      refine ev_iload_n (X := M_X6_turnsToForce) (pc := 55) dX6_turnsToForce_55 rfl ?_
      refine ev_ialoadE (X := M_X6_turnsToForce) (pc := 56) dX6_turnsToForce_56 z1 (by omega) (wr_self) ?_
      refine ev_iastore (X := M_X6_turnsToForce) (pc := 57) dX6_turnsToForce_57 z4 z2 (by omega) ?_
      refine ev_iincL (X := M_X6_turnsToForce) (pc := 58) (ls' := [_, _, _, _, _]) dX6_turnsToForce_58 rfl (by decide) rfl ?_
      refine ev_goto (X := M_X6_turnsToForce) (pc := 61) (tgt := 6) dX6_turnsToForce_61 (by decide) ?_
      exact ev_weak hgo2 ⟨rfl, rfl, rfl, trivial⟩
    · have hgo2 := hgo 0 (by rw [if_neg h36])
      refine ev_iconst (X := M_X6_turnsToForce) (pc := 39) dX6_turnsToForce_39 ?_
      refine ev_goto (X := M_X6_turnsToForce) (pc := 40) (tgt := 45) dX6_turnsToForce_40 (by decide) ?_
      refine ev_iastore (X := M_X6_turnsToForce) (pc := 45) dX6_turnsToForce_45 z3 z1 (by omega) ?_
      refine ev_aload_n (X := M_X6_turnsToForce) (pc := 46) dX6_turnsToForce_46 rfl ?_
      refine ev_getRe (X := M_X6_turnsToForce) (pc := 47) dX6_turnsToForce_47 fl_X6_37_6 (lO_101 hL) rfl hM.2.1 ?_
      refine ev_iload_n (X := M_X6_turnsToForce) (pc := 50) dX6_turnsToForce_50 rfl ?_
      refine ev_aload_n (X := M_X6_turnsToForce) (pc := 51) dX6_turnsToForce_51 rfl ?_
      refine ev_getRe (X := M_X6_turnsToForce) (pc := 52) dX6_turnsToForce_52 fl_X6_34_6 (lO_101 hL) rfl hM.1 ?_
      refine ev_iload_n (X := M_X6_turnsToForce) (pc := 55) dX6_turnsToForce_55 rfl ?_
      refine ev_ialoadE (X := M_X6_turnsToForce) (pc := 56) dX6_turnsToForce_56 z1 (by omega) (wr_self) ?_
      refine ev_iastore (X := M_X6_turnsToForce) (pc := 57) dX6_turnsToForce_57 z4 z2 (by omega) ?_
      refine ev_iincL (X := M_X6_turnsToForce) (pc := 58) (ls' := [_, _, _, _, _]) dX6_turnsToForce_58 rfl (by decide) rfl ?_
      refine ev_goto (X := M_X6_turnsToForce) (pc := 61) (tgt := 6) dX6_turnsToForce_61 (by decide) ?_
      exact ev_weak hgo2 ⟨rfl, rfl, rfl, trivial⟩
def foR (C : Int → Int) (F s0 k : Int) : Int := if 0 ≤ k ∧ k < 3 then oNr (fL (U1 C F k) s0 11) else -1000000001
def foE (C : Int → Int) (F s0 k : Int) (er : Int → Int) : Int → Int := if 0 ≤ k ∧ k < 3 then (if fL (U1 C F k) s0 11 = -1 then up er 2 (er 2 + 1) else er) else up er 1 (er 1 + 1)
theorem c_force {γ : Gh} {K : Sk} {V : Mm} {C : Int → Int} {F s0 k : Int} (h : SrP K V C F) (hs : isSt s0) (hn : V 102 4 = s0) (hkr : R32 k) : Call γ M_X11_force 6 0 0 [vR 100, vI k] K V (Qx (some (vI (foR C F s0 k))) K (CS C F V (foE C F s0 k (V 155)))) := by
  refine call_of (by decide +kernel) (by intro v hv; simp only [List.mem_cons, List.not_mem_nil, or_false] at hv; rcases hv with rfl | rfl <;> exact fun q => by cases q) (Nat.le_of_ble_eq_true rfl) ?_
  refine ev_lsE (ls' := [_, _]) rfl ?_
  have hL := h.1
  refine ev_iload_n (X := M_X11_force) (pc := 0) dX11_force_0 rfl ?_
  refine ev_staticR (X := M_X11_force) (Y := M_X11_isSort) (pc := 1) dX11_force_1 mk_X11_isSort kw_317 kw_235 (c_isSort hkr) rfl (by decide) rfl (Nat.le_of_ble_eq_true rfl) (Nat.zero_add _) (Nat.zero_add _) ?_
  refine ev_if_eq (X := M_X11_force) (pc := 4) (tgt := 22) dX11_force_4 (by decide) (by split <;> decide) (fun h4 => ?_) (fun h4 => ?_)
  · have hno : ¬ (0 ≤ k ∧ k < 3) := fun z => by rw [if_pos z] at h4; exact absurd h4 (by decide)
    refine ev_aload_n (X := M_X11_force) (pc := 22) dX11_force_22 rfl ?_
    refine ev_ldc (X := M_X11_force) (pc := 23) (v := -1000000001) dX11_force_23 kw_318 (by decide) ?_
    refine ev_virtR (X := M_X11_force) (Y := M_X11_error) (pc := 25) (ci := 11) dX11_force_25 mk_X11_error rfl kw_319 kw_321 kp_0 (lO_100 hL) (c_error hL (k := 1) (by decide) rfl) rfl (by decide) rfl (Nat.le_of_ble_eq_true rfl) (Nat.zero_add _) (Nat.zero_add _) ?_
    refine ev_iret (X := M_X11_force) (pc := 28) dX11_force_28 rfl ?_
    first
      | (refine ⟨rfl, rfl, ?_⟩
         unfold oNV
         by_cases z : x = -1
         · rw [if_pos z, if_pos z]
           exact ⟨by rw [err_119]; exact hW.1, by rw [err_155, hW.2.1], hW.2.2.er 2⟩
         · rw [if_neg z, if_neg z]
           exact ⟨hW.1, hW.2.1, hW.2.2⟩)
      | (unfold foR foE
         rw [if_neg hno, if_neg hno]
         exact ⟨rfl, rfl, by rw [err_119]; exact h.2.2.2.2.2.2.2, err_155, frS.rf.er 1⟩)
  · have hye : 0 ≤ k ∧ k < 3 := Decidable.byContradiction fun z => h4 (by rw [if_neg z])
    refine ev_aload_n (X := M_X11_force) (pc := 7) dX11_force_7 rfl ?_
    refine ev_aload_n (X := M_X11_force) (pc := 8) dX11_force_8 rfl ?_
    refine ev_getRe (X := M_X11_force) (pc := 9) dX11_force_9 fl_X11_12_11 (lO_100 hL) rfl (lR_100_2 hL) ?_
    refine ev_iload_n (X := M_X11_force) (pc := 12) dX11_force_12 rfl ?_
    refine ev_virtX (X := M_X11_force) (Y := M_X6_turnsToForce) (pc := 13) (ci := 6) dX11_force_13 mk_X6_turnsToForce rfl kw_809 kw_810 kw_811 (lO_101 hL) (c_turnsToForce h hs hn hye) rfl (by decide) rfl (Nat.le_of_ble_eq_true rfl) (Nat.zero_add _) (Nat.zero_add _) (fun W hW => ?_)
    unfold foR foE
    rw [if_pos hye, if_pos hye]
    have hr := fL_r (U := U1 C F k) (s := s0) 11
    generalize fL (U1 C F k) s0 11 = x at *
    refine ev_virtR (X := M_X11_force) (Y := M_X11_orNone) (pc := 16) (ci := 11) dX11_force_16 mk_X11_orNone rfl kw_678 kw_680 kp_4 (lO_100 hL) (c_orNone hL (by omega)) rfl (by decide) rfl (Nat.le_of_ble_eq_true rfl) (Nat.zero_add _) (Nat.zero_add _) ?_
    refine ev_goto (X := M_X11_force) (pc := 19) (tgt := 28) dX11_force_19 (by decide) ?_
    refine ev_iret (X := M_X11_force) (pc := 28) dX11_force_28 rfl ?_
    first
      | (refine ⟨rfl, rfl, ?_⟩
         unfold oNV
         by_cases z : x = -1
         · rw [if_pos z, if_pos z]
           exact ⟨by rw [err_119]; exact hW.1, by rw [err_155, hW.2.1], hW.2.2.er 2⟩
         · rw [if_neg z, if_neg z]
           exact ⟨hW.1, hW.2.1, hW.2.2⟩)
      | (unfold foR foE
         rw [if_neg hno, if_neg hno]
         exact ⟨rfl, rfl, by rw [err_119]; exact h.2.2.2.2.2.2.2, err_155, frS.rf.er 1⟩)
