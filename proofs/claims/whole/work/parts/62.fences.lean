def QzL (K : Sk) (P : Int → Mm → Prop) : Option PV → Sk → Mm → Prop := fun r' K' V' => K' = K ∧ ∃ x, r' = some (vL x) ∧ P x V'
section RW
variable {γ : Gh} {X : MX} {d mc ms pc : Nat} {ls st : List PV} {K : Sk} {V : Mm} {Q : Option PV → Sk → Mm → Prop}
variable {Y : MX} {index n d' mc' ms' mcr msr : Nat} {As : List PV} {K' : Sk} {P : Int → Mm → Prop}
theorem ev_virtW {ci a : Nat} {r : vw_C} (hd : decode X.2.1 pc = .ok (.invokevirtual index, 3)) (hy : mOk Y n) (hcl : vwCl[ci]? = some r) (w1 : Cond.methodLink X.1.cls index Y.1 ∈ tb) (w2 : Cond.instanceMethod Y.1 ∈ tb) (w3 : Cond.selects r.1 Y.1 Y.1 ∈ tb) (hs : (K.1 a).1 = ci + 10) (hC : Call γ Y d' mc' ms' (vR a :: As) K V (QzL K' P)) {stk : List PV} (hst : stk = As.reverse ++ vR a :: st) (hd' : d' < d) (hn : As.length = n) (hW : (st.map pcat).sum ≤ 8) (hmc : mc' + mcr = mc) (hms : ms' + msr = ms) (kk : ∀ x V', P x V' → Ev γ X d mcr msr (pc + 3) ls (vL x :: st) K' V' Q) : Ev γ X d mc ms pc ls stk K V Q :=
  ev_virt hd hy hcl w1 w2 w3 hs hC hst hd' hn hW hmc hms (by rintro _ _ V' ⟨rfl, x, rfl, hP⟩; exact kk x V' hP)
end RW
def Cp (C : Int → Int) (s0 F : Int) (f : Int → Int) (r : Int) : Prop := ∀ (t : Int) (b : Nat), b < 64 → Rch C s0 (op_ior F b) t → (bF C (op_ior F b) s0).1 t ≤ r → bt (f (pl t)) b = true
def FX (C : Int → Int) (s0 F : Int) (f : Int → Int) : Prop := ∀ s, Rch C s0 F s → PJ C F s f f 6
theorem Full_C {C : Int → Int} {s0 F : Int} {f : Int → Int} (hC : wfC C) (hs : isSt s0) (h : Cp C s0 F f 455) (t : Int) (b : Nat) (hb : b < 64) (hR : Rch C s0 (op_ior F b) t) : bt (f (pl t)) b = true := by
  have hr := (bF_I (F := op_ior F b) hC hs).far_r t
  exact h t b hb hR (by omega)
theorem Full_X {C : Int → Int} {s0 F : Int} {f : Int → Int} (hC : wfC C) (hs : isSt s0) (hF : 0 ≤ F ∧ F < 64) (h0 : ∀ b : Nat, b < 64 → bt (f (pl s0)) b = true) (h : FX C s0 F f) (t : Int) (b : Nat) (hb : b < 64) (hR : Rch C s0 (op_ior F b) t) : bt (f (pl t)) b = true := by
  have hb2 : 0 ≤ (b : Int) ∧ (b : Int) < 64 := by omega
  refine Rch_ind hC hs (fun t => bt (f (pl t)) b = true) (h0 b hb) (fun s p h1 h2 h3 h4 => ?_) t hR
  obtain ⟨e1, e2⟩ := nx_or1 hC hF hb2 h3 (Rch_st hC hs h1) h4
  rw [show ((b : Int)).toNat = b by omega] at e1
  rw [← e2]
  exact h s (Rch_sub hC hs hF hb2 h1) p h3.1 h3.2 (by rw [e2]; exact h4) b hb h2 e1
theorem Cp_s {C : Int → Int} {s0 F r : Int} {f g : Int → Int} (hC : wfC C) (hs : isSt s0) (hF : 0 ≤ F ∧ F < 64) (hr : 0 ≤ r) (h : Cp C s0 F f r) (hm : Mo f g) (hp : ∀ s, Rch C s0 F s → PJ C F s f g 6) : Cp C s0 F g (r + 1) := fun t b hb hR hd => by
  have hb2 : 0 ≤ (b : Int) ∧ (b : Int) < 64 := by omega
  rcases Rch_par hC hs hR with z | ⟨s, p, h1, h2, h3, h4⟩
  · refine hm _ b hb (h t b hb hR ?_)
    rw [z, far_0 (bF_I (F := op_ior F b) hC hs)]
    exact hr
  · have hst := Rch_st hC hs h1
    have hnt := (Rch_st hC hs hR).1
    obtain ⟨e1, e2⟩ := nx_or1 hC hF hb2 h2 hst (by rw [h3]; omega)
    rw [show ((b : Int)).toNat = b by omega] at e1
    have := hp s (Rch_sub hC hs hF hb2 h1) p h2.1 h2.2 (by rw [e2, h3]; omega) b hb (h s b hb h1 (by omega)) e1
    rw [e2, h3] at this
    exact this
def SL (C : Int → Int) (s0 F k x : Int) : Prop := ∀ b : Nat, b < 64 → (bt x b = true ↔ ∃ j : Nat, (1 ≤ j ∧ j ≤ 12) ∧ Rch C s0 (op_ior F b) (j * wgtF k))
theorem c_sets {γ : Gh} {K : Sk} {V : Mm} {C : Int → Int} {F s0 k : Int} (h : SrP K V C F) (hs : isSt s0) (hn : V 102 4 = s0) (hk : 0 ≤ k ∧ k < 3) : Call γ M_X6_setsThatLetThrough 5 0 0 [vR 101, vI k] K V (QzL K (fun x W => SL C s0 F k x ∧ COk C F (W 119) ∧ W 155 = V 155 ∧ frS V W)) := by
  refine call_of (by decide +kernel) (by intro v hv; simp only [List.mem_cons, List.not_mem_nil, or_false] at hv; rcases hv with rfl | rfl <;> exact fun q => by cases q) (Nat.le_of_ble_eq_true rfl) ?_
  refine ev_lsE (ls' := [_, _, _, _, _, _]) rfl ?_
  have hL := h.1
  obtain ⟨sa, sb, hM⟩ := hL.sums
  obtain ⟨z1, z2, z3, z4⟩ := hM.sh hL
  have hab := hM.2.2
  have hC := h.2.2.2.1
  have hF6 := h.2.2.2.2.1
  have hI := bF_I (F := F) hC hs
  have hex := c_explore (γ := γ) h hs hn
  have hRi : ∀ s, Rch C s0 F s → ∃ j, (0 ≤ j ∧ j < (bF C F s0).2.2.1) ∧ (bF C F s0).2.1 j = s := fun s z => hI.2.2.2.1 s z
  have hRj : ∀ j, 0 ≤ j → j < (bF C F s0).2.2.1 → Rch C s0 F ((bF C F s0).2.1 j) := fun j j0 j1 => by
    have := hI.2.2.1 j ⟨j0, j1⟩
    unfold Rch
    omega
  generalize bF C F s0 = B at *
  have hn5 := hI.n_le
  have hn1 := hI.1
  obtain ⟨g0, g1, g2⟩ := pl_st hs
  have hQ : ∃ Q : Option PV → Sk → Mm → Prop, Q = (QzL K (fun x W => SL C s0 F k x ∧ COk C F (W 119) ∧ W 155 = V 155 ∧ frS V W)) := ⟨_, rfl⟩
  obtain ⟨Q, hQ⟩ := hQ
  rw [← hQ]
  refine ev_aload_n (X := M_X6_setsThatLetThrough) (pc := 0) dX6_setsThatLetThrough_0 rfl ?_
  refine ev_virtY (X := M_X6_setsThatLetThrough) (Y := M_X6_explore) (pc := 1) (ci := 6) dX6_setsThatLetThrough_1 mk_X6_explore rfl kw_769 kw_656 kw_657 (lO_101 hL) (hex) rfl (by decide) rfl (Nat.le_of_ble_eq_true rfl) (Nat.zero_add _) (Nat.zero_add _) (fun W1 hW1 => ?_)
  obtain ⟨⟨e1, e2, _, _⟩, e3, e4⟩ := hW1
  have hF1 : frS V W1 := e4.S
  have h155 : W1 155 = V 155 := e4 155 (by decide) (by decide) (by decide) (by decide) (by decide)
  clear e4
  have h120 : W1 120 0 = pl s0 := by rw [e2 0 (by omega), hI.2.2.2.2.2.1]
  refine ev_aload_n (X := M_X6_setsThatLetThrough) (pc := 4) dX6_setsThatLetThrough_4 rfl ?_
  refine ev_getRe (X := M_X6_setsThatLetThrough) (pc := 5) dX6_setsThatLetThrough_5 fl_X6_40_6 (lO_101 hL) rfl hM.1 ?_
  refine ev_lconst (X := M_X6_setsThatLetThrough) (pc := 8) (v := 0) dX6_setsThatLetThrough_8 (by decide) ?_
  refine ev_staticV (X := M_X6_setsThatLetThrough) (Y := M_J7_fill_d0a16) (pc := 9) dX6_setsThatLetThrough_9 mk_J7_fill_d0a16 kw_730 kw_731 (c_fillL (n := 455) z3 z1 (by decide)) rfl (by decide) rfl (Nat.le_of_ble_eq_true rfl) (Nat.zero_add _) (Nat.zero_add _) ?_
  refine ev_aload_n (X := M_X6_setsThatLetThrough) (pc := 12) dX6_setsThatLetThrough_12 rfl ?_
  refine ev_getRe (X := M_X6_setsThatLetThrough) (pc := 13) dX6_setsThatLetThrough_13 fl_X6_40_6 (lO_101 hL) rfl hM.1 ?_
  refine ev_aload_n (X := M_X6_setsThatLetThrough) (pc := 16) dX6_setsThatLetThrough_16 rfl ?_
  refine ev_getRe (X := M_X6_setsThatLetThrough) (pc := 17) dX6_setsThatLetThrough_17 fl_X6_25_6 (lO_101 hL) rfl (lR_101_3 hL) ?_
  refine ev_iconst (X := M_X6_setsThatLetThrough) (pc := 20) dX6_setsThatLetThrough_20 ?_
  refine ev_ialoadE (X := M_X6_setsThatLetThrough) (pc := 21) dX6_setsThatLetThrough_21 (lS_120 hL) (by omega) ((congrFun (setr_ne (show (120 : Nat) ≠ sa by omega)) 0).trans h120) ?_
  refine ev_ldc2 (X := M_X6_setsThatLetThrough) (pc := 22) (v := -1) dX6_setsThatLetThrough_22 kw_770 (by decide) ?_
  refine ev_lastore (X := M_X6_setsThatLetThrough) (pc := 25) dX6_setsThatLetThrough_25 z3 z1 (by omega) ?_
  refine ev_iconst (X := M_X6_setsThatLetThrough) (pc := 26) dX6_setsThatLetThrough_26 ?_
  refine ev_istore_nL (X := M_X6_setsThatLetThrough) (pc := 27) (ls' := [_, _, _, _, _, _]) dX6_setsThatLetThrough_27 (by decide) rfl ?_
  refine ev_iconst (X := M_X6_setsThatLetThrough) (pc := 28) dX6_setsThatLetThrough_28 ?_
  refine ev_istore_nL (X := M_X6_setsThatLetThrough) (pc := 29) (ls' := [_, _, _, _, _, _]) dX6_setsThatLetThrough_29 (by decide) rfl ?_
  have ph3 : ∀ W, (∀ c, c ≠ 119 → c ≠ sa → W c = W1 c) → COk C F (W 119) → Sd C s0 F (W sa) → (∀ (t : Int) (b : Nat), b < 64 → Rch C s0 (op_ior F b) t → bt (W sa (pl t)) b = true) → Ev γ M_X6_setsThatLetThrough 5 0 0 81 [vR 101, vI k, vU, vU, vU, vU] [] K W Q := by
    intro W w1 w2 w3 w4
    have hS : SrP K W C F := h.frS hL (fun c z => by rw [w1 c (by omega) (by omega)]; exact hF1 c z) w2
    have hV := hS.2.1
    have hw := wgt_pos k
    refine ev_lconst (X := M_X6_setsThatLetThrough) (pc := 81) (v := 0) dX6_setsThatLetThrough_81 (by decide) ?_
    refine ev_lstore_nL (X := M_X6_setsThatLetThrough) (pc := 82) (ls' := [_, _, _, _, _, _]) dX6_setsThatLetThrough_82 (by decide) rfl ?_
    refine ev_iconst (X := M_X6_setsThatLetThrough) (pc := 83) dX6_setsThatLetThrough_83 ?_
    refine ev_istoreL (X := M_X6_setsThatLetThrough) (pc := 84) (ls' := [_, _, _, _, _, _]) dX6_setsThatLetThrough_84 (by decide) rfl ?_
    refine ev_weak (ev_while (σ := Nat × Int) (fun z => (1 ≤ z.1 ∧ z.1 ≤ 13) ∧ ∀ b : Nat, b < 64 → (bt z.2 b = true ↔ ∃ j : Nat, (1 ≤ j ∧ j < z.1) ∧ bt (W sa (pl (j * wgtF k))) b = true)) (fun z => 13 - z.1) (fun z => [vR 101, vI k, vU, vL z.2, vU, vI z.1]) (fun _ => K) (fun _ => W) ?_ (1, 0) ⟨by show 1 ≤ 1 ∧ 1 ≤ 13; decide, fun b hb => ⟨(fun q => by rw [bt_0 b hb] at q; cases q), (fun ⟨j, hj, _⟩ => by change 1 ≤ j ∧ j < 1 at hj; omega)⟩⟩) ⟨rfl, rfl, rfl, rfl, trivial⟩
    rintro ⟨n, x⟩ ⟨n1, hx⟩ ih
    dsimp only at n1 hx ih ⊢
    refine ev_iload (X := M_X6_setsThatLetThrough) (pc := 86) dX6_setsThatLetThrough_86 rfl ?_
    refine ev_bipush (X := M_X6_setsThatLetThrough) (pc := 88) dX6_setsThatLetThrough_88 (by decide) ?_
    refine ev_icmp_gt (X := M_X6_setsThatLetThrough) (pc := 90) (tgt := 114) dX6_setsThatLetThrough_90 (by decide) (by omega) (by omega) (fun h90 => ?_) (fun h90 => ?_)
    · have hn13 : n = 13 := by omega
      subst hn13
      rw [hQ]
      refine ev_lload_n (X := M_X6_setsThatLetThrough) (pc := 114) dX6_setsThatLetThrough_114 rfl ?_
      refine ev_lret (X := M_X6_setsThatLetThrough) (pc := 115) dX6_setsThatLetThrough_115 rfl ?_
      refine ⟨rfl, x, rfl, fun b hb => ?_, w2, by rw [w1 155 (by omega) (by omega)]; exact h155, fun c z => by rw [w1 c (by omega) (by omega)]; exact hF1 c z⟩
      rw [hx b hb]
      constructor
      · rintro ⟨j, hj, q⟩
        have hst := end_st (j := (j : Int)) (k := k) (by omega) hk
        obtain ⟨y0, y1, y2⟩ := pl_st hst
        have := w3 _ b y0 y1 hb q
        rw [y2] at this
        exact ⟨j, by omega, this⟩
      · rintro ⟨j, hj, q⟩
        exact ⟨j, by omega, w4 _ b hb q⟩
    · have hst := end_st (j := (n : Int)) (k := k) (by omega) hk
      refine ev_lload_n (X := M_X6_setsThatLetThrough) (pc := 93) dX6_setsThatLetThrough_93 rfl ?_
      refine ev_aload_n (X := M_X6_setsThatLetThrough) (pc := 94) dX6_setsThatLetThrough_94 rfl ?_
      refine ev_iload (X := M_X6_setsThatLetThrough) (pc := 95) dX6_setsThatLetThrough_95 rfl ?_
      refine ev_getsN (X := M_X6_setsThatLetThrough) (pc := 97) (q := ("GreenPath", "WEIGHT", "[I", vR 3)) (host := "GreenPath") dX6_setsThatLetThrough_97 st_3 kn_175 ?_
      refine ev_iload_n (X := M_X6_setsThatLetThrough) (pc := 100) dX6_setsThatLetThrough_100 rfl ?_
      refine ev_ialoadE (X := M_X6_setsThatLetThrough) (pc := 101) dX6_setsThatLetThrough_101 (lS_3 hL) (by omega) (congrFun hV.2.2 _) ?_
      refine ev_imul (X := M_X6_setsThatLetThrough) (pc := 102) dX6_setsThatLetThrough_102 ?_
      refine ev_virtR (X := M_X6_setsThatLetThrough) (Y := M_X6_waysTo) (pc := 103) (ci := 6) dX6_setsThatLetThrough_103 mk_X6_waysTo rfl kw_777 kw_743 kw_744 (lO_101 hL) (c_waysTo hL hV hS.2.2.1 hM (U := fun t => W sa (pl t)) (fun j hj => by show W sa j = W sa (pl (stF j)); rw [(stF_at hj).2]) hst) rfl (by decide) rfl (Nat.le_of_ble_eq_true rfl) (Nat.zero_add _) (Nat.zero_add _) ?_
      refine ev_lor (X := M_X6_setsThatLetThrough) (pc := 106) dX6_setsThatLetThrough_106 ?_
      refine ev_lstore_nL (X := M_X6_setsThatLetThrough) (pc := 107) (ls' := [_, _, _, _, _, _]) dX6_setsThatLetThrough_107 (by decide) rfl ?_
      refine ev_iincL (X := M_X6_setsThatLetThrough) (pc := 108) (ls' := [_, _, _, _, _, _]) dX6_setsThatLetThrough_108 rfl (by decide) rfl ?_
      refine ev_goto (X := M_X6_setsThatLetThrough) (pc := 111) (tgt := 86) dX6_setsThatLetThrough_111 (by decide) ?_
      refine ev_weak (ih (n + 1, op_lor x (W sa (pl (n * wgtF k)))) ⟨by omega, fun b hb => ?_⟩ (by show 13 - (n + 1) < 13 - n; omega)) ⟨rfl, rfl, rfl, congrArg vI (by omega), trivial⟩
      show bt (op_lor x (W sa (pl (n * wgtF k)))) b = true ↔ ∃ j : Nat, (1 ≤ j ∧ j < n + 1) ∧ _
      rw [bt_or, Bool.or_eq_true, hx b hb]
      constructor
      · rintro (⟨j, hj, q⟩ | q)
        · exact ⟨j, by omega, q⟩
        · exact ⟨n, by omega, q⟩
      · rintro ⟨j, hj, q⟩
        by_cases z : j = n
        · rw [z] at q; exact Or.inr q
        · exact Or.inl ⟨j, by omega, q⟩
  have hst0 : ∀ W, W = wr (setr W1 sa (flr (W1 sa) ((455 : Nat) : Int) 0)) sa (pl s0) (-1) → Ev γ M_X6_setsThatLetThrough 5 0 0 30 [vR 101, vI k, vI 1, vI 0, vU, vU] [] K W Q := by
    intro W hW
    have hrow : ∀ q, 0 ≤ q → q < 455 → W sa q = if q = pl s0 then -1 else 0 := fun q q0 q1 => by
      rw [hW, wr_setr, setr_self]
      by_cases z : q = pl s0
      · rw [z, up_self, if_pos rfl]
      · rw [up_ne z, if_neg z]
        unfold flr
        rw [if_pos ⟨q0, q1⟩]
    refine ev_weak (ev_while (σ := Int × Int × Mm) (fun z => 0 ≤ z.1 ∧ z.1 ≤ 455 ∧ (z.2.1 = 0 ∨ z.2.1 = 1) ∧ (∀ c, c ≠ 119 → c ≠ sa → z.2.2 c = W1 c) ∧ COk C F (z.2.2 119) ∧ Sd C s0 F (z.2.2 sa) ∧ Cp C s0 F (z.2.2 sa) z.1 ∧ (z.2.1 = 0 → FX C s0 F (z.2.2 sa))) (fun z => (455 - z.1).toNat) (fun z => [vR 101, vI k, vI z.2.1, vI z.1, vU, vU]) (fun _ => K) (fun z => z.2.2) ?_ (0, 1, W) ⟨Int.le_refl 0, by show (0 : Int) ≤ 455; decide, Or.inr rfl, ?_, ?_, ?_, ?_, fun z => absurd z (by show ¬ (1 : Int) = 0; decide)⟩) ⟨rfl, rfl, rfl, rfl, trivial⟩
    rotate_left
    · intro c c1 c2
      show W c = W1 c
      rw [hW, wr_off c2, setr_ne c2]
    · show COk C F (W 119)
      rw [hW, wr_off (by omega), setr_ne (by omega)]
      exact e3
    · intro q b q0 q1 hb hq
      change bt (W sa q) b = true at hq
      rw [hrow q q0 q1] at hq
      by_cases z : q = pl s0
      · rw [z, g2]
        exact Rch_0 hC hs
      · rw [if_neg z, bt_0 b hb] at hq
        cases hq
    · intro t b hb hR hd
      change (bF C (op_ior F b) s0).1 t ≤ 0 at hd
      show bt (W sa (pl t)) b = true
      rcases Rch_par hC hs hR with z | ⟨s, p, h1, h2, h3, h4⟩
      · rw [z, hrow _ g0 g1, if_pos rfl]
        exact bt_m1 b hb
      · exfalso
        have hfs := (bF_I (F := op_ior F b) hC hs).far_r s
        unfold Rch at h1
        generalize (bF C (op_ior F b) s0).1 s = u1 at *
        generalize (bF C (op_ior F b) s0).1 t = u2 at *
        omega
    clear hrow hW W
    rintro ⟨i, ch, W⟩ ⟨i0, i1, c1, w1, w2, w3, w4, w5⟩ ih
    dsimp only at i0 i1 c1 w1 w2 w3 w4 w5 ih ⊢
    have ch_r : R32 ch := by rcases c1 with z | z <;> rw [z] <;> decide
    refine ev_iload_n (X := M_X6_setsThatLetThrough) (pc := 30) dX6_setsThatLetThrough_30 rfl ?_
    refine ev_sipush (X := M_X6_setsThatLetThrough) (pc := 31) dX6_setsThatLetThrough_31 (by decide) ?_
    refine ev_icmp_ge (X := M_X6_setsThatLetThrough) (pc := 34) (tgt := 81) dX6_setsThatLetThrough_34 (by decide) (by omega) (by omega) (fun h34 => ?_) (fun h34 => ?_)
    · first
        | exact ev_weak (ph3 W w1 w2 w3 (fun t b hb hR => Full_C hC hs (by rw [show i = 455 by omega] at w4; exact w4) t b hb hR)) ⟨rfl, rfl, trivial⟩
        | exact ev_weak (ph3 W w1 w2 w3 (fun t b hb hR => Full_X hC hs hF6 (fun b hb => w4 s0 b hb (Rch_0 hC hs) (by rw [far_0 (bF_I (F := op_ior F b) hC hs)]; exact i0)) (w5 h38) t b hb hR)) ⟨rfl, rfl, trivial⟩
    · refine ev_iload_n (X := M_X6_setsThatLetThrough) (pc := 37) dX6_setsThatLetThrough_37 rfl ?_
      refine ev_if_eq (X := M_X6_setsThatLetThrough) (pc := 38) (tgt := 81) dX6_setsThatLetThrough_38 (by decide) (by exact ch_r) (fun h38 => ?_) (fun h38 => ?_)
      · first
          | exact ev_weak (ph3 W w1 w2 w3 (fun t b hb hR => Full_C hC hs (by rw [show i = 455 by omega] at w4; exact w4) t b hb hR)) ⟨rfl, rfl, trivial⟩
          | exact ev_weak (ph3 W w1 w2 w3 (fun t b hb hR => Full_X hC hs hF6 (fun b hb => w4 s0 b hb (Rch_0 hC hs) (by rw [far_0 (bF_I (F := op_ior F b) hC hs)]; exact i0)) (w5 h38) t b hb hR)) ⟨rfl, rfl, trivial⟩
      · refine ev_iconst (X := M_X6_setsThatLetThrough) (pc := 41) dX6_setsThatLetThrough_41 ?_
        refine ev_istore_nL (X := M_X6_setsThatLetThrough) (pc := 42) (ls' := [_, _, _, _, _, _]) dX6_setsThatLetThrough_42 (by decide) rfl ?_
        refine ev_iconst (X := M_X6_setsThatLetThrough) (pc := 43) dX6_setsThatLetThrough_43 ?_
        refine ev_istoreL (X := M_X6_setsThatLetThrough) (pc := 44) (ls' := [_, _, _, _, _, _]) dX6_setsThatLetThrough_44 (by decide) rfl ?_
        refine ev_weak (ev_while (σ := Int × Int × Mm) (fun z => 0 ≤ z.1 ∧ z.1 ≤ B.2.2.1 ∧ (z.2.1 = 0 ∨ z.2.1 = 1) ∧ (∀ c, c ≠ 119 → c ≠ sa → z.2.2 c = W1 c) ∧ COk C F (z.2.2 119) ∧ Sd C s0 F (z.2.2 sa) ∧ Mo (W sa) (z.2.2 sa) ∧ (z.2.1 = 0 → z.2.2 sa = W sa) ∧ ∀ j, 0 ≤ j → j < z.1 → PJ C F (B.2.1 j) (W sa) (z.2.2 sa) 6) (fun z => (B.2.2.1 - z.1).toNat) (fun z => [vR 101, vI k, vI z.2.1, vI i, vI z.1, vU]) (fun _ => K) (fun z => z.2.2) ?_ (0, 0, W) ⟨Int.le_refl 0, by show (0 : Int) ≤ B.2.2.1; omega, Or.inl rfl, w1, w2, w3, fun _ _ _ q => q, fun _ => rfl, fun j j0 j1 => by change j < 0 at j1; omega⟩) ⟨rfl, rfl, rfl, rfl, rfl, trivial⟩
        clear c1 ch_r h38 w5 ch
        rintro ⟨q, ch, W2⟩ ⟨q0, q1, c1, x1, x2, x3, x4, x5, x6⟩ ih2
        dsimp only at q0 q1 c1 x1 x2 x3 x4 x5 x6 ih2 ⊢
        have hf6 : W2 101 6 = B.2.2.1 := by rw [x1 101 (by omega) (by omega)]; exact e1
        have hq0' : q < B.2.2.1 → W2 120 q = pl (B.2.1 q) := fun z => by rw [x1 120 (by omega) (by omega)]; exact e2 q ⟨q0, z⟩
        have hS : SrP K W2 C F := h.frS hL (fun c z => by rw [x1 c (by omega) (by omega)]; exact hF1 c z) x2
        refine ev_iload (X := M_X6_setsThatLetThrough) (pc := 46) dX6_setsThatLetThrough_46 rfl ?_
        refine ev_aload_n (X := M_X6_setsThatLetThrough) (pc := 48) dX6_setsThatLetThrough_48 rfl ?_
        refine ev_getIe (X := M_X6_setsThatLetThrough) (pc := 49) (ki := 6) dX6_setsThatLetThrough_49 fl_X6_74_6 (lO_101 hL) (by decide) rfl (hf6) ?_
        refine ev_icmp_ge (X := M_X6_setsThatLetThrough) (pc := 52) (tgt := 75) dX6_setsThatLetThrough_52 (by decide) (by omega) (by omega) (fun h52 => ?_) (fun h52 => ?_)
        · refine ev_iincL (X := M_X6_setsThatLetThrough) (pc := 75) (ls' := [_, _, _, _, _, _]) dX6_setsThatLetThrough_75 rfl (by decide) rfl ?_
          refine ev_goto (X := M_X6_setsThatLetThrough) (pc := 78) (tgt := 30) dX6_setsThatLetThrough_78 (by decide) ?_
          have hq : q = B.2.2.1 := by omega
          have hPJ : ∀ s, Rch C s0 F s → PJ C F s (W sa) (W2 sa) 6 := fun s hR => by
            obtain ⟨j, hj, he⟩ := hRi s hR
            rw [← he]
            exact x6 j hj.1 (by omega)
          refine ev_weak (ih (i + 1, ch, W2) ⟨by omega, by omega, c1, x1, x2, x3, Cp_s hC hs hF6 i0 w4 x4 hPJ, fun z => ?_⟩ (by show (455 - (i + 1)).toNat < (455 - i).toNat; omega)) ⟨rfl, rfl, rfl, rfl, trivial⟩
          intro s hR
          show PJ C F s (W2 sa) (W2 sa) 6
          have := hPJ s hR
          rw [x5 z] at this ⊢
          exact this
        · have hql : q < B.2.2.1 := by omega
          have hsq := hI.2.1 q ⟨q0, hql⟩
          have hpq := pl_st hsq
          refine ev_iload_n (X := M_X6_setsThatLetThrough) (pc := 55) dX6_setsThatLetThrough_55 rfl ?_
          refine ev_aload_n (X := M_X6_setsThatLetThrough) (pc := 56) dX6_setsThatLetThrough_56 rfl ?_
          refine ev_aload_n (X := M_X6_setsThatLetThrough) (pc := 57) dX6_setsThatLetThrough_57 rfl ?_
          refine ev_getRe (X := M_X6_setsThatLetThrough) (pc := 58) dX6_setsThatLetThrough_58 fl_X6_25_6 (lO_101 hL) rfl (lR_101_3 hL) ?_
          refine ev_iload (X := M_X6_setsThatLetThrough) (pc := 61) dX6_setsThatLetThrough_61 rfl ?_
          refine ev_ialoadE (X := M_X6_setsThatLetThrough) (pc := 63) dX6_setsThatLetThrough_63 (lS_120 hL) (by omega) (hq0' hql) ?_
          refine ev_virtZ (X := M_X6_setsThatLetThrough) (Y := M_X6_spread) (pc := 64) (ci := 6) dX6_setsThatLetThrough_64 mk_X6_spread rfl kw_771 kw_772 kw_773 (lO_101 hL) (c_spread hS hM hs hsq x3) rfl (by decide) rfl (Nat.le_of_ble_eq_true rfl) (Nat.zero_add _) (Nat.zero_add _) (fun y W3 hW3 => ?_)
          refine ev_ior (X := M_X6_setsThatLetThrough) (pc := 67) dX6_setsThatLetThrough_67 ?_
          refine ev_istore_nL (X := M_X6_setsThatLetThrough) (pc := 68) (ls' := [_, _, _, _, _, _]) dX6_setsThatLetThrough_68 (by decide) rfl ?_
          refine ev_iincL (X := M_X6_setsThatLetThrough) (pc := 69) (ls' := [_, _, _, _, _, _]) dX6_setsThatLetThrough_69 rfl (by decide) rfl ?_
          refine ev_goto (X := M_X6_setsThatLetThrough) (pc := 72) (tgt := 46) dX6_setsThatLetThrough_72 (by decide) ?_
          obtain ⟨s1, s2, s3, s4, s5, s6, s7⟩ := hW3
          obtain ⟨o1', o2'⟩ := ior01 c1 s3
          refine ev_weak (ih2 (q + 1, op_ior ch y, W3) ⟨by omega, by omega, o1', fun c y1 y2 => by show W3 c = W1 c; rw [s1 c y1 y2]; exact x1 c y1 y2, s2, s6, fun a b hb hq => s5 a b hb (x4 a b hb hq), fun z => ?_, fun j j0 j1 => ?_⟩ (by show (B.2.2.1 - (q + 1)).toNat < (B.2.2.1 - q).toNat; omega)) ⟨rfl, rfl, rfl, rfl, rfl, trivial⟩
          · show W3 sa = W sa
            change op_ior ch y = 0 at z
            have hch : ch = 0 := by
              rcases c1 with w | w
              · exact w
              · have := o2'.mpr (Or.inl w); omega
            have hy : y = 0 := by
              rcases s3 with w | w
              · exact w
              · have := o2'.mpr (Or.inr w); omega
            rw [s4 hy, x5 hch]
          · show PJ C F (B.2.1 j) (W sa) (W3 sa) 6
            change j < q + 1 at j1
            by_cases z : j = q
            · subst z
              exact fun p' a1 a2 a3 b hb hb1 hb2 => s7 p' a1 a2 a3 b hb (x4 _ b hb hb1) hb2
            · exact fun p' a1 a2 a3 b hb hb1 hb2 => s5 _ b hb (x6 j j0 (by omega) p' a1 a2 a3 b hb hb1 hb2)
  exact ev_weak (hst0 _ rfl) ⟨rfl, rfl, rfl, rfl, trivial⟩
theorem SL_ke {C : Int → Int} {s0 F k x : Int} (hk : 0 ≤ k ∧ k < 3) (h : SL C s0 F k x) {i : Nat} (hi : i < 64) : bt x i = false ↔ keI C F s0 k i = -1 := by
  unfold keI
  rw [nE_12 (wgt_pos k).1]
  have hh := h i hi
  constructor
  · intro z j h1 h2
    refine Decidable.byContradiction fun q => ?_
    have := hh.mpr ⟨j, ⟨h1, h2⟩, q⟩
    rw [z] at this
    cases this
  · intro z
    cases he : bt x i with
    | false => rfl
    | true =>
      obtain ⟨j, hj, q⟩ := hh.mp he
      exact absurd (z j hj.1 hj.2) q
theorem c_leastFences {γ : Gh} {K : Sk} {V : Mm} {C : Int → Int} {F s0 k : Int} (h : SrP K V C F) (hs : isSt s0) (hn : V 102 4 = s0) (hk : 0 ≤ k ∧ k < 3) : Call γ M_X6_leastFences 6 0 0 [vR 101, vI k] K V (Qx (some (vI (cB C F s0 k 64))) K (fun W => COk C F (W 119) ∧ W 155 = V 155 ∧ frS V W)) := by
  refine call_of (by decide +kernel) (by intro v hv; simp only [List.mem_cons, List.not_mem_nil, or_false] at hv; rcases hv with rfl | rfl <;> exact fun q => by cases q) (Nat.le_of_ble_eq_true rfl) ?_
  refine ev_lsE (ls' := [_, _, _, _, _, _, _, _]) rfl ?_
  have hL := h.1
  have hF6 := h.2.2.2.2.1
  have hF0 : V 102 5 = F := h.2.2.2.2.2.1.1
  have hat := (and_tab F.toNat (by omega)).2.1
  rw [show ((F.toNat : Nat) : Int) = F by omega] at hat
  refine ev_aload_n (X := M_X6_leastFences) (pc := 0) dX6_leastFences_0 rfl ?_
  refine ev_iload_n (X := M_X6_leastFences) (pc := 1) dX6_leastFences_1 rfl ?_
  refine ev_virtW (X := M_X6_leastFences) (Y := M_X6_setsThatLetThrough) (pc := 2) (ci := 6) dX6_leastFences_2 mk_X6_setsThatLetThrough rfl kw_765 kw_766 kw_767 (lO_101 hL) (c_sets h hs hn hk) rfl (by decide) rfl (Nat.le_of_ble_eq_true rfl) (Nat.zero_add _) (Nat.zero_add _) (fun x W hW => ?_)
  obtain ⟨hSL, w1, w2, w3⟩ := hW
  have hF1 : W 102 5 = F := by rw [w3 102 (by omega)]; exact hF0
  refine ev_lstore_nL (X := M_X6_leastFences) (pc := 5) (ls' := [_, _, _, _, _, _, _, _]) dX6_leastFences_5 (by decide) rfl ?_
  refine ev_bipush (X := M_X6_leastFences) (pc := 6) dX6_leastFences_6 (by decide) ?_
  refine ev_aload_n (X := M_X6_leastFences) (pc := 8) dX6_leastFences_8 rfl ?_
  refine ev_getRe (X := M_X6_leastFences) (pc := 9) dX6_leastFences_9 fl_X6_12_6 (lO_101 hL) rfl (lR_101_0 hL) ?_
  refine ev_getIe (X := M_X6_leastFences) (pc := 12) (ki := 5) dX6_leastFences_12 fl_X6_111_2 (lO_102 hL) (by decide) rfl (hF1) ?_
  refine ev_iconst (X := M_X6_leastFences) (pc := 15) dX6_leastFences_15 ?_
  refine ev_ixor (X := M_X6_leastFences) (pc := 16) dX6_leastFences_16 ?_
  refine ev_iand (X := M_X6_leastFences) (pc := 17) dX6_leastFences_17 ?_
  rw [hat]
  refine ev_istoreL (X := M_X6_leastFences) (pc := 18) (ls' := [_, _, _, _, _, _, _, _]) dX6_leastFences_18 (by decide) rfl ?_
  refine ev_iconst (X := M_X6_leastFences) (pc := 20) dX6_leastFences_20 ?_
  refine ev_istoreL (X := M_X6_leastFences) (pc := 21) (ls' := [_, _, _, _, _, _, _, _]) dX6_leastFences_21 (by decide) rfl ?_
  refine ev_weak (ev_while (σ := Nat) (fun i => i ≤ 64) (fun i => 64 - i) (fun i => [vR 101, vI k, vL x, vU, vI (cB C F s0 k i), vI i, vU, vU]) (fun _ => K) (fun _ => W) ?_ 0 (by decide)) ⟨rfl, rfl, rfl, rfl, rfl, trivial⟩
  intro i hi ih
  have hcr := cB_r (C := C) (s0 := s0) (k := k) hF6 i hi
  have hstep : cB C F s0 k (i + 1) = if op_iand i F = 0 ∧ keI C F s0 k i = -1 ∧ onF i < onF (cB C F s0 k i) then (i : Int) else cB C F s0 k i := rfl
  have hir : R32 (op_iand i F) := op_r _
  have hgo : ∀ y, y = cB C F s0 k (i + 1) → i < 64 → Ev γ M_X6_leastFences 6 0 0 23 [vR 101, vI k, vL x, vU, vI y, vI ((i : Int) + 1), vU, vU] [] K W (Qx (some (vI (cB C F s0 k 64))) K (fun W => COk C F (W 119) ∧ W 155 = V 155 ∧ frS V W)) := fun y hy hi2 => by
    rw [hy]
    exact ev_weak (ih (i + 1) (by show i + 1 ≤ 64; omega) (by show 64 - (i + 1) < 64 - i; omega)) ⟨rfl, rfl, rfl, rfl, congrArg vI (by omega), trivial⟩
  refine ev_iload (X := M_X6_leastFences) (pc := 23) dX6_leastFences_23 rfl ?_
  refine ev_bipush (X := M_X6_leastFences) (pc := 25) dX6_leastFences_25 (by decide) ?_
  refine ev_icmp_ge (X := M_X6_leastFences) (pc := 27) (tgt := 101) dX6_leastFences_27 (by decide) (by omega) (by omega) (fun h27 => ?_) (fun h27 => ?_)
  · refine ev_iload (X := M_X6_leastFences) (pc := 101) dX6_leastFences_101 rfl ?_
    refine ev_iret (X := M_X6_leastFences) (pc := 103) dX6_leastFences_103 rfl ?_
    have h64 : i = 64 := by omega
    rw [h64]
    exact ⟨rfl, rfl, w1, w2, w3⟩
  · have hi64 : i < 64 := by omega
    have hke := SL_ke hk hSL hi64
    have hb1 := on_rI (n := (i : Int)) (by omega)
    have hb2 := on_rI hcr
    have hls := lushr_1 (x := x) hi64
    refine ev_iload (X := M_X6_leastFences) (pc := 30) dX6_leastFences_30 rfl ?_
    refine ev_aload_n (X := M_X6_leastFences) (pc := 32) dX6_leastFences_32 rfl ?_
    refine ev_getRe (X := M_X6_leastFences) (pc := 33) dX6_leastFences_33 fl_X6_12_6 (lO_101 hL) rfl (lR_101_0 hL) ?_
    refine ev_getIe (X := M_X6_leastFences) (pc := 36) (ki := 5) dX6_leastFences_36 fl_X6_111_2 (lO_102 hL) (by decide) rfl (hF1) ?_
    refine ev_iand (X := M_X6_leastFences) (pc := 39) dX6_leastFences_39 ?_
    refine ev_if_ne (X := M_X6_leastFences) (pc := 40) (tgt := 47) dX6_leastFences_40 (by decide) (by exact hir) (fun h40 => ?_) (fun h40 => ?_)
    · refine ev_iconst (X := M_X6_leastFences) (pc := 47) dX6_leastFences_47 ?_
      refine ev_istoreL (X := M_X6_leastFences) (pc := 48) (ls' := [_, _, _, _, _, _, _, _]) dX6_leastFences_48 (by decide) rfl ?_
      refine ev_lload_n (X := M_X6_leastFences) (pc := 50) dX6_leastFences_50 rfl ?_
      refine ev_iload (X := M_X6_leastFences) (pc := 51) dX6_leastFences_51 rfl ?_
      refine ev_lushr (X := M_X6_leastFences) (pc := 53) dX6_leastFences_53 ?_
      refine ev_lconst (X := M_X6_leastFences) (pc := 54) (v := 1) dX6_leastFences_54 (by decide) ?_
      refine ev_land (X := M_X6_leastFences) (pc := 55) dX6_leastFences_55 ?_
      rw [hls]
      refine ev_lconst (X := M_X6_leastFences) (pc := 56) (v := 0) dX6_leastFences_56 (by decide) ?_
      refine ev_lcmpN (X := M_X6_leastFences) (pc := 57) dX6_leastFences_57 (by split <;> decide) (by decide) (fun c57 hc57 => ?_)
      refine ev_if_ne (X := M_X6_leastFences) (pc := 58) (tgt := 65) dX6_leastFences_58 (by decide) (by omega) (fun h58 => ?_) (fun h58 => ?_)
      · have hnk : ¬ keI C F s0 k i = -1 := fun z => by
          rw [hke.mpr z] at hc57
          have : (if (false = true) then (1 : Int) else 0) = 0 := rfl
          omega
        refine ev_iconst (X := M_X6_leastFences) (pc := 65) dX6_leastFences_65 ?_
        refine ev_istoreL (X := M_X6_leastFences) (pc := 66) (ls' := [_, _, _, _, _, _, _, _]) dX6_leastFences_66 (by decide) rfl ?_
        refine ev_iload (X := M_X6_leastFences) (pc := 68) dX6_leastFences_68 rfl ?_
        refine ev_if_eq (X := M_X6_leastFences) (pc := 70) (tgt := 95) dX6_leastFences_70 (by decide) (by decide) (fun h70 => ?_) (fun h70 => ?_)
        · refine ev_iincL (X := M_X6_leastFences) (pc := 95) (ls' := [_, _, _, _, _, _, _, _]) dX6_leastFences_95 rfl (by decide) rfl ?_
          refine ev_goto (X := M_X6_leastFences) (pc := 98) (tgt := 23) dX6_leastFences_98 (by decide) ?_
          first
            | exact absurd rfl h70
            | exact absurd rfl h75
            | exact absurd h70 (by decide)
            | exact absurd h75 (by decide)
            | exact ev_weak (hgo _ (by rw [hstep, if_neg (fun q => h40 q.1)]) hi64) ⟨rfl, rfl, rfl, rfl, rfl, trivial⟩
            | exact ev_weak (hgo _ (by rw [hstep, if_neg (fun q => hnk q.2.1)]) hi64) ⟨rfl, rfl, rfl, rfl, rfl, trivial⟩
            | exact ev_weak (hgo _ (by rw [hstep, if_neg (fun q => by have := q.2.2; omega)]) hi64) ⟨rfl, rfl, rfl, rfl, rfl, trivial⟩
            | exact ev_weak (hgo _ (by rw [hstep, if_pos ⟨h40, hyk, by omega⟩]) hi64) ⟨rfl, rfl, rfl, rfl, rfl, trivial⟩
        · refine ev_iload (X := M_X6_leastFences) (pc := 73) dX6_leastFences_73 rfl ?_
          refine ev_if_eq (X := M_X6_leastFences) (pc := 75) (tgt := 95) dX6_leastFences_75 (by decide) (by decide) (fun h75 => ?_) (fun h75 => ?_)
          · refine ev_iincL (X := M_X6_leastFences) (pc := 95) (ls' := [_, _, _, _, _, _, _, _]) dX6_leastFences_95 rfl (by decide) rfl ?_
            refine ev_goto (X := M_X6_leastFences) (pc := 98) (tgt := 23) dX6_leastFences_98 (by decide) ?_
            first
              | exact absurd rfl h70
              | exact absurd rfl h75
              | exact absurd h70 (by decide)
              | exact absurd h75 (by decide)
              | exact ev_weak (hgo _ (by rw [hstep, if_neg (fun q => h40 q.1)]) hi64) ⟨rfl, rfl, rfl, rfl, rfl, trivial⟩
              | exact ev_weak (hgo _ (by rw [hstep, if_neg (fun q => hnk q.2.1)]) hi64) ⟨rfl, rfl, rfl, rfl, rfl, trivial⟩
              | exact ev_weak (hgo _ (by rw [hstep, if_neg (fun q => by have := q.2.2; omega)]) hi64) ⟨rfl, rfl, rfl, rfl, rfl, trivial⟩
              | exact ev_weak (hgo _ (by rw [hstep, if_pos ⟨h40, hyk, by omega⟩]) hi64) ⟨rfl, rfl, rfl, rfl, rfl, trivial⟩
          · refine ev_iload (X := M_X6_leastFences) (pc := 78) dX6_leastFences_78 rfl ?_
            refine ev_staticR (X := M_X6_leastFences) (Y := M_J6_bitCount_0f7a4) (pc := 80) dX6_leastFences_80 mk_J6_bitCount_0f7a4 kw_778 kw_779 (j_bitCount (by omega)) rfl (by decide) rfl (Nat.le_of_ble_eq_true rfl) (Nat.zero_add _) (Nat.zero_add _) ?_
            refine ev_iload (X := M_X6_leastFences) (pc := 83) dX6_leastFences_83 rfl ?_
            refine ev_staticR (X := M_X6_leastFences) (Y := M_J6_bitCount_0f7a4) (pc := 85) dX6_leastFences_85 mk_J6_bitCount_0f7a4 kw_778 kw_779 (j_bitCount (by omega)) rfl (by decide) rfl (Nat.le_of_ble_eq_true rfl) (Nat.zero_add _) (Nat.zero_add _) ?_
            refine ev_icmp_ge (X := M_X6_leastFences) (pc := 88) (tgt := 95) dX6_leastFences_88 (by decide) (by omega) (by omega) (fun h88 => ?_) (fun h88 => ?_)
            · refine ev_iincL (X := M_X6_leastFences) (pc := 95) (ls' := [_, _, _, _, _, _, _, _]) dX6_leastFences_95 rfl (by decide) rfl ?_
              refine ev_goto (X := M_X6_leastFences) (pc := 98) (tgt := 23) dX6_leastFences_98 (by decide) ?_
              first
                | exact absurd rfl h70
                | exact absurd rfl h75
                | exact absurd h70 (by decide)
                | exact absurd h75 (by decide)
                | exact ev_weak (hgo _ (by rw [hstep, if_neg (fun q => h40 q.1)]) hi64) ⟨rfl, rfl, rfl, rfl, rfl, trivial⟩
                | exact ev_weak (hgo _ (by rw [hstep, if_neg (fun q => hnk q.2.1)]) hi64) ⟨rfl, rfl, rfl, rfl, rfl, trivial⟩
                | exact ev_weak (hgo _ (by rw [hstep, if_neg (fun q => by have := q.2.2; omega)]) hi64) ⟨rfl, rfl, rfl, rfl, rfl, trivial⟩
                | exact ev_weak (hgo _ (by rw [hstep, if_pos ⟨h40, hyk, by omega⟩]) hi64) ⟨rfl, rfl, rfl, rfl, rfl, trivial⟩
            · refine ev_iload (X := M_X6_leastFences) (pc := 91) dX6_leastFences_91 rfl ?_
              refine ev_istoreL (X := M_X6_leastFences) (pc := 93) (ls' := [_, _, _, _, _, _, _, _]) dX6_leastFences_93 (by decide) rfl ?_
              refine ev_iincL (X := M_X6_leastFences) (pc := 95) (ls' := [_, _, _, _, _, _, _, _]) dX6_leastFences_95 rfl (by decide) rfl ?_
              refine ev_goto (X := M_X6_leastFences) (pc := 98) (tgt := 23) dX6_leastFences_98 (by decide) ?_
              first
                | exact absurd rfl h70
                | exact absurd rfl h75
                | exact absurd h70 (by decide)
                | exact absurd h75 (by decide)
                | exact ev_weak (hgo _ (by rw [hstep, if_neg (fun q => h40 q.1)]) hi64) ⟨rfl, rfl, rfl, rfl, rfl, trivial⟩
                | exact ev_weak (hgo _ (by rw [hstep, if_neg (fun q => hnk q.2.1)]) hi64) ⟨rfl, rfl, rfl, rfl, rfl, trivial⟩
                | exact ev_weak (hgo _ (by rw [hstep, if_neg (fun q => by have := q.2.2; omega)]) hi64) ⟨rfl, rfl, rfl, rfl, rfl, trivial⟩
                | exact ev_weak (hgo _ (by rw [hstep, if_pos ⟨h40, hyk, by omega⟩]) hi64) ⟨rfl, rfl, rfl, rfl, rfl, trivial⟩
      · have hyk : keI C F s0 k i = -1 := by
          cases hbx : bt x i with
          | false => exact hke.mp hbx
          | true =>
            rw [hbx] at hc57
            have : (if (true = true) then (1 : Int) else 0) = 1 := rfl
            omega
        refine ev_iconst (X := M_X6_leastFences) (pc := 61) dX6_leastFences_61 ?_
        refine ev_goto (X := M_X6_leastFences) (pc := 62) (tgt := 66) dX6_leastFences_62 (by decide) ?_
        refine ev_istoreL (X := M_X6_leastFences) (pc := 66) (ls' := [_, _, _, _, _, _, _, _]) dX6_leastFences_66 (by decide) rfl ?_
        refine ev_iload (X := M_X6_leastFences) (pc := 68) dX6_leastFences_68 rfl ?_
        refine ev_if_eq (X := M_X6_leastFences) (pc := 70) (tgt := 95) dX6_leastFences_70 (by decide) (by decide) (fun h70 => ?_) (fun h70 => ?_)
        · refine ev_iincL (X := M_X6_leastFences) (pc := 95) (ls' := [_, _, _, _, _, _, _, _]) dX6_leastFences_95 rfl (by decide) rfl ?_
          refine ev_goto (X := M_X6_leastFences) (pc := 98) (tgt := 23) dX6_leastFences_98 (by decide) ?_
          first
            | exact absurd rfl h70
            | exact absurd rfl h75
            | exact absurd h70 (by decide)
            | exact absurd h75 (by decide)
            | exact ev_weak (hgo _ (by rw [hstep, if_neg (fun q => h40 q.1)]) hi64) ⟨rfl, rfl, rfl, rfl, rfl, trivial⟩
            | exact ev_weak (hgo _ (by rw [hstep, if_neg (fun q => hnk q.2.1)]) hi64) ⟨rfl, rfl, rfl, rfl, rfl, trivial⟩
            | exact ev_weak (hgo _ (by rw [hstep, if_neg (fun q => by have := q.2.2; omega)]) hi64) ⟨rfl, rfl, rfl, rfl, rfl, trivial⟩
            | exact ev_weak (hgo _ (by rw [hstep, if_pos ⟨h40, hyk, by omega⟩]) hi64) ⟨rfl, rfl, rfl, rfl, rfl, trivial⟩
        · refine ev_iload (X := M_X6_leastFences) (pc := 73) dX6_leastFences_73 rfl ?_
          refine ev_if_eq (X := M_X6_leastFences) (pc := 75) (tgt := 95) dX6_leastFences_75 (by decide) (by decide) (fun h75 => ?_) (fun h75 => ?_)
          · refine ev_iincL (X := M_X6_leastFences) (pc := 95) (ls' := [_, _, _, _, _, _, _, _]) dX6_leastFences_95 rfl (by decide) rfl ?_
            refine ev_goto (X := M_X6_leastFences) (pc := 98) (tgt := 23) dX6_leastFences_98 (by decide) ?_
            first
              | exact absurd rfl h70
              | exact absurd rfl h75
              | exact absurd h70 (by decide)
              | exact absurd h75 (by decide)
              | exact ev_weak (hgo _ (by rw [hstep, if_neg (fun q => h40 q.1)]) hi64) ⟨rfl, rfl, rfl, rfl, rfl, trivial⟩
              | exact ev_weak (hgo _ (by rw [hstep, if_neg (fun q => hnk q.2.1)]) hi64) ⟨rfl, rfl, rfl, rfl, rfl, trivial⟩
              | exact ev_weak (hgo _ (by rw [hstep, if_neg (fun q => by have := q.2.2; omega)]) hi64) ⟨rfl, rfl, rfl, rfl, rfl, trivial⟩
              | exact ev_weak (hgo _ (by rw [hstep, if_pos ⟨h40, hyk, by omega⟩]) hi64) ⟨rfl, rfl, rfl, rfl, rfl, trivial⟩
          · refine ev_iload (X := M_X6_leastFences) (pc := 78) dX6_leastFences_78 rfl ?_
            refine ev_staticR (X := M_X6_leastFences) (Y := M_J6_bitCount_0f7a4) (pc := 80) dX6_leastFences_80 mk_J6_bitCount_0f7a4 kw_778 kw_779 (j_bitCount (by omega)) rfl (by decide) rfl (Nat.le_of_ble_eq_true rfl) (Nat.zero_add _) (Nat.zero_add _) ?_
            refine ev_iload (X := M_X6_leastFences) (pc := 83) dX6_leastFences_83 rfl ?_
            refine ev_staticR (X := M_X6_leastFences) (Y := M_J6_bitCount_0f7a4) (pc := 85) dX6_leastFences_85 mk_J6_bitCount_0f7a4 kw_778 kw_779 (j_bitCount (by omega)) rfl (by decide) rfl (Nat.le_of_ble_eq_true rfl) (Nat.zero_add _) (Nat.zero_add _) ?_
            refine ev_icmp_ge (X := M_X6_leastFences) (pc := 88) (tgt := 95) dX6_leastFences_88 (by decide) (by omega) (by omega) (fun h88 => ?_) (fun h88 => ?_)
            · refine ev_iincL (X := M_X6_leastFences) (pc := 95) (ls' := [_, _, _, _, _, _, _, _]) dX6_leastFences_95 rfl (by decide) rfl ?_
              refine ev_goto (X := M_X6_leastFences) (pc := 98) (tgt := 23) dX6_leastFences_98 (by decide) ?_
              first
                | exact absurd rfl h70
                | exact absurd rfl h75
                | exact absurd h70 (by decide)
                | exact absurd h75 (by decide)
                | exact ev_weak (hgo _ (by rw [hstep, if_neg (fun q => h40 q.1)]) hi64) ⟨rfl, rfl, rfl, rfl, rfl, trivial⟩
                | exact ev_weak (hgo _ (by rw [hstep, if_neg (fun q => hnk q.2.1)]) hi64) ⟨rfl, rfl, rfl, rfl, rfl, trivial⟩
                | exact ev_weak (hgo _ (by rw [hstep, if_neg (fun q => by have := q.2.2; omega)]) hi64) ⟨rfl, rfl, rfl, rfl, rfl, trivial⟩
                | exact ev_weak (hgo _ (by rw [hstep, if_pos ⟨h40, hyk, by omega⟩]) hi64) ⟨rfl, rfl, rfl, rfl, rfl, trivial⟩
            · refine ev_iload (X := M_X6_leastFences) (pc := 91) dX6_leastFences_91 rfl ?_
              refine ev_istoreL (X := M_X6_leastFences) (pc := 93) (ls' := [_, _, _, _, _, _, _, _]) dX6_leastFences_93 (by decide) rfl ?_
              refine ev_iincL (X := M_X6_leastFences) (pc := 95) (ls' := [_, _, _, _, _, _, _, _]) dX6_leastFences_95 rfl (by decide) rfl ?_
              refine ev_goto (X := M_X6_leastFences) (pc := 98) (tgt := 23) dX6_leastFences_98 (by decide) ?_
              first
                | exact absurd rfl h70
                | exact absurd rfl h75
                | exact absurd h70 (by decide)
                | exact absurd h75 (by decide)
                | exact ev_weak (hgo _ (by rw [hstep, if_neg (fun q => h40 q.1)]) hi64) ⟨rfl, rfl, rfl, rfl, rfl, trivial⟩
                | exact ev_weak (hgo _ (by rw [hstep, if_neg (fun q => hnk q.2.1)]) hi64) ⟨rfl, rfl, rfl, rfl, rfl, trivial⟩
                | exact ev_weak (hgo _ (by rw [hstep, if_neg (fun q => by have := q.2.2; omega)]) hi64) ⟨rfl, rfl, rfl, rfl, rfl, trivial⟩
                | exact ev_weak (hgo _ (by rw [hstep, if_pos ⟨h40, hyk, by omega⟩]) hi64) ⟨rfl, rfl, rfl, rfl, rfl, trivial⟩
    · refine ev_iconst (X := M_X6_leastFences) (pc := 43) dX6_leastFences_43 ?_
      refine ev_goto (X := M_X6_leastFences) (pc := 44) (tgt := 48) dX6_leastFences_44 (by decide) ?_
      refine ev_istoreL (X := M_X6_leastFences) (pc := 48) (ls' := [_, _, _, _, _, _, _, _]) dX6_leastFences_48 (by decide) rfl ?_
      refine ev_lload_n (X := M_X6_leastFences) (pc := 50) dX6_leastFences_50 rfl ?_
      refine ev_iload (X := M_X6_leastFences) (pc := 51) dX6_leastFences_51 rfl ?_
      refine ev_lushr (X := M_X6_leastFences) (pc := 53) dX6_leastFences_53 ?_
      refine ev_lconst (X := M_X6_leastFences) (pc := 54) (v := 1) dX6_leastFences_54 (by decide) ?_
      refine ev_land (X := M_X6_leastFences) (pc := 55) dX6_leastFences_55 ?_
      rw [hls]
      refine ev_lconst (X := M_X6_leastFences) (pc := 56) (v := 0) dX6_leastFences_56 (by decide) ?_
      refine ev_lcmpN (X := M_X6_leastFences) (pc := 57) dX6_leastFences_57 (by split <;> decide) (by decide) (fun c57 hc57 => ?_)
      refine ev_if_ne (X := M_X6_leastFences) (pc := 58) (tgt := 65) dX6_leastFences_58 (by decide) (by omega) (fun h58 => ?_) (fun h58 => ?_)
      · have hnk : ¬ keI C F s0 k i = -1 := fun z => by
          rw [hke.mpr z] at hc57
          have : (if (false = true) then (1 : Int) else 0) = 0 := rfl
          omega
        refine ev_iconst (X := M_X6_leastFences) (pc := 65) dX6_leastFences_65 ?_
        refine ev_istoreL (X := M_X6_leastFences) (pc := 66) (ls' := [_, _, _, _, _, _, _, _]) dX6_leastFences_66 (by decide) rfl ?_
        refine ev_iload (X := M_X6_leastFences) (pc := 68) dX6_leastFences_68 rfl ?_
        refine ev_if_eq (X := M_X6_leastFences) (pc := 70) (tgt := 95) dX6_leastFences_70 (by decide) (by decide) (fun h70 => ?_) (fun h70 => ?_)
        · refine ev_iincL (X := M_X6_leastFences) (pc := 95) (ls' := [_, _, _, _, _, _, _, _]) dX6_leastFences_95 rfl (by decide) rfl ?_
          refine ev_goto (X := M_X6_leastFences) (pc := 98) (tgt := 23) dX6_leastFences_98 (by decide) ?_
          first
            | exact absurd rfl h70
            | exact absurd rfl h75
            | exact absurd h70 (by decide)
            | exact absurd h75 (by decide)
            | exact ev_weak (hgo _ (by rw [hstep, if_neg (fun q => h40 q.1)]) hi64) ⟨rfl, rfl, rfl, rfl, rfl, trivial⟩
            | exact ev_weak (hgo _ (by rw [hstep, if_neg (fun q => hnk q.2.1)]) hi64) ⟨rfl, rfl, rfl, rfl, rfl, trivial⟩
            | exact ev_weak (hgo _ (by rw [hstep, if_neg (fun q => by have := q.2.2; omega)]) hi64) ⟨rfl, rfl, rfl, rfl, rfl, trivial⟩
            | exact ev_weak (hgo _ (by rw [hstep, if_pos ⟨h40, hyk, by omega⟩]) hi64) ⟨rfl, rfl, rfl, rfl, rfl, trivial⟩
        · refine ev_iload (X := M_X6_leastFences) (pc := 73) dX6_leastFences_73 rfl ?_
          refine ev_if_eq (X := M_X6_leastFences) (pc := 75) (tgt := 95) dX6_leastFences_75 (by decide) (by decide) (fun h75 => ?_) (fun h75 => ?_)
          · refine ev_iincL (X := M_X6_leastFences) (pc := 95) (ls' := [_, _, _, _, _, _, _, _]) dX6_leastFences_95 rfl (by decide) rfl ?_
            refine ev_goto (X := M_X6_leastFences) (pc := 98) (tgt := 23) dX6_leastFences_98 (by decide) ?_
            first
              | exact absurd rfl h70
              | exact absurd rfl h75
              | exact absurd h70 (by decide)
              | exact absurd h75 (by decide)
              | exact ev_weak (hgo _ (by rw [hstep, if_neg (fun q => h40 q.1)]) hi64) ⟨rfl, rfl, rfl, rfl, rfl, trivial⟩
              | exact ev_weak (hgo _ (by rw [hstep, if_neg (fun q => hnk q.2.1)]) hi64) ⟨rfl, rfl, rfl, rfl, rfl, trivial⟩
              | exact ev_weak (hgo _ (by rw [hstep, if_neg (fun q => by have := q.2.2; omega)]) hi64) ⟨rfl, rfl, rfl, rfl, rfl, trivial⟩
              | exact ev_weak (hgo _ (by rw [hstep, if_pos ⟨h40, hyk, by omega⟩]) hi64) ⟨rfl, rfl, rfl, rfl, rfl, trivial⟩
          · refine ev_iload (X := M_X6_leastFences) (pc := 78) dX6_leastFences_78 rfl ?_
            refine ev_staticR (X := M_X6_leastFences) (Y := M_J6_bitCount_0f7a4) (pc := 80) dX6_leastFences_80 mk_J6_bitCount_0f7a4 kw_778 kw_779 (j_bitCount (by omega)) rfl (by decide) rfl (Nat.le_of_ble_eq_true rfl) (Nat.zero_add _) (Nat.zero_add _) ?_
            refine ev_iload (X := M_X6_leastFences) (pc := 83) dX6_leastFences_83 rfl ?_
            refine ev_staticR (X := M_X6_leastFences) (Y := M_J6_bitCount_0f7a4) (pc := 85) dX6_leastFences_85 mk_J6_bitCount_0f7a4 kw_778 kw_779 (j_bitCount (by omega)) rfl (by decide) rfl (Nat.le_of_ble_eq_true rfl) (Nat.zero_add _) (Nat.zero_add _) ?_
            refine ev_icmp_ge (X := M_X6_leastFences) (pc := 88) (tgt := 95) dX6_leastFences_88 (by decide) (by omega) (by omega) (fun h88 => ?_) (fun h88 => ?_)
            · refine ev_iincL (X := M_X6_leastFences) (pc := 95) (ls' := [_, _, _, _, _, _, _, _]) dX6_leastFences_95 rfl (by decide) rfl ?_
              refine ev_goto (X := M_X6_leastFences) (pc := 98) (tgt := 23) dX6_leastFences_98 (by decide) ?_
              first
                | exact absurd rfl h70
                | exact absurd rfl h75
                | exact absurd h70 (by decide)
                | exact absurd h75 (by decide)
                | exact ev_weak (hgo _ (by rw [hstep, if_neg (fun q => h40 q.1)]) hi64) ⟨rfl, rfl, rfl, rfl, rfl, trivial⟩
                | exact ev_weak (hgo _ (by rw [hstep, if_neg (fun q => hnk q.2.1)]) hi64) ⟨rfl, rfl, rfl, rfl, rfl, trivial⟩
                | exact ev_weak (hgo _ (by rw [hstep, if_neg (fun q => by have := q.2.2; omega)]) hi64) ⟨rfl, rfl, rfl, rfl, rfl, trivial⟩
                | exact ev_weak (hgo _ (by rw [hstep, if_pos ⟨h40, hyk, by omega⟩]) hi64) ⟨rfl, rfl, rfl, rfl, rfl, trivial⟩
            · refine ev_iload (X := M_X6_leastFences) (pc := 91) dX6_leastFences_91 rfl ?_
              refine ev_istoreL (X := M_X6_leastFences) (pc := 93) (ls' := [_, _, _, _, _, _, _, _]) dX6_leastFences_93 (by decide) rfl ?_
              refine ev_iincL (X := M_X6_leastFences) (pc := 95) (ls' := [_, _, _, _, _, _, _, _]) dX6_leastFences_95 rfl (by decide) rfl ?_
              refine ev_goto (X := M_X6_leastFences) (pc := 98) (tgt := 23) dX6_leastFences_98 (by decide) ?_
              first
                | exact absurd rfl h70
                | exact absurd rfl h75
                | exact absurd h70 (by decide)
                | exact absurd h75 (by decide)
                | exact ev_weak (hgo _ (by rw [hstep, if_neg (fun q => h40 q.1)]) hi64) ⟨rfl, rfl, rfl, rfl, rfl, trivial⟩
                | exact ev_weak (hgo _ (by rw [hstep, if_neg (fun q => hnk q.2.1)]) hi64) ⟨rfl, rfl, rfl, rfl, rfl, trivial⟩
                | exact ev_weak (hgo _ (by rw [hstep, if_neg (fun q => by have := q.2.2; omega)]) hi64) ⟨rfl, rfl, rfl, rfl, rfl, trivial⟩
                | exact ev_weak (hgo _ (by rw [hstep, if_pos ⟨h40, hyk, by omega⟩]) hi64) ⟨rfl, rfl, rfl, rfl, rfl, trivial⟩
      · have hyk : keI C F s0 k i = -1 := by
          cases hbx : bt x i with
          | false => exact hke.mp hbx
          | true =>
            rw [hbx] at hc57
            have : (if (true = true) then (1 : Int) else 0) = 1 := rfl
            omega
        refine ev_iconst (X := M_X6_leastFences) (pc := 61) dX6_leastFences_61 ?_
        refine ev_goto (X := M_X6_leastFences) (pc := 62) (tgt := 66) dX6_leastFences_62 (by decide) ?_
        refine ev_istoreL (X := M_X6_leastFences) (pc := 66) (ls' := [_, _, _, _, _, _, _, _]) dX6_leastFences_66 (by decide) rfl ?_
        refine ev_iload (X := M_X6_leastFences) (pc := 68) dX6_leastFences_68 rfl ?_
        refine ev_if_eq (X := M_X6_leastFences) (pc := 70) (tgt := 95) dX6_leastFences_70 (by decide) (by decide) (fun h70 => ?_) (fun h70 => ?_)
        · refine ev_iincL (X := M_X6_leastFences) (pc := 95) (ls' := [_, _, _, _, _, _, _, _]) dX6_leastFences_95 rfl (by decide) rfl ?_
          refine ev_goto (X := M_X6_leastFences) (pc := 98) (tgt := 23) dX6_leastFences_98 (by decide) ?_
          first
            | exact absurd rfl h70
            | exact absurd rfl h75
            | exact absurd h70 (by decide)
            | exact absurd h75 (by decide)
            | exact ev_weak (hgo _ (by rw [hstep, if_neg (fun q => h40 q.1)]) hi64) ⟨rfl, rfl, rfl, rfl, rfl, trivial⟩
            | exact ev_weak (hgo _ (by rw [hstep, if_neg (fun q => hnk q.2.1)]) hi64) ⟨rfl, rfl, rfl, rfl, rfl, trivial⟩
            | exact ev_weak (hgo _ (by rw [hstep, if_neg (fun q => by have := q.2.2; omega)]) hi64) ⟨rfl, rfl, rfl, rfl, rfl, trivial⟩
            | exact ev_weak (hgo _ (by rw [hstep, if_pos ⟨h40, hyk, by omega⟩]) hi64) ⟨rfl, rfl, rfl, rfl, rfl, trivial⟩
        · refine ev_iload (X := M_X6_leastFences) (pc := 73) dX6_leastFences_73 rfl ?_
          refine ev_if_eq (X := M_X6_leastFences) (pc := 75) (tgt := 95) dX6_leastFences_75 (by decide) (by decide) (fun h75 => ?_) (fun h75 => ?_)
          · refine ev_iincL (X := M_X6_leastFences) (pc := 95) (ls' := [_, _, _, _, _, _, _, _]) dX6_leastFences_95 rfl (by decide) rfl ?_
            refine ev_goto (X := M_X6_leastFences) (pc := 98) (tgt := 23) dX6_leastFences_98 (by decide) ?_
            first
              | exact absurd rfl h70
              | exact absurd rfl h75
              | exact absurd h70 (by decide)
              | exact absurd h75 (by decide)
              | exact ev_weak (hgo _ (by rw [hstep, if_neg (fun q => h40 q.1)]) hi64) ⟨rfl, rfl, rfl, rfl, rfl, trivial⟩
              | exact ev_weak (hgo _ (by rw [hstep, if_neg (fun q => hnk q.2.1)]) hi64) ⟨rfl, rfl, rfl, rfl, rfl, trivial⟩
              | exact ev_weak (hgo _ (by rw [hstep, if_neg (fun q => by have := q.2.2; omega)]) hi64) ⟨rfl, rfl, rfl, rfl, rfl, trivial⟩
              | exact ev_weak (hgo _ (by rw [hstep, if_pos ⟨h40, hyk, by omega⟩]) hi64) ⟨rfl, rfl, rfl, rfl, rfl, trivial⟩
          · refine ev_iload (X := M_X6_leastFences) (pc := 78) dX6_leastFences_78 rfl ?_
            refine ev_staticR (X := M_X6_leastFences) (Y := M_J6_bitCount_0f7a4) (pc := 80) dX6_leastFences_80 mk_J6_bitCount_0f7a4 kw_778 kw_779 (j_bitCount (by omega)) rfl (by decide) rfl (Nat.le_of_ble_eq_true rfl) (Nat.zero_add _) (Nat.zero_add _) ?_
            refine ev_iload (X := M_X6_leastFences) (pc := 83) dX6_leastFences_83 rfl ?_
            refine ev_staticR (X := M_X6_leastFences) (Y := M_J6_bitCount_0f7a4) (pc := 85) dX6_leastFences_85 mk_J6_bitCount_0f7a4 kw_778 kw_779 (j_bitCount (by omega)) rfl (by decide) rfl (Nat.le_of_ble_eq_true rfl) (Nat.zero_add _) (Nat.zero_add _) ?_
            refine ev_icmp_ge (X := M_X6_leastFences) (pc := 88) (tgt := 95) dX6_leastFences_88 (by decide) (by omega) (by omega) (fun h88 => ?_) (fun h88 => ?_)
            · refine ev_iincL (X := M_X6_leastFences) (pc := 95) (ls' := [_, _, _, _, _, _, _, _]) dX6_leastFences_95 rfl (by decide) rfl ?_
              refine ev_goto (X := M_X6_leastFences) (pc := 98) (tgt := 23) dX6_leastFences_98 (by decide) ?_
              first
                | exact absurd rfl h70
                | exact absurd rfl h75
                | exact absurd h70 (by decide)
                | exact absurd h75 (by decide)
                | exact ev_weak (hgo _ (by rw [hstep, if_neg (fun q => h40 q.1)]) hi64) ⟨rfl, rfl, rfl, rfl, rfl, trivial⟩
                | exact ev_weak (hgo _ (by rw [hstep, if_neg (fun q => hnk q.2.1)]) hi64) ⟨rfl, rfl, rfl, rfl, rfl, trivial⟩
                | exact ev_weak (hgo _ (by rw [hstep, if_neg (fun q => by have := q.2.2; omega)]) hi64) ⟨rfl, rfl, rfl, rfl, rfl, trivial⟩
                | exact ev_weak (hgo _ (by rw [hstep, if_pos ⟨h40, hyk, by omega⟩]) hi64) ⟨rfl, rfl, rfl, rfl, rfl, trivial⟩
            · refine ev_iload (X := M_X6_leastFences) (pc := 91) dX6_leastFences_91 rfl ?_
              refine ev_istoreL (X := M_X6_leastFences) (pc := 93) (ls' := [_, _, _, _, _, _, _, _]) dX6_leastFences_93 (by decide) rfl ?_
              refine ev_iincL (X := M_X6_leastFences) (pc := 95) (ls' := [_, _, _, _, _, _, _, _]) dX6_leastFences_95 rfl (by decide) rfl ?_
              refine ev_goto (X := M_X6_leastFences) (pc := 98) (tgt := 23) dX6_leastFences_98 (by decide) ?_
              first
                | exact absurd rfl h70
                | exact absurd rfl h75
                | exact absurd h70 (by decide)
                | exact absurd h75 (by decide)
                | exact ev_weak (hgo _ (by rw [hstep, if_neg (fun q => h40 q.1)]) hi64) ⟨rfl, rfl, rfl, rfl, rfl, trivial⟩
                | exact ev_weak (hgo _ (by rw [hstep, if_neg (fun q => hnk q.2.1)]) hi64) ⟨rfl, rfl, rfl, rfl, rfl, trivial⟩
                | exact ev_weak (hgo _ (by rw [hstep, if_neg (fun q => by have := q.2.2; omega)]) hi64) ⟨rfl, rfl, rfl, rfl, rfl, trivial⟩
                | exact ev_weak (hgo _ (by rw [hstep, if_pos ⟨h40, hyk, by omega⟩]) hi64) ⟨rfl, rfl, rfl, rfl, rfl, trivial⟩
