def bc1 (n : Int) : Int := n - op_iand (op_iushr n 1) 1431655765
def bc2 (n : Int) : Int := op_iand (bc1 n) 858993459 + op_iand (op_iushr (bc1 n) 2) 858993459
def bc3 (n : Int) : Int := op_iand (bc2 n + op_iushr (bc2 n) 4) 252645135
def bc4 (n : Int) : Int := bc3 n + op_iushr (bc3 n) 8
def bc5 (n : Int) : Int := bc4 n + op_iushr (bc4 n) 16
theorem bc_tab : ∀ n, n < 64 → op_iand (bc5 ((n : Nat) : Int)) 63 = onF ((n : Nat) : Int) := by decide +kernel
theorem bc_eq {n : Int} (h : 0 ≤ n ∧ n < 64) : op_iand (bc5 n) 63 = onF n := by
  have := bc_tab n.toNat (by omega)
  rw [show ((n.toNat : Nat) : Int) = n by omega] at this
  exact this
theorem on_rI {n : Int} (h : 0 ≤ n ∧ n < 64) : 0 ≤ onF n ∧ onF n ≤ 6 := by
  have := on_r n.toNat (by omega)
  rw [show ((n.toNat : Nat) : Int) = n by omega] at this
  exact this
theorem j_bitCount {γ : Gh} {K : Sk} {V : Mm} {n : Int} (h : 0 ≤ n ∧ n < 64) : Call γ M_J6_bitCount_0f7a4 0 0 0 [vI n] K V (Rt (some (vI (onF n))) K V) := by
  refine call_of (by decide +kernel) (by intro v hv; simp only [List.mem_cons, List.not_mem_nil, or_false] at hv; rcases hv with rfl <;> exact fun q => by cases q) (Nat.le_of_ble_eq_true rfl) ?_
  refine ev_lsE (ls' := [_]) rfl ?_
  refine ev_iload_n (X := M_J6_bitCount_0f7a4) (pc := 0) dJ6_bitCount_0f7a4_0 rfl ?_
  refine ev_iload_n (X := M_J6_bitCount_0f7a4) (pc := 1) dJ6_bitCount_0f7a4_1 rfl ?_
  refine ev_iconst (X := M_J6_bitCount_0f7a4) (pc := 2) dJ6_bitCount_0f7a4_2 ?_
  refine ev_iushr (X := M_J6_bitCount_0f7a4) (pc := 3) dJ6_bitCount_0f7a4_3 ?_
  refine ev_ldcw (X := M_J6_bitCount_0f7a4) (pc := 4) (v := 1431655765) dJ6_bitCount_0f7a4_4 kw_781 (by decide) ?_
  refine ev_iand (X := M_J6_bitCount_0f7a4) (pc := 7) dJ6_bitCount_0f7a4_7 ?_
  refine ev_isub (X := M_J6_bitCount_0f7a4) (pc := 8) dJ6_bitCount_0f7a4_8 ?_
  refine ev_istore_nL (X := M_J6_bitCount_0f7a4) (pc := 9) (ls' := [_]) dJ6_bitCount_0f7a4_9 (by decide) rfl ?_
  refine ev_iload_n (X := M_J6_bitCount_0f7a4) (pc := 10) dJ6_bitCount_0f7a4_10 rfl ?_
  refine ev_ldcw (X := M_J6_bitCount_0f7a4) (pc := 11) (v := 858993459) dJ6_bitCount_0f7a4_11 kw_782 (by decide) ?_
  refine ev_iand (X := M_J6_bitCount_0f7a4) (pc := 14) dJ6_bitCount_0f7a4_14 ?_
  refine ev_iload_n (X := M_J6_bitCount_0f7a4) (pc := 15) dJ6_bitCount_0f7a4_15 rfl ?_
  refine ev_iconst (X := M_J6_bitCount_0f7a4) (pc := 16) dJ6_bitCount_0f7a4_16 ?_
  refine ev_iushr (X := M_J6_bitCount_0f7a4) (pc := 17) dJ6_bitCount_0f7a4_17 ?_
  refine ev_ldcw (X := M_J6_bitCount_0f7a4) (pc := 18) (v := 858993459) dJ6_bitCount_0f7a4_18 kw_782 (by decide) ?_
  refine ev_iand (X := M_J6_bitCount_0f7a4) (pc := 21) dJ6_bitCount_0f7a4_21 ?_
  refine ev_iadd (X := M_J6_bitCount_0f7a4) (pc := 22) dJ6_bitCount_0f7a4_22 ?_
  refine ev_istore_nL (X := M_J6_bitCount_0f7a4) (pc := 23) (ls' := [_]) dJ6_bitCount_0f7a4_23 (by decide) rfl ?_
  refine ev_iload_n (X := M_J6_bitCount_0f7a4) (pc := 24) dJ6_bitCount_0f7a4_24 rfl ?_
  refine ev_iload_n (X := M_J6_bitCount_0f7a4) (pc := 25) dJ6_bitCount_0f7a4_25 rfl ?_
  refine ev_iconst (X := M_J6_bitCount_0f7a4) (pc := 26) dJ6_bitCount_0f7a4_26 ?_
  refine ev_iushr (X := M_J6_bitCount_0f7a4) (pc := 27) dJ6_bitCount_0f7a4_27 ?_
  refine ev_iadd (X := M_J6_bitCount_0f7a4) (pc := 28) dJ6_bitCount_0f7a4_28 ?_
  refine ev_ldcw (X := M_J6_bitCount_0f7a4) (pc := 29) (v := 252645135) dJ6_bitCount_0f7a4_29 kw_783 (by decide) ?_
  refine ev_iand (X := M_J6_bitCount_0f7a4) (pc := 32) dJ6_bitCount_0f7a4_32 ?_
  refine ev_istore_nL (X := M_J6_bitCount_0f7a4) (pc := 33) (ls' := [_]) dJ6_bitCount_0f7a4_33 (by decide) rfl ?_
  refine ev_iload_n (X := M_J6_bitCount_0f7a4) (pc := 34) dJ6_bitCount_0f7a4_34 rfl ?_
  refine ev_iload_n (X := M_J6_bitCount_0f7a4) (pc := 35) dJ6_bitCount_0f7a4_35 rfl ?_
  refine ev_bipush (X := M_J6_bitCount_0f7a4) (pc := 36) dJ6_bitCount_0f7a4_36 (by decide) ?_
  refine ev_iushr (X := M_J6_bitCount_0f7a4) (pc := 38) dJ6_bitCount_0f7a4_38 ?_
  refine ev_iadd (X := M_J6_bitCount_0f7a4) (pc := 39) dJ6_bitCount_0f7a4_39 ?_
  refine ev_istore_nL (X := M_J6_bitCount_0f7a4) (pc := 40) (ls' := [_]) dJ6_bitCount_0f7a4_40 (by decide) rfl ?_
  refine ev_iload_n (X := M_J6_bitCount_0f7a4) (pc := 41) dJ6_bitCount_0f7a4_41 rfl ?_
  refine ev_iload_n (X := M_J6_bitCount_0f7a4) (pc := 42) dJ6_bitCount_0f7a4_42 rfl ?_
  refine ev_bipush (X := M_J6_bitCount_0f7a4) (pc := 43) dJ6_bitCount_0f7a4_43 (by decide) ?_
  refine ev_iushr (X := M_J6_bitCount_0f7a4) (pc := 45) dJ6_bitCount_0f7a4_45 ?_
  refine ev_iadd (X := M_J6_bitCount_0f7a4) (pc := 46) dJ6_bitCount_0f7a4_46 ?_
  refine ev_istore_nL (X := M_J6_bitCount_0f7a4) (pc := 47) (ls' := [_]) dJ6_bitCount_0f7a4_47 (by decide) rfl ?_
  refine ev_iload_n (X := M_J6_bitCount_0f7a4) (pc := 48) dJ6_bitCount_0f7a4_48 rfl ?_
  refine ev_bipush (X := M_J6_bitCount_0f7a4) (pc := 49) dJ6_bitCount_0f7a4_49 (by decide) ?_
  refine ev_iand (X := M_J6_bitCount_0f7a4) (pc := 51) dJ6_bitCount_0f7a4_51 ?_
  refine ev_iret (X := M_J6_bitCount_0f7a4) (pc := 52) dJ6_bitCount_0f7a4_52 rfl ?_
  exact ⟨congrArg (fun z => some (vI z)) (bc_eq h), rfl, rfl⟩
def Sd (C : Int → Int) (s0 F : Int) (f : Int → Int) : Prop := ∀ (q : Int) (b : Nat), 0 ≤ q → q < 455 → b < 64 → bt (f q) b = true → Rch C s0 (op_ior F b) (stF q)
def Mo (f g : Int → Int) : Prop := ∀ (q : Int) (b : Nat), b < 64 → bt (f q) b = true → bt (g q) b = true
def PJ (C : Int → Int) (F s : Int) (f g : Int → Int) (p : Int) : Prop := ∀ p', 0 ≤ p' → p' < p → nx C F s p' ≠ -1 → ∀ b : Nat, b < 64 → bt (f (pl s)) b = true → b.testBit p'.toNat = false → bt (g (pl (nx C F s p'))) b = true
theorem wit_bt {p : Int} (hp : 0 ≤ p ∧ p < 6) {b : Nat} (hb : b < 64) : bt (witF p) b = !(b.testBit p.toNat) := by
  have := wit_tab p.toNat (by omega) b hb
  rw [show ((p.toNat : Nat) : Int) = p by omega] at this
  exact this
def SP (C : Int → Int) (s0 F s : Int) (sa : Nat) (V : Mm) (p : Int) (ch : Int) (W : Mm) : Prop := (∀ c, c ≠ 119 → c ≠ sa → W c = V c) ∧ COk C F (W 119) ∧ (ch = 0 ∨ ch = 1) ∧ (ch = 0 → W sa = V sa) ∧ Mo (V sa) (W sa) ∧ Sd C s0 F (W sa) ∧ PJ C F s (V sa) (W sa) p
theorem c_spread {γ : Gh} {K : Sk} {V : Mm} {C : Int → Int} {F s0 s : Int} {sa sb : Nat} (h : SrP K V C F) (hM : SM K sa sb) (hs0 : isSt s0) (hs : isSt s) (hSd : Sd C s0 F (V sa)) : Call γ M_X6_spread 4 0 0 [vR 101, vI (pl s)] K V (Qz K (SP C s0 F s sa V 6)) := by
  refine call_of (by decide +kernel) (by intro v hv; simp only [List.mem_cons, List.not_mem_nil, or_false] at hv; rcases hv with rfl | rfl <;> exact fun q => by cases q) (Nat.le_of_ble_eq_true rfl) ?_
  refine ev_lsE (ls' := [_, _, _, _, _, _, _]) rfl ?_
  have hL := h.1
  obtain ⟨z1, z2, z3, z4⟩ := hM.sh hL
  have hab := hM.2.2
  have hC := h.2.2.2.1
  have hF6 := h.2.2.2.2.1
  obtain ⟨g0, g1, g2⟩ := pl_st hs
  refine ev_iconst (X := M_X6_spread) (pc := 0) dX6_spread_0 ?_
  refine ev_istore_nL (X := M_X6_spread) (pc := 1) (ls' := [_, _, _, _, _, _, _]) dX6_spread_1 (by decide) rfl ?_
  refine ev_iconst (X := M_X6_spread) (pc := 2) dX6_spread_2 ?_
  refine ev_istore_nL (X := M_X6_spread) (pc := 3) (ls' := [_, _, _, _, _, _, _]) dX6_spread_3 (by decide) rfl ?_
  refine ev_weak (ev_while (σ := Int × Int × Mm) (fun z => 0 ≤ z.1 ∧ z.1 ≤ 6 ∧ SP C s0 F s sa V z.1 z.2.1 z.2.2) (fun z => (6 - z.1).toNat) (fun z => [vR 101, vI (pl s), vI z.2.1, vI z.1, vU, vU, vU]) (fun _ => K) (fun z => z.2.2) ?_ (0, 0, V) ⟨Int.le_refl 0, by show (0 : Int) ≤ 6; decide, fun _ _ _ => rfl, h.2.2.2.2.2.2.2, Or.inl rfl, fun _ => rfl, fun _ _ _ q => q, hSd, fun p' h0 h1 => by change p' < 0 at h1; omega⟩) ⟨rfl, rfl, rfl, rfl, trivial⟩
  rintro ⟨p, ch, W⟩ ⟨p0, p1, w1, w2, w3, w4, w5, w6, w7⟩ ih
  dsimp only at p0 p1 w1 w2 w3 w4 w5 w6 w7 ih ⊢
  have hS : SrP K W C F := h.frS hL (fun c z => w1 c (by omega) (by omega)) w2
  have ch_r : R32 ch := by rcases w3 with z | z <;> rw [z] <;> decide
  refine ev_iload_n (X := M_X6_spread) (pc := 4) dX6_spread_4 rfl ?_
  refine ev_bipush (X := M_X6_spread) (pc := 5) dX6_spread_5 (by decide) ?_
  refine ev_icmp_ge (X := M_X6_spread) (pc := 7) (tgt := 77) dX6_spread_7 (by decide) (by omega) (by omega) (fun h7 => ?_) (fun h7 => ?_)
  · refine ev_iload_n (X := M_X6_spread) (pc := 77) dX6_spread_77 rfl ?_
    refine ev_bret (X := M_X6_spread) (pc := 78) dX6_spread_78 rfl (by exact w3) ?_
    have hp : p = 6 := by omega
    rw [hp] at w7
    exact ⟨rfl, ch, rfl, w1, w2, w3, w4, w5, w6, w7⟩
  · have hp6 : 0 ≤ p ∧ p < 6 := by omega
    refine ev_aload_n (X := M_X6_spread) (pc := 10) dX6_spread_10 rfl ?_
    refine ev_iload_n (X := M_X6_spread) (pc := 11) dX6_spread_11 rfl ?_
    refine ev_iload_n (X := M_X6_spread) (pc := 12) dX6_spread_12 rfl ?_
    refine ev_virtX (X := M_X6_spread) (Y := M_X6_lead) (pc := 13) (ci := 6) dX6_spread_13 mk_X6_lead rfl kw_669 kw_670 kw_671 (lO_101 hL) (c_lead hS ⟨g0, g1⟩ hp6) rfl (by decide) rfl (Nat.le_of_ble_eq_true rfl) (Nat.zero_add _) (Nat.zero_add _) (fun W2 hW2 => ?_)
    have hsa : W2 sa = W sa := hW2.1 sa (by omega)
    have hf : ∀ c, c ≠ 119 → c ≠ sa → W2 c = V c := fun c y1 y2 => by rw [hW2.1 c y1]; exact w1 c y1 y2
    have h5 : W2 5 = witF := by rw [hf 5 (by omega) (by omega)]; exact h.2.2.1.2
    have hld := ld_r (F := F) hC (q := pl s) ⟨g0, g1⟩ hp6
    have hlde : nx C F s p ≠ -1 → ld C F (pl s) p = pl (nx C F s p) := fun z => by unfold ld; rw [g2, if_neg z]
    have hldn : nx C F s p = -1 → ld C F (pl s) p = -1 := fun z => by unfold ld; rw [g2, if_pos z]
    have hnst := fun z => nx_st (F := F) hC hp6 hs z
    have hmo : ∀ b : Nat, b < 64 → (bt (op_land (W2 sa (pl s)) (witF p)) b = true ↔ (bt (W sa (pl s)) b = true ∧ b.testBit p.toNat = false)) := fun b hb => by
      rw [bt_and, wit_bt hp6 hb, hsa]
      cases bt (W sa (pl s)) b <;> cases b.testBit p.toNat <;> decide
    have pjs : ∀ g : Int → Int, Mo (W sa) g → (nx C F s p ≠ -1 → ∀ b : Nat, b < 64 → bt (V sa (pl s)) b = true → b.testBit p.toNat = false → bt (g (pl (nx C F s p))) b = true) → PJ C F s (V sa) g (p + 1) := fun g hg hx p' h0 h1 hn b hb hb1 hb2 => by
      by_cases z : p' = p
      · subst z
        exact hx hn b hb hb1 hb2
      · exact hg _ b hb (w7 p' h0 (by omega) hn b hb hb1 hb2)
    refine ev_istoreL (X := M_X6_spread) (pc := 16) (ls' := [_, _, _, _, _, _, _]) dX6_spread_16 (by decide) rfl ?_
    refine ev_aload_n (X := M_X6_spread) (pc := 18) dX6_spread_18 rfl ?_
    refine ev_getRe (X := M_X6_spread) (pc := 19) dX6_spread_19 fl_X6_40_6 (lO_101 hL) rfl hM.1 ?_
    refine ev_iload_n (X := M_X6_spread) (pc := 22) dX6_spread_22 rfl ?_
    refine ev_laload (X := M_X6_spread) (pc := 23) dX6_spread_23 z1 (by omega) ?_
    refine ev_gets (X := M_X6_spread) (pc := 24) (q := ("GreenPath$Search", "WITHOUT", "[J", vR 5)) dX6_spread_24 st_5 kw_775 ?_
    refine ev_iload_n (X := M_X6_spread) (pc := 27) dX6_spread_27 rfl ?_
    refine ev_laloadE (X := M_X6_spread) (pc := 28) dX6_spread_28 (lS_5 hL) (by omega) (congrFun h5 _) ?_
    refine ev_land (X := M_X6_spread) (pc := 29) dX6_spread_29 ?_
    refine ev_lstoreL (X := M_X6_spread) (pc := 30) (ls' := [_, _, _, _, _, _, _]) dX6_spread_30 (by decide) rfl ?_
    refine ev_iload (X := M_X6_spread) (pc := 32) dX6_spread_32 rfl ?_
    refine ev_iconst (X := M_X6_spread) (pc := 34) dX6_spread_34 ?_
    refine ev_icmp_eq (X := M_X6_spread) (pc := 35) (tgt := 71) dX6_spread_35 (by decide) (by omega) (by omega) (fun h35 => ?_) (fun h35 => ?_)
    · have hn : nx C F s p = -1 := Decidable.byContradiction fun z => by have := hlde z; have := (pl_st (hnst z)).1; omega
      have hgo := ih (p + 1, ch, W2) ⟨by omega, by omega, hf, hW2.2, w3, fun z => by show W2 sa = V sa; rw [hsa]; exact w4 z, by show Mo (V sa) (W2 sa); rw [hsa]; exact w5, by show Sd C s0 F (W2 sa); rw [hsa]; exact w6, by show PJ C F s (V sa) (W2 sa) (p + 1); rw [hsa]; exact pjs _ (fun _ _ _ q => q) (fun y => absurd hn y)⟩ (by show (6 - (p + 1)).toNat < (6 - p).toNat; omega)
      refine ev_iincL (X := M_X6_spread) (pc := 71) (ls' := [_, _, _, _, _, _, _]) dX6_spread_71 rfl (by decide) rfl ?_
      refine ev_goto (X := M_X6_spread) (pc := 74) (tgt := 4) dX6_spread_74 (by decide) ?_
      exact ev_weak hgo ⟨rfl, rfl, rfl, rfl, trivial⟩
    · have hn : nx C F s p ≠ -1 := fun z => h35 (hldn z)
      have hl := hlde hn
      obtain ⟨y0, y1, y2⟩ := pl_st (hnst hn)
      refine ev_lload (X := M_X6_spread) (pc := 38) dX6_spread_38 rfl ?_
      refine ev_aload_n (X := M_X6_spread) (pc := 40) dX6_spread_40 rfl ?_
      refine ev_getRe (X := M_X6_spread) (pc := 41) dX6_spread_41 fl_X6_40_6 (lO_101 hL) rfl hM.1 ?_
      refine ev_iload (X := M_X6_spread) (pc := 44) dX6_spread_44 rfl ?_
      refine ev_laload (X := M_X6_spread) (pc := 46) dX6_spread_46 z1 (by omega) ?_
      refine ev_ldc2 (X := M_X6_spread) (pc := 47) (v := -1) dX6_spread_47 kw_770 (by decide) ?_
      refine ev_lxor (X := M_X6_spread) (pc := 50) dX6_spread_50 ?_
      refine ev_land (X := M_X6_spread) (pc := 51) dX6_spread_51 ?_
      refine ev_lconst (X := M_X6_spread) (pc := 52) (v := 0) dX6_spread_52 (by decide) ?_
      refine ev_lcmpN (X := M_X6_spread) (pc := 53) dX6_spread_53 (by exact op_l _) (by decide) (fun c53 hc53 => ?_)
      refine ev_if_eq (X := M_X6_spread) (pc := 54) (tgt := 71) dX6_spread_54 (by decide) (by omega) (fun h54 => ?_) (fun h54 => ?_)
      · have hz : op_land (op_land (W2 sa (pl s)) (witF p)) (op_lxor (W2 sa (ld C F (pl s) p)) (-1)) = 0 := by omega
        have hgo := ih (p + 1, ch, W2) ⟨by omega, by omega, hf, hW2.2, w3, fun z => by show W2 sa = V sa; rw [hsa]; exact w4 z, by show Mo (V sa) (W2 sa); rw [hsa]; exact w5, by show Sd C s0 F (W2 sa); rw [hsa]; exact w6, by
          show PJ C F s (V sa) (W2 sa) (p + 1)
          rw [hsa]
          refine pjs _ (fun _ _ _ q => q) (fun _ b hb b1 b2 => ?_)
          rw [land_z] at hz
          have hq := hz b hb ((hmo b hb).mpr ⟨w5 _ b hb b1, b2⟩)
          rw [bt_not hb, hsa, hl] at hq
          cases he : bt (W sa (pl (nx C F s p))) b with
          | true => rfl
          | false => rw [he] at hq; exact (hq rfl).elim⟩ (by show (6 - (p + 1)).toNat < (6 - p).toNat; omega)
        refine ev_iincL (X := M_X6_spread) (pc := 71) (ls' := [_, _, _, _, _, _, _]) dX6_spread_71 rfl (by decide) rfl ?_
        refine ev_goto (X := M_X6_spread) (pc := 74) (tgt := 4) dX6_spread_74 (by decide) ?_
        exact ev_weak hgo ⟨rfl, rfl, rfl, rfl, trivial⟩
      · have hmo2 : Mo (W sa) (up (W sa) (pl (nx C F s p)) (op_lor (W sa (pl (nx C F s p))) (op_land (W2 sa (pl s)) (witF p)))) := fun q b hb hq => by
          by_cases z : q = pl (nx C F s p)
          · rw [z] at hq ⊢
            rw [up_self, bt_or, hq]
            rfl
          · rw [up_ne z]
            exact hq
        have hrow : wr W2 sa (ld C F (pl s) p) (op_lor (W2 sa (ld C F (pl s) p)) (op_land (W2 sa (pl s)) (witF p))) sa = up (W sa) (pl (nx C F s p)) (op_lor (W sa (pl (nx C F s p))) (op_land (W2 sa (pl s)) (witF p))) := by
          rw [wr_row, hsa, hl]
        have hgo := ih (p + 1, 1, wr W2 sa (ld C F (pl s) p) (op_lor (W2 sa (ld C F (pl s) p)) (op_land (W2 sa (pl s)) (witF p)))) ⟨by omega, by omega, fun c c1 c2 => by show wr W2 sa _ _ c = V c; rw [wr_off c2]; exact hf c c1 c2, by show COk C F (wr W2 sa _ _ 119); rw [wr_off (by omega)]; exact hW2.2, Or.inr rfl, fun z => absurd z (by show ¬ (1 : Int) = 0; decide), by
          show Mo (V sa) (wr W2 sa _ _ sa)
          rw [hrow]
          exact fun q b hb hq => hmo2 q b hb (w5 q b hb hq), by
          show Sd C s0 F (wr W2 sa _ _ sa)
          rw [hrow]
          intro q b q0 q1 hb hq
          by_cases z : q = pl (nx C F s p)
          · rw [z] at hq ⊢
            rw [up_self, bt_or] at hq
            cases he : bt (W sa (pl (nx C F s p))) b with
            | true => exact w6 _ b y0 y1 hb he
            | false =>
              rw [he, Bool.false_or] at hq
              obtain ⟨a1, a2⟩ := (hmo b hb).mp hq
              have hR := w6 _ b g0 g1 hb a1
              rw [g2] at hR
              have hb2 : 0 ≤ (b : Int) ∧ (b : Int) < 64 := by omega
              have hnx := nx_or2 hC hF6 hb2 hp6 hs (by rw [show ((b : Int)).toNat = b by omega]; exact a2) hn
              rw [y2, ← hnx]
              exact Rch_s hC hs0 hR hp6 (by rw [hnx]; exact hn)
          · rw [up_ne z] at hq
            exact w6 q b q0 q1 hb hq, by
          show PJ C F s (V sa) (wr W2 sa _ _ sa) (p + 1)
          rw [hrow]
          refine pjs _ hmo2 (fun _ b hb b1 b2 => ?_)
          rw [up_self, bt_or, (hmo b hb).mpr ⟨w5 _ b hb b1, b2⟩, Bool.or_true]⟩ (by show (6 - (p + 1)).toNat < (6 - p).toNat; omega)
        refine ev_aload_n (X := M_X6_spread) (pc := 57) dX6_spread_57 rfl ?_
        refine ev_getRe (X := M_X6_spread) (pc := 58) dX6_spread_58 fl_X6_40_6 (lO_101 hL) rfl hM.1 ?_
        refine ev_iload (X := M_X6_spread) (pc := 61) dX6_spread_61 rfl ?_
        refine ev_dup2 (X := M_X6_spread) (pc := 63) dX6_spread_63 (fun _ q => by cases q) (fun _ q => by cases q) ?_
        refine ev_laload (X := M_X6_spread) (pc := 64) dX6_spread_64 z1 (by omega) ?_
        refine ev_lload (X := M_X6_spread) (pc := 65) dX6_spread_65 rfl ?_
        refine ev_lor (X := M_X6_spread) (pc := 67) dX6_spread_67 ?_
        refine ev_lastore (X := M_X6_spread) (pc := 68) dX6_spread_68 z3 z1 (by omega) ?_
        refine ev_iconst (X := M_X6_spread) (pc := 69) dX6_spread_69 ?_
        refine ev_istore_nL (X := M_X6_spread) (pc := 70) (ls' := [_, _, _, _, _, _, _]) dX6_spread_70 (by decide) rfl ?_
        refine ev_iincL (X := M_X6_spread) (pc := 71) (ls' := [_, _, _, _, _, _, _]) dX6_spread_71 rfl (by decide) rfl ?_
        refine ev_goto (X := M_X6_spread) (pc := 74) (tgt := 4) dX6_spread_74 (by decide) ?_
        exact ev_weak hgo ⟨rfl, rfl, rfl, rfl, trivial⟩
