/-! ===== the class's laws and texts ===== -/
def TxA (K : Sk) (V : Mm) (t : Nat) (D : Int → Int) (u : Int) : Prop := 178 ≤ t ∧ K.1 t = (18, 0) ∧ K.2.1 t 2 = t + 1 ∧ K.2.1 t 3 = t + 3 ∧ RowAt K (t + 1) (t + 2) (D (26 + u)).toNat ∧ K.1 (t + 3) = (1, (D (26 + u)).toNat) ∧ ∃ l, txt (tfD D u) (D (26 + u)) u = (some l, D (26 + u)) ∧ V (t + 1) 1 = l.length ∧ l.length ≤ (D (26 + u)).toNat ∧ ∀ (j : Nat) (y : Int), l[j]? = some y → V (t + 2) j = y
def TI (K : Sk) (V : Mm) (ta : Nat) (D : Int → Int) (u : Int) : Prop := (K.2.1 ta u = 0 ∧ D (26 + u) = 0) ∨ (0 < D (26 + u) ∧ TxA K V (K.2.1 ta u) D u)
def fT (K : Sk) (ta : Nat) (u : Int) (V W : Mm) : Prop := ∀ c, ¬ (178 ≤ K.2.1 ta u ∧ c = K.2.1 ta u + 3) → W c = V c
theorem fT.rf {K : Sk} {ta : Nat} {u : Int} {V : Mm} : fT K ta u V V := fun _ _ => rfl
theorem fT.tr {K : Sk} {ta : Nat} {u : Int} {U V W : Mm} (h : fT K ta u U V) (g : fT K ta u V W) : fT K ta u U W := fun c z => by rw [g c z, h c z]
theorem fT.lo {K : Sk} {ta : Nat} {u : Int} {V W : Mm} (h : fT K ta u V W) {c : Nat} (hc : c < 178) : W c = V c := h c (by omega)
/-- the text of a use, told to the class -/
theorem c_worthE {γ : Gh} {K : Sk} {V : Mm} {t : Nat} {D : Int → Int} {u a b c d : Int} (hu : u = 0 ∨ u = 1) (hA : TxA K V t D u) (hT : TxOk D u) (hp : 0 < D (26 + u)) (ha : R32 a) (hb : R32 b) (hc : R32 c) (hd : R32 d) : Call γ M_X8_worth 1 0 0 [vR t, vI a, vI b, vI c, vI d] K V (Qx (some (vI (gvv D u a b c d))) K (fr1 (t + 3) V)) := by
  obtain ⟨t1, t2, t3, t4, t5, t6, l, hl, l1, l2, l3⟩ := hA
  obtain ⟨_, l', hl', hG, hrun⟩ := gvv_r hu hT ha hb hc hd hp
  have e : l' = l := by rw [hl] at hl'; exact (Option.some.inj (congrArg Prod.fst hl')).symm
  rw [e] at hG hrun
  have h50 := hT.1
  exact c_worth t2 t3 t4 t5 t6 t1 (by omega) l1 l2 l3 (fun y hy => (hG.2 y hy).1) ha hb hc hd hrun
theorem c_sortGiven {γ : Gh} {K : Sk} {V : Mm} (hL : Lay K) {D : Int → Int} (hTI : TI K V 104 D 0) (hT : TxOk D 0) {a b m : Int} (ha : R32 a) (hb : R32 b) (hm : R32 m) : Call γ M_X2_sortGiven 2 0 0 [vR 102, vI a, vI b, vI m] K V (Qx (some (vI (giv D 0 a b m 0))) K (fT K 104 0 V)) := by
  refine call_of (by decide +kernel) (by intro v hv; simp only [List.mem_cons, List.not_mem_nil, or_false] at hv; rcases hv with rfl | rfl | rfl | rfl <;> exact fun q => by cases q) (Nat.le_of_ble_eq_true rfl) ?_
  refine ev_lsE (ls' := [_, _, _, _, _]) rfl ?_
  obtain ⟨t, ht⟩ : ∃ t, K.2.1 104 0 = t := ⟨_, rfl⟩
  have tail : ∀ v W, op_irem v 3 = op_irem (gvv D 0 a b m 0) 3 → fT K 104 0 V W → Ev γ M_X2_sortGiven 2 0 0 30 [vR 102, vI a, vI b, vI m, vU] [vI v] K W (Qx (some (vI (giv D 0 a b m 0))) K (fT K 104 0 V)) := by
    intro v W hv hW
    have h3 := op_irem3 v
    refine ev_istoreL (X := M_X2_sortGiven) (pc := 30) (ls' := [_, _, _, _, _]) dX2_sortGiven_30 (by decide) rfl ?_
    refine ev_iconst (X := M_X2_sortGiven) (pc := 32) dX2_sortGiven_32 ?_
    refine ev_iload (X := M_X2_sortGiven) (pc := 33) dX2_sortGiven_33 rfl ?_
    refine ev_iconst (X := M_X2_sortGiven) (pc := 35) dX2_sortGiven_35 ?_
    refine ev_iremg (X := M_X2_sortGiven) (pc := 36) dX2_sortGiven_36 (i32_ne0 (by decide) (by decide)) ?_
    refine ev_mmax (X := M_X2_sortGiven) (pc := 37) dX2_sortGiven_37 kw_278 kw_54 kw_5 kw_55 (by decide) (Nat.le_of_ble_eq_true rfl) (by decide) (by omega) ?_
    refine ev_iret (X := M_X2_sortGiven) (pc := 40) dX2_sortGiven_40 rfl ?_
    refine ⟨congrArg (fun z => some (vI z)) ?_, rfl, hW⟩
    unfold giv heldF
    rw [if_pos rfl, ← hv]
    repeat' split
    all_goals omega
  unfold TI at hTI
  rw [ht] at hTI
  refine ev_aload_n (X := M_X2_sortGiven) (pc := 0) dX2_sortGiven_0 rfl ?_
  refine ev_getRe (X := M_X2_sortGiven) (pc := 1) dX2_sortGiven_1 fl_X2_19_2 (lO_102 hL) rfl (lR_102_1 hL) ?_
  refine ev_iconst (X := M_X2_sortGiven) (pc := 4) dX2_sortGiven_4 ?_
  refine ev_aaloadE (X := M_X2_sortGiven) (pc := 5) dX2_sortGiven_5 (lS_104 hL) (by decide) (by decide) (by omega) (ht) ?_
  refine ev_ifnonnull (X := M_X2_sortGiven) (pc := 6) (tgt := 17) dX2_sortGiven_6 (by decide) (fun h6 => ?_) (fun h6 => ?_)
  · have hA := (hTI.resolve_left (fun z => h6 z.1))
    have hO : (K.1 t).1 = 8 + 10 := by rw [hA.2.2.1]
    have ht8 := hA.2.1
    refine ev_aload_n (X := M_X2_sortGiven) (pc := 17) dX2_sortGiven_17 rfl ?_
    refine ev_getRe (X := M_X2_sortGiven) (pc := 18) dX2_sortGiven_18 fl_X2_19_2 (lO_102 hL) rfl (lR_102_1 hL) ?_
    refine ev_iconst (X := M_X2_sortGiven) (pc := 21) dX2_sortGiven_21 ?_
    refine ev_aaloadE (X := M_X2_sortGiven) (pc := 22) dX2_sortGiven_22 (lS_104 hL) (by decide) (by decide) (by omega) (ht) ?_
    refine ev_iload_n (X := M_X2_sortGiven) (pc := 23) dX2_sortGiven_23 rfl ?_
    refine ev_iload_n (X := M_X2_sortGiven) (pc := 24) dX2_sortGiven_24 rfl ?_
    refine ev_iload_n (X := M_X2_sortGiven) (pc := 25) dX2_sortGiven_25 rfl ?_
    refine ev_iconst (X := M_X2_sortGiven) (pc := 26) dX2_sortGiven_26 ?_
    refine ev_virtX (X := M_X2_sortGiven) (Y := M_X8_worth) (pc := 27) (ci := 8) dX2_sortGiven_27 mk_X8_worth rfl kw_271 kw_272 kw_273 hO (c_worthE (Or.inl rfl) hA.2 hT hA.1 ha hb hm (by decide)) rfl (by decide) rfl (Nat.le_of_ble_eq_true rfl) (Nat.zero_add _) (Nat.zero_add _) (fun W hW => ?_)
    first
      | exact ev_weak (tail _ V (by rw [hgv]) fT.rf) ⟨rfl, rfl, rfl, rfl, trivial⟩
      | exact ev_weak (tail _ W rfl (fun c z => hW c (fun q => z (by rw [ht]; exact ⟨ht8, q⟩)))) ⟨rfl, rfl, rfl, rfl, trivial⟩
  · have hz : D (26 + 0) = 0 := by
      rcases hTI with z | z
      · exact z.2
      · have := z.2.1; omega
    have hgv : gvv D 0 a b m 0 = a + b + m := by unfold gvv; rw [if_neg (by omega), if_pos rfl]
    refine ev_iload_n (X := M_X2_sortGiven) (pc := 9) dX2_sortGiven_9 rfl ?_
    refine ev_iload_n (X := M_X2_sortGiven) (pc := 10) dX2_sortGiven_10 rfl ?_
    refine ev_iadd (X := M_X2_sortGiven) (pc := 11) dX2_sortGiven_11 ?_
    refine ev_iload_n (X := M_X2_sortGiven) (pc := 12) dX2_sortGiven_12 rfl ?_
    refine ev_iadd (X := M_X2_sortGiven) (pc := 13) dX2_sortGiven_13 ?_
    refine ev_goto (X := M_X2_sortGiven) (pc := 14) (tgt := 30) dX2_sortGiven_14 (by decide) ?_
    first
      | exact ev_weak (tail _ V (by rw [hgv]) fT.rf) ⟨rfl, rfl, rfl, rfl, trivial⟩
      | exact ev_weak (tail _ W rfl (fun c z => hW c (fun q => z (by rw [ht]; exact ⟨ht8, q⟩)))) ⟨rfl, rfl, rfl, rfl, trivial⟩
theorem c_priceGiven {γ : Gh} {K : Sk} {V : Mm} (hL : Lay K) {D : Int → Int} (hTI : TI K V 104 D 1) (hT : TxOk D 1) {a b k m : Int} (ha : R32 a) (hb : R32 b) (hk : R32 k) (hm : R32 m) : Call γ M_X2_priceGiven 2 0 0 [vR 102, vI a, vI b, vI k, vI m] K V (Qx (some (vI (giv D 1 a b k m))) K (fT K 104 1 V)) := by
  refine call_of (by decide +kernel) (by intro v hv; simp only [List.mem_cons, List.not_mem_nil, or_false] at hv; rcases hv with rfl | rfl | rfl | rfl | rfl <;> exact fun q => by cases q) (Nat.le_of_ble_eq_true rfl) ?_
  refine ev_lsE (ls' := [_, _, _, _, _, _]) rfl ?_
  obtain ⟨t, ht⟩ : ∃ t, K.2.1 104 1 = t := ⟨_, rfl⟩
  have tail : ∀ v W, R32 v → v = gvv D 1 a b k m → fT K 104 1 V W → Ev γ M_X2_priceGiven 2 0 0 27 [vR 102, vI a, vI b, vI k, vI m, vU] [vI v] K W (Qx (some (vI (giv D 1 a b k m))) K (fT K 104 1 V)) := by
    intro v W hr hv hW
    refine ev_istoreL (X := M_X2_priceGiven) (pc := 27) (ls' := [_, _, _, _, _, _]) dX2_priceGiven_27 (by decide) rfl ?_
    refine ev_bipush (X := M_X2_priceGiven) (pc := 29) dX2_priceGiven_29 (by decide) ?_
    refine ev_bipush (X := M_X2_priceGiven) (pc := 31) dX2_priceGiven_31 (by decide) ?_
    refine ev_iload (X := M_X2_priceGiven) (pc := 33) dX2_priceGiven_33 rfl ?_
    refine ev_mmin (X := M_X2_priceGiven) (pc := 35) dX2_priceGiven_35 kw_619 kw_544 kw_5 kw_545 (by decide) (Nat.le_of_ble_eq_true rfl) (by decide) (by omega) ?_
    refine ev_mmax (X := M_X2_priceGiven) (pc := 38) dX2_priceGiven_38 kw_278 kw_54 kw_5 kw_55 (by decide) (Nat.le_of_ble_eq_true rfl) (by decide) (by split <;> omega) ?_
    refine ev_iret (X := M_X2_priceGiven) (pc := 41) dX2_priceGiven_41 rfl ?_
    refine ⟨congrArg (fun z => some (vI z)) ?_, rfl, hW⟩
    unfold giv heldF
    rw [if_neg (show ¬ (1 : Int) = 0 by decide), ← hv]
    repeat' split
    all_goals omega
  unfold TI at hTI
  rw [ht] at hTI
  refine ev_aload_n (X := M_X2_priceGiven) (pc := 0) dX2_priceGiven_0 rfl ?_
  refine ev_getRe (X := M_X2_priceGiven) (pc := 1) dX2_priceGiven_1 fl_X2_19_2 (lO_102 hL) rfl (lR_102_1 hL) ?_
  refine ev_iconst (X := M_X2_priceGiven) (pc := 4) dX2_priceGiven_4 ?_
  refine ev_aaloadE (X := M_X2_priceGiven) (pc := 5) dX2_priceGiven_5 (lS_104 hL) (by decide) (by decide) (by omega) (ht) ?_
  refine ev_ifnonnull (X := M_X2_priceGiven) (pc := 6) (tgt := 13) dX2_priceGiven_6 (by decide) (fun h6 => ?_) (fun h6 => ?_)
  · have hA := (hTI.resolve_left (fun z => h6 z.1))
    have hO : (K.1 t).1 = 8 + 10 := by rw [hA.2.2.1]
    have ht8 := hA.2.1
    have hgr := (gvv_r (Or.inr rfl) hT ha hb hk hm hA.1).1
    refine ev_aload_n (X := M_X2_priceGiven) (pc := 13) dX2_priceGiven_13 rfl ?_
    refine ev_getRe (X := M_X2_priceGiven) (pc := 14) dX2_priceGiven_14 fl_X2_19_2 (lO_102 hL) rfl (lR_102_1 hL) ?_
    refine ev_iconst (X := M_X2_priceGiven) (pc := 17) dX2_priceGiven_17 ?_
    refine ev_aaloadE (X := M_X2_priceGiven) (pc := 18) dX2_priceGiven_18 (lS_104 hL) (by decide) (by decide) (by omega) (ht) ?_
    refine ev_iload_n (X := M_X2_priceGiven) (pc := 19) dX2_priceGiven_19 rfl ?_
    refine ev_iload_n (X := M_X2_priceGiven) (pc := 20) dX2_priceGiven_20 rfl ?_
    refine ev_iload_n (X := M_X2_priceGiven) (pc := 21) dX2_priceGiven_21 rfl ?_
    refine ev_iload (X := M_X2_priceGiven) (pc := 22) dX2_priceGiven_22 rfl ?_
    refine ev_virtX (X := M_X2_priceGiven) (Y := M_X8_worth) (pc := 24) (ci := 8) dX2_priceGiven_24 mk_X8_worth rfl kw_271 kw_272 kw_273 hO (c_worthE (Or.inr rfl) hA.2 hT hA.1 ha hb hk hm) rfl (by decide) rfl (Nat.le_of_ble_eq_true rfl) (Nat.zero_add _) (Nat.zero_add _) (fun W hW => ?_)
    first
      | exact ev_weak (tail 1 V (by decide) (by rw [hgv]) fT.rf) ⟨rfl, rfl, rfl, rfl, rfl, trivial⟩
      | exact ev_weak (tail _ W hgr rfl (fun c z => hW c (fun q => z (by rw [ht]; exact ⟨ht8, q⟩)))) ⟨rfl, rfl, rfl, rfl, rfl, trivial⟩
  · have hz : D (26 + 1) = 0 := by
      rcases hTI with z | z
      · exact z.2
      · have := z.2.1; omega
    have hgv : gvv D 1 a b k m = 1 := by unfold gvv; rw [if_neg (by omega), if_neg (by decide)]
    refine ev_iconst (X := M_X2_priceGiven) (pc := 9) dX2_priceGiven_9 ?_
    refine ev_goto (X := M_X2_priceGiven) (pc := 10) (tgt := 27) dX2_priceGiven_10 (by decide) ?_
    first
      | exact ev_weak (tail 1 V (by decide) (by rw [hgv]) fT.rf) ⟨rfl, rfl, rfl, rfl, rfl, trivial⟩
      | exact ev_weak (tail _ W hgr rfl (fun c z => hW c (fun q => z (by rw [ht]; exact ⟨ht8, q⟩)))) ⟨rfl, rfl, rfl, rfl, rfl, trivial⟩
