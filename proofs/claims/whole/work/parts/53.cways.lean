/-! ===== the class counts ways ===== -/
/-- references to the working rows may change places -/
def KS (K K' : Sk) : Prop := K'.1 = K.1 ∧ K'.2.2 = K.2.2 ∧ (∀ c j, ¬ (c = 101 ∧ 7 ≤ j ∧ j ≤ 10) → K'.2.1 c j = K.2.1 c j) ∧ Lay K'
theorem KS.rf {K : Sk} (h : Lay K) : KS K K := ⟨rfl, rfl, fun _ _ _ => rfl, h⟩
def SM (K : Sk) (sa sb : Nat) : Prop := K.2.1 101 9 = sa ∧ K.2.1 101 10 = sb ∧ ((sa = 125 ∧ sb = 126) ∨ (sa = 126 ∧ sb = 125))
theorem Lay.sums {K : Sk} (h : Lay K) : ∃ sa sb, SM K sa sb := by
  rcases h.2.2.2.1 with ⟨a, b⟩ | ⟨a, b⟩
  · exact ⟨125, 126, a, b, Or.inl ⟨rfl, rfl⟩⟩
  · exact ⟨126, 125, a, b, Or.inr ⟨rfl, rfl⟩⟩
theorem SM.sh {K : Sk} {sa sb : Nat} (hL : Lay K) (h : SM K sa sb) : K.1 sa = (2, 455) ∧ K.1 sb = (2, 455) ∧ 100 ≤ sa ∧ 100 ≤ sb := by
  rcases h.2.2 with ⟨a, b⟩ | ⟨a, b⟩ <;> subst a <;> subst b
  · exact ⟨lS_125 hL, lS_126 hL, by decide, by decide⟩
  · exact ⟨lS_126 hL, lS_125 hL, by decide, by decide⟩
theorem SM.swap {K : Sk} {sa sb : Nat} (hL : Lay K) (h : SM K sa sb) : KS K (wrR (wrR K 101 9 sb) 101 10 sa) ∧ SM (wrR (wrR K 101 9 sb) 101 10 sa) sb sa := by
  have hab := h.2.2
  have e9 : (wrR (wrR K 101 9 sb) 101 10 sa).2.1 101 9 = sb := by rw [wrR_ne (by omega), wrR_self]
  have e10 : (wrR (wrR K 101 9 sb) 101 10 sa).2.1 101 10 = sa := wrR_self
  have eo : ∀ c j, ¬ (c = 101 ∧ 9 ≤ j ∧ j ≤ 10) → (wrR (wrR K 101 9 sb) 101 10 sa).2.1 c j = K.2.1 c j := fun c j z => by rw [wrR_ne (by omega), wrR_ne (by omega)]
  have hS : SM (wrR (wrR K 101 9 sb) 101 10 sa) sb sa := ⟨e9, e10, by omega⟩
  refine ⟨⟨rfl, rfl, fun c j z => eo c j (by omega), ?_, fun q hq => ?_, ?_, ?_, hL.2.2.2.2⟩, hS⟩
  · exact hL.1
  · have hq2 := hL.2.1 q hq
    rw [eo q.1 q.2.1 ?_]
    · exact hq2
    · intro z
      have hall : ∀ q ∈ layR, ¬ (q.1 = 101 ∧ 9 ≤ q.2.1 ∧ q.2.1 ≤ 10) := by decide +kernel
      exact hall q hq z
  · have := hL.2.2.1
    rw [eo 101 7 (by omega), eo 101 8 (by omega)]
    exact this
  · rw [e9, e10]
    omega
theorem KS.tr {K K' K'' : Sk} (h : KS K K') (g : KS K' K'') : KS K K'' := ⟨by rw [g.1, h.1], by rw [g.2.1, h.2.1], fun c j z => by rw [g.2.2.1 c j z, h.2.2.1 c j z], g.2.2.2⟩
theorem SrP.frS {K K' : Sk} {V W : Mm} {C : Int → Int} {F : Int} (h : SrP K V C F) (hL : Lay K') (hf : frS V W) (hO : COk C F (W 119)) : SrP K' W C F := by
  obtain ⟨_, a2, a3, a4, a5, a6, a7, _⟩ := h
  refine ⟨hL, ?_, ?_, a4, a5, ?_, ?_, hO⟩
  · unfold SV at a2 ⊢
    rw [hf 1 (by omega), hf 2 (by omega), hf 3 (by omega)]
    exact a2
  · unfold SV2 at a3 ⊢
    rw [hf 4 (by omega), hf 5 (by omega)]
    exact a3
  · unfold IslD at a6 ⊢
    rw [hf 102 (by omega), hf 110 (by omega), hf 111 (by omega)]
    exact a6
  · rw [hf 118 (by omega)]
    exact a7
theorem frS.tr {U V W : Mm} (h : frS U V) (g : frS V W) : frS U W := fun c z => by rw [g c z, h c z]
theorem c_couples {γ : Gh} {K : Sk} {V : Mm} (hL : Lay K) (hV : SV V) {s p : Int} (hs : isSt s) (hp : 0 ≤ p ∧ p < 6) : Call γ M_X6_couples 1 0 0 [vI s, vI p] K V (Rt (some (vI (cpl s p))) K V) := by
  refine call_of (by decide +kernel) (by intro v hv; simp only [List.mem_cons, List.not_mem_nil, or_false] at hv; rcases hv with rfl | rfl <;> exact fun q => by cases q) (Nat.le_of_ble_eq_true rfl) ?_
  refine ev_lsE (ls' := [_, _, _, _]) rfl ?_
  have hsl := isSt_lt hs
  have h2 := les_r p hp
  have h3 := gre_r p hp
  have c1 := cnt_r s (lesF p)
  have c2 := cnt_r s (greF p)
  have hm1 : 0 ≤ cnt s (lesF p) * (cnt s (lesF p) - 1) ∧ cnt s (lesF p) * (cnt s (lesF p) - 1) < 2147483648 := by
    generalize cnt s (lesF p) = a at *
    rcases (show a = 0 ∨ 1 ≤ a by omega) with z | z
    · rw [z]; decide
    · refine ⟨Int.mul_nonneg (by omega) (by omega), ?_⟩
      have : a * (a - 1) ≤ 13 * 13 := Int.mul_le_mul (by omega) (by omega) (by omega) (by decide)
      omega
  refine ev_iload_n (X := M_X6_couples) (pc := 0) dX6_couples_0 rfl ?_
  refine ev_getsN (X := M_X6_couples) (pc := 1) (q := ("GreenPath", "LESSER", "[I", vR 1)) (host := "GreenPath") dX6_couples_1 st_1 kn_740 ?_
  refine ev_iload_n (X := M_X6_couples) (pc := 4) dX6_couples_4 rfl ?_
  refine ev_ialoadE (X := M_X6_couples) (pc := 5) dX6_couples_5 (lS_1 hL) (by omega) (congrFun hV.1 _) ?_
  refine ev_staticNR (X := M_X6_couples) (Y := M_X11_countOf) (pc := 6) (host := "GreenPath") dX6_couples_6 mk_X11_countOf kn_662 kw_325 (c_countOf hL hV (by omega) h2) rfl (by decide) rfl (Nat.le_of_ble_eq_true rfl) (Nat.zero_add _) (Nat.zero_add _) ?_
  refine ev_istore_nL (X := M_X6_couples) (pc := 9) (ls' := [_, _, _, _]) dX6_couples_9 (by decide) rfl ?_
  refine ev_iload_n (X := M_X6_couples) (pc := 10) dX6_couples_10 rfl ?_
  refine ev_getsN (X := M_X6_couples) (pc := 11) (q := ("GreenPath", "GREATER", "[I", vR 2)) (host := "GreenPath") dX6_couples_11 st_2 kn_741 ?_
  refine ev_iload_n (X := M_X6_couples) (pc := 14) dX6_couples_14 rfl ?_
  refine ev_ialoadE (X := M_X6_couples) (pc := 15) dX6_couples_15 (lS_2 hL) (by omega) (congrFun hV.2.1 _) ?_
  refine ev_staticNR (X := M_X6_couples) (Y := M_X11_countOf) (pc := 16) (host := "GreenPath") dX6_couples_16 mk_X11_countOf kn_662 kw_325 (c_countOf hL hV (by omega) h3) rfl (by decide) rfl (Nat.le_of_ble_eq_true rfl) (Nat.zero_add _) (Nat.zero_add _) ?_
  refine ev_istore_nL (X := M_X6_couples) (pc := 19) (ls' := [_, _, _, _]) dX6_couples_19 (by decide) rfl ?_
  refine ev_getsN (X := M_X6_couples) (pc := 20) (q := ("GreenPath", "LESSER", "[I", vR 1)) (host := "GreenPath") dX6_couples_20 st_1 kn_740 ?_
  refine ev_iload_n (X := M_X6_couples) (pc := 23) dX6_couples_23 rfl ?_
  refine ev_ialoadE (X := M_X6_couples) (pc := 24) dX6_couples_24 (lS_1 hL) (by omega) (congrFun hV.1 _) ?_
  refine ev_getsN (X := M_X6_couples) (pc := 25) (q := ("GreenPath", "GREATER", "[I", vR 2)) (host := "GreenPath") dX6_couples_25 st_2 kn_741 ?_
  refine ev_iload_n (X := M_X6_couples) (pc := 28) dX6_couples_28 rfl ?_
  refine ev_ialoadE (X := M_X6_couples) (pc := 29) dX6_couples_29 (lS_2 hL) (by omega) (congrFun hV.2.1 _) ?_
  refine ev_icmp_ne (X := M_X6_couples) (pc := 30) (tgt := 43) dX6_couples_30 (by decide) (by omega) (by omega) (fun h30 => ?_) (fun h30 => ?_)
  · have e : cpl s p = cnt s (lesF p) * cnt s (greF p) := by unfold cpl; rw [if_neg h30]
    refine ev_iload_n (X := M_X6_couples) (pc := 43) dX6_couples_43 rfl ?_
    refine ev_iload_n (X := M_X6_couples) (pc := 44) dX6_couples_44 rfl ?_
    refine ev_imul (X := M_X6_couples) (pc := 45) dX6_couples_45 ?_
    refine ev_iret (X := M_X6_couples) (pc := 46) dX6_couples_46 rfl ?_
    exact ⟨by rw [e], rfl, rfl⟩
  · have e : cpl s p = cnt s (lesF p) * (cnt s (lesF p) - 1) / 2 := by unfold cpl; rw [if_pos h30]
    refine ev_iload_n (X := M_X6_couples) (pc := 33) dX6_couples_33 rfl ?_
    refine ev_iload_n (X := M_X6_couples) (pc := 34) dX6_couples_34 rfl ?_
    refine ev_iconst (X := M_X6_couples) (pc := 35) dX6_couples_35 ?_
    refine ev_isub (X := M_X6_couples) (pc := 36) dX6_couples_36 ?_
    refine ev_imul (X := M_X6_couples) (pc := 37) dX6_couples_37 ?_
    refine ev_iconst (X := M_X6_couples) (pc := 38) dX6_couples_38 ?_
    refine ev_idiv (X := M_X6_couples) (pc := 39) dX6_couples_39 (by exact hm1) (by decide) ?_
    refine ev_goto (X := M_X6_couples) (pc := 40) (tgt := 46) dX6_couples_40 (by decide) ?_
    refine ev_iret (X := M_X6_couples) (pc := 46) dX6_couples_46 rfl ?_
    exact ⟨by rw [e], rfl, rfl⟩
theorem c_passOn {γ : Gh} {K : Sk} {V : Mm} {C : Int → Int} {F q : Int} {U : Int → Int} {sa sb : Nat} (h : SrP K V C F) (hM : SM K sa sb) (hq : 0 ≤ q ∧ q < 455) (hU : ∀ j, 0 ≤ j ∧ j < 455 → V sa j = U (stF j)) (hA : ∀ j, 0 ≤ j ∧ j < 455 → V sb j = wyI C F U (6 * q) (stF j)) : Call γ M_X6_passOn 4 0 0 [vR 101, vI q] K V (Qx none K (fun W => (∀ c, c ≠ 119 → c ≠ sb → W c = V c) ∧ COk C F (W 119) ∧ ∀ j, 0 ≤ j ∧ j < 455 → W sb j = wyI C F U (6 * q + 6) (stF j))) := by
  refine call_of (by decide +kernel) (by intro v hv; simp only [List.mem_cons, List.not_mem_nil, or_false] at hv; rcases hv with rfl | rfl <;> exact fun q => by cases q) (Nat.le_of_ble_eq_true rfl) ?_
  refine ev_lsE (ls' := [_, _, _, _]) rfl ?_
  have hL := h.1
  obtain ⟨z1, z2, z3, z4⟩ := hM.sh hL
  have hab := hM.2.2
  refine ev_iconst (X := M_X6_passOn) (pc := 0) dX6_passOn_0 ?_
  refine ev_istore_nL (X := M_X6_passOn) (pc := 1) (ls' := [_, _, _, _]) dX6_passOn_1 (by decide) rfl ?_
  refine ev_weak (ev_while (σ := Int × Mm) (fun s => 0 ≤ s.1 ∧ s.1 ≤ 6 ∧ (∀ c, c ≠ 119 → c ≠ sb → s.2 c = V c) ∧ COk C F (s.2 119) ∧ ∀ j, 0 ≤ j ∧ j < 455 → s.2 sb j = wyI C F U (6 * q + s.1) (stF j)) (fun s => (6 - s.1).toNat) (fun s => [vR 101, vI q, vI s.1, vU]) (fun _ => K) (fun s => s.2) ?_ (0, V) ⟨Int.le_refl 0, by show (0 : Int) ≤ 6; decide, fun _ _ _ => rfl, h.2.2.2.2.2.2.2, fun j hj => by show V sb j = wyI C F U (6 * q + 0) (stF j); rw [Int.add_zero]; exact hA j hj⟩) ⟨rfl, rfl, rfl, trivial⟩
  rintro ⟨p, W⟩ ⟨p0, p1, w1, w2, w3⟩ ih
  dsimp only at p0 p1 w1 w2 w3 ih ⊢
  have hS : SrP K W C F := h.frS hL (fun c z => w1 c (by omega) (by omega)) w2
  have hC := hS.2.2.2.1
  have hst := (stF_at hq).1
  refine ev_iload_n (X := M_X6_passOn) (pc := 2) dX6_passOn_2 rfl ?_
  refine ev_bipush (X := M_X6_passOn) (pc := 3) dX6_passOn_3 (by decide) ?_
  refine ev_icmp_ge (X := M_X6_passOn) (pc := 5) (tgt := 53) dX6_passOn_5 (by decide) (by omega) (by omega) (fun h5 => ?_) (fun h5 => ?_)
  · refine ev_vret (X := M_X6_passOn) (pc := 53) dX6_passOn_53 rfl ?_
    have hp : p = 6 := by omega
    rw [hp] at w3
    exact ⟨rfl, rfl, w1, w2, w3⟩
  · refine ev_aload_n (X := M_X6_passOn) (pc := 8) dX6_passOn_8 rfl ?_
    refine ev_iload_n (X := M_X6_passOn) (pc := 9) dX6_passOn_9 rfl ?_
    refine ev_iload_n (X := M_X6_passOn) (pc := 10) dX6_passOn_10 rfl ?_
    refine ev_virtX (X := M_X6_passOn) (Y := M_X6_lead) (pc := 11) (ci := 6) dX6_passOn_11 mk_X6_lead rfl kw_669 kw_670 kw_671 (lO_101 hL) (c_lead hS hq (by omega)) rfl (by decide) rfl (Nat.le_of_ble_eq_true rfl) (Nat.zero_add _) (Nat.zero_add _) (fun W2 hW2 => ?_)
    have hld := ld_r (F := F) hC hq (p := p) (by omega)
    have hsp := wyI_s (C := C) (F := F) (U := U) (e := 6 * q + p) (by omega)
    rw [show 6 * q + p + 1 = 6 * q + (p + 1) by omega] at hsp
    unfold wyst at hsp
    rw [show (6 * q + p) / 6 = q by omega, show (6 * q + p) % 6 = p by omega] at hsp
    have hf : ∀ c, c ≠ 119 → c ≠ sb → W2 c = V c := fun c y1 y2 => by rw [hW2.1 c y1]; exact w1 c y1 y2
    have hsb : W2 sb = W sb := hW2.1 sb (by omega)
    have hS2 : SrP K W2 C F := h.frS hL (fun c z => hf c (by omega) (by omega)) hW2.2
    refine ev_istore_nL (X := M_X6_passOn) (pc := 14) (ls' := [_, _, _, _]) dX6_passOn_14 (by decide) rfl ?_
    refine ev_iload_n (X := M_X6_passOn) (pc := 15) dX6_passOn_15 rfl ?_
    refine ev_iconst (X := M_X6_passOn) (pc := 16) dX6_passOn_16 ?_
    refine ev_icmp_eq (X := M_X6_passOn) (pc := 17) (tgt := 47) dX6_passOn_17 (by decide) (by omega) (by omega) (fun h17 => ?_) (fun h17 => ?_)
    · have hn : nx C F (stF q) p = -1 := Decidable.byContradiction fun z => by
        unfold ld at h17
        rw [if_neg z] at h17
        have := (pl_st (nx_st hC (by omega) hst z)).1
        omega
      rw [if_pos hn] at hsp
      have hfin : ∀ j, 0 ≤ j ∧ j < 455 → W2 sb j = wyI C F U (6 * q + (p + 1)) (stF j) := fun j hj => by rw [hsb, hsp]; exact w3 j hj
      refine ev_iincL (X := M_X6_passOn) (pc := 47) (ls' := [_, _, _, _]) dX6_passOn_47 rfl (by decide) rfl ?_
      refine ev_goto (X := M_X6_passOn) (pc := 50) (tgt := 2) dX6_passOn_50 (by decide) ?_
      first
        | exact ev_weak (ih (p + 1, _) ⟨by omega, by omega, hf, hW2.2, hfin⟩ (by show (6 - (p + 1)).toNat < (6 - p).toNat; omega)) ⟨rfl, rfl, rfl, trivial⟩
        | exact ev_weak (ih (p + 1, _) ⟨by omega, by omega, fun c y1 y2 => by show wr W2 sb _ _ c = V c; rw [wr_off y2]; exact hf c y1 y2, by show COk C F (wr W2 sb _ _ 119); rw [wr_off (by omega)]; exact hW2.2, hfin⟩ (by show (6 - (p + 1)).toNat < (6 - p).toNat; omega)) ⟨rfl, rfl, rfl, trivial⟩
    · have hn : ¬ nx C F (stF q) p = -1 := fun z => h17 (by unfold ld; rw [if_pos z])
      rw [if_neg hn] at hsp
      have hnst := nx_st hC (by omega) hst hn
      have hlde : ld C F q p = pl (nx C F (stF q) p) := by unfold ld; rw [if_neg hn]
      obtain ⟨g0, g1, g2⟩ := pl_st hnst
      refine ev_aload_n (X := M_X6_passOn) (pc := 20) dX6_passOn_20 rfl ?_
      refine ev_getRe (X := M_X6_passOn) (pc := 21) dX6_passOn_21 fl_X6_44_6 (lO_101 hL) rfl hM.2.1 ?_
      refine ev_iload_n (X := M_X6_passOn) (pc := 24) dX6_passOn_24 rfl ?_
      refine ev_dup2 (X := M_X6_passOn) (pc := 25) dX6_passOn_25 (fun _ q => by cases q) (fun _ q => by cases q) ?_
      refine ev_laload (X := M_X6_passOn) (pc := 26) dX6_passOn_26 z2 (by omega) ?_
      refine ev_aload_n (X := M_X6_passOn) (pc := 27) dX6_passOn_27 rfl ?_
      refine ev_getRe (X := M_X6_passOn) (pc := 28) dX6_passOn_28 fl_X6_40_6 (lO_101 hL) rfl hM.1 ?_
      refine ev_iload_n (X := M_X6_passOn) (pc := 31) dX6_passOn_31 rfl ?_
      refine ev_laloadE (X := M_X6_passOn) (pc := 32) dX6_passOn_32 z1 (by omega) ((congrFun (hf sa (by omega) (by omega)) q).trans (hU q hq)) ?_
      refine ev_aload_n (X := M_X6_passOn) (pc := 33) dX6_passOn_33 rfl ?_
      refine ev_getRe (X := M_X6_passOn) (pc := 34) dX6_passOn_34 fl_X6_18_6 (lO_101 hL) rfl (lR_101_1 hL) ?_
      refine ev_iload_n (X := M_X6_passOn) (pc := 37) dX6_passOn_37 rfl ?_
      refine ev_ialoadE (X := M_X6_passOn) (pc := 38) dX6_passOn_38 (lS_118 hL) (by omega) ((congrFun (hf 118 (by omega) (by omega)) q).trans (h.2.2.2.2.2.2.1 q hq)) ?_
      refine ev_iload_n (X := M_X6_passOn) (pc := 39) dX6_passOn_39 rfl ?_
      refine ev_staticR (X := M_X6_passOn) (Y := M_X6_couples) (pc := 40) dX6_passOn_40 mk_X6_couples kw_737 kw_738 (c_couples hL hS2.2.1 hst (by omega)) rfl (by decide) rfl (Nat.le_of_ble_eq_true rfl) (Nat.zero_add _) (Nat.zero_add _) ?_
      refine ev_i2l (X := M_X6_passOn) (pc := 43) dX6_passOn_43 (by have := cpl_r (s := stF q) (p := p) hst (by omega); omega) ?_
      refine ev_lmul (X := M_X6_passOn) (pc := 44) dX6_passOn_44 ?_
      refine ev_ladd (X := M_X6_passOn) (pc := 45) dX6_passOn_45 ?_
      refine ev_lastore (X := M_X6_passOn) (pc := 46) dX6_passOn_46 z4 z2 (by omega) ?_
      have hfin : ∀ j, 0 ≤ j ∧ j < 455 → wr W2 sb (ld C F q p) (W2 sb (ld C F q p) + U (stF q) * cpl (stF q) p) sb j = wyI C F U (6 * q + (p + 1)) (stF j) := fun j hj => by
        rw [wr_row, hsp, hsb, hlde, w3 _ ⟨g0, g1⟩, g2]
        by_cases z : j = pl (nx C F (stF q) p)
        · rw [z, up_self, g2, up_self]
        · rw [up_ne z, up_ne (fun y => z (by rw [← y, (stF_at hj).2])), w3 j hj]
      refine ev_iincL (X := M_X6_passOn) (pc := 47) (ls' := [_, _, _, _]) dX6_passOn_47 rfl (by decide) rfl ?_
      refine ev_goto (X := M_X6_passOn) (pc := 50) (tgt := 2) dX6_passOn_50 (by decide) ?_
      first
        | exact ev_weak (ih (p + 1, _) ⟨by omega, by omega, hf, hW2.2, hfin⟩ (by show (6 - (p + 1)).toNat < (6 - p).toNat; omega)) ⟨rfl, rfl, rfl, trivial⟩
        | exact ev_weak (ih (p + 1, _) ⟨by omega, by omega, fun c y1 y2 => by show wr W2 sb _ _ c = V c; rw [wr_off y2]; exact hf c y1 y2, by show COk C F (wr W2 sb _ _ 119); rw [wr_off (by omega)]; exact hW2.2, hfin⟩ (by show (6 - (p + 1)).toNat < (6 - p).toNat; omega)) ⟨rfl, rfl, rfl, trivial⟩
def CW (C : Int → Int) (F s0 : Int) (k : Nat) (K : Sk) (V : Mm) (K' : Sk) (W : Mm) : Prop := KS K K' ∧ frS V W ∧ W 155 = V 155 ∧ COk C F (W 119) ∧ ∃ sa sb, SM K' sa sb ∧ ∀ j, 0 ≤ j ∧ j < 455 → W sa j = wyK C F s0 k (stF j)
theorem c_countWays {γ : Gh} {K : Sk} {V : Mm} {C : Int → Int} {F s0 : Int} (h : SrP K V C F) (hs : isSt s0) (hn : V 102 4 = s0) {n : Nat} (hn6 : n ≤ 6) : Call γ M_X6_countWays 5 0 0 [vR 101, vI n] K V (Qg none (CW C F s0 n K V)) := by
  refine call_of (by decide +kernel) (by intro v hv; simp only [List.mem_cons, List.not_mem_nil, or_false] at hv; rcases hv with rfl | rfl <;> exact fun q => by cases q) (Nat.le_of_ble_eq_true rfl) ?_
  refine ev_lsE (ls' := [_, _, _, _]) rfl ?_
  have hL := h.1
  obtain ⟨a0, b0, hM⟩ := hL.sums
  obtain ⟨z1, z2, z3, z4⟩ := hM.sh hL
  have hab := hM.2.2
  have hps := pl_st hs
  have hC := h.2.2.2.1
  refine ev_aload_n (X := M_X6_countWays) (pc := 0) dX6_countWays_0 rfl ?_
  refine ev_getRe (X := M_X6_countWays) (pc := 1) dX6_countWays_1 fl_X6_40_6 (lO_101 hL) rfl hM.1 ?_
  refine ev_lconst (X := M_X6_countWays) (pc := 4) (v := 0) dX6_countWays_4 (by decide) ?_
  refine ev_staticV (X := M_X6_countWays) (Y := M_J7_fill_d0a16) (pc := 5) dX6_countWays_5 mk_J7_fill_d0a16 kw_730 kw_731 (c_fillL (n := 455) z3 z1 (by decide)) rfl (by decide) rfl (Nat.le_of_ble_eq_true rfl) (Nat.zero_add _) (Nat.zero_add _) ?_
  refine ev_aload_n (X := M_X6_countWays) (pc := 8) dX6_countWays_8 rfl ?_
  refine ev_getRe (X := M_X6_countWays) (pc := 9) dX6_countWays_9 fl_X6_40_6 (lO_101 hL) rfl hM.1 ?_
  refine ev_aload_n (X := M_X6_countWays) (pc := 12) dX6_countWays_12 rfl ?_
  refine ev_getRe (X := M_X6_countWays) (pc := 13) dX6_countWays_13 fl_X6_12_6 (lO_101 hL) rfl (lR_101_0 hL) ?_
  refine ev_getIe (X := M_X6_countWays) (pc := 16) (ki := 4) dX6_countWays_16 fl_X6_78_2 (lO_102 hL) (by decide) rfl ((congrFun (setr_ne (show (102 : Nat) ≠ a0 by omega)) 4).trans hn) ?_
  refine ev_staticR (X := M_X6_countWays) (Y := M_X6_placeOf) (pc := 19) dX6_countWays_19 mk_X6_placeOf kw_659 kw_660 (c_placeOf hL (by unfold SV; rw [setr_ne (by omega), setr_ne (by omega), setr_ne (by omega)]; exact h.2.1) (by unfold SV2; rw [setr_ne (by omega), setr_ne (by omega)]; exact h.2.2.1) (isSt_lt hs)) rfl (by decide) rfl (Nat.le_of_ble_eq_true rfl) (Nat.zero_add _) (Nat.zero_add _) ?_
  refine ev_lconst (X := M_X6_countWays) (pc := 22) (v := 1) dX6_countWays_22 (by decide) ?_
  refine ev_lastore (X := M_X6_countWays) (pc := 23) dX6_countWays_23 z3 z1 (by omega) ?_
  refine ev_iconst (X := M_X6_countWays) (pc := 24) dX6_countWays_24 ?_
  refine ev_istore_nL (X := M_X6_countWays) (pc := 25) (ls' := [_, _, _, _]) dX6_countWays_25 (by decide) rfl ?_
  refine ev_weak (ev_while (σ := Int × Sk × Mm) (fun s => 0 ≤ s.1 ∧ s.1 ≤ n ∧ CW C F s0 s.1.toNat K V s.2.1 s.2.2) (fun s => ((n : Int) - s.1).toNat) (fun s => [vR 101, vI n, vI s.1, vU]) (fun s => s.2.1) (fun s => s.2.2) ?_ (0, K, _) ⟨Int.le_refl 0, by show (0 : Int) ≤ n; omega, KS.rf hL, ?_, ?_, ?_, a0, b0, hM, ?_⟩) ⟨rfl, rfl, rfl, trivial⟩
  rotate_left
  · intro c z
    show wr (setr V a0 _) a0 _ _ c = V c
    rw [wr_off (by omega), setr_ne (by omega)]
  · show wr (setr V a0 _) a0 _ _ 155 = V 155
    rw [wr_off (by omega), setr_ne (by omega)]
  · show COk C F (wr (setr V a0 _) a0 _ _ 119)
    rw [wr_off (by omega), setr_ne (by omega)]
    exact h.2.2.2.2.2.2.2
  · intro j hj
    show wr (setr V a0 _) a0 (pl s0) 1 a0 j = (if stF j = s0 then (1 : Int) else 0)
    rw [wr_setr, setr_self]
    by_cases z : j = pl s0
    · rw [z, up_self, hps.2.2, if_pos rfl]
    · rw [up_ne z, if_neg (fun y => z (by rw [← y, (stF_at hj).2]))]
      unfold flr
      rw [if_pos ⟨hj.1, hj.2⟩]
  clear hM z1 z2 z3 z4 hab a0 b0
  rintro ⟨i, K1, W⟩ ⟨i0, i1, kS, wf, w155, wO, sa, sb, hM, wU⟩ ih
  dsimp only at i0 i1 kS wf w155 wO hM wU ih ⊢
  have hL1 := kS.2.2.2
  obtain ⟨z1, z2, z3, z4⟩ := hM.sh hL1
  have hab := hM.2.2
  have hS := h.frS hL1 wf wO
  refine ev_iload_n (X := M_X6_countWays) (pc := 26) dX6_countWays_26 rfl ?_
  refine ev_iload_n (X := M_X6_countWays) (pc := 27) dX6_countWays_27 rfl ?_
  refine ev_icmp_ge (X := M_X6_countWays) (pc := 28) (tgt := 94) dX6_countWays_28 (by decide) (by omega) (by omega) (fun h28 => ?_) (fun h28 => ?_)
  · refine ev_vret (X := M_X6_countWays) (pc := 94) dX6_countWays_94 rfl ?_
    have hi : i.toNat = n := by omega
    rw [hi] at wU
    exact ⟨rfl, kS, wf, w155, wO, sa, sb, hM, wU⟩
  · refine ev_aload_n (X := M_X6_countWays) (pc := 31) dX6_countWays_31 rfl ?_
    refine ev_getRe (X := M_X6_countWays) (pc := 32) dX6_countWays_32 fl_X6_44_6 (lO_101 hL1) rfl hM.2.1 ?_
    refine ev_lconst (X := M_X6_countWays) (pc := 35) (v := 0) dX6_countWays_35 (by decide) ?_
    refine ev_staticV (X := M_X6_countWays) (Y := M_J7_fill_d0a16) (pc := 36) dX6_countWays_36 mk_J7_fill_d0a16 kw_730 kw_731 (c_fillL (n := 455) z4 z2 (by decide)) rfl (by decide) rfl (Nat.le_of_ble_eq_true rfl) (Nat.zero_add _) (Nat.zero_add _) ?_
    refine ev_iconst (X := M_X6_countWays) (pc := 39) dX6_countWays_39 ?_
    refine ev_istore_nL (X := M_X6_countWays) (pc := 40) (ls' := [_, _, _, _]) dX6_countWays_40 (by decide) rfl ?_
    refine ev_weak (ev_while (σ := Int × Mm) (fun s => 0 ≤ s.1 ∧ s.1 ≤ 455 ∧ frS V s.2 ∧ s.2 155 = V 155 ∧ COk C F (s.2 119) ∧ (∀ j, 0 ≤ j ∧ j < 455 → s.2 sa j = wyK C F s0 i.toNat (stF j)) ∧ ∀ j, 0 ≤ j ∧ j < 455 → s.2 sb j = wyI C F (wyK C F s0 i.toNat) (6 * s.1) (stF j)) (fun s => (455 - s.1).toNat) (fun s => [vR 101, vI n, vI i, vI s.1]) (fun _ => K1) (fun s => s.2) ?_ (0, _) ⟨Int.le_refl 0, by show (0 : Int) ≤ 455; decide, ?_, ?_, ?_, ?_, ?_⟩) ⟨rfl, rfl, rfl, rfl, trivial⟩
    rotate_left
    · intro c z
      show setr W sb _ c = V c
      rw [setr_ne (by omega)]
      exact wf c z
    · show setr W sb _ 155 = V 155
      rw [setr_ne (by omega)]
      exact w155
    · show COk C F (setr W sb _ 119)
      rw [setr_ne (by omega)]
      exact wO
    · intro j hj
      show setr W sb _ sa j = _
      rw [setr_ne (by omega)]
      exact wU j hj
    · intro j hj
      show setr W sb _ sb j = 0
      rw [setr_self]
      unfold flr
      rw [if_pos ⟨hj.1, hj.2⟩]
    clear wf w155 wO wU hS
    rintro ⟨q, W2⟩ ⟨q0, q1, wf, w155, wO, wU, wA⟩ ih2
    dsimp only at q0 q1 wf w155 wO wU wA ih2 ⊢
    have hS := h.frS hL1 wf wO
    refine ev_iload_n (X := M_X6_countWays) (pc := 41) dX6_countWays_41 rfl ?_
    refine ev_sipush (X := M_X6_countWays) (pc := 42) dX6_countWays_42 (by decide) ?_
    refine ev_icmp_ge (X := M_X6_countWays) (pc := 45) (tgt := 70) dX6_countWays_45 (by decide) (by omega) (by omega) (fun h45 => ?_) (fun h45 => ?_)
    · refine ev_aload_n (X := M_X6_countWays) (pc := 70) dX6_countWays_70 rfl ?_
      refine ev_getRe (X := M_X6_countWays) (pc := 71) dX6_countWays_71 fl_X6_40_6 (lO_101 (K := K1) hL1) rfl hM.1 ?_
      refine ev_astore_nL (X := M_X6_countWays) (pc := 74) (ls' := [_, _, _, _]) dX6_countWays_74 (by decide) rfl ?_
      refine ev_aload_n (X := M_X6_countWays) (pc := 75) dX6_countWays_75 rfl ?_
      refine ev_aload_n (X := M_X6_countWays) (pc := 76) dX6_countWays_76 rfl ?_
      refine ev_getRe (X := M_X6_countWays) (pc := 77) dX6_countWays_77 fl_X6_44_6 (lO_101 (K := K1) hL1) rfl hM.2.1 ?_
      refine ev_putR (X := M_X6_countWays) (pc := 80) (ki := 9) dX6_countWays_80 fl_X6_40_6 (by decide) (lO_101 (K := K1) hL1) (fun _ h q => by cases h; cases q) rfl rfl ?_
      refine ev_aload_n (X := M_X6_countWays) (pc := 83) dX6_countWays_83 rfl ?_
      refine ev_aload_n (X := M_X6_countWays) (pc := 84) dX6_countWays_84 rfl ?_
      refine ev_putR (X := M_X6_countWays) (pc := 85) (ki := 10) dX6_countWays_85 fl_X6_44_6 (by decide) (lO_101 (K := K1) hL1) (fun _ h q => by cases h; cases q) rfl rfl ?_
      refine ev_iincL (X := M_X6_countWays) (pc := 88) (ls' := [_, _, _, _]) dX6_countWays_88 rfl (by decide) rfl ?_
      refine ev_goto (X := M_X6_countWays) (pc := 91) (tgt := 26) dX6_countWays_91 (by decide) ?_
      have hq : q = 455 := by omega
      rw [hq] at wA
      refine ev_weak (ih (i + 1, _, W2) ⟨by omega, by omega, kS.tr (hM.swap hL1).1, wf, w155, wO, sb, sa, (hM.swap hL1).2, fun j hj => ?_⟩ (by show ((n : Int) - (i + 1)).toNat < ((n : Int) - i).toNat; omega)) ⟨rfl, rfl, rfl, trivial⟩
      show W2 sb j = wyK C F s0 (i + 1).toNat (stF j)
      rw [show (i + 1).toNat = i.toNat + 1 by omega, wyK_s]
      exact wA j hj
    · have hr := wyK_r (F := F) hC hs (k := i.toNat) (by omega) (stF q)
      have hsk := wyI_skip (C := C) (F := F) (U := wyK C F s0 i.toNat) (q := q) q0
      refine ev_aload_n (X := M_X6_countWays) (pc := 48) dX6_countWays_48 rfl ?_
      refine ev_getRe (X := M_X6_countWays) (pc := 49) dX6_countWays_49 fl_X6_40_6 (lO_101 hL1) rfl hM.1 ?_
      refine ev_iload_n (X := M_X6_countWays) (pc := 52) dX6_countWays_52 rfl ?_
      refine ev_laloadE (X := M_X6_countWays) (pc := 53) dX6_countWays_53 z1 (by omega) (wU q (by omega)) ?_
      refine ev_lconst (X := M_X6_countWays) (pc := 54) (v := 0) dX6_countWays_54 (by decide) ?_
      refine ev_lcmpN (X := M_X6_countWays) (pc := 55) dX6_countWays_55 (by omega) (by decide) (fun c55 hc55 => ?_)
      refine ev_if_eq (X := M_X6_countWays) (pc := 56) (tgt := 64) dX6_countWays_56 (by decide) (by omega) (fun h56 => ?_) (fun h56 => ?_)
      · have hz : wyK C F s0 i.toNat (stF q) = 0 := by omega
        have hfin : ∀ j, 0 ≤ j ∧ j < 455 → W2 sb j = wyI C F (wyK C F s0 i.toNat) (6 * (q + 1)) (stF j) := fun j hj => by rw [show 6 * (q + 1) = 6 * q + 6 by omega, hsk hz]; exact wA j hj
        have W3 := W2
        refine ev_iincL (X := M_X6_countWays) (pc := 64) (ls' := [_, _, _, _]) dX6_countWays_64 rfl (by decide) rfl ?_
        refine ev_goto (X := M_X6_countWays) (pc := 67) (tgt := 41) dX6_countWays_67 (by decide) ?_
        first
          | exact ev_weak (ih2 (q + 1, W2) ⟨by omega, by omega, wf, w155, wO, wU, hfin⟩ (by show (455 - (q + 1)).toNat < (455 - q).toNat; omega)) ⟨rfl, rfl, rfl, rfl, trivial⟩
          | (refine ev_weak (ih2 (q + 1, W3) ⟨by omega, by omega, fun c z => by show W3 c = V c; rw [hW3.1 c (by omega) (by omega)]; exact wf c z, by show W3 155 = V 155; rw [hW3.1 155 (by omega) (by omega)]; exact w155, hW3.2.1, fun j hj => by show W3 sa j = _; rw [hW3.1 sa (by omega) (by omega)]; exact wU j hj, fun j hj => ?_⟩ (by show (455 - (q + 1)).toNat < (455 - q).toNat; omega)) ⟨rfl, rfl, rfl, rfl, trivial⟩
             show W3 sb j = wyI C F _ (6 * (q + 1)) (stF j)
             rw [show 6 * (q + 1) = 6 * q + 6 by omega]
             exact hW3.2.2 j hj)
      · refine ev_aload_n (X := M_X6_countWays) (pc := 59) dX6_countWays_59 rfl ?_
        refine ev_iload_n (X := M_X6_countWays) (pc := 60) dX6_countWays_60 rfl ?_
        refine ev_virtY (X := M_X6_countWays) (Y := M_X6_passOn) (pc := 61) (ci := 6) dX6_countWays_61 mk_X6_passOn rfl kw_733 kw_734 kw_735 (lO_101 hL1) (c_passOn hS hM (by omega) wU wA) rfl (by decide) rfl (Nat.le_of_ble_eq_true rfl) (Nat.zero_add _) (Nat.zero_add _) (fun W3 hW3 => ?_)
        refine ev_iincL (X := M_X6_countWays) (pc := 64) (ls' := [_, _, _, _]) dX6_countWays_64 rfl (by decide) rfl ?_
        refine ev_goto (X := M_X6_countWays) (pc := 67) (tgt := 41) dX6_countWays_67 (by decide) ?_
        first
          | exact ev_weak (ih2 (q + 1, W2) ⟨by omega, by omega, wf, w155, wO, wU, hfin⟩ (by show (455 - (q + 1)).toNat < (455 - q).toNat; omega)) ⟨rfl, rfl, rfl, rfl, trivial⟩
          | (refine ev_weak (ih2 (q + 1, W3) ⟨by omega, by omega, fun c z => by show W3 c = V c; rw [hW3.1 c (by omega) (by omega)]; exact wf c z, by show W3 155 = V 155; rw [hW3.1 155 (by omega) (by omega)]; exact w155, hW3.2.1, fun j hj => by show W3 sa j = _; rw [hW3.1 sa (by omega) (by omega)]; exact wU j hj, fun j hj => ?_⟩ (by show (455 - (q + 1)).toNat < (455 - q).toNat; omega)) ⟨rfl, rfl, rfl, rfl, trivial⟩
             show W3 sb j = wyI C F _ (6 * (q + 1)) (stF j)
             rw [show 6 * (q + 1) = 6 * q + 6 by omega]
             exact hW3.2.2 j hj)
