/-- but counts, meetings, what is spent and z all is as it was -/
def Sm3 (D D' : Int → Int) : Prop := ∀ i, 3 ≤ i → i ≠ 21 → i ≠ 22 → i ≠ 23 → D' i = D i
theorem Sm3.rf {D : Int → Int} : Sm3 D D := fun _ _ _ _ _ => rfl
theorem Sm3.tr {D D' D'' : Int → Int} (h : Sm3 D D') (g : Sm3 D' D'') : Sm3 D D'' := fun i a b c d => by rw [g i a b c d, h i a b c d]
theorem Sm3.com {D D' : Int → Int} (h : Sm3 D D') (hK : Kds D) : comF D' = comF D := comF_cg (fun i z => h i (by omega) (by omega) (by omega) (by omega)) (show D (26 + 0) ≤ 50 from hK.2.1.2)
theorem Sm3.fS {D D' : Int → Int} (h : Sm3 D D') : fS D' = fS D := fS_cg (fun i a b => h i (by omega) (by omega) (by omega) (by omega))
theorem Sm3.Kds {D D' : Int → Int} (h : Sm3 D D') (hK : Kds D) : Kds D' := Kds_cg (fun i z => h i (by omega) (by omega) (by omega) (by omega)) hK
theorem Sm3.wfF {D D' : Int → Int} (h : Sm3 D D') (hF : wfF D) : wfF D' := fun p hp => by rw [h (15 + p) (by omega) (by omega) (by omega) (by omega)]; exact hF p hp
theorem Sm3.Tx1 {D D' : Int → Int} (h : Sm3 D D') (hT : TxOk D 1) : TxOk D' 1 := by
  have t1 : D' (26 + 1) = D (26 + 1) := h 27 (by decide) (by decide) (by decide) (by decide)
  have t0 : 0 ≤ D (26 + 1) ∧ D (26 + 1) ≤ 50 := hT.1
  have t2 : tfD D' 1 = tfD D 1 := by
    unfold tfD
    rw [t1]
    exact rs_eq (fun i h0 h1 => h _ (by omega) (by omega) (by omega) (by omega))
  refine ⟨by rw [t1]; exact hT.1, fun z => ?_⟩
  rw [t1] at z ⊢
  rw [t2]
  obtain ⟨a, b⟩ := hT.2 z
  refine ⟨a, fun i i0 i1 => ?_⟩
  rw [h (48 + 50 * 1 + i) (by omega) (by omega) (by omega) (by omega)]
  exact b i i0 i1
theorem Sm3.me {D : Int → Int} {p : Int} : Sm3 D (meD D p) := fun i a b c d => meD_at (by omega) b c
theorem Sm3.z {D : Int → Int} {x : Int} : Sm3 D (up D 23 x) := fun i a b c d => up_ne d
def DL (D : Int → Int) : Prop := DCnt D ∧ Kds D ∧ wfF D ∧ TxOk D 1 ∧ (-99999 ≤ D 22 ∧ D 22 ≤ 99999)
theorem me_21 {D : Int → Int} {p : Int} : meD D p 21 = D 21 + 1 ∧ meD D p 22 = spD D p := by
  unfold meD
  rw [bcD_at (by decide), bcD_at (by decide), up_self, up_ne (by decide), up_self]
  exact ⟨rfl, rfl⟩
theorem spD_r {D : Int → Int} {p : Int} : -99999 ≤ spD D p ∧ spD D p ≤ 99999 := heldF_r (by decide)
theorem DL.me {D : Int → Int} {F p : Int} (h : DL D) (hp : 0 ≤ p ∧ p < 6) (hm : may (comF D) F (nowS D) p) : DL (meD D p) :=
  ⟨bcD_ct (aft_st (comF_wf h.2.1) hp (nowS_st h.1) hm), Sm3.me.Kds h.2.1, Sm3.me.wfF h.2.2.1, Sm3.me.Tx1 h.2.2.2.1, by rw [me_21.2]; exact spD_r⟩
theorem DL.z {D : Int → Int} (h : DL D) (x : Int) : DL (up D 23 x) :=
  ⟨h.1, Sm3.z.Kds h.2.1, Sm3.z.wfF h.2.2.1, Sm3.z.Tx1 h.2.2.2.1, h.2.2.2.2⟩
/-- a chance meeting -/
def chA (D : Int → Int) : Int := sAt (nowS D) (zD (D 23) % (D 0 + D 1 + D 2))
def chB (D : Int → Int) : Int := sAt (nowS D - wgtF (chA D)) (zD (zN (D 23)) % (D 0 + D 1 + D 2 - 1))
def chP (D : Int → Int) : Int := prF (chA D) (chB D)
def chD (D : Int → Int) : Int → Int := if D 0 + D 1 + D 2 < 2 then D else if nx (comF D) (fS D) (nowS D) (chP D) = -1 then up D 23 (zN (zN (D 23))) else meD (up D 23 (zN (zN (D 23)))) (chP D)
theorem sAt_r {s i : Int} : 0 ≤ sAt s i ∧ sAt s i < 3 := by
  unfold sAt
  repeat' split
  all_goals decide
theorem soF_1 {D : Int → Int} (h : DCnt D) {i : Int} : soF D i (-1) = sAt (nowS D) i := by
  obtain ⟨n0, n1, n2, n3⟩ := nowS_cnt h
  unfold soF sAt
  rw [n0, n1, if_neg (show ¬ (-1 : Int) = 0 by decide), if_neg (show ¬ (-1 : Int) = 1 by decide), Int.sub_zero, Int.sub_zero]
  by_cases z : i < D 0
  · rw [if_pos z, if_pos z]
  · rw [if_neg z, if_neg z]
    by_cases y : i - D 0 < D 1
    · rw [if_pos y, if_pos (by omega)]
    · rw [if_neg y, if_neg (by omega)]
theorem chA_ge {D : Int → Int} (h : DCnt D) (hn : 2 ≤ D 0 + D 1 + D 2) : (0 ≤ chA D ∧ chA D < 3) ∧ 1 ≤ D (chA D) := by
  have h2 : 0 ≤ D 0 ∧ 0 ≤ D 1 ∧ 0 ≤ D 2 ∧ D 0 + D 1 + D 2 ≤ 12 := h
  obtain ⟨n0, n1, n2, n3⟩ := nowS_cnt h
  have hz := zD_r (D 23)
  have h1 := Int.emod_nonneg (zD (D 23)) (show D 0 + D 1 + D 2 ≠ 0 by omega)
  have h3 := Int.emod_lt_of_pos (zD (D 23)) (show 0 < D 0 + D 1 + D 2 by omega)
  refine ⟨sAt_r, ?_⟩
  unfold chA sAt
  rw [n0, n1]
  generalize zD (D 23) % (D 0 + D 1 + D 2) = i at *
  by_cases z : i < D 0
  · rw [if_pos z]; omega
  · rw [if_neg z]
    by_cases y : i < D 0 + D 1
    · rw [if_pos y]; omega
    · rw [if_neg y]; omega
theorem soF_2 {D : Int → Int} (h : DCnt D) {a j : Int} (ha : 0 ≤ a ∧ a < 3) (hg : 1 ≤ D a) : soF D j a = sAt (nowS D - wgtF a) j ∧ 0 ≤ nowS D - wgtF a ∧ nowS D - wgtF a < 2197 := by
  have h2 : 0 ≤ D 0 ∧ 0 ≤ D 1 ∧ 0 ≤ D 2 ∧ D 0 + D 1 + D 2 ≤ 12 := h
  have w0 : wgtF 0 = 169 := rfl
  have w1 : wgtF 1 = 13 := rfl
  have w2 : wgtF 2 = 1 := rfl
  have key : ∀ x y z : Int, 0 ≤ x → 0 ≤ y → 0 ≤ z → x + y + z ≤ 12 → nowS D - wgtF a = 169 * x + 13 * y + z → (D 0 - (if a = 0 then 1 else 0) = x) → (D 1 - (if a = 1 then 1 else 0) = y) → soF D j a = sAt (nowS D - wgtF a) j ∧ 0 ≤ nowS D - wgtF a ∧ nowS D - wgtF a < 2197 := fun x y z x0 y0 z0 hs he e0 e1 => by
    have hm := st_mk x0 y0 z0 hs
    rw [he]
    refine ⟨?_, (isSt_lt hm.1).1, (isSt_lt hm.1).2⟩
    unfold soF sAt
    rw [hm.2.1, hm.2.2.1, e0, e1]
    by_cases z : j < x
    · rw [if_pos z, if_pos z]
    · rw [if_neg z, if_neg z]
      by_cases q : j - x < y
      · rw [if_pos q, if_pos (by omega)]
      · rw [if_neg q, if_neg (by omega)]
  rcases (show a = 0 ∨ a = 1 ∨ a = 2 by omega) with z | z | z <;> subst z
  · exact key (D 0 - 1) (D 1) (D 2) (by omega) (by omega) (by omega) (by omega) (by rw [w0]; unfold nowS; omega) (by simp) (by simp)
  · exact key (D 0) (D 1 - 1) (D 2) (by omega) (by omega) (by omega) (by omega) (by rw [w1]; unfold nowS; omega) (by simp) (by simp)
  · exact key (D 0) (D 1) (D 2 - 1) (by omega) (by omega) (by omega) (by omega) (by rw [w2]; unfold nowS; omega) (by simp) (by simp)
theorem chD_S {D : Int → Int} : Sm3 D (chD D) := by
  unfold chD
  split
  · exact Sm3.rf
  · split
    · exact Sm3.z
    · exact Sm3.z.tr Sm3.me
theorem chP_r {D : Int → Int} : 0 ≤ chP D ∧ chP D < 6 := prF_r sAt_r sAt_r
theorem DL.ch {D : Int → Int} (h : DL D) : DL (chD D) := by
  unfold chD
  split
  · exact h
  · split
    · exact h.z _
    · next z =>
      have hm := (nx_ne (F := fS D) (comF_wf h.2.1) chP_r (nowS_st h.1)).mp z
      refine (h.z _).me chP_r (F := fS D) ?_
      rw [Sm3.z.com h.2.1]
      exact hm
theorem ch_21 {D : Int → Int} : chD D 21 = D 21 ∨ chD D 21 = D 21 + 1 := by
  unfold chD
  split
  · exact Or.inl rfl
  · split
    · exact Or.inl (up_ne (by decide))
    · rw [me_21.1]; exact Or.inr rfl
theorem m_chances {γ : Gh} {K : Sk} {V : Mm} (hL : Lay K) {D : Int → Int} (hD : V 157 = D) (h : DL D) (hC1 : V 161 = comF D) (h21 : 0 ≤ D 21 ∧ D 21 < 9999) : Call γ M_X12_chances 41 0 0 [vR 156] K V (Qx none K (fun W => mM V W ∧ W 157 = chD D)) := by
  refine call_of (by decide +kernel) (by intro v hv; simp only [List.mem_cons, List.not_mem_nil, or_false] at hv; rcases hv with rfl <;> exact fun q => by cases q) (Nat.le_of_ble_eq_true rfl) ?_
  refine ev_lsE (ls' := [_, _, _, _, _]) rfl ?_
  obtain ⟨hct, hK, hF, hT, h22⟩ := h
  have hC := comF_wf hK
  have hs0 := nowS_st hct
  have hsl := isSt_lt hs0
  obtain ⟨n0, n1, n2, n3⟩ := nowS_cnt hct
  have hct2 : 0 ≤ D 0 ∧ 0 ≤ D 1 ∧ 0 ≤ D 2 ∧ D 0 + D 1 + D 2 ≤ 12 := hct
  have hz1 := zD_r (D 23)
  have hz2 := zD_r (zN (D 23))
  refine ev_aload_n (X := M_X12_chances) (pc := 0) dX12_chances_0 rfl ?_
  refine ev_virtR (X := M_X12_chances) (Y := M_X12_now) (pc := 1) (ci := 12) dX12_chances_1 mk_X12_now rfl kw_1168 kw_1170 kp_18 (lO_156 hL) (m_nowE hL hD) rfl (by decide) rfl (Nat.le_of_ble_eq_true rfl) (Nat.zero_add _) (Nat.zero_add _) ?_
  refine ev_staticR (X := M_X12_chances) (Y := M_X12_allIn) (pc := 4) dX12_chances_4 mk_X12_allIn kw_1172 kw_1173 (m_allIn (by omega)) rfl (by decide) rfl (Nat.le_of_ble_eq_true rfl) (Nat.zero_add _) (Nat.zero_add _) ?_
  rw [n3]
  refine ev_istore_nL (X := M_X12_chances) (pc := 7) (ls' := [_, _, _, _, _]) dX12_chances_7 (by decide) rfl ?_
  refine ev_iload_n (X := M_X12_chances) (pc := 8) dX12_chances_8 rfl ?_
  refine ev_iconst (X := M_X12_chances) (pc := 9) dX12_chances_9 ?_
  refine ev_icmp_ge (X := M_X12_chances) (pc := 10) (tgt := 14) dX12_chances_10 (by decide) (by omega) (by decide) (fun h10 => ?_) (fun h10 => ?_)
  · have hr1 := Int.emod_nonneg (zD (D 23)) (show D 0 + D 1 + D 2 ≠ 0 by omega)
    have hr2 := Int.emod_lt_of_pos (zD (D 23)) (show 0 < D 0 + D 1 + D 2 by omega)
    have hr3 := Int.emod_nonneg (zD (zN (D 23))) (show D 0 + D 1 + D 2 - 1 ≠ 0 by omega)
    have hr4 := Int.emod_lt_of_pos (zD (zN (D 23))) (show 0 < D 0 + D 1 + D 2 - 1 by omega)
    obtain ⟨ha, hg⟩ := chA_ge hct (by omega)
    obtain ⟨hs2, _, _⟩ := soF_2 (j := zD (zN (D 23)) % (D 0 + D 1 + D 2 - 1)) hct ha hg
    have hs1 : soF D (zD (D 23) % (D 0 + D 1 + D 2)) (-1) = chA D := soF_1 hct
    refine ev_aload_n (X := M_X12_chances) (pc := 14) dX12_chances_14 rfl ?_
    refine ev_aload_n (X := M_X12_chances) (pc := 15) dX12_chances_15 rfl ?_
    refine ev_virtR (X := M_X12_chances) (Y := M_X12_drawn) (pc := 16) (ci := 12) dX12_chances_16 mk_X12_drawn rfl kw_1268 kw_1270 kp_29 (lO_156 hL) (m_drawn hL hD) rfl (by decide) rfl (Nat.le_of_ble_eq_true rfl) (Nat.zero_add _) (Nat.zero_add _) ?_
    have q1 : setr V 157 (up D 23 (zN (D 23))) 157 = up D 23 (zN (D 23)) := setr_self
    refine ev_iload_n (X := M_X12_chances) (pc := 19) dX12_chances_19 rfl ?_
    refine ev_irem (X := M_X12_chances) (pc := 20) dX12_chances_20 (by omega) (by omega) ?_
    refine ev_iconst (X := M_X12_chances) (pc := 21) dX12_chances_21 ?_
    refine ev_virtR (X := M_X12_chances) (Y := M_X12_sortOf) (pc := 22) (ci := 12) dX12_chances_22 mk_X12_sortOf rfl kw_1273 kw_1275 kp_30 (lO_156 hL) (m_sortOf hL q1 hct (by omega) (by decide)) rfl (by decide) rfl (Nat.le_of_ble_eq_true rfl) (Nat.zero_add _) (Nat.zero_add _) ?_
    have e1 : soF (up D 23 (zN (D 23))) (zD (D 23) % (D 0 + D 1 + D 2)) (-1) = chA D := hs1
    rw [e1]
    refine ev_istore_nL (X := M_X12_chances) (pc := 25) (ls' := [_, _, _, _, _]) dX12_chances_25 (by decide) rfl ?_
    refine ev_aload_n (X := M_X12_chances) (pc := 26) dX12_chances_26 rfl ?_
    refine ev_aload_n (X := M_X12_chances) (pc := 27) dX12_chances_27 rfl ?_
    refine ev_virtR (X := M_X12_chances) (Y := M_X12_drawn) (pc := 28) (ci := 12) dX12_chances_28 mk_X12_drawn rfl kw_1268 kw_1270 kp_29 (lO_156 hL) (m_drawn hL q1) rfl (by decide) rfl (Nat.le_of_ble_eq_true rfl) (Nat.zero_add _) (Nat.zero_add _) ?_
    have e2 : up D 23 (zN (D 23)) 23 = zN (D 23) := up_self
    rw [e2, setr_set]
    have e3 : up (up D 23 (zN (D 23))) 23 (zN (zN (D 23))) = up D 23 (zN (zN (D 23))) := by
      funext j
      by_cases z : j = 23
      · rw [z, up_self, up_self]
      · rw [up_ne z, up_ne z, up_ne z]
    rw [e3]
    generalize hW0 : setr V 157 (up D 23 (zN (zN (D 23)))) = W0
    have q2 : W0 157 = up D 23 (zN (zN (D 23))) := by rw [← hW0, setr_self]
    have qo : ∀ c, c ≠ 157 → W0 c = V c := fun c z => by rw [← hW0, setr_ne z]
    refine ev_iload_n (X := M_X12_chances) (pc := 31) dX12_chances_31 rfl ?_
    refine ev_iconst (X := M_X12_chances) (pc := 32) dX12_chances_32 ?_
    refine ev_isub (X := M_X12_chances) (pc := 33) dX12_chances_33 ?_
    refine ev_irem (X := M_X12_chances) (pc := 34) dX12_chances_34 (by omega) (by omega) ?_
    refine ev_iload_n (X := M_X12_chances) (pc := 35) dX12_chances_35 rfl ?_
    refine ev_virtR (X := M_X12_chances) (Y := M_X12_sortOf) (pc := 36) (ci := 12) dX12_chances_36 mk_X12_sortOf rfl kw_1273 kw_1275 kp_30 (lO_156 hL) (m_sortOf hL q2 hct (by omega) (by omega)) rfl (by decide) rfl (Nat.le_of_ble_eq_true rfl) (Nat.zero_add _) (Nat.zero_add _) ?_
    have e4 : soF (up D 23 (zN (zN (D 23)))) (zD (zN (D 23)) % (D 0 + D 1 + D 2 - 1)) (chA D) = chB D := hs2
    rw [e4]
    have hb : 0 ≤ chB D ∧ chB D < 3 := sAt_r
    refine ev_istore_nL (X := M_X12_chances) (pc := 39) (ls' := [_, _, _, _, _]) dX12_chances_39 (by decide) rfl ?_
    refine ev_iload_n (X := M_X12_chances) (pc := 40) dX12_chances_40 rfl ?_
    refine ev_iload_n (X := M_X12_chances) (pc := 41) dX12_chances_41 rfl ?_
    refine ev_staticR (X := M_X12_chances) (Y := M_X12_pairOf) (pc := 42) dX12_chances_42 mk_X12_pairOf kw_1277 kw_1278 (m_pairOf (b := chB D) ha hb) rfl (by decide) rfl (Nat.le_of_ble_eq_true rfl) (Nat.zero_add _) (Nat.zero_add _) ?_
    have e5 : prF (chA D) (chB D) = chP D := rfl
    rw [e5]
    have hP := chP_r (D := D)
    have qC : W0 161 = comF D := by rw [qo 161 (by decide)]; exact hC1
    have hnn := nx_ne (F := fS D) hC hP hs0
    have qf : fS (up D 23 (zN (zN (D 23)))) = fS D := Sm3.z.fS
    have qn : nowS (up D 23 (zN (zN (D 23)))) = nowS D := rfl
    have qc : comF (up D 23 (zN (zN (D 23)))) = comF D := Sm3.z.com hK
    refine ev_istoreL (X := M_X12_chances) (pc := 45) (ls' := [_, _, _, _, _]) dX12_chances_45 (by decide) rfl ?_
    refine ev_aload_n (X := M_X12_chances) (pc := 47) dX12_chances_47 rfl ?_
    refine ev_aload_n (X := M_X12_chances) (pc := 48) dX12_chances_48 rfl ?_
    refine ev_virtR (X := M_X12_chances) (Y := M_X12_now) (pc := 49) (ci := 12) dX12_chances_49 mk_X12_now rfl kw_1168 kw_1170 kp_18 (lO_156 hL) (m_nowE hL q2) rfl (by decide) rfl (Nat.le_of_ble_eq_true rfl) (Nat.zero_add _) (Nat.zero_add _) ?_
    rw [qn]
    refine ev_iload (X := M_X12_chances) (pc := 52) dX12_chances_52 rfl ?_
    refine ev_aload_n (X := M_X12_chances) (pc := 54) dX12_chances_54 rfl ?_
    refine ev_virtR (X := M_X12_chances) (Y := M_X12_fencedNow) (pc := 55) (ci := 12) dX12_chances_55 mk_X12_fencedNow rfl kw_1215 kw_1217 kp_22 (lO_156 hL) (m_fencedE hL q2 (Sm3.z.wfF hF)) rfl (by decide) rfl (Nat.le_of_ble_eq_true rfl) (Nat.zero_add _) (Nat.zero_add _) ?_
    rw [qf]
    refine ev_virtR (X := M_X12_chances) (Y := M_X12_mayMeet) (pc := 58) (ci := 12) dX12_chances_58 mk_X12_mayMeet rfl kw_1219 kw_1221 kp_23 (lO_156 hL) (m_mayMeet hL hC qC hP hsl (fS_r hF)) rfl (by decide) rfl (Nat.le_of_ble_eq_true rfl) (Nat.zero_add _) (Nat.zero_add _) ?_
    refine ev_if_eq (X := M_X12_chances) (pc := 61) (tgt := 70) dX12_chances_61 (by decide) (by split <;> decide) (fun h61 => ?_) (fun h61 => ?_)
    · have hch : chD D = up D 23 (zN (zN (D 23))) := by unfold chD; rw [if_neg (by omega), if_pos (Decidable.byContradiction fun z => by rw [if_pos (hnn.mp z)] at h61; exact absurd h61 (by decide))]
      refine ev_vret (X := M_X12_chances) (pc := 70) dX12_chances_70 rfl ?_
      first
        | exact ⟨rfl, rfl, fun c i _ z2 _ => by rw [qo c z2], by rw [hch]; exact q2⟩
        | exact ⟨rfl, rfl, fun c i z1 z2 z3 => by rw [hW2.1 c i z1 z2 z3, qo c z2], by rw [hch]; exact hW2.2⟩
    · have hm : may (comF D) (fS D) (nowS D) (chP D) := Decidable.byContradiction fun z => h61 (by rw [if_neg z])
      have hch : chD D = meD (up D 23 (zN (zN (D 23)))) (chP D) := by unfold chD; rw [if_neg (by omega), if_neg (hnn.mpr hm)]
      refine ev_aload_n (X := M_X12_chances) (pc := 64) dX12_chances_64 rfl ?_
      refine ev_iload (X := M_X12_chances) (pc := 65) dX12_chances_65 rfl ?_
      refine ev_virtY (X := M_X12_chances) (Y := M_X12_meets) (pc := 67) (ci := 12) dX12_chances_67 mk_X12_meets rfl kw_1242 kw_1244 kp_25 (lO_156 hL) (m_meets hL q2 hct (Sm3.z.Kds hK) (Sm3.z.Tx1 hT) (by rw [qc]; exact qC) (by rw [up_ne (by decide)]; exact h21) (by rw [up_ne (by decide)]; exact h22) hP (F := fS D) (by rw [qc]; exact hm)) rfl (by decide) rfl (Nat.le_of_ble_eq_true rfl) (Nat.zero_add _) (Nat.zero_add _) (fun W2 hW2 => ?_)
      refine ev_vret (X := M_X12_chances) (pc := 70) dX12_chances_70 rfl ?_
      first
        | exact ⟨rfl, rfl, fun c i _ z2 _ => by rw [qo c z2], by rw [hch]; exact q2⟩
        | exact ⟨rfl, rfl, fun c i z1 z2 z3 => by rw [hW2.1 c i z1 z2 z3, qo c z2], by rw [hch]; exact hW2.2⟩
  · have hch : chD D = D := by unfold chD; rw [if_pos (by omega)]
    refine ev_vret (X := M_X12_chances) (pc := 13) dX12_chances_13 rfl ?_
    exact ⟨rfl, rfl, fun _ _ _ _ _ => rfl, by rw [hch]; exact hD⟩
def chN (D : Int → Int) : Nat → Int → Int
  | 0 => D
  | n + 1 => chD (chN D n)
theorem chN_ok {D : Int → Int} (h : DL D) : ∀ n : Nat, DL (chN D n) ∧ Sm3 D (chN D n) ∧ D 21 ≤ chN D n 21 ∧ chN D n 21 ≤ D 21 + n
  | 0 => ⟨h, Sm3.rf, Int.le_refl _, by show D 21 ≤ D 21 + ((0 : Nat) : Int); omega⟩
  | n + 1 => by
    obtain ⟨a, b, c, d⟩ := chN_ok h n
    have := ch_21 (D := chN D n)
    refine ⟨a.ch, b.tr chD_S, ?_, ?_⟩
    · show D 21 ≤ chD (chN D n) 21; omega
    · show chD (chN D n) 21 ≤ D 21 + ((n + 1 : Nat) : Int); omega
def cnK (D : Int → Int) (n : Int) : Int := if 1 ≤ n ∧ n ≤ 60 then (if 9999 < D 21 + n then 3 else 0) else 1
theorem m_chance {γ : Gh} {K : Sk} {V : Mm} {D : Int → Int} (h : MQy K V D) (hT : TxOk D 1) (h21 : 0 ≤ D 21 ∧ D 21 ≤ 9999) (h22 : -99999 ≤ D 22 ∧ D 22 ≤ 99999) {n : Int} (hnr : R32 n) : Call γ M_X12_chance 42 0 0 [vR 156, vI n] K V (Qx (some (vI (aR (cnK D n) (nowS (chN D n.toNat))))) K (MW V (aD (cnK D n) D (chN D n.toNat)) (cnK D n))) := by
  refine call_of (by decide +kernel) (by intro v hv; simp only [List.mem_cons, List.not_mem_nil, or_false] at hv; rcases hv with rfl | rfl <;> exact fun q => by cases q) (Nat.le_of_ble_eq_true rfl) ?_
  refine ev_lsE (ls' := [_, _, _]) rfl ?_
  obtain ⟨hL, hD, hct, hK, hF, hZ⟩ := h
  have hDL : DL D := ⟨hct, hK, hF, hT, h22⟩
  refine ev_iload_n (X := M_X12_chance) (pc := 0) dX12_chance_0 rfl ?_
  refine ev_i2l (X := M_X12_chance) (pc := 1) dX12_chance_1 (by omega) ?_
  refine ev_lconst (X := M_X12_chance) (pc := 2) (v := 1) dX12_chance_2 (by decide) ?_
  refine ev_ldc2 (X := M_X12_chance) (pc := 3) (v := 60) dX12_chance_3 kw_1263 (by decide) ?_
  refine ev_staticR (X := M_X12_chance) (Y := M_X12_in) (pc := 6) dX12_chance_6 mk_X12_in kw_1089 kw_1090 (m_in (by omega) (by decide) (by decide)) rfl (by decide) rfl (Nat.le_of_ble_eq_true rfl) (Nat.zero_add _) (Nat.zero_add _) ?_
  refine ev_if_ne (X := M_X12_chance) (pc := 9) (tgt := 18) dX12_chance_9 (by decide) (by split <;> decide) (fun h9 => ?_) (fun h9 => ?_)
  · have hn6 : 1 ≤ n ∧ n ≤ 60 := Decidable.byContradiction fun z => h9 (by rw [if_neg z])
    have hk0 : cnK D n = if 9999 < D 21 + n then 3 else 0 := by unfold cnK; rw [if_pos hn6]
    refine ev_aload_n (X := M_X12_chance) (pc := 18) dX12_chance_18 rfl ?_
    refine ev_getRe (X := M_X12_chance) (pc := 19) dX12_chance_19 fl_X12_7_12 (lO_156 hL) rfl (lR_156_0 hL) ?_
    refine ev_bipush (X := M_X12_chance) (pc := 22) dX12_chance_22 (by decide) ?_
    refine ev_ialoadE (X := M_X12_chance) (pc := 24) dX12_chance_24 (lS_157 hL) (by omega) (congrFun hD _) ?_
    refine ev_iload_n (X := M_X12_chance) (pc := 25) dX12_chance_25 rfl ?_
    refine ev_iadd (X := M_X12_chance) (pc := 26) dX12_chance_26 ?_
    refine ev_sipush (X := M_X12_chance) (pc := 27) dX12_chance_27 (by decide) ?_
    refine ev_icmp_le (X := M_X12_chance) (pc := 30) (tgt := 39) dX12_chance_30 (by decide) (by omega) (by decide) (fun h30 => ?_) (fun h30 => ?_)
    · have hk : cnK D n = 0 := by rw [hk0, if_neg (by omega)]
      rw [hk]
      refine ev_aload_n (X := M_X12_chance) (pc := 39) dX12_chance_39 rfl ?_
      refine ev_virtY (X := M_X12_chance) (Y := M_X12_findAll) (pc := 40) (ci := 12) dX12_chance_40 mk_X12_findAll rfl kw_1197 kw_1199 kp_19 (lO_156 hL) (m_findAll hL hD hK hZ) rfl (by decide) rfl (Nat.le_of_ble_eq_true rfl) (Nat.zero_add _) (Nat.zero_add _) (fun W1 hW1 => ?_)
      refine ev_iconst (X := M_X12_chance) (pc := 43) dX12_chance_43 ?_
      refine ev_istore_nL (X := M_X12_chance) (pc := 44) (ls' := [_, _, _]) dX12_chance_44 (by decide) rfl ?_
      have hD1 : W1 157 = D := by rw [hW1.1.row (by decide) (by decide) (by decide)]; exact hD
      have hC1 := hW1.2
      have hMS := MS.com hW1.1 hW1.2
      clear hW1
      refine ev_weak (ev_while (σ := Nat × Mm) (fun z => (z.1 : Int) ≤ n ∧ mM W1 z.2 ∧ z.2 157 = chN D z.1) (fun z => n.toNat - z.1) (fun z => [vR 156, vI n, vI z.1]) (fun _ => K) (fun z => z.2) ?_ (0, W1) ⟨by show ((0 : Nat) : Int) ≤ n; omega, fun _ _ _ _ _ => rfl, hD1⟩) ⟨rfl, rfl, rfl, trivial⟩
      rintro ⟨i, W⟩ ⟨i1, w1, w2⟩ ih
      dsimp only at i1 w1 w2 ih ⊢
      obtain ⟨a1, a2, a3, a4⟩ := chN_ok hDL i
      have hC2 : W 161 = comF (chN D i) := by rw [w1.row (by decide) (by decide) (by decide), a2.com hK]; exact hC1
      refine ev_iload_n (X := M_X12_chance) (pc := 45) dX12_chance_45 rfl ?_
      refine ev_iload_n (X := M_X12_chance) (pc := 46) dX12_chance_46 rfl ?_
      refine ev_icmp_ge (X := M_X12_chance) (pc := 47) (tgt := 60) dX12_chance_47 (by decide) (by omega) (by omega) (fun h47 => ?_) (fun h47 => ?_)
      · have hi : i = n.toNat := by omega
        subst hi
        refine ev_aload_n (X := M_X12_chance) (pc := 60) dX12_chance_60 rfl ?_
        refine ev_virtR (X := M_X12_chance) (Y := M_X12_now) (pc := 61) (ci := 12) dX12_chance_61 mk_X12_now rfl kw_1168 kw_1170 kp_18 (lO_156 hL) (m_nowE hL w2) rfl (by decide) rfl (Nat.le_of_ble_eq_true rfl) (Nat.zero_add _) (Nat.zero_add _) ?_
        refine ev_iret (X := M_X12_chance) (pc := 64) dX12_chance_64 rfl ?_
        refine ⟨rfl, rfl, ?_, w2, ?_, fun c i z1 z2 z3 => ?_⟩
        · exact fun j z => by rw [w1.row (by decide) (by decide) (by decide)]; exact hMS.1 j z
        · rw [w1.row (by decide) (by decide) (by decide), hMS.2.1]
          rfl
        · rw [w1 c i z1 z2 (by omega)]
          exact hMS.2.2 c i z1 z3
      · refine ev_aload_n (X := M_X12_chance) (pc := 50) dX12_chance_50 rfl ?_
        refine ev_virtY (X := M_X12_chance) (Y := M_X12_chances) (pc := 51) (ci := 12) dX12_chance_51 mk_X12_chances rfl kw_1264 kw_1266 kp_28 (lO_156 hL) (m_chances hL w2 a1 hC2 (by omega)) rfl (by decide) rfl (Nat.le_of_ble_eq_true rfl) (Nat.zero_add _) (Nat.zero_add _) (fun W2 hW2 => ?_)
        refine ev_iincL (X := M_X12_chance) (pc := 54) (ls' := [_, _, _]) dX12_chance_54 rfl (by decide) rfl ?_
        refine ev_goto (X := M_X12_chance) (pc := 57) (tgt := 45) dX12_chance_57 (by decide) ?_
        exact ev_weak (ih (i + 1, W2) ⟨by show ((i + 1 : Nat) : Int) ≤ n; omega, fun c j z1 z2 z3 => by show W2 c j = W1 c j; rw [hW2.1 c j z1 z2 z3]; exact w1 c j z1 z2 z3, hW2.2⟩ (by show n.toNat - (i + 1) < n.toNat - i; omega)) ⟨rfl, rfl, rfl, trivial⟩
    · have hk : cnK D n = 3 := by rw [hk0, if_pos (by omega)]
      refine ev_aload_n (X := M_X12_chance) (pc := 33) dX12_chance_33 rfl ?_
      refine ev_iconst (X := M_X12_chance) (pc := 34) dX12_chance_34 ?_
      refine ev_virtR (X := M_X12_chance) (Y := M_X12_finds) (pc := 35) (ci := 12) dX12_chance_35 mk_X12_finds rfl kw_1092 kw_1094 kp_5 (lO_156 hL) (m_finds hL (by decide)) rfl (by decide) rfl (Nat.le_of_ble_eq_true rfl) (Nat.zero_add _) (Nat.zero_add _) ?_
      refine ev_iret (X := M_X12_chance) (pc := 38) dX12_chance_38 rfl ?_
      rw [hk]
      exact ⟨rfl, rfl, MW_e hZ hD (by decide)⟩
  · have hk : cnK D n = 1 := by unfold cnK; rw [if_neg (fun z => by rw [if_pos z] at h9; exact absurd h9 (by decide))]
    refine ev_aload_n (X := M_X12_chance) (pc := 12) dX12_chance_12 rfl ?_
    refine ev_iconst (X := M_X12_chance) (pc := 13) dX12_chance_13 ?_
    refine ev_virtR (X := M_X12_chance) (Y := M_X12_finds) (pc := 14) (ci := 12) dX12_chance_14 mk_X12_finds rfl kw_1092 kw_1094 kp_5 (lO_156 hL) (m_finds hL (by decide)) rfl (by decide) rfl (Nat.le_of_ble_eq_true rfl) (Nat.zero_add _) (Nat.zero_add _) ?_
    refine ev_iret (X := M_X12_chance) (pc := 17) dX12_chance_17 rfl ?_
    rw [hk]
    exact ⟨rfl, rfl, MW_e hZ hD (by decide)⟩
