/-! ===== what stays the same by rests ===== -/
theorem op_irem_t {x k : Int} (hx : R32 x) (hk : 0 < k ∧ k < 2147483648) : op_irem x k = x.tmod k := by
  have hne : Int32.ofInt k ≠ -1 := fun q => by
    have := congrArg Int32.toInt q
    rw [Int32.toInt_ofInt_of_le (by omega) (by omega)] at this
    rw [this] at hk
    exact absurd hk.1 (by decide)
  have hd : (Int32.ofInt x / Int32.ofInt k).toInt = x.tdiv k := by
    rw [Int32.toInt_div_of_ne_right _ _ hne, Int32.toInt_ofInt_of_le (by omega) (by omega), Int32.toInt_ofInt_of_le (by omega) (by omega)]
  have h3 : Int32.ofInt x / Int32.ofInt k = Int32.ofInt (x.tdiv k) := by
    rw [← hd, Int32.ofInt_toInt]
  have h4 : x - x.tdiv k * k = x.tmod k := by
    rw [Int.tmod_def, Int.mul_comm]
  have h5 : x.tmod k < k := Int.tmod_lt_of_pos _ hk.1
  have h6 : -k < x.tmod k := Int.lt_tmod_of_pos x hk.1
  unfold op_irem
  rw [h3, ← Int32.ofInt_mul, ← Int32.ofInt_sub, h4]
  exact Int32.toInt_ofInt_of_le (by omega) (by omega)
theorem irem_0 {x k : Int} (hx : R32 x) (hk : 0 < k ∧ k < 2147483648) : op_irem x k = 0 ↔ x % k = 0 := by
  rw [op_irem_t hx hk]
  exact ⟨fun h => Int.emod_eq_zero_of_dvd (Int.dvd_of_tmod_eq_zero h), fun h => Int.tmod_eq_zero_of_dvd (Int.dvd_of_emod_eq_zero h)⟩
def wg (w k s : Int) : Int := if s < 0 then 0 else if s = 0 then w / (k * k) else if s = 1 then w / k % k else w % k
theorem wg_r {w k s : Int} (hk : 2 ≤ k ∧ k ≤ 5) (hw : 0 ≤ w ∧ w < k * k * k) : 0 ≤ wg w k s ∧ wg w k s < 5 := by
  unfold wg
  rcases (show k = 2 ∨ k = 3 ∨ k = 4 ∨ k = 5 by omega) with z | z | z | z <;> subst z <;> (repeat' split) <;> omega
theorem kk_r {w k : Int} (hk : 2 ≤ k ∧ k ≤ 5) (hw : 0 ≤ w ∧ w ≤ k * k * k) : (4 ≤ k * k ∧ k * k ≤ 25) ∧ (8 ≤ k * k * k ∧ k * k * k ≤ 125) ∧ (0 ≤ w / k ∧ w / k ≤ 125) ∧ w ≤ 125 := by
  rcases (show k = 2 ∨ k = 3 ∨ k = 4 ∨ k = 5 by omega) with z | z | z | z <;> subst z <;> omega
def chg (C : Int → Int) (p s : Int) : Int := ind (C (3 * p)) s + ind (C (3 * p + 1)) s + ind (C (3 * p + 2)) s - ind (lesF p) s - ind (greF p) s
def ChD (V : Mm) (C : Int → Int) : Prop := ∀ p, 0 ≤ p ∧ p < 6 → V 109 (p * 3) = chg C p 0 ∧ V 109 (p * 3 + 1) = chg C p 1 ∧ V 109 (p * 3 + 2) = chg C p 2
def ahd (w k p : Int) : Int := wg w k (lesF p) + wg w k (greF p)
def bhd (C : Int → Int) (w k p : Int) : Int := wg w k (C (3 * p)) + wg w k (C (3 * p + 1)) + wg w k (C (3 * p + 2))
theorem wg_ind {w k s : Int} (hs : -1 ≤ s ∧ s ≤ 2) : wg w k s = w / (k * k) * ind s 0 + w / k % k * ind s 1 + w % k * ind s 2 := by
  unfold wg ind
  rcases (show s = -1 ∨ s = 0 ∨ s = 1 ∨ s = 2 by omega) with z | z | z | z <;> subst z <;> simp
theorem chg_sum {C : Int → Int} {w k p : Int} (hC : wfC C) (hp : 0 ≤ p ∧ p < 6) : w / (k * k) * chg C p 0 + w / k % k * chg C p 1 + w % k * chg C p 2 = bhd C w k p - ahd w k p := by
  obtain ⟨c1, c2, c3⟩ := hC p hp
  have l1 := les_r p hp
  have l2 := gre_r p hp
  unfold bhd ahd
  rw [wg_ind (s := C (3 * p)) (by omega), wg_ind (s := C (3 * p + 1)) (by omega), wg_ind (s := C (3 * p + 2)) (by omega), wg_ind (s := lesF p) (by omega), wg_ind (s := greF p) (by omega)]
  unfold chg
  generalize w / (k * k) = a
  generalize w / k % k = b
  generalize w % k = c
  simp only [Int.mul_add, Int.mul_sub]
  omega
abbrev kpP (C : Int → Int) (F w k p : Int) : Prop := bit F p = 0 → ahd w k p % k = bhd C w k p % k
def kq (C : Int → Int) (F w k : Int) : Int := if kpP C F w k 0 ∧ kpP C F w k 1 ∧ kpP C F w k 2 ∧ kpP C F w k 3 ∧ kpP C F w k 4 ∧ kpP C F w k 5 then 1 else 0
theorem kq_y {C : Int → Int} {F w k : Int} (h : ∀ p, 0 ≤ p → p < 6 → kpP C F w k p) : kq C F w k = 1 := by
  unfold kq
  rw [if_pos ⟨h 0 (by decide) (by decide), h 1 (by decide) (by decide), h 2 (by decide) (by decide), h 3 (by decide) (by decide), h 4 (by decide) (by decide), h 5 (by decide) (by decide)⟩]
theorem kq_n {C : Int → Int} {F w k p : Int} (hp : 0 ≤ p ∧ p < 6) (h : ¬ kpP C F w k p) : kq C F w k = 0 := by
  unfold kq
  rw [if_neg]
  rintro ⟨h0, h1, h2, h3, h4, h5⟩
  apply h
  rcases (show p = 0 ∨ p = 1 ∨ p = 2 ∨ p = 3 ∨ p = 4 ∨ p = 5 by omega) with z | z | z | z | z | z <;> subst z <;> assumption
theorem kq_01 {C : Int → Int} {F w k : Int} : kq C F w k = 0 ∨ kq C F w k = 1 := by
  unfold kq
  split
  · exact Or.inr rfl
  · exact Or.inl rfl
theorem rest_eq {a b k : Int} (hk : 2 ≤ k ∧ k ≤ 5) : (b - a) % k = 0 ↔ a % k = b % k := by
  rcases (show k = 2 ∨ k = 3 ∨ k = 4 ∨ k = 5 by omega) with z | z | z | z <;> subst z <;> omega
theorem ab_r {C : Int → Int} {w k p : Int} (hk : 2 ≤ k ∧ k ≤ 5) (hw : 0 ≤ w ∧ w < k * k * k) : (0 ≤ ahd w k p ∧ ahd w k p ≤ 10) ∧ 0 ≤ bhd C w k p ∧ bhd C w k p ≤ 15 := by
  unfold ahd bhd
  have a1 := wg_r (s := lesF p) hk hw
  have a2 := wg_r (s := greF p) hk hw
  have a3 := wg_r (s := C (3 * p)) hk hw
  have a4 := wg_r (s := C (3 * p + 1)) hk hw
  have a5 := wg_r (s := C (3 * p + 2)) hk hw
  omega
theorem c_keepsRest {γ : Gh} {K : Sk} {V : Mm} (hL : Lay K) {C : Int → Int} {F w k : Int} (hC : wfC C) (hF : 0 ≤ F ∧ F < 64) (hVF : V 102 5 = F) (hCh : ChD V C) (hk : 2 ≤ k ∧ k ≤ 5) (hw : 0 ≤ w ∧ w < k * k * k) : Call γ M_X2_keepsRest 1 0 0 [vR 102, vI w, vI k] K V (Rt (some (vI (kq C F w k))) K V) := by
  refine call_of (by decide +kernel) (by intro v hv; simp only [List.mem_cons, List.not_mem_nil, or_false] at hv; rcases hv with rfl | rfl | rfl <;> exact fun q => by cases q) (Nat.le_of_ble_eq_true rfl) ?_
  refine ev_lsE (ls' := [_, _, _, _, _, _]) rfl ?_
  obtain ⟨k1, k2, k3, k4⟩ := kk_r (w := w) hk (by omega)
  refine ev_iconst (X := M_X2_keepsRest) (pc := 0) dX2_keepsRest_0 ?_
  refine ev_istore_nL (X := M_X2_keepsRest) (pc := 1) (ls' := [_, _, _, _, _, _]) dX2_keepsRest_1 (by decide) rfl ?_
  refine ev_weak (ev_countI 6 0 (fun i => ∀ p, 0 ≤ p → p < i → kpP C F w k p) (fun i => [vR 102, vI w, vI k, vI i, vU, vU]) (by decide) (fun p h0 h1 => by omega) ?_) ⟨rfl, rfl, rfl, rfl, trivial⟩
  intro p p0 p1 hI ih
  refine ev_iload_n (X := M_X2_keepsRest) (pc := 2) dX2_keepsRest_2 rfl ?_
  refine ev_bipush (X := M_X2_keepsRest) (pc := 3) dX2_keepsRest_3 (by decide) ?_
  refine ev_icmp_ge (X := M_X2_keepsRest) (pc := 5) (tgt := 81) dX2_keepsRest_5 (by decide) (by omega) (by omega) (fun h5 => ?_) (fun h5 => ?_)
  · refine ev_iconst (X := M_X2_keepsRest) (pc := 81) dX2_keepsRest_81 ?_
    refine ev_bret (X := M_X2_keepsRest) (pc := 82) dX2_keepsRest_82 rfl (by decide) ?_
    exact ⟨by rw [kq_y (fun q h0 h1 => hI q h0 (by omega))], rfl, rfl⟩
  · have hp6 : 0 ≤ p ∧ p < 6 := by omega
    obtain ⟨d0, d1, d2⟩ := hCh p hp6
    have hsum := chg_sum (C := C) (w := w) (k := k) hC hp6
    have hab := ab_r (C := C) (p := p) hk hw
    have hre := rest_eq (a := ahd w k p) (b := bhd C w k p) hk
    have hi0 := irem_0 (x := bhd C w k p - ahd w k p) (k := k) (by omega) (by omega)
    have hb01 := bit_01 F p
    refine ev_iload_n (X := M_X2_keepsRest) (pc := 8) dX2_keepsRest_8 rfl ?_
    refine ev_iconst (X := M_X2_keepsRest) (pc := 9) dX2_keepsRest_9 ?_
    refine ev_imul (X := M_X2_keepsRest) (pc := 10) dX2_keepsRest_10 ?_
    refine ev_istoreL (X := M_X2_keepsRest) (pc := 11) (ls' := [_, _, _, _, _, _]) dX2_keepsRest_11 (by decide) rfl ?_
    refine ev_iload_n (X := M_X2_keepsRest) (pc := 13) dX2_keepsRest_13 rfl ?_
    refine ev_iload_n (X := M_X2_keepsRest) (pc := 14) dX2_keepsRest_14 rfl ?_
    refine ev_iload_n (X := M_X2_keepsRest) (pc := 15) dX2_keepsRest_15 rfl ?_
    refine ev_imul (X := M_X2_keepsRest) (pc := 16) dX2_keepsRest_16 ?_
    refine ev_idiv (X := M_X2_keepsRest) (pc := 17) dX2_keepsRest_17 (by omega) (by omega) ?_
    refine ev_aload_n (X := M_X2_keepsRest) (pc := 18) dX2_keepsRest_18 rfl ?_
    refine ev_getRe (X := M_X2_keepsRest) (pc := 19) dX2_keepsRest_19 fl_X2_39_2 (lO_102 hL) rfl (lR_102_9 hL) ?_
    refine ev_iload (X := M_X2_keepsRest) (pc := 22) dX2_keepsRest_22 rfl ?_
    refine ev_ialoadE (X := M_X2_keepsRest) (pc := 24) dX2_keepsRest_24 (lS_109 hL) (by omega) (d0) ?_
    refine ev_imul (X := M_X2_keepsRest) (pc := 25) dX2_keepsRest_25 ?_
    refine ev_iload_n (X := M_X2_keepsRest) (pc := 26) dX2_keepsRest_26 rfl ?_
    refine ev_iload_n (X := M_X2_keepsRest) (pc := 27) dX2_keepsRest_27 rfl ?_
    refine ev_idiv (X := M_X2_keepsRest) (pc := 28) dX2_keepsRest_28 (by omega) (by omega) ?_
    refine ev_iload_n (X := M_X2_keepsRest) (pc := 29) dX2_keepsRest_29 rfl ?_
    refine ev_irem (X := M_X2_keepsRest) (pc := 30) dX2_keepsRest_30 (by omega) (by omega) ?_
    refine ev_aload_n (X := M_X2_keepsRest) (pc := 31) dX2_keepsRest_31 rfl ?_
    refine ev_getRe (X := M_X2_keepsRest) (pc := 32) dX2_keepsRest_32 fl_X2_39_2 (lO_102 hL) rfl (lR_102_9 hL) ?_
    refine ev_iload (X := M_X2_keepsRest) (pc := 35) dX2_keepsRest_35 rfl ?_
    refine ev_iconst (X := M_X2_keepsRest) (pc := 37) dX2_keepsRest_37 ?_
    refine ev_iadd (X := M_X2_keepsRest) (pc := 38) dX2_keepsRest_38 ?_
    refine ev_ialoadE (X := M_X2_keepsRest) (pc := 39) dX2_keepsRest_39 (lS_109 hL) (by omega) (d1) ?_
    refine ev_imul (X := M_X2_keepsRest) (pc := 40) dX2_keepsRest_40 ?_
    refine ev_iadd (X := M_X2_keepsRest) (pc := 41) dX2_keepsRest_41 ?_
    refine ev_iload_n (X := M_X2_keepsRest) (pc := 42) dX2_keepsRest_42 rfl ?_
    refine ev_iload_n (X := M_X2_keepsRest) (pc := 43) dX2_keepsRest_43 rfl ?_
    refine ev_irem (X := M_X2_keepsRest) (pc := 44) dX2_keepsRest_44 (by omega) (by omega) ?_
    refine ev_aload_n (X := M_X2_keepsRest) (pc := 45) dX2_keepsRest_45 rfl ?_
    refine ev_getRe (X := M_X2_keepsRest) (pc := 46) dX2_keepsRest_46 fl_X2_39_2 (lO_102 hL) rfl (lR_102_9 hL) ?_
    refine ev_iload (X := M_X2_keepsRest) (pc := 49) dX2_keepsRest_49 rfl ?_
    refine ev_iconst (X := M_X2_keepsRest) (pc := 51) dX2_keepsRest_51 ?_
    refine ev_iadd (X := M_X2_keepsRest) (pc := 52) dX2_keepsRest_52 ?_
    refine ev_ialoadE (X := M_X2_keepsRest) (pc := 53) dX2_keepsRest_53 (lS_109 hL) (by omega) (d2) ?_
    refine ev_imul (X := M_X2_keepsRest) (pc := 54) dX2_keepsRest_54 ?_
    refine ev_iadd (X := M_X2_keepsRest) (pc := 55) dX2_keepsRest_55 ?_
    rw [hsum]
    refine ev_istoreL (X := M_X2_keepsRest) (pc := 56) (ls' := [_, _, _, _, _, _]) dX2_keepsRest_56 (by decide) rfl ?_
    refine ev_aload_n (X := M_X2_keepsRest) (pc := 58) dX2_keepsRest_58 rfl ?_
    refine ev_iload_n (X := M_X2_keepsRest) (pc := 59) dX2_keepsRest_59 rfl ?_
    refine ev_virtR (X := M_X2_keepsRest) (Y := M_X2_fencedAt) (pc := 60) (ci := 2) dX2_keepsRest_60 mk_X2_fencedAt rfl kw_433 kw_422 kw_423 (lO_102 hL) (c_fencedAt hL hF hp6 hVF) rfl (by decide) rfl (Nat.le_of_ble_eq_true rfl) (Nat.zero_add _) (Nat.zero_add _) ?_
    refine ev_if_ne (X := M_X2_keepsRest) (pc := 63) (tgt := 75) dX2_keepsRest_63 (by decide) (by omega) (fun h63 => ?_) (fun h63 => ?_)
    · have hye : kpP C F w k p := fun z => absurd z h63
      refine ev_iincL (X := M_X2_keepsRest) (pc := 75) (ls' := [_, _, _, _, _, _]) dX2_keepsRest_75 rfl (by decide) rfl ?_
      refine ev_goto (X := M_X2_keepsRest) (pc := 78) (tgt := 2) dX2_keepsRest_78 (by decide) ?_
      refine ev_weak (ih (by omega) (fun q h0 h1 => ?_)) ⟨rfl, rfl, rfl, rfl, trivial⟩
      by_cases z : q = p
      · rw [z]; exact hye
      · exact hI q h0 (by omega)
    · refine ev_iload (X := M_X2_keepsRest) (pc := 66) dX2_keepsRest_66 rfl ?_
      refine ev_iload_n (X := M_X2_keepsRest) (pc := 68) dX2_keepsRest_68 rfl ?_
      refine ev_iremg (X := M_X2_keepsRest) (pc := 69) dX2_keepsRest_69 (i32_ne0 (by omega) (by omega)) ?_
      refine ev_if_eq (X := M_X2_keepsRest) (pc := 70) (tgt := 75) dX2_keepsRest_70 (by decide) (by exact op_r _) (fun h70 => ?_) (fun h70 => ?_)
      · have hye : kpP C F w k p := fun _ => hre.mp (hi0.mp h70)
        refine ev_iincL (X := M_X2_keepsRest) (pc := 75) (ls' := [_, _, _, _, _, _]) dX2_keepsRest_75 rfl (by decide) rfl ?_
        refine ev_goto (X := M_X2_keepsRest) (pc := 78) (tgt := 2) dX2_keepsRest_78 (by decide) ?_
        refine ev_weak (ih (by omega) (fun q h0 h1 => ?_)) ⟨rfl, rfl, rfl, rfl, trivial⟩
        by_cases z : q = p
        · rw [z]; exact hye
        · exact hI q h0 (by omega)
      · have hno : ¬ kpP C F w k p := fun z => h70 (hi0.mpr (hre.mpr (z h63)))
        refine ev_iconst (X := M_X2_keepsRest) (pc := 73) dX2_keepsRest_73 ?_
        refine ev_bret (X := M_X2_keepsRest) (pc := 74) dX2_keepsRest_74 rfl (by decide) ?_
        exact ⟨by rw [kq_n hp6 hno], rfl, rfl⟩
/-- the i-th, or how many -/
def syG (U : Int → Int) (wh : Int) : Nat → Int → Int → Int
  | 0, _, m => if wh = -1 then m else -1000000002
  | n + 1, w, m => if U w = 1 then (if m - 1 = wh ∧ 0 ≤ wh then w else syG U wh n (w + 1) (m + 1)) else syG U wh n (w + 1) m
def syR (C : Int → Int) (F k wh : Int) : Int := if (2 ≤ k ∧ k ≤ 5) ∧ -1 ≤ wh then syG (fun w => kq C F w k) wh (k * k * k).toNat 0 0 else -1000000001
def syE (C : Int → Int) (F k wh : Int) (er : Int → Int) : Int → Int := if (2 ≤ k ∧ k ≤ 5) ∧ -1 ≤ wh then (if syG (fun w => kq C F w k) wh (k * k * k).toNat 0 0 = -1000000002 then up er 2 (er 2 + 1) else er) else up er 1 (er 1 + 1)
theorem c_stays {γ : Gh} {K : Sk} {V : Mm} {C : Int → Int} {F k wh : Int} (h : SrP K V C F) (hCh : ChD V C) (hkr : R32 k) (hwr : R32 wh) : Call γ M_X11_stays 2 0 0 [vR 100, vI k, vI wh] K V (Qx (some (vI (syR C F k wh))) K (CS C F V (syE C F k wh (V 155)))) := by
  refine call_of (by decide +kernel) (by intro v hv; simp only [List.mem_cons, List.not_mem_nil, or_false] at hv; rcases hv with rfl | rfl | rfl <;> exact fun q => by cases q) (Nat.le_of_ble_eq_true rfl) ?_
  refine ev_lsE (ls' := [_, _, _, _, _]) rfl ?_
  have hL := h.1
  have hC := h.2.2.2.1
  have hF6 := h.2.2.2.2.1
  have hVF : V 102 5 = F := h.2.2.2.2.2.1.1
  unfold syR syE
  refine ev_iload_n (X := M_X11_stays) (pc := 0) dX11_stays_0 rfl ?_
  refine ev_staticR (X := M_X11_stays) (Y := M_X11_isRest) (pc := 1) dX11_stays_1 mk_X11_isRest kw_708 kw_709 (c_isRest hkr) rfl (by decide) rfl (Nat.le_of_ble_eq_true rfl) (Nat.zero_add _) (Nat.zero_add _) ?_
  refine ev_if_eq (X := M_X11_stays) (pc := 4) (tgt := 12) dX11_stays_4 (by decide) (by split <;> decide) (fun h4 => ?_) (fun h4 => ?_)
  · have hno : ¬ ((2 ≤ k ∧ k ≤ 5) ∧ -1 ≤ wh) := fun z => by rw [if_pos z.1] at h4; exact absurd h4 (by decide)
    refine ev_aload_n (X := M_X11_stays) (pc := 12) dX11_stays_12 rfl ?_
    refine ev_ldc (X := M_X11_stays) (pc := 13) (v := -1000000001) dX11_stays_13 kw_318 (by decide) ?_
    refine ev_virtR (X := M_X11_stays) (Y := M_X11_error) (pc := 15) (ci := 11) dX11_stays_15 mk_X11_error rfl kw_319 kw_321 kp_0 (lO_100 hL) (c_error hL (k := 1) (by decide) rfl) rfl (by decide) rfl (Nat.le_of_ble_eq_true rfl) (Nat.zero_add _) (Nat.zero_add _) ?_
    refine ev_iret (X := M_X11_stays) (pc := 18) dX11_stays_18 rfl ?_
    rw [if_neg hno, if_neg hno]
    exact ⟨rfl, rfl, by rw [err_119]; exact h.2.2.2.2.2.2.2, err_155, frS.rf.er 1⟩
  · have hk : 2 ≤ k ∧ k ≤ 5 := Decidable.byContradiction fun z => h4 (by rw [if_neg z])
    refine ev_iload_n (X := M_X11_stays) (pc := 7) dX11_stays_7 rfl ?_
    refine ev_iconst (X := M_X11_stays) (pc := 8) dX11_stays_8 ?_
    refine ev_icmp_ge (X := M_X11_stays) (pc := 9) (tgt := 19) dX11_stays_9 (by decide) (by omega) (by omega) (fun h9 => ?_) (fun h9 => ?_)
    · have hye : (2 ≤ k ∧ k ≤ 5) ∧ -1 ≤ wh := ⟨hk, by omega⟩
      rw [if_pos hye, if_pos hye]
      refine ev_iconst (X := M_X11_stays) (pc := 19) dX11_stays_19 ?_
      refine ev_istore_nL (X := M_X11_stays) (pc := 20) (ls' := [_, _, _, _, _]) dX11_stays_20 (by decide) rfl ?_
      refine ev_iconst (X := M_X11_stays) (pc := 21) dX11_stays_21 ?_
      refine ev_istoreL (X := M_X11_stays) (pc := 22) (ls' := [_, _, _, _, _]) dX11_stays_22 (by decide) rfl ?_
      obtain ⟨G, hG⟩ : ∃ G, G = syG (fun w => kq C F w k) wh (k * k * k).toNat 0 0 := ⟨_, rfl⟩
      rw [← hG]
      have hkk := (kk_r (w := 0) hk (by have := (kk_r (w := 0) hk ⟨Int.le_refl 0, by rcases (show k = 2 ∨ k = 3 ∨ k = 4 ∨ k = 5 by omega) with z | z | z | z <;> subst z <;> decide⟩).2.1; omega)).2.1
      refine ev_weak (ev_while (σ := Int × Int) (fun z => (0 ≤ z.1 ∧ z.1 ≤ k * k * k) ∧ (0 ≤ z.2 ∧ z.2 ≤ z.1) ∧ G = syG (fun w => kq C F w k) wh (k * k * k - z.1).toNat z.1 z.2) (fun z => (k * k * k - z.1).toNat) (fun z => [vR 100, vI k, vI wh, vI z.2, vI z.1]) (fun _ => K) (fun _ => V) ?_ (0, 0) ⟨by show (0 : Int) ≤ 0 ∧ 0 ≤ k * k * k; omega, by show (0 : Int) ≤ 0 ∧ (0 : Int) ≤ 0; decide, by rw [Int.sub_zero]; exact hG⟩) ⟨rfl, rfl, rfl, rfl, rfl, trivial⟩
      rintro ⟨w, m⟩ ⟨w0, m0, hg⟩ ih
      dsimp only at w0 m0 hg ih ⊢
      have hgs : w < k * k * k → G = if kq C F w k = 1 then (if m - 1 = wh ∧ 0 ≤ wh then w else syG (fun w => kq C F w k) wh (k * k * k - (w + 1)).toNat (w + 1) (m + 1)) else syG (fun w => kq C F w k) wh (k * k * k - (w + 1)).toNat (w + 1) m := fun z => by
        rw [hg, show (k * k * k - w).toNat = (k * k * k - (w + 1)).toNat + 1 by omega]
        rfl
      have h01 := kq_01 (C := C) (F := F) (w := w) (k := k)
      refine ev_iload (X := M_X11_stays) (pc := 24) dX11_stays_24 rfl ?_
      refine ev_iload_n (X := M_X11_stays) (pc := 26) dX11_stays_26 rfl ?_
      refine ev_iload_n (X := M_X11_stays) (pc := 27) dX11_stays_27 rfl ?_
      refine ev_imul (X := M_X11_stays) (pc := 28) dX11_stays_28 ?_
      refine ev_iload_n (X := M_X11_stays) (pc := 29) dX11_stays_29 rfl ?_
      refine ev_imul (X := M_X11_stays) (pc := 30) dX11_stays_30 ?_
      refine ev_icmp_ge (X := M_X11_stays) (pc := 31) (tgt := 70) dX11_stays_31 (by decide) (by omega) (by omega) (fun h31 => ?_) (fun h31 => ?_)
      · have hw : (k * k * k - w).toNat = 0 := by omega
        rw [hw] at hg
        have hg2 : G = if wh = -1 then m else -1000000002 := hg
        refine ev_iload_n (X := M_X11_stays) (pc := 70) dX11_stays_70 rfl ?_
        refine ev_iconst (X := M_X11_stays) (pc := 71) dX11_stays_71 ?_
        refine ev_icmp_ne (X := M_X11_stays) (pc := 72) (tgt := 79) dX11_stays_72 (by decide) (by omega) (by decide) (fun h72 => ?_) (fun h72 => ?_)
        · rw [if_neg h72] at hg2
          refine ev_aload_n (X := M_X11_stays) (pc := 79) dX11_stays_79 rfl ?_
          refine ev_ldc (X := M_X11_stays) (pc := 80) (v := -1000000002) dX11_stays_80 kw_682 (by decide) ?_
          refine ev_virtR (X := M_X11_stays) (Y := M_X11_error) (pc := 82) (ci := 11) dX11_stays_82 mk_X11_error rfl kw_319 kw_321 kp_0 (lO_100 hL) (c_error hL (k := 2) (by decide) rfl) rfl (by decide) rfl (Nat.le_of_ble_eq_true rfl) (Nat.zero_add _) (Nat.zero_add _) ?_
          refine ev_iret (X := M_X11_stays) (pc := 85) dX11_stays_85 rfl ?_
          first
            | (rw [if_pos hg2]
               exact ⟨by rw [hg2]; rfl, rfl, by rw [err_119]; exact h.2.2.2.2.2.2.2, err_155, frS.rf.er 2⟩)
            | (rw [if_neg hGn]
               exact ⟨by rw [hg2], rfl, h.2.2.2.2.2.2.2, rfl, frS.rf⟩)
        · rw [if_pos h72] at hg2
          have hGn : ¬ G = -1000000002 := by omega
          refine ev_iload_n (X := M_X11_stays) (pc := 75) dX11_stays_75 rfl ?_
          refine ev_goto (X := M_X11_stays) (pc := 76) (tgt := 85) dX11_stays_76 (by decide) ?_
          refine ev_iret (X := M_X11_stays) (pc := 85) dX11_stays_85 rfl ?_
          first
            | (rw [if_pos hg2]
               exact ⟨by rw [hg2]; rfl, rfl, by rw [err_119]; exact h.2.2.2.2.2.2.2, err_155, frS.rf.er 2⟩)
            | (rw [if_neg hGn]
               exact ⟨by rw [hg2], rfl, h.2.2.2.2.2.2.2, rfl, frS.rf⟩)
      · have hgs2 := hgs (by omega)
        refine ev_aload_n (X := M_X11_stays) (pc := 34) dX11_stays_34 rfl ?_
        refine ev_getRe (X := M_X11_stays) (pc := 35) dX11_stays_35 fl_X11_20_11 (lO_100 hL) rfl (lR_100_0 hL) ?_
        refine ev_iload (X := M_X11_stays) (pc := 38) dX11_stays_38 rfl ?_
        refine ev_iload_n (X := M_X11_stays) (pc := 40) dX11_stays_40 rfl ?_
        refine ev_virtR (X := M_X11_stays) (Y := M_X2_keepsRest) (pc := 41) (ci := 2) dX11_stays_41 mk_X2_keepsRest rfl kw_711 kw_712 kw_713 (lO_102 hL) (c_keepsRest hL hC hF6 hVF hCh hk (by omega)) rfl (by decide) rfl (Nat.le_of_ble_eq_true rfl) (Nat.zero_add _) (Nat.zero_add _) ?_
        refine ev_if_eq (X := M_X11_stays) (pc := 44) (tgt := 64) dX11_stays_44 (by decide) (by omega) (fun h44 => ?_) (fun h44 => ?_)
        · rw [if_neg (by omega)] at hgs2
          refine ev_iincL (X := M_X11_stays) (pc := 64) (ls' := [_, _, _, _, _]) dX11_stays_64 rfl (by decide) rfl ?_
          refine ev_goto (X := M_X11_stays) (pc := 67) (tgt := 24) dX11_stays_67 (by decide) ?_
          first
            | exact ev_weak (ih (w + 1, m + 1) ⟨by omega, by omega, hgs2⟩ (by show (k * k * k - (w + 1)).toNat < (k * k * k - w).toNat; omega)) ⟨rfl, rfl, rfl, rfl, rfl, trivial⟩
            | exact ev_weak (ih (w + 1, m) ⟨by omega, by omega, hgs2⟩ (by show (k * k * k - (w + 1)).toNat < (k * k * k - w).toNat; omega)) ⟨rfl, rfl, rfl, rfl, rfl, trivial⟩
        · rw [if_pos (by omega)] at hgs2
          refine ev_iload_n (X := M_X11_stays) (pc := 47) dX11_stays_47 rfl ?_
          refine ev_iconst (X := M_X11_stays) (pc := 48) dX11_stays_48 ?_
          refine ev_isub (X := M_X11_stays) (pc := 49) dX11_stays_49 ?_
          refine ev_iload_n (X := M_X11_stays) (pc := 50) dX11_stays_50 rfl ?_
          refine ev_icmp_ne (X := M_X11_stays) (pc := 51) (tgt := 61) dX11_stays_51 (by decide) (by omega) (by omega) (fun h51 => ?_) (fun h51 => ?_)
          · rw [if_neg (fun z => h51 z.1)] at hgs2
            refine ev_iincL (X := M_X11_stays) (pc := 61) (ls' := [_, _, _, _, _]) dX11_stays_61 rfl (by decide) rfl ?_
            refine ev_iincL (X := M_X11_stays) (pc := 64) (ls' := [_, _, _, _, _]) dX11_stays_64 rfl (by decide) rfl ?_
            refine ev_goto (X := M_X11_stays) (pc := 67) (tgt := 24) dX11_stays_67 (by decide) ?_
            first
              | exact ev_weak (ih (w + 1, m + 1) ⟨by omega, by omega, hgs2⟩ (by show (k * k * k - (w + 1)).toNat < (k * k * k - w).toNat; omega)) ⟨rfl, rfl, rfl, rfl, rfl, trivial⟩
              | exact ev_weak (ih (w + 1, m) ⟨by omega, by omega, hgs2⟩ (by show (k * k * k - (w + 1)).toNat < (k * k * k - w).toNat; omega)) ⟨rfl, rfl, rfl, rfl, rfl, trivial⟩
          · refine ev_iload_n (X := M_X11_stays) (pc := 54) dX11_stays_54 rfl ?_
            refine ev_if_lt (X := M_X11_stays) (pc := 55) (tgt := 61) dX11_stays_55 (by decide) (by omega) (fun h55 => ?_) (fun h55 => ?_)
            · rw [if_neg (fun z => by omega)] at hgs2
              refine ev_iincL (X := M_X11_stays) (pc := 61) (ls' := [_, _, _, _, _]) dX11_stays_61 rfl (by decide) rfl ?_
              refine ev_iincL (X := M_X11_stays) (pc := 64) (ls' := [_, _, _, _, _]) dX11_stays_64 rfl (by decide) rfl ?_
              refine ev_goto (X := M_X11_stays) (pc := 67) (tgt := 24) dX11_stays_67 (by decide) ?_
              first
                | exact ev_weak (ih (w + 1, m + 1) ⟨by omega, by omega, hgs2⟩ (by show (k * k * k - (w + 1)).toNat < (k * k * k - w).toNat; omega)) ⟨rfl, rfl, rfl, rfl, rfl, trivial⟩
                | exact ev_weak (ih (w + 1, m) ⟨by omega, by omega, hgs2⟩ (by show (k * k * k - (w + 1)).toNat < (k * k * k - w).toNat; omega)) ⟨rfl, rfl, rfl, rfl, rfl, trivial⟩
            · rw [if_pos ⟨h51, by omega⟩] at hgs2
              have hGn : ¬ G = -1000000002 := by omega
              refine ev_iload (X := M_X11_stays) (pc := 58) dX11_stays_58 rfl ?_
              refine ev_iret (X := M_X11_stays) (pc := 60) dX11_stays_60 rfl ?_
              rw [if_neg hGn]
              exact ⟨by rw [hgs2], rfl, h.2.2.2.2.2.2.2, rfl, frS.rf⟩
    · have hno : ¬ ((2 ≤ k ∧ k ≤ 5) ∧ -1 ≤ wh) := fun z => by omega
      refine ev_aload_n (X := M_X11_stays) (pc := 12) dX11_stays_12 rfl ?_
      refine ev_ldc (X := M_X11_stays) (pc := 13) (v := -1000000001) dX11_stays_13 kw_318 (by decide) ?_
      refine ev_virtR (X := M_X11_stays) (Y := M_X11_error) (pc := 15) (ci := 11) dX11_stays_15 mk_X11_error rfl kw_319 kw_321 kp_0 (lO_100 hL) (c_error hL (k := 1) (by decide) rfl) rfl (by decide) rfl (Nat.le_of_ble_eq_true rfl) (Nat.zero_add _) (Nat.zero_add _) ?_
      refine ev_iret (X := M_X11_stays) (pc := 18) dX11_stays_18 rfl ?_
      rw [if_neg hno, if_neg hno]
      exact ⟨rfl, rfl, by rw [err_119]; exact h.2.2.2.2.2.2.2, err_155, frS.rf.er 1⟩
